section
-- begun from the skeleton and the printed names: the tables' words
-- ===== PART A: goes FIRST, ahead of the names: the tables' words, and 'selects' of the private methods out of them =====
/-- a private method of a class that the tables say can be made, by its rows of tables_1 -/
def lw_okq (q : MethodName × Nat) : Prop := (q.1.cls ≠ "java/lang/invoke/MethodHandle" ∧ q.1.cls ≠ "java/lang/invoke/VarHandle") ∧ Cond.instantiable q.1.cls q.2 ∈ tables_1 ∧ Cond.privateMethod q.1 ∈ tables_1 ∧ Cond.instanceMethod q.1 ∈ tables_1
theorem lw_p0 : lw_okq (⟨"PostRopes", "laySwapped", "(LPostRopes$Word;II)V"⟩, 9) := ⟨⟨by decide +kernel, by decide +kernel⟩, List.mem_of_getElem? (i := 11) (by decide +kernel), List.mem_of_getElem? (i := 257) (by decide +kernel), List.mem_of_getElem? (i := 258) (by decide +kernel)⟩
theorem lw_p1 : lw_okq (⟨"PostRopes", "addSwapped", "(III)V"⟩, 9) := ⟨⟨by decide +kernel, by decide +kernel⟩, List.mem_of_getElem? (i := 11) (by decide +kernel), List.mem_of_getElem? (i := 262) (by decide +kernel), List.mem_of_getElem? (i := 263) (by decide +kernel)⟩
theorem lw_p2 : lw_okq (⟨"PostRopes", "layPulled", "(LPostRopes$Word;)V"⟩, 9) := ⟨⟨by decide +kernel, by decide +kernel⟩, List.mem_of_getElem? (i := 11) (by decide +kernel), List.mem_of_getElem? (i := 366) (by decide +kernel), List.mem_of_getElem? (i := 367) (by decide +kernel)⟩
theorem lw_p3 : lw_okq (⟨"PostRopes", "layLoop", "(LPostRopes$Word;)V"⟩, 9) := ⟨⟨by decide +kernel, by decide +kernel⟩, List.mem_of_getElem? (i := 11) (by decide +kernel), List.mem_of_getElem? (i := 370) (by decide +kernel), List.mem_of_getElem? (i := 371) (by decide +kernel)⟩
theorem lw_p4 : lw_okq (⟨"PostRopes", "fallsWithout", "(LPostRopes$Word;I)Z"⟩, 9) := ⟨⟨by decide +kernel, by decide +kernel⟩, List.mem_of_getElem? (i := 11) (by decide +kernel), List.mem_of_getElem? (i := 396) (by decide +kernel), List.mem_of_getElem? (i := 397) (by decide +kernel)⟩
theorem lw_p5 : lw_okq (⟨"PostRopes", "layLeast", "(LPostRopes$Word;LPostRopes$Word;)V"⟩, 9) := ⟨⟨by decide +kernel, by decide +kernel⟩, List.mem_of_getElem? (i := 11) (by decide +kernel), List.mem_of_getElem? (i := 415) (by decide +kernel), List.mem_of_getElem? (i := 416) (by decide +kernel)⟩
theorem lw_p6 : lw_okq (⟨"PostRopes", "areAlike", "(LPostRopes$Word;LPostRopes$Word;)Z"⟩, 9) := ⟨⟨by decide +kernel, by decide +kernel⟩, List.mem_of_getElem? (i := 11) (by decide +kernel), List.mem_of_getElem? (i := 460) (by decide +kernel), List.mem_of_getElem? (i := 461) (by decide +kernel)⟩
theorem lw_p7 : lw_okq (⟨"PostRopes", "doCommute", "(LPostRopes$Word;LPostRopes$Word;)Z"⟩, 9) := ⟨⟨by decide +kernel, by decide +kernel⟩, List.mem_of_getElem? (i := 11) (by decide +kernel), List.mem_of_getElem? (i := 468) (by decide +kernel), List.mem_of_getElem? (i := 469) (by decide +kernel)⟩
theorem lw_p8 : lw_okq (⟨"PostRopes", "arePulledTheSame", "(LPostRopes$Word;LPostRopes$Word;)Z"⟩, 9) := ⟨⟨by decide +kernel, by decide +kernel⟩, List.mem_of_getElem? (i := 11) (by decide +kernel), List.mem_of_getElem? (i := 472) (by decide +kernel), List.mem_of_getElem? (i := 473) (by decide +kernel)⟩
theorem lw_p9 : lw_okq (⟨"PostRopes", "crossingsIfSwapped", "(II)I"⟩, 9) := ⟨⟨by decide +kernel, by decide +kernel⟩, List.mem_of_getElem? (i := 11) (by decide +kernel), List.mem_of_getElem? (i := 510) (by decide +kernel), List.mem_of_getElem? (i := 511) (by decide +kernel)⟩
theorem lw_p10 : lw_okq (⟨"PostRopesModel", "record", "()V"⟩, 20) := ⟨⟨by decide +kernel, by decide +kernel⟩, List.mem_of_getElem? (i := 539) (by decide +kernel), List.mem_of_getElem? (i := 613) (by decide +kernel), List.mem_of_getElem? (i := 614) (by decide +kernel)⟩
theorem lw_p11 : lw_okq (⟨"PostRopesModel", "many", "(I)I"⟩, 20) := ⟨⟨by decide +kernel, by decide +kernel⟩, List.mem_of_getElem? (i := 539) (by decide +kernel), List.mem_of_getElem? (i := 624) (by decide +kernel), List.mem_of_getElem? (i := 625) (by decide +kernel)⟩
theorem lw_p12 : lw_okq (⟨"PostRopesModel", "layPulled", "(IZ)V"⟩, 20) := ⟨⟨by decide +kernel, by decide +kernel⟩, List.mem_of_getElem? (i := 539) (by decide +kernel), List.mem_of_getElem? (i := 636) (by decide +kernel), List.mem_of_getElem? (i := 637) (by decide +kernel)⟩
theorem lw_p13 : lw_okq (⟨"PostRopesModel", "pushRope", "(IZ)V"⟩, 20) := ⟨⟨by decide +kernel, by decide +kernel⟩, List.mem_of_getElem? (i := 539) (by decide +kernel), List.mem_of_getElem? (i := 640) (by decide +kernel), List.mem_of_getElem? (i := 641) (by decide +kernel)⟩
theorem lw_p14 : lw_okq (⟨"PostRopesModel", "at", "(II)I"⟩, 20) := ⟨⟨by decide +kernel, by decide +kernel⟩, List.mem_of_getElem? (i := 539) (by decide +kernel), List.mem_of_getElem? (i := 644) (by decide +kernel), List.mem_of_getElem? (i := 645) (by decide +kernel)⟩
theorem lw_p15 : lw_okq (⟨"PostRopesModel", "push", "(I)V"⟩, 20) := ⟨⟨by decide +kernel, by decide +kernel⟩, List.mem_of_getElem? (i := 539) (by decide +kernel), List.mem_of_getElem? (i := 651) (by decide +kernel), List.mem_of_getElem? (i := 652) (by decide +kernel)⟩
def lw_privs_1 : List (MethodName × Nat) := [(⟨"PostRopes", "laySwapped", "(LPostRopes$Word;II)V"⟩, 9), (⟨"PostRopes", "addSwapped", "(III)V"⟩, 9), (⟨"PostRopes", "layPulled", "(LPostRopes$Word;)V"⟩, 9), (⟨"PostRopes", "layLoop", "(LPostRopes$Word;)V"⟩, 9), (⟨"PostRopes", "fallsWithout", "(LPostRopes$Word;I)Z"⟩, 9), (⟨"PostRopes", "layLeast", "(LPostRopes$Word;LPostRopes$Word;)V"⟩, 9), (⟨"PostRopes", "areAlike", "(LPostRopes$Word;LPostRopes$Word;)Z"⟩, 9), (⟨"PostRopes", "doCommute", "(LPostRopes$Word;LPostRopes$Word;)Z"⟩, 9), (⟨"PostRopes", "arePulledTheSame", "(LPostRopes$Word;LPostRopes$Word;)Z"⟩, 9), (⟨"PostRopes", "crossingsIfSwapped", "(II)I"⟩, 9), (⟨"PostRopesModel", "record", "()V"⟩, 20), (⟨"PostRopesModel", "many", "(I)I"⟩, 20), (⟨"PostRopesModel", "layPulled", "(IZ)V"⟩, 20), (⟨"PostRopesModel", "pushRope", "(IZ)V"⟩, 20), (⟨"PostRopesModel", "at", "(II)I"⟩, 20), (⟨"PostRopesModel", "push", "(I)V"⟩, 20)]
theorem lw_r1 : ∀ q ∈ lw_privs_1, lw_okq q := List.forall_mem_cons.mpr ⟨lw_p0, List.forall_mem_cons.mpr ⟨lw_p1, List.forall_mem_cons.mpr ⟨lw_p2, List.forall_mem_cons.mpr ⟨lw_p3, List.forall_mem_cons.mpr ⟨lw_p4, List.forall_mem_cons.mpr ⟨lw_p5, List.forall_mem_cons.mpr ⟨lw_p6, List.forall_mem_cons.mpr ⟨lw_p7, List.forall_mem_cons.mpr ⟨lw_p8, List.forall_mem_cons.mpr ⟨lw_p9, List.forall_mem_cons.mpr ⟨lw_p10, List.forall_mem_cons.mpr ⟨lw_p11, List.forall_mem_cons.mpr ⟨lw_p12, List.forall_mem_cons.mpr ⟨lw_p13, List.forall_mem_cons.mpr ⟨lw_p14, List.forall_mem_cons.mpr ⟨lw_p15, fun _ h => absurd h List.not_mem_nil⟩⟩⟩⟩⟩⟩⟩⟩⟩⟩⟩⟩⟩⟩⟩⟩
theorem lw_p16 : lw_okq (⟨"PostRopesModel", "take", "(I)V"⟩, 20) := ⟨⟨by decide +kernel, by decide +kernel⟩, List.mem_of_getElem? (i := 539) (by decide +kernel), List.mem_of_getElem? (i := 658) (by decide +kernel), List.mem_of_getElem? (i := 659) (by decide +kernel)⟩
theorem lw_p17 : lw_okq (⟨"PostRopesModel", "laySwapped", "(III)V"⟩, 20) := ⟨⟨by decide +kernel, by decide +kernel⟩, List.mem_of_getElem? (i := 539) (by decide +kernel), List.mem_of_getElem? (i := 678) (by decide +kernel), List.mem_of_getElem? (i := 679) (by decide +kernel)⟩
theorem lw_p18 : lw_okq (⟨"PostRopesModel", "pushSwapped", "(III)V"⟩, 20) := ⟨⟨by decide +kernel, by decide +kernel⟩, List.mem_of_getElem? (i := 539) (by decide +kernel), List.mem_of_getElem? (i := 682) (by decide +kernel), List.mem_of_getElem? (i := 683) (by decide +kernel)⟩
theorem lw_p19 : lw_okq (⟨"PostRopesModel", "all", "()I"⟩, 20) := ⟨⟨by decide +kernel, by decide +kernel⟩, List.mem_of_getElem? (i := 539) (by decide +kernel), List.mem_of_getElem? (i := 686) (by decide +kernel), List.mem_of_getElem? (i := 687) (by decide +kernel)⟩
theorem lw_p20 : lw_okq (⟨"PostRopesModel", "read", "()I"⟩, 20) := ⟨⟨by decide +kernel, by decide +kernel⟩, List.mem_of_getElem? (i := 539) (by decide +kernel), List.mem_of_getElem? (i := 703) (by decide +kernel), List.mem_of_getElem? (i := 704) (by decide +kernel)⟩
theorem lw_p21 : lw_okq (⟨"PostRopesModel", "tell", "(I)V"⟩, 20) := ⟨⟨by decide +kernel, by decide +kernel⟩, List.mem_of_getElem? (i := 539) (by decide +kernel), List.mem_of_getElem? (i := 707) (by decide +kernel), List.mem_of_getElem? (i := 708) (by decide +kernel)⟩
theorem lw_p22 : lw_okq (⟨"PostRopesModel", "turnTold", "(I)V"⟩, 20) := ⟨⟨by decide +kernel, by decide +kernel⟩, List.mem_of_getElem? (i := 539) (by decide +kernel), List.mem_of_getElem? (i := 711) (by decide +kernel), List.mem_of_getElem? (i := 712) (by decide +kernel)⟩
theorem lw_p23 : lw_okq (⟨"PostRopesModel", "repeat", "(II)V"⟩, 20) := ⟨⟨by decide +kernel, by decide +kernel⟩, List.mem_of_getElem? (i := 539) (by decide +kernel), List.mem_of_getElem? (i := 715) (by decide +kernel), List.mem_of_getElem? (i := 716) (by decide +kernel)⟩
theorem lw_p24 : lw_okq (⟨"PostRopesModel", "tellAgain", "(IIZ)V"⟩, 20) := ⟨⟨by decide +kernel, by decide +kernel⟩, List.mem_of_getElem? (i := 539) (by decide +kernel), List.mem_of_getElem? (i := 719) (by decide +kernel), List.mem_of_getElem? (i := 720) (by decide +kernel)⟩
theorem lw_p25 : lw_okq (⟨"PostRopesModel", "layForm", "(IZ)V"⟩, 20) := ⟨⟨by decide +kernel, by decide +kernel⟩, List.mem_of_getElem? (i := 539) (by decide +kernel), List.mem_of_getElem? (i := 735) (by decide +kernel), List.mem_of_getElem? (i := 736) (by decide +kernel)⟩
theorem lw_p26 : lw_okq (⟨"PostRopesModel", "tighten", "()V"⟩, 20) := ⟨⟨by decide +kernel, by decide +kernel⟩, List.mem_of_getElem? (i := 539) (by decide +kernel), List.mem_of_getElem? (i := 739) (by decide +kernel), List.mem_of_getElem? (i := 740) (by decide +kernel)⟩
theorem lw_p27 : lw_okq (⟨"PostRopesModel", "isLess", "(II)Z"⟩, 20) := ⟨⟨by decide +kernel, by decide +kernel⟩, List.mem_of_getElem? (i := 539) (by decide +kernel), List.mem_of_getElem? (i := 743) (by decide +kernel), List.mem_of_getElem? (i := 744) (by decide +kernel)⟩
theorem lw_p28 : lw_okq (⟨"PostRopesModel", "ofWord", "(I)I"⟩, 20) := ⟨⟨by decide +kernel, by decide +kernel⟩, List.mem_of_getElem? (i := 539) (by decide +kernel), List.mem_of_getElem? (i := 747) (by decide +kernel), List.mem_of_getElem? (i := 748) (by decide +kernel)⟩
theorem lw_p29 : lw_okq (⟨"PostRopesModel", "power", "()I"⟩, 20) := ⟨⟨by decide +kernel, by decide +kernel⟩, List.mem_of_getElem? (i := 539) (by decide +kernel), List.mem_of_getElem? (i := 751) (by decide +kernel), List.mem_of_getElem? (i := 752) (by decide +kernel)⟩
theorem lw_p30 : lw_okq (⟨"PostRopesModel", "posts", "()I"⟩, 20) := ⟨⟨by decide +kernel, by decide +kernel⟩, List.mem_of_getElem? (i := 539) (by decide +kernel), List.mem_of_getElem? (i := 755) (by decide +kernel), List.mem_of_getElem? (i := 756) (by decide +kernel)⟩
theorem lw_p31 : lw_okq (⟨"PostRopesModel", "firstPair", "(I)I"⟩, 20) := ⟨⟨by decide +kernel, by decide +kernel⟩, List.mem_of_getElem? (i := 539) (by decide +kernel), List.mem_of_getElem? (i := 759) (by decide +kernel), List.mem_of_getElem? (i := 760) (by decide +kernel)⟩
def lw_privs_2 : List (MethodName × Nat) := [(⟨"PostRopesModel", "take", "(I)V"⟩, 20), (⟨"PostRopesModel", "laySwapped", "(III)V"⟩, 20), (⟨"PostRopesModel", "pushSwapped", "(III)V"⟩, 20), (⟨"PostRopesModel", "all", "()I"⟩, 20), (⟨"PostRopesModel", "read", "()I"⟩, 20), (⟨"PostRopesModel", "tell", "(I)V"⟩, 20), (⟨"PostRopesModel", "turnTold", "(I)V"⟩, 20), (⟨"PostRopesModel", "repeat", "(II)V"⟩, 20), (⟨"PostRopesModel", "tellAgain", "(IIZ)V"⟩, 20), (⟨"PostRopesModel", "layForm", "(IZ)V"⟩, 20), (⟨"PostRopesModel", "tighten", "()V"⟩, 20), (⟨"PostRopesModel", "isLess", "(II)Z"⟩, 20), (⟨"PostRopesModel", "ofWord", "(I)I"⟩, 20), (⟨"PostRopesModel", "power", "()I"⟩, 20), (⟨"PostRopesModel", "posts", "()I"⟩, 20), (⟨"PostRopesModel", "firstPair", "(I)I"⟩, 20)]
theorem lw_r2 : ∀ q ∈ lw_privs_2, lw_okq q := List.forall_mem_cons.mpr ⟨lw_p16, List.forall_mem_cons.mpr ⟨lw_p17, List.forall_mem_cons.mpr ⟨lw_p18, List.forall_mem_cons.mpr ⟨lw_p19, List.forall_mem_cons.mpr ⟨lw_p20, List.forall_mem_cons.mpr ⟨lw_p21, List.forall_mem_cons.mpr ⟨lw_p22, List.forall_mem_cons.mpr ⟨lw_p23, List.forall_mem_cons.mpr ⟨lw_p24, List.forall_mem_cons.mpr ⟨lw_p25, List.forall_mem_cons.mpr ⟨lw_p26, List.forall_mem_cons.mpr ⟨lw_p27, List.forall_mem_cons.mpr ⟨lw_p28, List.forall_mem_cons.mpr ⟨lw_p29, List.forall_mem_cons.mpr ⟨lw_p30, List.forall_mem_cons.mpr ⟨lw_p31, fun _ h => absurd h List.not_mem_nil⟩⟩⟩⟩⟩⟩⟩⟩⟩⟩⟩⟩⟩⟩⟩⟩
theorem lw_p32 : lw_okq (⟨"PostRopesModel", "widths", "()I"⟩, 20) := ⟨⟨by decide +kernel, by decide +kernel⟩, List.mem_of_getElem? (i := 539) (by decide +kernel), List.mem_of_getElem? (i := 763) (by decide +kernel), List.mem_of_getElem? (i := 764) (by decide +kernel)⟩
theorem lw_p33 : lw_okq (⟨"PostRopesModel", "fallsBy", "(II)Z"⟩, 20) := ⟨⟨by decide +kernel, by decide +kernel⟩, List.mem_of_getElem? (i := 539) (by decide +kernel), List.mem_of_getElem? (i := 783) (by decide +kernel), List.mem_of_getElem? (i := 784) (by decide +kernel)⟩
theorem lw_p34 : lw_okq (⟨"PostRopesModel", "isFelling", "(II)Z"⟩, 20) := ⟨⟨by decide +kernel, by decide +kernel⟩, List.mem_of_getElem? (i := 539) (by decide +kernel), List.mem_of_getElem? (i := 791) (by decide +kernel), List.mem_of_getElem? (i := 792) (by decide +kernel)⟩
theorem lw_p35 : lw_okq (⟨"PostRopesModel", "keepForm", "()V"⟩, 20) := ⟨⟨by decide +kernel, by decide +kernel⟩, List.mem_of_getElem? (i := 539) (by decide +kernel), List.mem_of_getElem? (i := 802) (by decide +kernel), List.mem_of_getElem? (i := 803) (by decide +kernel)⟩
theorem lw_p36 : lw_okq (⟨"PostRopesModel", "areFormsAlike", "()Z"⟩, 20) := ⟨⟨by decide +kernel, by decide +kernel⟩, List.mem_of_getElem? (i := 539) (by decide +kernel), List.mem_of_getElem? (i := 806) (by decide +kernel), List.mem_of_getElem? (i := 807) (by decide +kernel)⟩
theorem lw_p37 : lw_okq (⟨"PostRopesModel", "areSame", "(IIII)Z"⟩, 20) := ⟨⟨by decide +kernel, by decide +kernel⟩, List.mem_of_getElem? (i := 539) (by decide +kernel), List.mem_of_getElem? (i := 810) (by decide +kernel), List.mem_of_getElem? (i := 811) (by decide +kernel)⟩
theorem lw_p38 : lw_okq (⟨"PostRopesModel", "swapped", "(II)I"⟩, 20) := ⟨⟨by decide +kernel, by decide +kernel⟩, List.mem_of_getElem? (i := 539) (by decide +kernel), List.mem_of_getElem? (i := 822) (by decide +kernel), List.mem_of_getElem? (i := 823) (by decide +kernel)⟩
def lw_privs_3 : List (MethodName × Nat) := [(⟨"PostRopesModel", "widths", "()I"⟩, 20), (⟨"PostRopesModel", "fallsBy", "(II)Z"⟩, 20), (⟨"PostRopesModel", "isFelling", "(II)Z"⟩, 20), (⟨"PostRopesModel", "keepForm", "()V"⟩, 20), (⟨"PostRopesModel", "areFormsAlike", "()Z"⟩, 20), (⟨"PostRopesModel", "areSame", "(IIII)Z"⟩, 20), (⟨"PostRopesModel", "swapped", "(II)I"⟩, 20)]
theorem lw_r3 : ∀ q ∈ lw_privs_3, lw_okq q := List.forall_mem_cons.mpr ⟨lw_p32, List.forall_mem_cons.mpr ⟨lw_p33, List.forall_mem_cons.mpr ⟨lw_p34, List.forall_mem_cons.mpr ⟨lw_p35, List.forall_mem_cons.mpr ⟨lw_p36, List.forall_mem_cons.mpr ⟨lw_p37, List.forall_mem_cons.mpr ⟨lw_p38, fun _ h => absurd h List.not_mem_nil⟩⟩⟩⟩⟩⟩⟩
def lw_privs : List (MethodName × Nat) := lw_privs_1 ++ (lw_privs_2 ++ (lw_privs_3))
def lw_tbl : List Cond := k2_sels lw_privs ++ tables_1
theorem lw_privs_ok : ∀ q ∈ lw_privs, lw_okq q := by
  show ∀ q ∈ lw_privs_1 ++ (lw_privs_2 ++ (lw_privs_3)), lw_okq q
  exact List.forall_mem_append.mpr ⟨lw_r1, List.forall_mem_append.mpr ⟨lw_r2, lw_r3⟩⟩

def TB : List Cond := lw_tbl.filter goodWord
theorem gTB {w : Cond} (h : w ∈ TB) : (w.onTables && w.keeps) = true ∨ ∃ ty, w = .arrayClass ty := good_of_word (List.mem_filter.mp h).2
theorem tb_of {w : Cond} (i : Nat) (h : lw_tbl[i]? = some w) (g : goodWord w = true) : w ∈ TB := List.mem_filter.mpr ⟨List.mem_of_getElem? h, g⟩
def RX0 : String := "PostRopes$Pad"
def RX1 : String := "PostRopes$Past"
def RX2 : String := "PostRopes$Scissors"
def RX3 : String := "PostRopes$State"
def RX4 : String := "PostRopes$Word"
def RX5 : String := "PostRopes"
def RX6 : String := "PostRopesModel"
def RJ6 : String := "java/lang/Integer"
def RJ9 : String := "java/lang/Math"
def RL : String := "PostRopesLaw"
def TX0 : u_T := fun k => match k with
  | 0 => ("PostRopes$Pad", "codes", "[I", true)
  | 1 => ("PostRopes$Pad", "length", "I", false)
  | 2 => ("PostRopes$Pad", "signs", "[I", true)
  | 3 => ("PostRopes$Pad", "starts", "[I", true)
  | 4 => ("PostRopes$Pad", "middles", "[I", true)
  | _ => ("PostRopes$Pad", "depth", "I", false)
def tyX0 : Nat → FieldType := fun k => match k with
  | 0 => .array (.int)
  | 1 => .int
  | 2 => .array (.int)
  | 3 => .array (.int)
  | 4 => .array (.int)
  | _ => .int
theorem nmX0 : ∀ a, a < 6 → ∀ b, b < 6 → a ≠ b → (TX0 a).2.1 ≠ (TX0 b).2.1 := by decide +kernel
theorem tyX0_ok : ∀ k, k < 6 → parseFieldDescriptor (TX0 k).2.2.1 = some (tyX0 k) := by decide +kernel
theorem inX0 : ∀ w ∈ u_ws RX0 TX0 6, w ∈ TB := by decide +kernel
def TX1 : u_T := fun k => match k with
  | 0 => ("PostRopes$Past", "states", "[LPostRopes$State;", true)
  | 1 => ("PostRopes$Past", "next", "I", false)
  | _ => ("PostRopes$Past", "kept", "I", false)
def tyX1 : Nat → FieldType := fun k => match k with
  | 0 => .array (.object "PostRopes$State")
  | 1 => .int
  | _ => .int
theorem nmX1 : ∀ a, a < 3 → ∀ b, b < 3 → a ≠ b → (TX1 a).2.1 ≠ (TX1 b).2.1 := by decide +kernel
theorem tyX1_ok : ∀ k, k < 3 → parseFieldDescriptor (TX1 k).2.2.1 = some (tyX1 k) := by decide +kernel
theorem inX1 : ∀ w ∈ u_ws RX1 TX1 3, w ∈ TB := by decide +kernel
def TX2 : u_T := fun k => match k with
  | 0 => ("PostRopes$Scissors", "stays", "[I", true)
  | 1 => ("PostRopes$Scissors", "nextOpposite", "[I", true)
  | 2 => ("PostRopes$Scissors", "nextSame", "[I", true)
  | _ => ("PostRopes$Scissors", "nextOf", "[I", true)
def tyX2 : Nat → FieldType := fun k => match k with
  | 0 => .array (.int)
  | 1 => .array (.int)
  | 2 => .array (.int)
  | _ => .array (.int)
theorem nmX2 : ∀ a, a < 4 → ∀ b, b < 4 → a ≠ b → (TX2 a).2.1 ≠ (TX2 b).2.1 := by decide +kernel
theorem tyX2_ok : ∀ k, k < 4 → parseFieldDescriptor (TX2 k).2.2.1 = some (tyX2 k) := by decide +kernel
theorem inX2 : ∀ w ∈ u_ws RX2 TX2 4, w ∈ TB := by decide +kernel
def TX3 : u_T := fun k => match k with
  | 0 => ("PostRopes$State", "widths", "[I", true)
  | _ => ("PostRopes$State", "ropes", "[LPostRopes$Word;", true)
def tyX3 : Nat → FieldType := fun k => match k with
  | 0 => .array (.int)
  | _ => .array (.object "PostRopes$Word")
theorem nmX3 : ∀ a, a < 2 → ∀ b, b < 2 → a ≠ b → (TX3 a).2.1 ≠ (TX3 b).2.1 := by decide +kernel
theorem tyX3_ok : ∀ k, k < 2 → parseFieldDescriptor (TX3 k).2.2.1 = some (tyX3 k) := by decide +kernel
theorem inX3 : ∀ w ∈ u_ws RX3 TX3 2, w ∈ TB := by decide +kernel
def TX4 : u_T := fun k => match k with
  | 0 => ("PostRopes$Word", "crossings", "[I", true)
  | _ => ("PostRopes$Word", "length", "I", false)
def tyX4 : Nat → FieldType := fun k => match k with
  | 0 => .array (.int)
  | _ => .int
theorem nmX4 : ∀ a, a < 2 → ∀ b, b < 2 → a ≠ b → (TX4 a).2.1 ≠ (TX4 b).2.1 := by decide +kernel
theorem tyX4_ok : ∀ k, k < 2 → parseFieldDescriptor (TX4 k).2.2.1 = some (tyX4 k) := by decide +kernel
theorem inX4 : ∀ w ∈ u_ws RX4 TX4 2, w ∈ TB := by decide +kernel
def TX5 : u_T := fun k => match k with
  | 0 => ("PostRopes", "now", "LPostRopes$State;", true)
  | 1 => ("PostRopes", "past", "LPostRopes$Past;", true)
  | 2 => ("PostRopes", "slots", "[LPostRopes$State;", true)
  | 3 => ("PostRopes", "filled", "[Z", true)
  | 4 => ("PostRopes", "pad", "LPostRopes$Pad;", true)
  | 5 => ("PostRopes", "scissors", "LPostRopes$Scissors;", true)
  | 6 => ("PostRopes", "work", "LPostRopes$Word;", true)
  | 7 => ("PostRopes", "spare", "LPostRopes$Word;", true)
  | _ => ("PostRopes", "loop", "LPostRopes$Word;", true)
def tyX5 : Nat → FieldType := fun k => match k with
  | 0 => .object "PostRopes$State"
  | 1 => .object "PostRopes$Past"
  | 2 => .array (.object "PostRopes$State")
  | 3 => .array (.boolean)
  | 4 => .object "PostRopes$Pad"
  | 5 => .object "PostRopes$Scissors"
  | 6 => .object "PostRopes$Word"
  | 7 => .object "PostRopes$Word"
  | _ => .object "PostRopes$Word"
theorem nmX5 : ∀ a, a < 9 → ∀ b, b < 9 → a ≠ b → (TX5 a).2.1 ≠ (TX5 b).2.1 := by decide +kernel
theorem tyX5_ok : ∀ k, k < 9 → parseFieldDescriptor (TX5 k).2.2.1 = some (tyX5 k) := by decide +kernel
theorem inX5 : ∀ w ∈ u_ws RX5 TX5 9, w ∈ TB := by decide +kernel
def TX6 : u_T := fun k => match k with
  | 0 => ("PostRopesModel", "now", "[I", true)
  | 1 => ("PostRopesModel", "history", "[I", true)
  | 2 => ("PostRopesModel", "undos", "I", false)
  | 3 => ("PostRopesModel", "saved", "[I", true)
  | 4 => ("PostRopesModel", "isSaved", "[Z", true)
  | 5 => ("PostRopesModel", "pad", "[I", true)
  | 6 => ("PostRopesModel", "signs", "I", false)
  | 7 => ("PostRopesModel", "work", "[I", true)
  | 8 => ("PostRopesModel", "length", "I", false)
  | 9 => ("PostRopesModel", "form", "[I", true)
  | 10 => ("PostRopesModel", "formed", "I", false)
  | 11 => ("PostRopesModel", "form2", "[I", true)
  | 12 => ("PostRopesModel", "formed2", "I", false)
  | 13 => ("PostRopesModel", "told", "[I", true)
  | 14 => ("PostRopesModel", "tolds", "I", false)
  | 15 => ("PostRopesModel", "isLong", "Z", false)
  | 16 => ("PostRopesModel", "openKind", "[I", true)
  | 17 => ("PostRopesModel", "openAt", "[I", true)
  | 18 => ("PostRopesModel", "openSecond", "[I", true)
  | _ => ("PostRopesModel", "left", "[I", true)
def tyX6 : Nat → FieldType := fun k => match k with
  | 0 => .array (.int)
  | 1 => .array (.int)
  | 2 => .int
  | 3 => .array (.int)
  | 4 => .array (.boolean)
  | 5 => .array (.int)
  | 6 => .int
  | 7 => .array (.int)
  | 8 => .int
  | 9 => .array (.int)
  | 10 => .int
  | 11 => .array (.int)
  | 12 => .int
  | 13 => .array (.int)
  | 14 => .int
  | 15 => .boolean
  | 16 => .array (.int)
  | 17 => .array (.int)
  | 18 => .array (.int)
  | _ => .array (.int)
theorem nmX6 : ∀ a, a < 20 → ∀ b, b < 20 → a ≠ b → (TX6 a).2.1 ≠ (TX6 b).2.1 := by decide +kernel
theorem tyX6_ok : ∀ k, k < 20 → parseFieldDescriptor (TX6 k).2.2.1 = some (tyX6 k) := by decide +kernel
theorem inX6 : ∀ w ∈ u_ws RX6 TX6 20, w ∈ TB := by decide +kernel
abbrev classes : List vw_C := [(RX0, TX0, 6), (RX1, TX1, 3), (RX2, TX2, 4), (RX3, TX3, 2), (RX4, TX4, 2), (RX5, TX5, 9), (RX6, TX6, 20)]
abbrev Mu : Type := MethodName × ByteArray × Nat × Option FieldType × Nat × Nat
abbrev cX0_init : ByteArray := prog_2_method_1_code
def yX0_init : MethodName := ⟨RX0, "<init>", "()V"⟩
abbrev μX0_init : Mu := (yX0_init, cX0_init, 1, none, 1, 16)
abbrev cX0_charactersIn : ByteArray := prog_2_method_2_code
def yX0_charactersIn : MethodName := ⟨RX0, "charactersIn", "(J)I"⟩
abbrev μX0_charactersIn : Mu := (yX0_charactersIn, cX0_charactersIn, 6, (some .int), 0, 0)
abbrev cX0_append : ByteArray := prog_2_method_3_code
def yX0_append : MethodName := ⟨RX0, "append", "(JI)V"⟩
abbrev μX0_append : Mu := (yX0_append, cX0_append, 5, none, 0, 0)
abbrev cX0_clear : ByteArray := prog_2_method_4_code
def yX0_clear : MethodName := ⟨RX0, "clear", "()V"⟩
abbrev μX0_clear : Mu := (yX0_clear, cX0_clear, 1, none, 0, 0)
abbrev cX0_crossingOf : ByteArray := prog_2_method_5_code
def yX0_crossingOf : MethodName := ⟨RX0, "crossingOf", "(I)I"⟩
abbrev μX0_crossingOf : Mu := (yX0_crossingOf, cX0_crossingOf, 1, (some .int), 0, 0)
abbrev cX0_isTimes : ByteArray := prog_2_method_6_code
def yX0_isTimes : MethodName := ⟨RX0, "isTimes", "(I)Z"⟩
abbrev μX0_isTimes : Mu := (yX0_isTimes, cX0_isTimes, 1, (some .boolean), 0, 0)
abbrev cX0_findFault : ByteArray := prog_2_method_7_code
def yX0_findFault : MethodName := ⟨RX0, "findFault", "()I"⟩
abbrev μX0_findFault : Mu := (yX0_findFault, cX0_findFault, 3, (some .int), 3, 66)
abbrev cX0_stageAfter : ByteArray := prog_2_method_8_code
def yX0_stageAfter : MethodName := ⟨RX0, "stageAfter", "(II)I"⟩
abbrev μX0_stageAfter : Mu := (yX0_stageAfter, cX0_stageAfter, 3, (some .int), 2, 44)
abbrev cX0_stageAfterClosing : ByteArray := prog_2_method_9_code
def yX0_stageAfterClosing : MethodName := ⟨RX0, "stageAfterClosing", "(I)I"⟩
abbrev μX0_stageAfterClosing : Mu := (yX0_stageAfterClosing, cX0_stageAfterClosing, 4, (some .int), 1, 21)
abbrev cX0_open : ByteArray := prog_2_method_10_code
def yX0_open : MethodName := ⟨RX0, "open", "(II)Z"⟩
abbrev μX0_open : Mu := (yX0_open, cX0_open, 3, (some .boolean), 0, 0)
abbrev cX0_innermostSign : ByteArray := prog_2_method_11_code
def yX0_innermostSign : MethodName := ⟨RX0, "innermostSign", "()I"⟩
abbrev μX0_innermostSign : Mu := (yX0_innermostSign, cX0_innermostSign, 1, (some .int), 0, 0)
abbrev cX0_passComma : ByteArray := prog_2_method_12_code
def yX0_passComma : MethodName := ⟨RX0, "passComma", "(I)V"⟩
abbrev μX0_passComma : Mu := (yX0_passComma, cX0_passComma, 2, none, 0, 0)
abbrev cX0_readInto : ByteArray := prog_2_method_13_code
def yX0_readInto : MethodName := ⟨RX0, "readInto", "(LPostRopes$Word;)Z"⟩
abbrev μX0_readInto : Mu := (yX0_readInto, cX0_readInto, 6, (some .boolean), 3, 68)
abbrev cX0_addTurnedHalves : ByteArray := prog_2_method_14_code
def yX0_addTurnedHalves : MethodName := ⟨RX0, "addTurnedHalves", "(LPostRopes$Word;II)Z"⟩
abbrev μX0_addTurnedHalves : Mu := (yX0_addTurnedHalves, cX0_addTurnedHalves, 4, (some .boolean), 2, 45)
abbrev cX1_init : ByteArray := prog_3_method_1_code
def yX1_init : MethodName := ⟨RX1, "<init>", "()V"⟩
abbrev μX1_init : Mu := (yX1_init, cX1_init, 2, none, 3, 63)
abbrev cX1_remember : ByteArray := prog_3_method_2_code
def yX1_remember : MethodName := ⟨RX1, "remember", "(LPostRopes$State;)V"⟩
abbrev μX1_remember : Mu := (yX1_remember, cX1_remember, 2, none, 4, 87)
abbrev cX1_bringBack : ByteArray := prog_3_method_3_code
def yX1_bringBack : MethodName := ⟨RX1, "bringBack", "(LPostRopes$State;)V"⟩
abbrev μX1_bringBack : Mu := (yX1_bringBack, cX1_bringBack, 2, none, 4, 87)
abbrev cX2_init : ByteArray := prog_4_method_1_code
def yX2_init : MethodName := ⟨RX2, "<init>", "()V"⟩
abbrev μX2_init : Mu := (yX2_init, cX2_init, 1, none, 1, 16)
abbrev cX2_fewestCuts : ByteArray := prog_4_method_2_code
def yX2_fewestCuts : MethodName := ⟨RX2, "fewestCuts", "(LPostRopes$Word;)I"⟩
abbrev μX2_fewestCuts : Mu := (yX2_fewestCuts, cX2_fewestCuts, 5, (some .int), 3, 67)
abbrev cX2_linkPlaces : ByteArray := prog_4_method_3_code
def yX2_linkPlaces : MethodName := ⟨RX2, "linkPlaces", "(LPostRopes$Word;I)V"⟩
abbrev μX2_linkPlaces : Mu := (yX2_linkPlaces, cX2_linkPlaces, 5, none, 1, 22)
abbrev cX2_mostStaying : ByteArray := prog_4_method_4_code
def yX2_mostStaying : MethodName := ⟨RX2, "mostStaying", "(II)I"⟩
abbrev μX2_mostStaying : Mu := (yX2_mostStaying, cX2_mostStaying, 5, (some .int), 2, 43)
abbrev cX2_staying : ByteArray := prog_4_method_5_code
def yX2_staying : MethodName := ⟨RX2, "staying", "(II)I"⟩
abbrev μX2_staying : Mu := (yX2_staying, cX2_staying, 3, (some .int), 1, 21)
abbrev cX2_placeOf : ByteArray := prog_4_method_6_code
def yX2_placeOf : MethodName := ⟨RX2, "placeOf", "(II)I"⟩
abbrev μX2_placeOf : Mu := (yX2_placeOf, cX2_placeOf, 2, (some .int), 0, 0)
abbrev cX3_init : ByteArray := prog_5_method_1_code
def yX3_init : MethodName := ⟨RX3, "<init>", "()V"⟩
abbrev μX3_init : Mu := (yX3_init, cX3_init, 2, none, 2, 42)
abbrev cX3_copyFrom : ByteArray := prog_5_method_2_code
def yX3_copyFrom : MethodName := ⟨RX3, "copyFrom", "(LPostRopes$State;)V"⟩
abbrev μX3_copyFrom : Mu := (yX3_copyFrom, cX3_copyFrom, 3, none, 3, 65)
abbrev cX3_allCrossings : ByteArray := prog_5_method_3_code
def yX3_allCrossings : MethodName := ⟨RX3, "allCrossings", "()I"⟩
abbrev μX3_allCrossings : Mu := (yX3_allCrossings, cX3_allCrossings, 3, (some .int), 0, 0)
abbrev cX3_widthsAlong : ByteArray := prog_5_method_4_code
def yX3_widthsAlong : MethodName := ⟨RX3, "widthsAlong", "(LPostRopes$Word;)I"⟩
abbrev μX3_widthsAlong : Mu := (yX3_widthsAlong, cX3_widthsAlong, 5, (some .int), 1, 21)
abbrev cX4_init : ByteArray := prog_6_method_1_code
def yX4_init : MethodName := ⟨RX4, "<init>", "(I)V"⟩
abbrev μX4_init : Mu := (yX4_init, cX4_init, 2, none, 1, 21)
abbrev cX4_at : ByteArray := prog_6_method_2_code
def yX4_at : MethodName := ⟨RX4, "at", "(I)I"⟩
abbrev μX4_at : Mu := (yX4_at, cX4_at, 2, (some .int), 0, 0)
abbrev cX4_add : ByteArray := prog_6_method_3_code
def yX4_add : MethodName := ⟨RX4, "add", "(I)Z"⟩
abbrev μX4_add : Mu := (yX4_add, cX4_add, 2, (some .boolean), 0, 0)
abbrev cX4_addPulled : ByteArray := prog_6_method_4_code
def yX4_addPulled : MethodName := ⟨RX4, "addPulled", "(I)Z"⟩
abbrev μX4_addPulled : Mu := (yX4_addPulled, cX4_addPulled, 2, (some .boolean), 1, 21)
abbrev cX4_clear : ByteArray := prog_6_method_5_code
def yX4_clear : MethodName := ⟨RX4, "clear", "()V"⟩
abbrev μX4_clear : Mu := (yX4_clear, cX4_clear, 1, none, 0, 0)
abbrev cX4_dropLast : ByteArray := prog_6_method_6_code
def yX4_dropLast : MethodName := ⟨RX4, "dropLast", "(I)V"⟩
abbrev μX4_dropLast : Mu := (yX4_dropLast, cX4_dropLast, 2, none, 1, 21)
abbrev cX4_copyFrom : ByteArray := prog_6_method_7_code
def yX4_copyFrom : MethodName := ⟨RX4, "copyFrom", "(LPostRopes$Word;)V"⟩
abbrev μX4_copyFrom : Mu := (yX4_copyFrom, cX4_copyFrom, 2, none, 2, 44)
abbrev cX4_addWord : ByteArray := prog_6_method_8_code
def yX4_addWord : MethodName := ⟨RX4, "addWord", "(LPostRopes$Word;)V"⟩
abbrev μX4_addWord : Mu := (yX4_addWord, cX4_addWord, 4, none, 1, 21)
abbrev cX4_addTurned : ByteArray := prog_6_method_9_code
def yX4_addTurned : MethodName := ⟨RX4, "addTurned", "(LPostRopes$Word;)V"⟩
abbrev μX4_addTurned : Mu := (yX4_addTurned, cX4_addTurned, 2, none, 2, 45)
abbrev cX4_addTurnedPart : ByteArray := prog_6_method_10_code
def yX4_addTurnedPart : MethodName := ⟨RX4, "addTurnedPart", "(LPostRopes$Word;II)Z"⟩
abbrev μX4_addTurnedPart : Mu := (yX4_addTurnedPart, cX4_addTurnedPart, 5, (some .boolean), 1, 21)
abbrev cX4_repeatFrom : ByteArray := prog_6_method_11_code
def yX4_repeatFrom : MethodName := ⟨RX4, "repeatFrom", "(II)Z"⟩
abbrev μX4_repeatFrom : Mu := (yX4_repeatFrom, cX4_repeatFrom, 6, (some .boolean), 1, 21)
abbrev cX4_turnFrom : ByteArray := prog_6_method_12_code
def yX4_turnFrom : MethodName := ⟨RX4, "turnFrom", "(I)V"⟩
abbrev μX4_turnFrom : Mu := (yX4_turnFrom, cX4_turnFrom, 5, none, 1, 21)
abbrev cX4_cancelPairs : ByteArray := prog_6_method_13_code
def yX4_cancelPairs : MethodName := ⟨RX4, "cancelPairs", "()I"⟩
abbrev μX4_cancelPairs : Mu := (yX4_cancelPairs, cX4_cancelPairs, 3, (some .int), 2, 42)
abbrev cX4_tighten : ByteArray := prog_6_method_14_code
def yX4_tighten : MethodName := ⟨RX4, "tighten", "()V"⟩
abbrev μX4_tighten : Mu := (yX4_tighten, cX4_tighten, 4, none, 3, 64)
abbrev cX4_atRound : ByteArray := prog_6_method_15_code
def yX4_atRound : MethodName := ⟨RX4, "atRound", "(I)I"⟩
abbrev μX4_atRound : Mu := (yX4_atRound, cX4_atRound, 2, (some .int), 1, 21)
abbrev cX4_leastStart : ByteArray := prog_6_method_16_code
def yX4_leastStart : MethodName := ⟨RX4, "leastStart", "()I"⟩
abbrev μX4_leastStart : Mu := (yX4_leastStart, cX4_leastStart, 3, (some .int), 3, 67)
abbrev cX4_isLessFrom : ByteArray := prog_6_method_17_code
def yX4_isLessFrom : MethodName := ⟨RX4, "isLessFrom", "(II)Z"⟩
abbrev μX4_isLessFrom : Mu := (yX4_isLessFrom, cX4_isLessFrom, 6, (some .boolean), 2, 42)
abbrev cX4_copyFromStart : ByteArray := prog_6_method_18_code
def yX4_copyFromStart : MethodName := ⟨RX4, "copyFromStart", "(LPostRopes$Word;I)V"⟩
abbrev μX4_copyFromStart : Mu := (yX4_copyFromStart, cX4_copyFromStart, 4, none, 2, 42)
abbrev cX4_power : ByteArray := prog_6_method_19_code
def yX4_power : MethodName := ⟨RX4, "power", "()I"⟩
abbrev μX4_power : Mu := (yX4_power, cX4_power, 2, (some .int), 2, 43)
abbrev cX4_repeatsAfter : ByteArray := prog_6_method_20_code
def yX4_repeatsAfter : MethodName := ⟨RX4, "repeatsAfter", "(I)Z"⟩
abbrev μX4_repeatsAfter : Mu := (yX4_repeatsAfter, cX4_repeatsAfter, 3, (some .boolean), 1, 21)
abbrev cX4_posts : ByteArray := prog_6_method_21_code
def yX4_posts : MethodName := ⟨RX4, "posts", "()I"⟩
abbrev μX4_posts : Mu := (yX4_posts, cX4_posts, 3, (some .int), 1, 20)
abbrev cX4_firstPair : ByteArray := prog_6_method_22_code
def yX4_firstPair : MethodName := ⟨RX4, "firstPair", "()I"⟩
abbrev μX4_firstPair : Mu := (yX4_firstPair, cX4_firstPair, 2, (some .int), 1, 20)
abbrev cX4_windings : ByteArray := prog_6_method_23_code
def yX4_windings : MethodName := ⟨RX4, "windings", "(I)I"⟩
abbrev μX4_windings : Mu := (yX4_windings, cX4_windings, 4, (some .int), 1, 20)
abbrev cX4_isSameAs : ByteArray := prog_6_method_24_code
def yX4_isSameAs : MethodName := ⟨RX4, "isSameAs", "(LPostRopes$Word;)Z"⟩
abbrev μX4_isSameAs : Mu := (yX4_isSameAs, cX4_isSameAs, 3, (some .boolean), 1, 21)
abbrev cX5_init : ByteArray := prog_1_method_1_code
def yX5_init : MethodName := ⟨RX5, "<init>", "()V"⟩
abbrev μX5_init : Mu := (yX5_init, cX5_init, 2, none, 4, 84)
abbrev cX5_width : ByteArray := prog_1_method_2_code
def yX5_width : MethodName := ⟨RX5, "width", "(II)I"⟩
abbrev μX5_width : Mu := (yX5_width, cX5_width, 4, (some .int), 5, 108)
abbrev cX5_cross : ByteArray := prog_1_method_3_code
def yX5_cross : MethodName := ⟨RX5, "cross", "(II)I"⟩
abbrev μX5_cross : Mu := (yX5_cross, cX5_cross, 4, (some .int), 5, 108)
abbrev cX5_back : ByteArray := prog_1_method_4_code
def yX5_back : MethodName := ⟨RX5, "back", "(II)I"⟩
abbrev μX5_back : Mu := (yX5_back, cX5_back, 4, (some .int), 5, 108)
abbrev cX5_pull : ByteArray := prog_1_method_5_code
def yX5_pull : MethodName := ⟨RX5, "pull", "(I)I"⟩
abbrev μX5_pull : Mu := (yX5_pull, cX5_pull, 2, (some .int), 5, 108)
abbrev cX5_join : ByteArray := prog_1_method_6_code
def yX5_join : MethodName := ⟨RX5, "join", "(II)I"⟩
abbrev μX5_join : Mu := (yX5_join, cX5_join, 4, (some .int), 5, 108)
abbrev cX5_turn : ByteArray := prog_1_method_7_code
def yX5_turn : MethodName := ⟨RX5, "turn", "(I)I"⟩
abbrev μX5_turn : Mu := (yX5_turn, cX5_turn, 3, (some .int), 5, 108)
abbrev cX5_weave : ByteArray := prog_1_method_8_code
def yX5_weave : MethodName := ⟨RX5, "weave", "(II)I"⟩
abbrev μX5_weave : Mu := (yX5_weave, cX5_weave, 4, (some .int), 5, 108)
abbrev cX5_swap : ByteArray := prog_1_method_9_code
def yX5_swap : MethodName := ⟨RX5, "swap", "(II)I"⟩
abbrev μX5_swap : Mu := (yX5_swap, cX5_swap, 4, (some .int), 5, 108)
abbrev cX5_put : ByteArray := prog_1_method_10_code
def yX5_put : MethodName := ⟨RX5, "put", "(J)I"⟩
abbrev μX5_put : Mu := (yX5_put, cX5_put, 4, (some .int), 1, 25)
abbrev cX5_wipe : ByteArray := prog_1_method_11_code
def yX5_wipe : MethodName := ⟨RX5, "wipe", "()I"⟩
abbrev μX5_wipe : Mu := (yX5_wipe, cX5_wipe, 2, (some .int), 1, 20)
abbrev cX5_fault : ByteArray := prog_1_method_12_code
def yX5_fault : MethodName := ⟨RX5, "fault", "()I"⟩
abbrev μX5_fault : Mu := (yX5_fault, cX5_fault, 1, (some .int), 4, 88)
abbrev cX5_load : ByteArray := prog_1_method_13_code
def yX5_load : MethodName := ⟨RX5, "load", "(I)I"⟩
abbrev μX5_load : Mu := (yX5_load, cX5_load, 2, (some .int), 5, 108)
abbrev cX5_crossing : ByteArray := prog_1_method_14_code
def yX5_crossing : MethodName := ⟨RX5, "crossing", "(II)I"⟩
abbrev μX5_crossing : Mu := (yX5_crossing, cX5_crossing, 3, (some .int), 2, 43)
abbrev cX5_ofRope : ByteArray := prog_1_method_15_code
def yX5_ofRope : MethodName := ⟨RX5, "ofRope", "(II)I"⟩
abbrev μX5_ofRope : Mu := (yX5_ofRope, cX5_ofRope, 4, (some .int), 5, 108)
abbrev cX5_winds : ByteArray := prog_1_method_16_code
def yX5_winds : MethodName := ⟨RX5, "winds", "(II)I"⟩
abbrev μX5_winds : Mu := (yX5_winds, cX5_winds, 3, (some .int), 2, 43)
abbrev cX5_least : ByteArray := prog_1_method_17_code
def yX5_least : MethodName := ⟨RX5, "least", "(II)I"⟩
abbrev μX5_least : Mu := (yX5_least, cX5_least, 3, (some .int), 5, 111)
abbrev cX5_count : ByteArray := prog_1_method_18_code
def yX5_count : MethodName := ⟨RX5, "count", "(I)I"⟩
abbrev μX5_count : Mu := (yX5_count, cX5_count, 2, (some .int), 1, 22)
abbrev cX5_falls : ByteArray := prog_1_method_19_code
def yX5_falls : MethodName := ⟨RX5, "falls", "(II)I"⟩
abbrev μX5_falls : Mu := (yX5_falls, cX5_falls, 3, (some .int), 3, 66)
abbrev cX5_felling : ByteArray := prog_1_method_20_code
def yX5_felling : MethodName := ⟨RX5, "felling", "(II)I"⟩
abbrev μX5_felling : Mu := (yX5_felling, cX5_felling, 8, (some .int), 3, 66)
abbrev cX5_both : ByteArray := prog_1_method_21_code
def yX5_both : MethodName := ⟨RX5, "both", "(III)I"⟩
abbrev μX5_both : Mu := (yX5_both, cX5_both, 6, (some .int), 6, 133)
abbrev cX5_cuts : ByteArray := prog_1_method_22_code
def yX5_cuts : MethodName := ⟨RX5, "cuts", "(I)I"⟩
abbrev μX5_cuts : Mu := (yX5_cuts, cX5_cuts, 2, (some .int), 4, 91)
abbrev cX5_ifSwapped : ByteArray := prog_1_method_23_code
def yX5_ifSwapped : MethodName := ⟨RX5, "ifSwapped", "(II)I"⟩
abbrev μX5_ifSwapped : Mu := (yX5_ifSwapped, cX5_ifSwapped, 3, (some .int), 5, 118)
abbrev cX5_bestSwap : ByteArray := prog_1_method_24_code
def yX5_bestSwap : MethodName := ⟨RX5, "bestSwap", "(I)I"⟩
abbrev μX5_bestSwap : Mu := (yX5_bestSwap, cX5_bestSwap, 8, (some .int), 5, 118)
abbrev cX5_undo : ByteArray := prog_1_method_25_code
def yX5_undo : MethodName := ⟨RX5, "undo", "()I"⟩
abbrev μX5_undo : Mu := (yX5_undo, cX5_undo, 1, (some .int), 5, 108)
abbrev cX5_save : ByteArray := prog_1_method_26_code
def yX5_save : MethodName := ⟨RX5, "save", "(I)I"⟩
abbrev μX5_save : Mu := (yX5_save, cX5_save, 2, (some .int), 4, 87)
abbrev cX5_restore : ByteArray := prog_1_method_27_code
def yX5_restore : MethodName := ⟨RX5, "restore", "(I)I"⟩
abbrev μX5_restore : Mu := (yX5_restore, cX5_restore, 2, (some .int), 5, 108)
abbrev cX5_isPost : ByteArray := prog_1_method_28_code
def yX5_isPost : MethodName := ⟨RX5, "isPost", "(I)Z"⟩
abbrev μX5_isPost : Mu := (yX5_isPost, cX5_isPost, 1, (some .boolean), 0, 0)
abbrev cX5_isRope : ByteArray := prog_1_method_29_code
def yX5_isRope : MethodName := ⟨RX5, "isRope", "(I)Z"⟩
abbrev μX5_isRope : Mu := (yX5_isRope, cX5_isRope, 1, (some .boolean), 0, 0)
abbrev cX5_isSwap : ByteArray := prog_1_method_30_code
def yX5_isSwap : MethodName := ⟨RX5, "isSwap", "(I)Z"⟩
abbrev μX5_isSwap : Mu := (yX5_isSwap, cX5_isSwap, 1, (some .boolean), 0, 0)
abbrev cX5_isBack : ByteArray := prog_1_method_31_code
def yX5_isBack : MethodName := ⟨RX5, "isBack", "(I)Z"⟩
abbrev μX5_isBack : Mu := (yX5_isBack, cX5_isBack, 1, (some .boolean), 0, 0)
abbrev cX5_isSlot : ByteArray := prog_1_method_32_code
def yX5_isSlot : MethodName := ⟨RX5, "isSlot", "(I)Z"⟩
abbrev μX5_isSlot : Mu := (yX5_isSlot, cX5_isSlot, 1, (some .boolean), 0, 0)
abbrev cX5_postOf : ByteArray := prog_1_method_33_code
def yX5_postOf : MethodName := ⟨RX5, "postOf", "(I)I"⟩
abbrev μX5_postOf : Mu := (yX5_postOf, cX5_postOf, 1, (some .int), 0, 0)
abbrev cX5_opposite : ByteArray := prog_1_method_34_code
def yX5_opposite : MethodName := ⟨RX5, "opposite", "(I)I"⟩
abbrev μX5_opposite : Mu := (yX5_opposite, cX5_opposite, 1, (some .int), 0, 0)
abbrev cX5_oneIf : ByteArray := prog_1_method_35_code
def yX5_oneIf : MethodName := ⟨RX5, "oneIf", "(Z)I"⟩
abbrev μX5_oneIf : Mu := (yX5_oneIf, cX5_oneIf, 1, (some .int), 0, 0)
abbrev cX5_crossingOrNoSuch : ByteArray := prog_1_method_36_code
def yX5_crossingOrNoSuch : MethodName := ⟨RX5, "crossingOrNoSuch", "(LPostRopes$Word;I)I"⟩
abbrev μX5_crossingOrNoSuch : Mu := (yX5_crossingOrNoSuch, cX5_crossingOrNoSuch, 3, (some .int), 1, 21)
abbrev cX5_layPulled : ByteArray := prog_1_method_37_code
def yX5_layPulled : MethodName := ⟨RX5, "layPulled", "(LPostRopes$Word;)V"⟩
abbrev μX5_layPulled : Mu := (yX5_layPulled, cX5_layPulled, 2, none, 3, 65)
abbrev cX5_layLoop : ByteArray := prog_1_method_38_code
def yX5_layLoop : MethodName := ⟨RX5, "layLoop", "(LPostRopes$Word;)V"⟩
abbrev μX5_layLoop : Mu := (yX5_layLoop, cX5_layLoop, 2, none, 4, 87)
abbrev cX5_layLeast : ByteArray := prog_1_method_39_code
def yX5_layLeast : MethodName := ⟨RX5, "layLeast", "(LPostRopes$Word;LPostRopes$Word;)V"⟩
abbrev μX5_layLeast : Mu := (yX5_layLeast, cX5_layLeast, 3, none, 4, 89)
abbrev cX5_laySwapped : ByteArray := prog_1_method_40_code
def yX5_laySwapped : MethodName := ⟨RX5, "laySwapped", "(LPostRopes$Word;II)V"⟩
abbrev μX5_laySwapped : Mu := (yX5_laySwapped, cX5_laySwapped, 5, none, 3, 70)
abbrev cX5_addSwapped : ByteArray := prog_1_method_41_code
def yX5_addSwapped : MethodName := ⟨RX5, "addSwapped", "(III)V"⟩
abbrev μX5_addSwapped : Mu := (yX5_addSwapped, cX5_addSwapped, 9, none, 2, 42)
abbrev cX5_crossingsIfSwapped : ByteArray := prog_1_method_42_code
def yX5_crossingsIfSwapped : MethodName := ⟨RX5, "crossingsIfSwapped", "(II)I"⟩
abbrev μX5_crossingsIfSwapped : Mu := (yX5_crossingsIfSwapped, cX5_crossingsIfSwapped, 5, (some .int), 4, 94)
abbrev cX5_fallsWithout : ByteArray := prog_1_method_43_code
def yX5_fallsWithout : MethodName := ⟨RX5, "fallsWithout", "(LPostRopes$Word;I)Z"⟩
abbrev μX5_fallsWithout : Mu := (yX5_fallsWithout, cX5_fallsWithout, 5, (some .boolean), 2, 42)
abbrev cX5_holdsFallingPart : ByteArray := prog_1_method_44_code
def yX5_holdsFallingPart : MethodName := ⟨RX5, "holdsFallingPart", "(JI)Z"⟩
abbrev μX5_holdsFallingPart : Mu := (yX5_holdsFallingPart, cX5_holdsFallingPart, 5, (some .boolean), 0, 0)
abbrev cX5_areAlike : ByteArray := prog_1_method_45_code
def yX5_areAlike : MethodName := ⟨RX5, "areAlike", "(LPostRopes$Word;LPostRopes$Word;)Z"⟩
abbrev μX5_areAlike : Mu := (yX5_areAlike, cX5_areAlike, 3, (some .boolean), 5, 111)
abbrev cX5_doCommute : ByteArray := prog_1_method_46_code
def yX5_doCommute : MethodName := ⟨RX5, "doCommute", "(LPostRopes$Word;LPostRopes$Word;)Z"⟩
abbrev μX5_doCommute : Mu := (yX5_doCommute, cX5_doCommute, 3, (some .boolean), 3, 65)
abbrev cX5_arePulledTheSame : ByteArray := prog_1_method_47_code
def yX5_arePulledTheSame : MethodName := ⟨RX5, "arePulledTheSame", "(LPostRopes$Word;LPostRopes$Word;)Z"⟩
abbrev μX5_arePulledTheSame : Mu := (yX5_arePulledTheSame, cX5_arePulledTheSame, 3, (some .boolean), 4, 86)
abbrev cX6_init : ByteArray := prog_8_method_1_code
def yX6_init : MethodName := ⟨RX6, "<init>", "()V"⟩
abbrev μX6_init : Mu := (yX6_init, cX6_init, 2, none, 1, 16)
abbrev cX6_in : ByteArray := prog_8_method_2_code
def yX6_in : MethodName := ⟨RX6, "in", "(III)Z"⟩
abbrev μX6_in : Mu := (yX6_in, cX6_in, 3, (some .boolean), 0, 0)
abbrev cX6_record : ByteArray := prog_8_method_3_code
def yX6_record : MethodName := ⟨RX6, "record", "()V"⟩
abbrev μX6_record : Mu := (yX6_record, cX6_record, 2, none, 0, 0)
abbrev cX6_cancel : ByteArray := prog_8_method_4_code
def yX6_cancel : MethodName := ⟨RX6, "cancel", "(II)Z"⟩
abbrev μX6_cancel : Mu := (yX6_cancel, cX6_cancel, 2, (some .boolean), 0, 0)
abbrev cX6_otherSide : ByteArray := prog_8_method_5_code
def yX6_otherSide : MethodName := ⟨RX6, "otherSide", "(I)I"⟩
abbrev μX6_otherSide : Mu := (yX6_otherSide, cX6_otherSide, 1, (some .int), 0, 0)
abbrev cX6_push : ByteArray := prog_8_method_6_code
def yX6_push : MethodName := ⟨RX6, "push", "(I)V"⟩
abbrev μX6_push : Mu := (yX6_push, cX6_push, 2, none, 1, 21)
abbrev cX6_isRope : ByteArray := prog_8_method_7_code
def yX6_isRope : MethodName := ⟨RX6, "isRope", "(I)Z"⟩
abbrev μX6_isRope : Mu := (yX6_isRope, cX6_isRope, 1, (some .boolean), 1, 22)
abbrev cX6_many : ByteArray := prog_8_method_8_code
def yX6_many : MethodName := ⟨RX6, "many", "(I)I"⟩
abbrev μX6_many : Mu := (yX6_many, cX6_many, 2, (some .int), 0, 0)
abbrev cX6_at : ByteArray := prog_8_method_9_code
def yX6_at : MethodName := ⟨RX6, "at", "(II)I"⟩
abbrev μX6_at : Mu := (yX6_at, cX6_at, 3, (some .int), 0, 0)
abbrev cX6_pushRope : ByteArray := prog_8_method_10_code
def yX6_pushRope : MethodName := ⟨RX6, "pushRope", "(IZ)V"⟩
abbrev μX6_pushRope : Mu := (yX6_pushRope, cX6_pushRope, 4, none, 2, 42)
abbrev cX6_layPulled : ByteArray := prog_8_method_11_code
def yX6_layPulled : MethodName := ⟨RX6, "layPulled", "(IZ)V"⟩
abbrev μX6_layPulled : Mu := (yX6_layPulled, cX6_layPulled, 3, none, 3, 65)
abbrev cX6_take : ByteArray := prog_8_method_12_code
def yX6_take : MethodName := ⟨RX6, "take", "(I)V"⟩
abbrev μX6_take : Mu := (yX6_take, cX6_take, 3, none, 0, 0)
abbrev cX6_tighten : ByteArray := prog_8_method_13_code
def yX6_tighten : MethodName := ⟨RX6, "tighten", "()V"⟩
abbrev μX6_tighten : Mu := (yX6_tighten, cX6_tighten, 3, none, 1, 21)
abbrev cX6_isLess : ByteArray := prog_8_method_14_code
def yX6_isLess : MethodName := ⟨RX6, "isLess", "(II)Z"⟩
abbrev μX6_isLess : Mu := (yX6_isLess, cX6_isLess, 6, (some .boolean), 0, 0)
abbrev cX6_layForm : ByteArray := prog_8_method_15_code
def yX6_layForm : MethodName := ⟨RX6, "layForm", "(IZ)V"⟩
abbrev μX6_layForm : Mu := (yX6_layForm, cX6_layForm, 5, none, 4, 87)
abbrev cX6_keepForm : ByteArray := prog_8_method_16_code
def yX6_keepForm : MethodName := ⟨RX6, "keepForm", "()V"⟩
abbrev μX6_keepForm : Mu := (yX6_keepForm, cX6_keepForm, 2, none, 0, 0)
abbrev cX6_areFormsAlike : ByteArray := prog_8_method_17_code
def yX6_areFormsAlike : MethodName := ⟨RX6, "areFormsAlike", "()Z"⟩
abbrev μX6_areFormsAlike : Mu := (yX6_areFormsAlike, cX6_areFormsAlike, 3, (some .boolean), 0, 0)
abbrev cX6_power : ByteArray := prog_8_method_18_code
def yX6_power : MethodName := ⟨RX6, "power", "()I"⟩
abbrev μX6_power : Mu := (yX6_power, cX6_power, 4, (some .int), 0, 0)
abbrev cX6_width : ByteArray := prog_8_method_19_code
def yX6_width : MethodName := ⟨RX6, "width", "(II)I"⟩
abbrev μX6_width : Mu := (yX6_width, cX6_width, 4, (some .int), 1, 22)
abbrev cX6_cross : ByteArray := prog_8_method_20_code
def yX6_cross : MethodName := ⟨RX6, "cross", "(II)I"⟩
abbrev μX6_cross : Mu := (yX6_cross, cX6_cross, 3, (some .int), 2, 42)
abbrev cX6_back : ByteArray := prog_8_method_21_code
def yX6_back : MethodName := ⟨RX6, "back", "(II)I"⟩
abbrev μX6_back : Mu := (yX6_back, cX6_back, 3, (some .int), 2, 42)
abbrev cX6_pull : ByteArray := prog_8_method_22_code
def yX6_pull : MethodName := ⟨RX6, "pull", "(I)I"⟩
abbrev μX6_pull : Mu := (yX6_pull, cX6_pull, 3, (some .int), 4, 87)
abbrev cX6_join : ByteArray := prog_8_method_23_code
def yX6_join : MethodName := ⟨RX6, "join", "(II)I"⟩
abbrev μX6_join : Mu := (yX6_join, cX6_join, 6, (some .int), 2, 42)
abbrev cX6_turn : ByteArray := prog_8_method_24_code
def yX6_turn : MethodName := ⟨RX6, "turn", "(I)I"⟩
abbrev μX6_turn : Mu := (yX6_turn, cX6_turn, 3, (some .int), 2, 42)
abbrev cX6_weave : ByteArray := prog_8_method_25_code
def yX6_weave : MethodName := ⟨RX6, "weave", "(II)I"⟩
abbrev μX6_weave : Mu := (yX6_weave, cX6_weave, 3, (some .int), 3, 65)
abbrev cX6_pushSwapped : ByteArray := prog_8_method_26_code
def yX6_pushSwapped : MethodName := ⟨RX6, "pushSwapped", "(III)V"⟩
abbrev μX6_pushSwapped : Mu := (yX6_pushSwapped, cX6_pushSwapped, 7, none, 2, 42)
abbrev cX6_laySwapped : ByteArray := prog_8_method_27_code
def yX6_laySwapped : MethodName := ⟨RX6, "laySwapped", "(III)V"⟩
abbrev μX6_laySwapped : Mu := (yX6_laySwapped, cX6_laySwapped, 5, none, 3, 68)
abbrev cX6_swap : ByteArray := prog_8_method_28_code
def yX6_swap : MethodName := ⟨RX6, "swap", "(II)I"⟩
abbrev μX6_swap : Mu := (yX6_swap, cX6_swap, 4, (some .int), 4, 92)
abbrev cX6_all : ByteArray := prog_8_method_29_code
def yX6_all : MethodName := ⟨RX6, "all", "()I"⟩
abbrev μX6_all : Mu := (yX6_all, cX6_all, 1, (some .int), 1, 21)
abbrev cX6_tell : ByteArray := prog_8_method_30_code
def yX6_tell : MethodName := ⟨RX6, "tell", "(I)V"⟩
abbrev μX6_tell : Mu := (yX6_tell, cX6_tell, 2, none, 0, 0)
abbrev cX6_tellAgain : ByteArray := prog_8_method_31_code
def yX6_tellAgain : MethodName := ⟨RX6, "tellAgain", "(IIZ)V"⟩
abbrev μX6_tellAgain : Mu := (yX6_tellAgain, cX6_tellAgain, 5, none, 1, 21)
abbrev cX6_turnTold : ByteArray := prog_8_method_32_code
def yX6_turnTold : MethodName := ⟨RX6, "turnTold", "(I)V"⟩
abbrev μX6_turnTold : Mu := (yX6_turnTold, cX6_turnTold, 5, none, 1, 20)
abbrev cX6_repeat : ByteArray := prog_8_method_33_code
def yX6_repeat : MethodName := ⟨RX6, "repeat", "(II)V"⟩
abbrev μX6_repeat : Mu := (yX6_repeat, cX6_repeat, 5, none, 2, 45)
abbrev cX6_read : ByteArray := prog_8_method_34_code
def yX6_read : MethodName := ⟨RX6, "read", "()I"⟩
abbrev μX6_read : Mu := (yX6_read, cX6_read, 10, (some .int), 3, 69)
abbrev cX6_put : ByteArray := prog_8_method_35_code
def yX6_put : MethodName := ⟨RX6, "put", "(J)I"⟩
abbrev μX6_put : Mu := (yX6_put, cX6_put, 7, (some .int), 1, 22)
abbrev cX6_wipe : ByteArray := prog_8_method_36_code
def yX6_wipe : MethodName := ⟨RX6, "wipe", "()I"⟩
abbrev μX6_wipe : Mu := (yX6_wipe, cX6_wipe, 2, (some .int), 0, 0)
abbrev cX6_fault : ByteArray := prog_8_method_37_code
def yX6_fault : MethodName := ⟨RX6, "fault", "()I"⟩
abbrev μX6_fault : Mu := (yX6_fault, cX6_fault, 1, (some .int), 4, 98)
abbrev cX6_load : ByteArray := prog_8_method_38_code
def yX6_load : MethodName := ⟨RX6, "load", "(I)I"⟩
abbrev μX6_load : Mu := (yX6_load, cX6_load, 3, (some .int), 4, 98)
abbrev cX6_crossing : ByteArray := prog_8_method_39_code
def yX6_crossing : MethodName := ⟨RX6, "crossing", "(II)I"⟩
abbrev μX6_crossing : Mu := (yX6_crossing, cX6_crossing, 3, (some .int), 2, 42)
abbrev cX6_widths : ByteArray := prog_8_method_40_code
def yX6_widths : MethodName := ⟨RX6, "widths", "()I"⟩
abbrev μX6_widths : Mu := (yX6_widths, cX6_widths, 3, (some .int), 0, 0)
abbrev cX6_ofWord : ByteArray := prog_8_method_41_code
def yX6_ofWord : MethodName := ⟨RX6, "ofWord", "(I)I"⟩
abbrev μX6_ofWord : Mu := (yX6_ofWord, cX6_ofWord, 4, (some .int), 1, 22)
abbrev cX6_posts : ByteArray := prog_8_method_42_code
def yX6_posts : MethodName := ⟨RX6, "posts", "()I"⟩
abbrev μX6_posts : Mu := (yX6_posts, cX6_posts, 3, (some .int), 0, 0)
abbrev cX6_firstPair : ByteArray := prog_8_method_43_code
def yX6_firstPair : MethodName := ⟨RX6, "firstPair", "(I)I"⟩
abbrev μX6_firstPair : Mu := (yX6_firstPair, cX6_firstPair, 3, (some .int), 1, 22)
abbrev cX6_ofRope : ByteArray := prog_8_method_44_code
def yX6_ofRope : MethodName := ⟨RX6, "ofRope", "(II)I"⟩
abbrev μX6_ofRope : Mu := (yX6_ofRope, cX6_ofRope, 3, (some .int), 5, 111)
abbrev cX6_winds : ByteArray := prog_8_method_45_code
def yX6_winds : MethodName := ⟨RX6, "winds", "(II)I"⟩
abbrev μX6_winds : Mu := (yX6_winds, cX6_winds, 5, (some .int), 2, 42)
abbrev cX6_least : ByteArray := prog_8_method_46_code
def yX6_least : MethodName := ⟨RX6, "least", "(II)I"⟩
abbrev μX6_least : Mu := (yX6_least, cX6_least, 3, (some .int), 5, 111)
abbrev cX6_count : ByteArray := prog_8_method_47_code
def yX6_count : MethodName := ⟨RX6, "count", "(I)I"⟩
abbrev μX6_count : Mu := (yX6_count, cX6_count, 2, (some .int), 2, 41)
abbrev cX6_fallsBy : ByteArray := prog_8_method_48_code
def yX6_fallsBy : MethodName := ⟨RX6, "fallsBy", "(II)Z"⟩
abbrev μX6_fallsBy : Mu := (yX6_fallsBy, cX6_fallsBy, 5, (some .boolean), 2, 42)
abbrev cX6_falls : ByteArray := prog_8_method_49_code
def yX6_falls : MethodName := ⟨RX6, "falls", "(II)I"⟩
abbrev μX6_falls : Mu := (yX6_falls, cX6_falls, 3, (some .int), 3, 66)
abbrev cX6_size : ByteArray := prog_8_method_50_code
def yX6_size : MethodName := ⟨RX6, "size", "(I)I"⟩
abbrev μX6_size : Mu := (yX6_size, cX6_size, 3, (some .int), 0, 0)
abbrev cX6_isFelling : ByteArray := prog_8_method_51_code
def yX6_isFelling : MethodName := ⟨RX6, "isFelling", "(II)Z"⟩
abbrev μX6_isFelling : Mu := (yX6_isFelling, cX6_isFelling, 5, (some .boolean), 3, 66)
abbrev cX6_felling : ByteArray := prog_8_method_52_code
def yX6_felling : MethodName := ⟨RX6, "felling", "(II)I"⟩
abbrev μX6_felling : Mu := (yX6_felling, cX6_felling, 6, (some .int), 4, 90)
abbrev cX6_areSame : ByteArray := prog_8_method_53_code
def yX6_areSame : MethodName := ⟨RX6, "areSame", "(IIII)Z"⟩
abbrev μX6_areSame : Mu := (yX6_areSame, cX6_areSame, 5, (some .boolean), 3, 65)
abbrev cX6_both : ByteArray := prog_8_method_54_code
def yX6_both : MethodName := ⟨RX6, "both", "(III)I"⟩
abbrev μX6_both : Mu := (yX6_both, cX6_both, 5, (some .int), 5, 111)
abbrev cX6_cuts : ByteArray := prog_8_method_55_code
def yX6_cuts : MethodName := ⟨RX6, "cuts", "(I)I"⟩
abbrev μX6_cuts : Mu := (yX6_cuts, cX6_cuts, 9, (some .int), 2, 42)
abbrev cX6_swapped : ByteArray := prog_8_method_56_code
def yX6_swapped : MethodName := ⟨RX6, "swapped", "(II)I"⟩
abbrev μX6_swapped : Mu := (yX6_swapped, cX6_swapped, 5, (some .int), 4, 92)
abbrev cX6_ifSwapped : ByteArray := prog_8_method_57_code
def yX6_ifSwapped : MethodName := ⟨RX6, "ifSwapped", "(II)I"⟩
abbrev μX6_ifSwapped : Mu := (yX6_ifSwapped, cX6_ifSwapped, 3, (some .int), 5, 116)
abbrev cX6_bestSwap : ByteArray := prog_8_method_58_code
def yX6_bestSwap : MethodName := ⟨RX6, "bestSwap", "(I)I"⟩
abbrev μX6_bestSwap : Mu := (yX6_bestSwap, cX6_bestSwap, 6, (some .int), 5, 116)
abbrev cX6_undo : ByteArray := prog_8_method_59_code
def yX6_undo : MethodName := ⟨RX6, "undo", "()I"⟩
abbrev μX6_undo : Mu := (yX6_undo, cX6_undo, 2, (some .int), 0, 0)
abbrev cX6_save : ByteArray := prog_8_method_60_code
def yX6_save : MethodName := ⟨RX6, "save", "(I)I"⟩
abbrev μX6_save : Mu := (yX6_save, cX6_save, 3, (some .int), 2, 41)
abbrev cX6_restore : ByteArray := prog_8_method_61_code
def yX6_restore : MethodName := ⟨RX6, "restore", "(I)I"⟩
abbrev μX6_restore : Mu := (yX6_restore, cX6_restore, 3, (some .int), 2, 41)
abbrev cJ6_bitCount_0f7a4 : ByteArray := prog_9_method_49_code
def yJ6_bitCount_0f7a4 : MethodName := ⟨RJ6, "bitCount", "(I)I"⟩
abbrev μJ6_bitCount_0f7a4 : Mu := (yJ6_bitCount_0f7a4, cJ6_bitCount_0f7a4, 1, (some .int), 0, 0)
abbrev cJ9_floorMod_7cf53 : ByteArray := prog_10_method_50_code
def yJ9_floorMod_7cf53 : MethodName := ⟨RJ9, "floorMod", "(II)I"⟩
abbrev μJ9_floorMod_7cf53 : Mu := (yJ9_floorMod_7cf53, cJ9_floorMod_7cf53, 3, (some .int), 0, 0)
abbrev cJ9_max_7cf53 : ByteArray := prog_10_method_65_code
def yJ9_max_7cf53 : MethodName := ⟨RJ9, "max", "(II)I"⟩
abbrev μJ9_max_7cf53 : Mu := (yJ9_max_7cf53, cJ9_max_7cf53, 2, (some .int), 0, 0)
abbrev cJ9_min_7cf53 : ByteArray := prog_10_method_69_code
def yJ9_min_7cf53 : MethodName := ⟨RJ9, "min", "(II)I"⟩
abbrev μJ9_min_7cf53 : Mu := (yJ9_min_7cf53, cJ9_min_7cf53, 2, (some .int), 0, 0)
abbrev cL_law : ByteArray := code
def yL_law : MethodName := ⟨RL, "law", "([I)Z"⟩
end
section
/-! ONE WORLD AT FIXED PLACES: every object of the run stands at g.1 + i; what it is, says a layout; its numbers are a function of place and index -/
abbrev Mem : Type := Nat → Int → Int
abbrev FS : Type := Option (Option Nat)
abbrev LK : Type := (Nat × List FS) ⊕ (Nat × (Nat ⊕ List (Option Nat)))
abbrev Lay : Type := Nat → LK
abbrev GE : Type := Nat × va_G × (Nat → ClassId)
abbrev kO (ci : Nat) (fs : List FS) : LK := .inl (ci, fs)
abbrev kA (t n : Nat) : LK := .inr (t, .inl n)
abbrev kR (t : Nat) (qs : List (Option Nat)) : LK := .inr (t, .inr qs)
/-- numbers: an Int32 is the image of an Int -/
def zI (z : Int) : Int32 := Int32.ofInt z
theorem zI_add (a b : Int) : zI a + zI b = zI (a + b) := (Int32.ofInt_add a b).symm
theorem zI_sub (a b : Int) : zI a - zI b = zI (a - b) := (Int32.ofInt_sub a b).symm
theorem zI_mul (a b : Int) : zI a * zI b = zI (a * b) := (Int32.ofInt_mul a b).symm
theorem zI_neg (a : Int) : - zI a = zI (-a) := (Int32.ofInt_neg a).symm
theorem zI_int {z : Int} (h : -2147483648 ≤ z ∧ z < 2147483648) : (zI z).toInt = z := Int32.toInt_ofInt_of_le (by omega) (by omega)
theorem zI_of (x : Int32) : zI x.toInt = x := Int32.ofInt_toInt x
theorem i32_rg (x : Int32) : -2147483648 ≤ x.toInt ∧ x.toInt < 2147483648 := ⟨by have := Int32.le_toInt x; omega, by have := Int32.toInt_lt x; omega⟩
theorem zI_lt {a b : Int} (h : (-2147483648 ≤ a ∧ a < 2147483648) ∧ (-2147483648 ≤ b ∧ b < 2147483648)) : zI a < zI b ↔ a < b := by
  rw [Int32.lt_iff_toInt_lt, zI_int h.1, zI_int h.2]
theorem zI_le {a b : Int} (h : (-2147483648 ≤ a ∧ a < 2147483648) ∧ (-2147483648 ≤ b ∧ b < 2147483648)) : zI a ≤ zI b ↔ a ≤ b := by
  rw [Int32.le_iff_toInt_le, zI_int h.1, zI_int h.2]
theorem zI_eq {a b : Int} (h : (-2147483648 ≤ a ∧ a < 2147483648) ∧ (-2147483648 ≤ b ∧ b < 2147483648)) : zI a = zI b ↔ a = b := by
  rw [← Int32.toInt_inj, zI_int h.1, zI_int h.2]
theorem zI_0 : zI 0 = 0 := by decide +kernel
theorem zI_1 : zI 1 = 1 := by decide +kernel
theorem zI_clamp {z : Int} {N : Nat} (h0 : 0 ≤ z) (h : z < N) (hN : N ≤ 2147483647) : (((zI z).toNatClampNeg : Nat) : Int) = z := by
  have : (zI z).toNatClampNeg = (zI z).toInt.toNat := rfl
  rw [this, zI_int (by omega)]
  omega
theorem zI_in {z : Int} {N : Nat} (h0 : 0 ≤ z) (h : z < N) (hN : N ≤ 2147483647) : ¬ (zI z < 0 ∨ N ≤ (zI z).toNatClampNeg) := by
  intro q
  rcases q with q | q
  · rw [← zI_0, zI_lt (by omega)] at q
    omega
  · have := zI_clamp h0 h hN
    omega
theorem zI_irem {a b : Int} (ha : 0 ≤ a) (hb : 0 < b) (ha2 : a < 2147483648) (hb2 : b < 2147483648) : zI a - zI a / zI b * zI b = zI (a % b) := by
  have h1 : (zI a / zI b) = zI (a / b) := by
    apply Int32.toInt.inj
    rw [Int32.toInt_div_of_ne_right _ _ (fun q => by have := congrArg Int32.toInt q; rw [zI_int (by omega)] at this; have e : (-1 : Int32).toInt = -1 := by decide +kernel
                                                     omega), zI_int (by omega), zI_int (by omega), Int.tdiv_eq_ediv_of_nonneg ha, zI_int]
    have h1 := Int.ediv_nonneg ha (Int.le_of_lt hb)
    have h2 := Int.ediv_le_self b ha
    omega
  rw [h1, zI_mul, zI_sub, Int.emod_def, Int.mul_comm]
theorem zI_idiv {a b : Int} (ha : 0 ≤ a) (hb : 0 < b) (ha2 : a < 2147483648) (hb2 : b < 2147483648) : zI a / zI b = zI (a / b) := by
  apply Int32.toInt.inj
  rw [Int32.toInt_div_of_ne_right _ _ (fun q => by have := congrArg Int32.toInt q; rw [zI_int (by omega)] at this; have e : (-1 : Int32).toInt = -1 := by decide +kernel
                                                   omega), zI_int (by omega), zI_int (by omega), Int.tdiv_eq_ediv_of_nonneg ha, zI_int]
  have h1 := Int.ediv_nonneg ha (Int.le_of_lt hb)
  have h2 := Int.ediv_le_self b ha
  omega
abbrev vI (z : Int) : Value := .int (zI z)
abbrev vR (g : GE) (i : Nat) : Value := .ref (g.1 + i)
def fv (g : GE) (m : Int → Int) (k : Nat) : FS → Value
  | none => vI (m (k : Int))
  | some none => .null
  | some (some q) => vR g q
def cellAt (g : GE) (a : Nat) (m : Int → Int) (H : Heap) : LK → Prop
  | .inl (ci, fs) => ∃ r : vw_C, classes[ci]? = some r ∧ t_OB a (g.2.1.1 ci) r.2.2 (g.2.1.2 ci) H (fun k => fv g m k (fs.getD k none))
  | .inr (t, .inl n) => H[a]? = some (arrV (g.2.2 t) n (fun j => vI (m (j : Int))))
  | .inr (t, .inr qs) => H[a]? = some (arrV (g.2.2 t) qs.length (fun j => va_rf ((qs.getD j none).map (fun q => g.1 + q))))
theorem cellAt.kept {g : GE} {a : Nat} {m : Int → Int} {H H1 : Heap} {k : LK} (h : cellAt g a m H k) (hq : H1[a]? = H[a]?) : cellAt g a m H1 k := by
  match k, h with
  | .inl (ci, fs), ⟨r, h1, h2⟩ => exact ⟨r, h1, h2.kept hq⟩
  | .inr (t, .inl n), h => exact hq.trans h
  | .inr (t, .inr qs), h => exact hq.trans h
/-- n cells from g.1 on, and none behind them -/
def Rep (g : GE) (n : Nat) (L : Lay) (M : Mem) (H : Heap) : Prop := H.size = g.1 + n ∧ ∀ i, i < n → cellAt g (g.1 + i) (M i) H (L i)
def tyT : Nat → FieldType
  | 0 => .int
  | 1 => .boolean
  | 2 => .object RX3
  | _ => .object RX4
abbrev tysT (g : GE) : List (ClassId × FieldType) := [(g.2.2 0, tyT 0), (g.2.2 1, tyT 1), (g.2.2 2, tyT 2), (g.2.2 3, tyT 3)]
def nestQ : List (String × Nat × MethodName × String) := [(RX4, 25, yX5_opposite, RX5), (RX3, 36, yX5_postOf, RX5), (RX3, 39, yX5_isPost, RX5), (RX4, 61, yX5_postOf, RX5), (RX2, 56, yX5_opposite, RX5)]
/-- what is known of classes and links -/
def Kn (g : GE) (U : State) : Prop := va_K g.2.1 classes (tysT g) U ∧ (∀ q ∈ nestQ, va_Nw (.methodLinkNest q.1 q.2.1 q.2.2.1 q.2.2.2) U) ∧ va_AO RX3 U ∧ va_AO RX4 U
theorem Kn.eq {g : GE} {u U : State} (h : u.vm = U.vm) (k : Kn g u) : Kn g U := by
  have ha : u.vm.Alike U.vm := by rw [h]; exact Vm.Alike.refl _
  exact ⟨va_K.moved ha k.1, fun q hq => va_Nw.same rfl h (k.2.1 q hq), va_AO.moved ha k.2.2.1, va_AO.moved ha k.2.2.2⟩
theorem Kn.warm {g : GE} {s U : State} (hW : s.WarmedH U.vm) (k : Kn g s) : Kn g U :=
  ⟨va_K.moved hW.alike k.1, fun q hq => va_Nw.warmM hW (k.2.1 q hq), va_AO.moved hW.alike k.2.2.1, va_AO.moved hW.alike k.2.2.2⟩
abbrev Fx : Type := Program × Launch × Env × Room × State × MethodId × Array Value × List Frame × Method × Code × (State → Prop)
abbrev xP (x : Fx) : Program := x.1
abbrev xL (x : Fx) : Launch := x.2.1
abbrev xE (x : Fx) : Env := x.2.2.1
abbrev xR (x : Fx) : Room := x.2.2.2.1
abbrev xS (x : Fx) : State := x.2.2.2.2.1
abbrev xM (x : Fx) : MethodId := x.2.2.2.2.2.1
abbrev xA (x : Fx) : Array Value := x.2.2.2.2.2.2.1
abbrev xB (x : Fx) : List Frame := x.2.2.2.2.2.2.2.1
abbrev xT (x : Fx) : Method := x.2.2.2.2.2.2.2.2.1
abbrev xC (x : Fx) : Code := x.2.2.2.2.2.2.2.2.2.1
abbrev xQ (x : Fx) : State → Prop := x.2.2.2.2.2.2.2.2.2.2
/-- the walk's goal: at pc, with these locals and this stack, over this world -/
def K (x : Fx) (g : GE) (cs sl : Nat) (L : Lay) (n : Nat) (M : Mem) (pc : Nat) (ls : List (Nat × Value)) (st : List Value) : Prop :=
  ∀ (H : Heap) (locs : List Loc) (la : Array Slot), Rep g n L M H → va_S (fun q => g.1 ≤ q) (xS x).heap H locs → lv_has la (xC x).maxLocals ls →
    W (xP x) (xL x) (xE x) (xR x) (xS x) (xM x) (xA x) (xB x) (xT x) (xC x) H locs cs sl (xQ x) (F0 (xM x) pc la st)
/-- what the method stands on -/
def Cx (x : Fx) (g : GE) (cc : ByteArray) (own : String) (nL : Nat) (R : Room) : Prop :=
  (xP x).tables.exec = Jvm.exec ∧ (xC x).code = cc ∧ (xC x).maxLocals = nL ∧ (xS x).vm.findClass own = some (xM x).cls ∧ (∀ w ∈ TB, w.before (xA x) (xS x) = true) ∧ Kn g (xS x) ∧ xR x = R
def At (cc : ByteArray) (pc : Nat) (i : Instr) (len pc' : Nat) : Prop := decode cc pc = .ok (i, len) ∧ pc + len = pc'
def Br (cc : ByteArray) (pc : Nat) (f : Int → Instr) (pc' tgt : Nat) : Prop := ∃ off : Int, decode cc pc = .ok (f off, 3) ∧ pc + 3 = pc' ∧ (pc : Int) + off = (tgt : Int)
def insL (i : Nat) (v : Value) : List (Nat × Value) → List (Nat × Value)
  | [] => [(i, v)]
  | q :: t => bif Nat.blt i q.1 then (i, v) :: q :: t else q :: insL i v t
def setL (ls : List (Nat × Value)) (i : Nat) (v : Value) : List (Nat × Value) := insL i v (ls.filter (fun q => !(q.1 == i)))
def okL (ls : List (Nat × Value)) (i : Nat) : Bool := ls.all (fun q => !(q.1 + 1 == i && q.2.category == 2))
theorem insL_mem {i : Nat} {v : Value} {q : Nat × Value} : ∀ {ls : List (Nat × Value)}, q ∈ insL i v ls → q = (i, v) ∨ q ∈ ls
  | [], h => by simpa [insL] using h
  | a :: t, h => by
    unfold insL at h
    cases hb : Nat.blt i a.1
    · rw [hb] at h
      rcases List.mem_cons.mp h with h | h
      · exact Or.inr (by rw [h]; exact List.mem_cons_self)
      · rcases insL_mem h with h | h
        · exact Or.inl h
        · exact Or.inr (List.mem_cons_of_mem _ h)
    · rw [hb] at h
      rcases List.mem_cons.mp h with h | h
      · exact Or.inl h
      · exact Or.inr h
theorem setL_has {la : Array Slot} {nL i : Nat} {v : Value} {ls : List (Nat × Value)} (hok : okL ls i = true) (h : lv_has la nL ((i, v) :: ls.filter (fun q => !(q.1 == i) && !(q.1 + 1 == i && q.2.category == 2)))) : lv_has la nL (setL ls i v) := by
  refine ⟨h.1, h.2.1, fun q hq => ?_⟩
  rcases insL_mem hq with h1 | h1
  · rw [h1]; exact h.2.2 _ List.mem_cons_self
  · obtain ⟨h2, h3⟩ := List.mem_filter.mp h1
    refine h.2.2 q (List.mem_cons_of_mem _ (List.mem_filter.mpr ⟨h2, ?_⟩))
    have h4 := List.all_eq_true.mp hok q h2
    rw [h3, h4]
    rfl
/-- a long takes two places -/
def okL2 (ls : List (Nat × Value)) (i : Nat) : Bool := ls.all (fun q => !(q.1 == i + 1) && !(q.1 + 1 == i && q.2.category == 2))
theorem setL_has2 {la : Array Slot} {nL i : Nat} {v : Value} {ls : List (Nat × Value)} (hok : okL2 ls i = true) (h : lv_has la nL ((i, v) :: ls.filter (fun q => !(q.1 == i) && (!(q.1 == i + 1) && !(q.1 + 1 == i && q.2.category == 2))))) : lv_has la nL (setL ls i v) := by
  refine ⟨h.1, h.2.1, fun q hq => ?_⟩
  rcases insL_mem hq with h1 | h1
  · rw [h1]; exact h.2.2 _ List.mem_cons_self
  · obtain ⟨h2, h3⟩ := List.mem_filter.mp h1
    refine h.2.2 q (List.mem_cons_of_mem _ (List.mem_filter.mpr ⟨h2, ?_⟩))
    have h4 := List.all_eq_true.mp hok q h2
    rw [h3, h4]
    rfl
def up (M : Mem) (i : Nat) (k z : Int) : Mem := fun a b => if a = i ∧ b = k then z else M a b
theorem up_s {M : Mem} {i : Nat} {k z : Int} : up M i k z i k = z := if_pos ⟨rfl, rfl⟩
theorem up_k {M : Mem} {i : Nat} {k z : Int} {j : Int} (h : j ≠ k) : up M i k z i j = M i j := if_neg fun q => h q.2
theorem up_i {M : Mem} {i : Nat} {k z : Int} {a : Nat} (h : a ≠ i) : up M i k z a = M a := funext fun b => if_neg fun q => h q.1
section ROWS
variable {x : Fx} {g : GE} {cc : ByteArray} {own : String} {nL : Nat} {R : Room} {cs sl : Nat} {L : Lay} {n : Nat} {M : Mem} {pc pc' tgt : Nat} {ls : List (Nat × Value)} {st : List Value}
theorem K.sub {ls' : List (Nat × Value)} (ks : List Nat) (hl : lv_pick ls ks = ls') (k : K x g cs sl L n M pc ls' st) : K x g cs sl L n M pc ls st := fun H locs la hR hS h => k H locs la hR hS (lv_sub h ks hl)
theorem k_iconst (hx : Cx x g cc own nL R) {z : Int} (hd : At cc pc (.iconst z) 1 pc') (k : K x g cs sl L n M pc' ls (vI z :: st)) : K x g cs sl L n M pc ls st := by
  intro H locs la hR hS hl
  obtain ⟨h1, h2⟩ := hd; subst h2
  exact lv_iconst hx.1 hx.2.1 h1 rfl (k H locs la hR hS hl)
theorem k_bipush (hx : Cx x g cc own nL R) {z : Int} (hd : At cc pc (.bipush z) 2 pc') (hz : (Int8.ofInt z).toInt32 = zI z) (k : K x g cs sl L n M pc' ls (vI z :: st)) : K x g cs sl L n M pc ls st := by
  intro H locs la hR hS hl
  obtain ⟨h1, h2⟩ := hd; subst h2
  exact lv_bipush hx.1 hx.2.1 h1 hz (k H locs la hR hS hl)
theorem k_sipush (hx : Cx x g cc own nL R) {z : Int} (hd : At cc pc (.sipush z) 3 pc') (hz : (Int16.ofInt z).toInt32 = zI z) (k : K x g cs sl L n M pc' ls (vI z :: st)) : K x g cs sl L n M pc ls st := by
  intro H locs la hR hS hl
  obtain ⟨h1, h2⟩ := hd; subst h2
  exact lv_sipush hx.1 hx.2.1 h1 hz (k H locs la hR hS hl)
theorem k_lconst (hx : Cx x g cc own nL R) {z : Fin 2} {v : Int64} (hd : At cc pc (.lconst z) 1 pc') (hv : Int64.ofNat (z : Nat) = v) (k : K x g cs sl L n M pc' ls (.long v :: st)) : K x g cs sl L n M pc ls st := by
  intro H locs la hR hS hl
  obtain ⟨h1, h2⟩ := hd; subst h2
  exact lv_lconst hx.1 hx.2.1 h1 hv (k H locs la hR hS hl)
theorem k_iload_n (hx : Cx x g cc own nL R) {k : Fin 4} {v : Int32} (hd : At cc pc (.iload_n k) 1 pc') (j : Nat) (hj : ls[j]? = some ((k : Nat), .int v)) (kk : K x g cs sl L n M pc' ls (.int v :: st)) : K x g cs sl L n M pc ls st := by
  intro H locs la hR hS hl
  obtain ⟨h1, h2⟩ := hd; subst h2
  exact lv_iload_n hx.1 hx.2.1 h1 rfl (lv_at hl j hj) (kk H locs la hR hS hl)
theorem k_iload (hx : Cx x g cc own nL R) {k : Nat} {v : Int32} (hd : At cc pc (.iload k) 2 pc') (j : Nat) (hj : ls[j]? = some (k, .int v)) (kk : K x g cs sl L n M pc' ls (.int v :: st)) : K x g cs sl L n M pc ls st := by
  intro H locs la hR hS hl
  obtain ⟨h1, h2⟩ := hd; subst h2
  exact lv_iload hx.1 hx.2.1 h1 (lv_at hl j hj) (kk H locs la hR hS hl)
theorem k_lload_n (hx : Cx x g cc own nL R) {k : Fin 4} {v : Int64} (hd : At cc pc (.lload_n k) 1 pc') (j : Nat) (hj : ls[j]? = some ((k : Nat), .long v)) (kk : K x g cs sl L n M pc' ls (.long v :: st)) : K x g cs sl L n M pc ls st := by
  intro H locs la hR hS hl
  obtain ⟨h1, h2⟩ := hd; subst h2
  exact lv_lload_n hx.1 hx.2.1 h1 rfl (lv_at hl j hj) (kk H locs la hR hS hl)
theorem k_lload (hx : Cx x g cc own nL R) {k : Nat} {v : Int64} (hd : At cc pc (.lload k) 2 pc') (j : Nat) (hj : ls[j]? = some (k, .long v)) (kk : K x g cs sl L n M pc' ls (.long v :: st)) : K x g cs sl L n M pc ls st := by
  intro H locs la hR hS hl
  obtain ⟨h1, h2⟩ := hd; subst h2
  exact lv_lload hx.1 hx.2.1 h1 (lv_at hl j hj) (kk H locs la hR hS hl)
theorem k_aload_n (hx : Cx x g cc own nL R) {k : Fin 4} {v : Nat} (hd : At cc pc (.aload_n k) 1 pc') (j : Nat) (hj : ls[j]? = some ((k : Nat), .ref v)) (kk : K x g cs sl L n M pc' ls (.ref v :: st)) : K x g cs sl L n M pc ls st := by
  intro H locs la hR hS hl
  obtain ⟨h1, h2⟩ := hd; subst h2
  exact lv_aload_n hx.1 hx.2.1 h1 rfl (lv_at hl j hj) (kk H locs la hR hS hl)
theorem k_aload (hx : Cx x g cc own nL R) {k : Nat} {v : Nat} (hd : At cc pc (.aload k) 2 pc') (j : Nat) (hj : ls[j]? = some (k, .ref v)) (kk : K x g cs sl L n M pc' ls (.ref v :: st)) : K x g cs sl L n M pc ls st := by
  intro H locs la hR hS hl
  obtain ⟨h1, h2⟩ := hd; subst h2
  exact lv_aload hx.1 hx.2.1 h1 (lv_at hl j hj) (kk H locs la hR hS hl)
theorem k_istore_n (hx : Cx x g cc own nL R) {k : Fin 4} {v : Int32} (hd : At cc pc (.istore_n k) 1 pc') {ls' : List (Nat × Value)} (hs : setL ls (k : Nat) (.int v) = ls') (hok : okL ls (k : Nat) = true) (hk : (k : Nat) < nL) (kk : K x g cs sl L n M pc' ls' st) : K x g cs sl L n M pc ls (.int v :: st) := by
  intro H locs la hR hS hl
  obtain ⟨h1, h2⟩ := hd; subst h2; subst hs
  exact lv_istore_n hx.1 hx.2.1 h1 rfl hl (by rw [hx.2.2.1]; exact hk) rfl (fun la' hl' => kk H locs la' hR hS (setL_has hok hl'))
theorem k_istore (hx : Cx x g cc own nL R) {k : Nat} {v : Int32} (hd : At cc pc (.istore k) 2 pc') {ls' : List (Nat × Value)} (hs : setL ls k (.int v) = ls') (hok : okL ls k = true) (hk : k < nL) (kk : K x g cs sl L n M pc' ls' st) : K x g cs sl L n M pc ls (.int v :: st) := by
  intro H locs la hR hS hl
  obtain ⟨h1, h2⟩ := hd; subst h2; subst hs
  exact lv_istore hx.1 hx.2.1 h1 hl (by rw [hx.2.2.1]; exact hk) rfl (fun la' hl' => kk H locs la' hR hS (setL_has hok hl'))
theorem k_astore_n (hx : Cx x g cc own nL R) {k : Fin 4} {v : Nat} (hd : At cc pc (.astore_n k) 1 pc') {ls' : List (Nat × Value)} (hs : setL ls (k : Nat) (.ref v) = ls') (hok : okL ls (k : Nat) = true) (hk : (k : Nat) < nL) (kk : K x g cs sl L n M pc' ls' st) : K x g cs sl L n M pc ls (.ref v :: st) := by
  intro H locs la hR hS hl
  obtain ⟨h1, h2⟩ := hd; subst h2; subst hs
  exact lv_astore_n hx.1 hx.2.1 h1 rfl hl (by rw [hx.2.2.1]; exact hk) rfl (fun la' hl' => kk H locs la' hR hS (setL_has hok hl'))
theorem k_astore (hx : Cx x g cc own nL R) {k : Nat} {v : Nat} (hd : At cc pc (.astore k) 2 pc') {ls' : List (Nat × Value)} (hs : setL ls k (.ref v) = ls') (hok : okL ls k = true) (hk : k < nL) (kk : K x g cs sl L n M pc' ls' st) : K x g cs sl L n M pc ls (.ref v :: st) := by
  intro H locs la hR hS hl
  obtain ⟨h1, h2⟩ := hd; subst h2; subst hs
  exact lv_astore hx.1 hx.2.1 h1 hl (by rw [hx.2.2.1]; exact hk) rfl (fun la' hl' => kk H locs la' hR hS (setL_has hok hl'))
theorem k_lstore_n (hx : Cx x g cc own nL R) {k : Fin 4} {v : Int64} (hd : At cc pc (.lstore_n k) 1 pc') {ls' : List (Nat × Value)} (hs : setL ls (k : Nat) (.long v) = ls') (hok : okL2 ls (k : Nat) = true) (hk : (k : Nat) + 1 < nL) (kk : K x g cs sl L n M pc' ls' st) : K x g cs sl L n M pc ls (.long v :: st) := by
  intro H locs la hR hS hl
  obtain ⟨h1, h2⟩ := hd; subst h2; subst hs
  exact lv_lstore_n hx.1 hx.2.1 h1 rfl hl (by rw [hx.2.2.1]; exact hk) rfl (fun la' hl' => kk H locs la' hR hS (setL_has2 hok hl'))
theorem k_lstore (hx : Cx x g cc own nL R) {k : Nat} {v : Int64} (hd : At cc pc (.lstore k) 2 pc') {ls' : List (Nat × Value)} (hs : setL ls k (.long v) = ls') (hok : okL2 ls k = true) (hk : k + 1 < nL) (kk : K x g cs sl L n M pc' ls' st) : K x g cs sl L n M pc ls (.long v :: st) := by
  intro H locs la hR hS hl
  obtain ⟨h1, h2⟩ := hd; subst h2; subst hs
  exact lv_lstore hx.1 hx.2.1 h1 hl (by rw [hx.2.2.1]; exact hk) rfl (fun la' hl' => kk H locs la' hR hS (setL_has2 hok hl'))
theorem k_iinc (hx : Cx x g cc own nL R) {k : Nat} {c a : Int} (hd : At cc pc (.iinc k c) 3 pc') (j : Nat) (hj : ls[j]? = some (k, vI a)) {ls' : List (Nat × Value)} (hs : setL ls k (vI (a + c)) = ls') (hok : okL ls k = true) (hk : k < nL) (kk : K x g cs sl L n M pc' ls' st) : K x g cs sl L n M pc ls st := by
  intro H locs la hR hS hl
  obtain ⟨h1, h2⟩ := hd; subst h2; subst hs
  exact lv_iinc hx.1 hx.2.1 h1 hl hj (zI_add a c) (by rw [hx.2.2.1]; exact hk) rfl (fun la' hl' => kk H locs la' hR hS (setL_has hok hl'))
theorem k_iadd (hx : Cx x g cc own nL R) {a b : Int} (hd : At cc pc .iadd 1 pc') (k : K x g cs sl L n M pc' ls (vI (a + b) :: st)) : K x g cs sl L n M pc ls (vI b :: vI a :: st) := by
  intro H locs la hR hS hl
  obtain ⟨h1, h2⟩ := hd; subst h2
  refine lv_iadd hx.1 hx.2.1 h1 ?_
  rw [zI_add]
  exact k H locs la hR hS hl
theorem k_isub (hx : Cx x g cc own nL R) {a b : Int} (hd : At cc pc .isub 1 pc') (k : K x g cs sl L n M pc' ls (vI (a - b) :: st)) : K x g cs sl L n M pc ls (vI b :: vI a :: st) := by
  intro H locs la hR hS hl
  obtain ⟨h1, h2⟩ := hd; subst h2
  refine lv_isub hx.1 hx.2.1 h1 ?_
  rw [zI_sub]
  exact k H locs la hR hS hl
theorem k_imul (hx : Cx x g cc own nL R) {a b : Int} (hd : At cc pc .imul 1 pc') (k : K x g cs sl L n M pc' ls (vI (a * b) :: st)) : K x g cs sl L n M pc ls (vI b :: vI a :: st) := by
  intro H locs la hR hS hl
  obtain ⟨h1, h2⟩ := hd; subst h2
  refine lv_imul hx.1 hx.2.1 h1 ?_
  rw [zI_mul]
  exact k H locs la hR hS hl
theorem k_irem (hx : Cx x g cc own nL R) {a b : Int} (hd : At cc pc .irem 1 pc') (h : (0 ≤ a ∧ a < 2147483648) ∧ (0 < b ∧ b < 2147483648)) (k : K x g cs sl L n M pc' ls (vI (a % b) :: st)) : K x g cs sl L n M pc ls (vI b :: vI a :: st) := by
  intro H locs la hR hS hl
  obtain ⟨h1, h2⟩ := hd; subst h2
  refine lv_irem hx.1 hx.2.1 h1 (fun q => ?_) ?_
  · rw [← zI_0, zI_eq (by omega)] at q
    omega
  · rw [zI_irem h.1.1 h.2.1 h.1.2 h.2.2]
    exact k H locs la hR hS hl
theorem k_idiv (hx : Cx x g cc own nL R) {a b : Int} (hd : At cc pc .idiv 1 pc') (h : (0 ≤ a ∧ a < 2147483648) ∧ (0 < b ∧ b < 2147483648)) (k : K x g cs sl L n M pc' ls (vI (a / b) :: st)) : K x g cs sl L n M pc ls (vI b :: vI a :: st) := by
  intro H locs la hR hS hl
  obtain ⟨h1, h2⟩ := hd; subst h2
  refine lv_idiv hx.1 hx.2.1 h1 (fun q => ?_) ?_
  · rw [← zI_0, zI_eq (by omega)] at q
    omega
  · rw [zI_idiv h.1.1 h.2.1 h.1.2 h.2.2]
    exact k H locs la hR hS hl
theorem k_iand (hx : Cx x g cc own nL R) {a b : Int32} {v : Int32} (hd : At cc pc .iand 1 pc') (hv : a &&& b = v) (k : K x g cs sl L n M pc' ls (.int v :: st)) : K x g cs sl L n M pc ls (.int b :: .int a :: st) := by
  intro H locs la hR hS hl
  obtain ⟨h1, h2⟩ := hd; subst h2; subst hv
  exact lv_iand hx.1 hx.2.1 h1 (k H locs la hR hS hl)
theorem k_ior (hx : Cx x g cc own nL R) {a b : Int32} {v : Int32} (hd : At cc pc .ior 1 pc') (hv : a ||| b = v) (k : K x g cs sl L n M pc' ls (.int v :: st)) : K x g cs sl L n M pc ls (.int b :: .int a :: st) := by
  intro H locs la hR hS hl
  obtain ⟨h1, h2⟩ := hd; subst h2; subst hv
  exact lv_ior hx.1 hx.2.1 h1 (k H locs la hR hS hl)
theorem k_ixor (hx : Cx x g cc own nL R) {a b : Int32} {v : Int32} (hd : At cc pc .ixor 1 pc') (hv : a ^^^ b = v) (k : K x g cs sl L n M pc' ls (.int v :: st)) : K x g cs sl L n M pc ls (.int b :: .int a :: st) := by
  intro H locs la hR hS hl
  obtain ⟨h1, h2⟩ := hd; subst h2; subst hv
  exact lv_ixor hx.1 hx.2.1 h1 (k H locs la hR hS hl)
theorem k_ishl (hx : Cx x g cc own nL R) {a b : Int32} {v : Int32} (hd : At cc pc .ishl 1 pc') (hv : a <<< (b &&& 31) = v) (k : K x g cs sl L n M pc' ls (.int v :: st)) : K x g cs sl L n M pc ls (.int b :: .int a :: st) := by
  intro H locs la hR hS hl
  obtain ⟨h1, h2⟩ := hd; subst h2; subst hv
  exact lv_ishl hx.1 hx.2.1 h1 (k H locs la hR hS hl)
theorem k_ishr (hx : Cx x g cc own nL R) {a b : Int32} {v : Int32} (hd : At cc pc .ishr 1 pc') (hv : a >>> (b &&& 31) = v) (k : K x g cs sl L n M pc' ls (.int v :: st)) : K x g cs sl L n M pc ls (.int b :: .int a :: st) := by
  intro H locs la hR hS hl
  obtain ⟨h1, h2⟩ := hd; subst h2; subst hv
  exact lv_ishr hx.1 hx.2.1 h1 (k H locs la hR hS hl)
theorem k_iushr (hx : Cx x g cc own nL R) {a b : Int32} {v : Int32} (hd : At cc pc .iushr 1 pc') (hv : (a.toUInt32 >>> (b.toUInt32 &&& Int32.toUInt32 31)).toInt32 = v) (k : K x g cs sl L n M pc' ls (.int v :: st)) : K x g cs sl L n M pc ls (.int b :: .int a :: st) := by
  intro H locs la hR hS hl
  obtain ⟨h1, h2⟩ := hd; subst h2
  exact lv_iushr hx.1 hx.2.1 h1 hv (k H locs la hR hS hl)
theorem k_land (hx : Cx x g cc own nL R) {a b : Int64} (hd : At cc pc .land 1 pc') (k : K x g cs sl L n M pc' ls (.long (a &&& b) :: st)) : K x g cs sl L n M pc ls (.long b :: .long a :: st) := by
  intro H locs la hR hS hl
  obtain ⟨h1, h2⟩ := hd; subst h2
  exact lv_land hx.1 hx.2.1 h1 (k H locs la hR hS hl)
theorem k_lor (hx : Cx x g cc own nL R) {a b : Int64} (hd : At cc pc .lor 1 pc') (k : K x g cs sl L n M pc' ls (.long (a ||| b) :: st)) : K x g cs sl L n M pc ls (.long b :: .long a :: st) := by
  intro H locs la hR hS hl
  obtain ⟨h1, h2⟩ := hd; subst h2
  exact lv_lor hx.1 hx.2.1 h1 (k H locs la hR hS hl)
theorem k_lshl (hx : Cx x g cc own nL R) {a : Int64} {b : Int32} (hd : At cc pc .lshl 1 pc') (k : K x g cs sl L n M pc' ls (.long (a <<< (b.toInt64 &&& 63)) :: st)) : K x g cs sl L n M pc ls (.int b :: .long a :: st) := by
  intro H locs la hR hS hl
  obtain ⟨h1, h2⟩ := hd; subst h2
  exact lv_lshl hx.1 hx.2.1 h1 rfl (k H locs la hR hS hl)
theorem k_lshr (hx : Cx x g cc own nL R) {a : Int64} {b : Int32} (hd : At cc pc .lshr 1 pc') (k : K x g cs sl L n M pc' ls (.long (a >>> (b.toInt64 &&& 63)) :: st)) : K x g cs sl L n M pc ls (.int b :: .long a :: st) := by
  intro H locs la hR hS hl
  obtain ⟨h1, h2⟩ := hd; subst h2
  exact lv_lshr hx.1 hx.2.1 h1 rfl (k H locs la hR hS hl)
theorem k_lushr (hx : Cx x g cc own nL R) {a : Int64} {b : Int32} (hd : At cc pc .lushr 1 pc') (k : K x g cs sl L n M pc' ls (.long (a.toUInt64 >>> (b.toInt64.toUInt64 &&& Int64.toUInt64 63)).toInt64 :: st)) : K x g cs sl L n M pc ls (.int b :: .long a :: st) := by
  intro H locs la hR hS hl
  obtain ⟨h1, h2⟩ := hd; subst h2
  exact lv_lushr hx.1 hx.2.1 h1 rfl (k H locs la hR hS hl)
theorem k_i2l (hx : Cx x g cc own nL R) {a : Int32} (hd : At cc pc .i2l 1 pc') (k : K x g cs sl L n M pc' ls (.long a.toInt64 :: st)) : K x g cs sl L n M pc ls (.int a :: st) := by
  intro H locs la hR hS hl
  obtain ⟨h1, h2⟩ := hd; subst h2
  exact lv_i2l hx.1 hx.2.1 h1 rfl (k H locs la hR hS hl)
theorem k_l2i (hx : Cx x g cc own nL R) {a : Int64} {v : Int32} (hd : At cc pc .l2i 1 pc') (hv : a.toInt32 = v) (k : K x g cs sl L n M pc' ls (.int v :: st)) : K x g cs sl L n M pc ls (.long a :: st) := by
  intro H locs la hR hS hl
  obtain ⟨h1, h2⟩ := hd; subst h2
  exact lv_l2i hx.1 hx.2.1 h1 hv (k H locs la hR hS hl)
theorem k_lcmp (hx : Cx x g cc own nL R) {a b : Int64} (hd : At cc pc .lcmp 1 pc') (k : K x g cs sl L n M pc' ls (.int (lg_cmp a b) :: st)) : K x g cs sl L n M pc ls (.long b :: .long a :: st) := by
  intro H locs la hR hS hl
  obtain ⟨h1, h2⟩ := hd; subst h2
  exact W.lcmp hx.1 hx.2.1 h1 (k H locs la hR hS hl)
theorem k_dup (hx : Cx x g cc own nL R) {v : Value} (hd : At cc pc .dup 1 pc') (hv : v.category = 1) (k : K x g cs sl L n M pc' ls (v :: v :: st)) : K x g cs sl L n M pc ls (v :: st) := by
  intro H locs la hR hS hl
  obtain ⟨h1, h2⟩ := hd; subst h2
  exact lv_dup hx.1 hx.2.1 h1 hv (k H locs la hR hS hl)
theorem k_pop (hx : Cx x g cc own nL R) {v : Value} (hd : At cc pc .pop 1 pc') (hv : v.category = 1) (k : K x g cs sl L n M pc' ls st) : K x g cs sl L n M pc ls (v :: st) := by
  intro H locs la hR hS hl
  obtain ⟨h1, h2⟩ := hd; subst h2
  exact lv_pop hx.1 hx.2.1 h1 hv (k H locs la hR hS hl)
theorem k_dup2 (hx : Cx x g cc own nL R) {v w : Value} (hd : At cc pc .dup2 1 pc') (hv : v.category = 1) (hw : w.category = 1) (k : K x g cs sl L n M pc' ls (v :: w :: v :: w :: st)) : K x g cs sl L n M pc ls (v :: w :: st) := by
  intro H locs la hR hS hl
  obtain ⟨h1, h2⟩ := hd; subst h2
  exact lv_dup2_11 hx.1 hx.2.1 h1 hv hw (k H locs la hR hS hl)
theorem k_goto (hx : Cx x g cc own nL R) (hd : Br cc pc .goto pc' tgt) (k : K x g cs sl L n M tgt ls st) : K x g cs sl L n M pc ls st := by
  intro H locs la hR hS hl
  obtain ⟨off, h1, h2, h3⟩ := hd
  exact lv_goto hx.1 hx.2.1 h1 h3 (k H locs la hR hS hl)
theorem k_ifeq (hx : Cx x g cc own nL R) {a : Int} (hd : Br cc pc (.ifCond .eq) pc' tgt) (h : -2147483648 ≤ a ∧ a < 2147483648) (kt : a = 0 → K x g cs sl L n M tgt ls st) (kf : ¬ a = 0 → K x g cs sl L n M pc' ls st) : K x g cs sl L n M pc ls (vI a :: st) := by
  intro H locs la hR hS hl
  obtain ⟨off, h1, h2, h3⟩ := hd; subst h2
  exact lv_if_eq hx.1 hx.2.1 h1 h3 (fun q => kt ((zI_eq ⟨h, by omega⟩).mp (by rw [zI_0]; exact q)) H locs la hR hS hl) (fun q => kf (fun z => q (by rw [z]; exact zI_0)) H locs la hR hS hl)
theorem k_ifne (hx : Cx x g cc own nL R) {a : Int} (hd : Br cc pc (.ifCond .ne) pc' tgt) (h : -2147483648 ≤ a ∧ a < 2147483648) (kt : ¬ a = 0 → K x g cs sl L n M tgt ls st) (kf : a = 0 → K x g cs sl L n M pc' ls st) : K x g cs sl L n M pc ls (vI a :: st) := by
  intro H locs la hR hS hl
  obtain ⟨off, h1, h2, h3⟩ := hd; subst h2
  exact lv_if_ne hx.1 hx.2.1 h1 h3 (fun q => kt (fun z => q (by rw [z]; exact zI_0)) H locs la hR hS hl) (fun q => kf ((zI_eq ⟨h, by omega⟩).mp (by rw [zI_0]; exact q)) H locs la hR hS hl)
theorem k_iflt (hx : Cx x g cc own nL R) {a : Int} (hd : Br cc pc (.ifCond .lt) pc' tgt) (h : -2147483648 ≤ a ∧ a < 2147483648) (kt : a < 0 → K x g cs sl L n M tgt ls st) (kf : ¬ a < 0 → K x g cs sl L n M pc' ls st) : K x g cs sl L n M pc ls (vI a :: st) := by
  intro H locs la hR hS hl
  obtain ⟨off, h1, h2, h3⟩ := hd; subst h2
  have e : zI a < 0 ↔ a < 0 := by rw [← zI_0]; exact zI_lt ⟨h, by omega⟩
  exact lv_if_lt hx.1 hx.2.1 h1 h3 (fun q => kt (e.mp q) H locs la hR hS hl) (fun q => kf (fun z => q (e.mpr z)) H locs la hR hS hl)
theorem k_ifge (hx : Cx x g cc own nL R) {a : Int} (hd : Br cc pc (.ifCond .ge) pc' tgt) (h : -2147483648 ≤ a ∧ a < 2147483648) (kt : 0 ≤ a → K x g cs sl L n M tgt ls st) (kf : ¬ 0 ≤ a → K x g cs sl L n M pc' ls st) : K x g cs sl L n M pc ls (vI a :: st) := by
  intro H locs la hR hS hl
  obtain ⟨off, h1, h2, h3⟩ := hd; subst h2
  have e : 0 ≤ zI a ↔ 0 ≤ a := by rw [← zI_0]; exact zI_le ⟨by omega, h⟩
  exact lv_if_ge hx.1 hx.2.1 h1 h3 (fun q => kt (e.mp q) H locs la hR hS hl) (fun q => kf (fun z => q (e.mpr z)) H locs la hR hS hl)
theorem k_ifle (hx : Cx x g cc own nL R) {a : Int} (hd : Br cc pc (.ifCond .le) pc' tgt) (h : -2147483648 ≤ a ∧ a < 2147483648) (kt : a ≤ 0 → K x g cs sl L n M tgt ls st) (kf : ¬ a ≤ 0 → K x g cs sl L n M pc' ls st) : K x g cs sl L n M pc ls (vI a :: st) := by
  intro H locs la hR hS hl
  obtain ⟨off, h1, h2, h3⟩ := hd; subst h2
  have e : zI a ≤ 0 ↔ a ≤ 0 := by rw [← zI_0]; exact zI_le ⟨h, by omega⟩
  exact lv_if_le hx.1 hx.2.1 h1 h3 (fun q => kt (e.mp q) H locs la hR hS hl) (fun q => kf (fun z => q (e.mpr z)) H locs la hR hS hl)
theorem k_icmp_eq (hx : Cx x g cc own nL R) {a b : Int} (hd : Br cc pc (.if_icmp .eq) pc' tgt) (h : (-2147483648 ≤ a ∧ a < 2147483648) ∧ (-2147483648 ≤ b ∧ b < 2147483648)) (kt : a = b → K x g cs sl L n M tgt ls st) (kf : ¬ a = b → K x g cs sl L n M pc' ls st) : K x g cs sl L n M pc ls (vI b :: vI a :: st) := by
  intro H locs la hR hS hl
  obtain ⟨off, h1, h2, h3⟩ := hd; subst h2
  exact lv_icmp_eq hx.1 hx.2.1 h1 h3 (fun q => kt ((zI_eq h).mp q) H locs la hR hS hl) (fun q => kf (fun z => q ((zI_eq h).mpr z)) H locs la hR hS hl)
theorem k_icmp_ne (hx : Cx x g cc own nL R) {a b : Int} (hd : Br cc pc (.if_icmp .ne) pc' tgt) (h : (-2147483648 ≤ a ∧ a < 2147483648) ∧ (-2147483648 ≤ b ∧ b < 2147483648)) (kt : ¬ a = b → K x g cs sl L n M tgt ls st) (kf : a = b → K x g cs sl L n M pc' ls st) : K x g cs sl L n M pc ls (vI b :: vI a :: st) := by
  intro H locs la hR hS hl
  obtain ⟨off, h1, h2, h3⟩ := hd; subst h2
  exact lv_icmp_ne hx.1 hx.2.1 h1 h3 (fun q => kt (fun z => q ((zI_eq h).mpr z)) H locs la hR hS hl) (fun q => kf ((zI_eq h).mp q) H locs la hR hS hl)
theorem k_icmp_lt (hx : Cx x g cc own nL R) {a b : Int} (hd : Br cc pc (.if_icmp .lt) pc' tgt) (h : (-2147483648 ≤ a ∧ a < 2147483648) ∧ (-2147483648 ≤ b ∧ b < 2147483648)) (kt : a < b → K x g cs sl L n M tgt ls st) (kf : ¬ a < b → K x g cs sl L n M pc' ls st) : K x g cs sl L n M pc ls (vI b :: vI a :: st) := by
  intro H locs la hR hS hl
  obtain ⟨off, h1, h2, h3⟩ := hd; subst h2
  exact lv_icmp_lt hx.1 hx.2.1 h1 h3 (fun q => kt ((zI_lt h).mp q) H locs la hR hS hl) (fun q => kf (fun z => q ((zI_lt h).mpr z)) H locs la hR hS hl)
theorem k_icmp_ge (hx : Cx x g cc own nL R) {a b : Int} (hd : Br cc pc (.if_icmp .ge) pc' tgt) (h : (-2147483648 ≤ a ∧ a < 2147483648) ∧ (-2147483648 ≤ b ∧ b < 2147483648)) (kt : b ≤ a → K x g cs sl L n M tgt ls st) (kf : ¬ b ≤ a → K x g cs sl L n M pc' ls st) : K x g cs sl L n M pc ls (vI b :: vI a :: st) := by
  intro H locs la hR hS hl
  obtain ⟨off, h1, h2, h3⟩ := hd; subst h2
  exact lv_icmp_ge hx.1 hx.2.1 h1 h3 (fun q => kt ((zI_le ⟨h.2, h.1⟩).mp q) H locs la hR hS hl) (fun q => kf (fun z => q ((zI_le ⟨h.2, h.1⟩).mpr z)) H locs la hR hS hl)
theorem k_icmp_gt (hx : Cx x g cc own nL R) {a b : Int} (hd : Br cc pc (.if_icmp .gt) pc' tgt) (h : (-2147483648 ≤ a ∧ a < 2147483648) ∧ (-2147483648 ≤ b ∧ b < 2147483648)) (kt : b < a → K x g cs sl L n M tgt ls st) (kf : ¬ b < a → K x g cs sl L n M pc' ls st) : K x g cs sl L n M pc ls (vI b :: vI a :: st) := by
  intro H locs la hR hS hl
  obtain ⟨off, h1, h2, h3⟩ := hd; subst h2
  exact lv_icmp_gt hx.1 hx.2.1 h1 h3 (fun q => kt ((zI_lt ⟨h.2, h.1⟩).mp q) H locs la hR hS hl) (fun q => kf (fun z => q ((zI_lt ⟨h.2, h.1⟩).mpr z)) H locs la hR hS hl)
theorem k_icmp_le (hx : Cx x g cc own nL R) {a b : Int} (hd : Br cc pc (.if_icmp .le) pc' tgt) (h : (-2147483648 ≤ a ∧ a < 2147483648) ∧ (-2147483648 ≤ b ∧ b < 2147483648)) (kt : a ≤ b → K x g cs sl L n M tgt ls st) (kf : ¬ a ≤ b → K x g cs sl L n M pc' ls st) : K x g cs sl L n M pc ls (vI b :: vI a :: st) := by
  intro H locs la hR hS hl
  obtain ⟨off, h1, h2, h3⟩ := hd; subst h2
  exact lv_icmp_le hx.1 hx.2.1 h1 h3 (fun q => kt ((zI_le h).mp q) H locs la hR hS hl) (fun q => kf (fun z => q ((zI_le h).mpr z)) H locs la hR hS hl)
theorem k_tsOut (hx : Cx x g cc own nL R) {dflt lo hi : Int} {offs : Array Int} {len : Nat} {a : Int} (hd : decode cc pc = .ok (.tableswitch dflt lo hi offs, len)) (ht : (pc : Int) + dflt = (tgt : Int)) (h : -2147483648 ≤ a ∧ a < 2147483648) (h2 : a < lo ∨ hi < a) (k : K x g cs sl L n M tgt ls st) : K x g cs sl L n M pc ls (vI a :: st) := by
  intro H locs la hR hS hl
  exact lv_tableOut hx.1 hx.2.1 hd (by rw [zI_int h]; exact h2) ht (k H locs la hR hS hl)
theorem k_tsIn (hx : Cx x g cc own nL R) {dflt lo hi off : Int} {offs : Array Int} {len : Nat} {a : Int} (hd : decode cc pc = .ok (.tableswitch dflt lo hi offs, len)) (h : -2147483648 ≤ a ∧ a < 2147483648) (h1 : ¬ a < lo) (h2 : ¬ hi < a) (ho : offs[(a - lo).toNat]? = some off) (ht : (pc : Int) + off = (tgt : Int)) (k : K x g cs sl L n M tgt ls st) : K x g cs sl L n M pc ls (vI a :: st) := by
  intro H locs la hR hS hl
  exact lv_tableIn hx.1 hx.2.1 hd (by rw [zI_int h]; exact h1) (by rw [zI_int h]; exact h2) (by rw [zI_int h]; exact ho) ht (k H locs la hR hS hl)
end ROWS
end
section
/-! rows of fields and arrays, of calls and ends, over the world at fixed places -/
/-- the entry 'index' of 'own' is the field k of class ci -/
def FL (own : String) (index ci k : Nat) (fin : Bool) (ft : FieldType) : Prop := ∃ (C : String) (T : u_T) (N : Nat) (ty : Nat → FieldType), classes[ci]? = some (C, T, N) ∧ k < N ∧ Cond.fieldLink own index (T k).1 (T k).2.1 (T k).2.2.1 ∈ TB ∧ (∀ w ∈ u_ws C T N, w ∈ TB) ∧ (∀ k, k < N → parseFieldDescriptor (T k).2.2.1 = some (ty k)) ∧ (∀ a, a < N → ∀ b, b < N → a ≠ b → (T a).2.1 ≠ (T b).2.1) ∧ (T k).2.2.2 = fin ∧ ty k = ft ∧ (T k).1 = C
theorem Rep.up {g : GE} {n : Nat} {L : Lay} {M : Mem} {H H1 : Heap} {i : Nat} {k z : Int} (hR : Rep g n L M H) (hs : H1.size = H.size) (ho : ∀ q : Nat, q ≠ g.1 + i → H1[q]? = H[q]?) (hi : i < n) (hc : cellAt g (g.1 + i) (up M i k z i) H1 (L i)) : Rep g n L (up M i k z) H1 := by
  refine ⟨by rw [hs]; exact hR.1, fun j hj => ?_⟩
  by_cases hji : j = i
  · subst hji; exact hc
  · rw [up_i hji]
    exact (hR.2 j hj).kept (ho _ (fun q => hji (by omega)))
/-- the layout of one cell changes, its numbers stay (a reference is put) -/
def upL (L : Lay) (i : Nat) (k : LK) : Lay := fun a => if a = i then k else L a
theorem upL_s {L : Lay} {i : Nat} {k : LK} : upL L i k i = k := if_pos rfl
theorem upL_n {L : Lay} {i a : Nat} {k : LK} (h : a ≠ i) : upL L i k a = L a := if_neg h
theorem Rep.upL {g : GE} {n : Nat} {L : Lay} {M : Mem} {H H1 : Heap} {i : Nat} {k : LK} (hR : Rep g n L M H) (hs : H1.size = H.size) (ho : ∀ q : Nat, q ≠ g.1 + i → H1[q]? = H[q]?) (hi : i < n) (hc : cellAt g (g.1 + i) (M i) H1 k) : Rep g n (upL L i k) M H1 := by
  refine ⟨by rw [hs]; exact hR.1, fun j hj => ?_⟩
  by_cases hji : j = i
  · subst hji; rw [upL_s]; exact hc
  · rw [upL_n hji]
    exact (hR.2 j hj).kept (ho _ (fun q => hji (by omega)))
theorem cellAt.obj {g : GE} {a : Nat} {m : Int → Int} {H : Heap} {ci : Nat} {fs : List FS} {C : String} {T : u_T} {N : Nat} (hc : classes[ci]? = some (C, T, N)) (h : cellAt g a m H (kO ci fs)) : t_OB a (g.2.1.1 ci) N (g.2.1.2 ci) H (fun k => fv g m k (fs.getD k none)) := by
  obtain ⟨r, h1, h2⟩ := h
  have hr : r = (C, T, N) := Option.some.inj (h1.symm.trans hc)
  subst hr
  exact h2
section ROWS2
variable {x : Fx} {g : GE} {cc : ByteArray} {own : String} {nL : Nat} {R : Room} {cs sl : Nat} {L : Lay} {n : Nat} {M : Mem} {pc pc' tgt : Nat} {ls : List (Nat × Value)} {st : List Value}
theorem k_get (hx : Cx x g cc own nL R) {index ci k i : Nat} {fin : Bool} {ft : FieldType} {fs : List FS} {v : Value} (hf : FL own index ci k fin ft) (hd : At cc pc (.getfield index) 3 pc') (hi : i < n) (hL : L i = kO ci fs) (hv : fv g (M i) k (fs.getD k none) = v) (kk : K x g cs sl L n M pc' ls (v :: st)) : K x g cs sl L n M pc ls (vR g i :: st) := by
  intro H locs la hR hS hl
  obtain ⟨hex, hcc, hnl, how, hts, hK, -⟩ := hx
  obtain ⟨C, T, N, ty, hc, hk, hlk, hin, hty, hnm, -⟩ := hf
  obtain ⟨hd1, hd2⟩ := hd
  subst hd2
  have hcell := hR.2 i hi
  rw [hL] at hcell
  obtain ⟨cell, q1, q2, q3, q4⟩ := cellAt.obj hc hcell
  obtain ⟨hSl, hfc, kC, hkC, hkind⟩ := hK.1.1 ci _ hc
  obtain ⟨cf, kf, fi, f, hi', hsl⟩ := hSl k hk
  refine W.getf hex hcc how (hts _ hlk) hi' (u_facts hfc hkC (u_lays hts hin hk) hi').1 q1 (by rw [q3]; exact fun h => by cases h) (v := v) ?_ rfl rfl hd1 (kk H locs la hR hS hl)
  rw [hsl, q4 k hk]
  exact congrArg some hv
theorem k_put (hx : Cx x g cc own nL R) {index ci k i : Nat} {fs : List FS} {z : Int} {ft : FieldType} (hf : FL own index ci k false ft) (hd : At cc pc (.putfield index) 3 pc') (hi : i < n) (hL : L i = kO ci fs) (hn : fs.getD k none = none) (hz : narrow ft (vI z) = vI z ∧ fits ft (vI z) = true) (kk : K x g cs sl L n (up M i k z) pc' ls st) : K x g cs sl L n M pc ls (vI z :: vR g i :: st) := by
  intro H locs la hR hS hl
  obtain ⟨hex, hcc, hnl, how, hts, hK, -⟩ := hx
  obtain ⟨C, T, N, ty, hc, hk, hlk, hin, hty, hnm, hfin, hft, -⟩ := hf
  obtain ⟨hd1, hd2⟩ := hd
  subst hd2
  have hcell := hR.2 i hi
  rw [hL] at hcell
  obtain ⟨cell, q1, q2, q3, q4⟩ := cellAt.obj hc hcell
  have hap := va_apart (own := own) hts hin ty hty hnm hK.1 hc
  obtain ⟨hSl, hfc, kC, hkC, hkind⟩ := hK.1.1 ci _ hc
  obtain ⟨cf, kf, fi, f, hi', hsl⟩ := hSl k hk
  have hlay := hts _ (hin _ (u_in_lay hk))
  unfold u_lay at hlay
  rw [if_neg (by rw [hfin]; decide)] at hlay
  have hst := (u_facts hfc hkC (u_lays hts hin hk) hi').1
  have h6 := u_store (v := vI z) hfc hkC hkind hlay hi' (by rw [hty k hk, hft]) hz.1 hz.2
  refine W.putK hex hcc (f := f) ⟨how, hts _ hlk, ⟨_, _, _, hi'⟩, hst⟩ (by rw [q2]; exact h6) q1 q3 (by rw [hsl]; exact k2_hasslot (q4 k hk)) rfl rfl hd1 fun H' e1 e2 e3 => ?_
  rw [hsl] at e1
  refine kk H' _ la (hR.up e2 e3 hi ?_) (hS.put e2 e3 (Nat.le_add_right _ _)) hl
  rw [hL]
  refine ⟨_, hc, t_OB.to ⟨_, e1, q2, q3, t_set q4 hap hk (vI z)⟩ (fun j hj => ?_)⟩
  by_cases hjk : j = k
  · subst hjk
    rw [hn]
    simp [updV, fv, up_s]
  · have e : ∀ o : FS, fv g (M i) j o = fv g (up M i k z i) j o := fun o => by
      match o with
      | none => exact congrArg vI (up_k (show (j : Int) ≠ (k : Int) by omega)).symm
      | some none => rfl
      | some (some q) => rfl
    simp [updV, hjk]
    exact e _
/-- a reference (or null) is put: into a field that is final, in a constructor -/
theorem k_putF (hx : Cx x g cc own nL R) (hin2 : (xT x).name = "<init>") {index ci k i : Nat} {fs fs' : List FS} {v : Value} {o : FS} {ft : FieldType} (hf : FL own index ci k true ft) (hown : ∀ q : vw_C, classes[ci]? = some q → q.1 = own) (hd : At cc pc (.putfield index) 3 pc') (hi : i < n) (hL : L i = kO ci fs) (hv : ∀ m : Int → Int, fv g m k o = v) (hz : narrow ft v = v ∧ fits ft v = true) (hs : fs' = fs.set k o) (hk2 : k < fs.length) (kk : K x g cs sl (upL L i (kO ci fs')) n M pc' ls st) : K x g cs sl L n M pc ls (v :: vR g i :: st) := by
  intro H locs la hR hS hl
  obtain ⟨hex, hcc, hnl, how, hts, hK, -⟩ := hx
  obtain ⟨C, T, N, ty, hc, hk, hlk, hin, hty, hnm, hfin, hft, hdecl⟩ := hf
  obtain ⟨hd1, hd2⟩ := hd
  subst hd2
  have hcell := hR.2 i hi
  rw [hL] at hcell
  obtain ⟨cell, q1, q2, q3, q4⟩ := cellAt.obj hc hcell
  have hap := va_apart (own := own) hts hin ty hty hnm hK.1 hc
  obtain ⟨hSl, hfc, kC, hkC, hkind⟩ := hK.1.1 ci _ hc
  obtain ⟨cf, kf, fi, f, hi', hsl⟩ := hSl k hk
  have hlay := hts _ (hin _ (u_in_lay hk))
  unfold u_lay at hlay
  rw [if_pos hfin] at hlay
  have hst := (u_facts hfc hkC (u_lays hts hin hk) hi').1
  have hcf : (xM x).cls = cf := by
    obtain ⟨_, _, c', _, _, _, -, -, hf', -, -, -, hown2, -⟩ := Cond.laysFinal_spec hlay
    have e1 : c' = cf := by have := hi'.symm.trans hf'; simp at this; exact this.1.symm
    rw [hdecl, show C = own from hown _ hc] at hown2
    rw [← e1]; exact Option.some.inj (how.symm.trans hown2)
  have h6 := u_fits hfc hkC hkind (Or.inr hlay) hi' (by rw [hty k hk, hft]) hz.1 hz.2
  refine W.putFinK hex hcc how (hts _ hlk) hi' hst hcf hin2 (by rw [q2]; exact h6) q1 q3 (by rw [hsl]; exact k2_hasslot (q4 k hk)) rfl rfl hd1 fun H' e1 e2 e3 => ?_
  rw [hsl] at e1
  refine kk H' _ la (hR.upL e2 e3 hi ?_) (hS.put e2 e3 (Nat.le_add_right _ _)) hl
  subst hs
  refine ⟨_, hc, t_OB.to ⟨_, e1, q2, q3, t_set q4 hap hk v⟩ (fun j hj => ?_)⟩
  by_cases hjk : j = k
  · subst hjk
    simp [updV, List.getD_eq_getElem?_getD, List.getElem?_set, hk2, hv]
  · simp [updV, hjk, List.getD_eq_getElem?_getD, List.getElem?_set, Ne.symm hjk]
theorem k_iald (hx : Cx x g cc own nL R) {i N : Nat} {z v : Int} (hd : At cc pc .iaload 1 pc') (hi : i < n) (hL : L i = kA 0 N) (hz : 0 ≤ z ∧ z < N) (hN : N ≤ 2147483647) (hv : M i z = v) (kk : K x g cs sl L n M pc' ls (vI v :: st)) : K x g cs sl L n M pc ls (vI z :: vR g i :: st) := by
  intro H locs la hR hS hl
  obtain ⟨hex, hcc, hnl, how, hts, hK, -⟩ := hx
  obtain ⟨hd1, hd2⟩ := hd
  subst hd2; subst hv
  have hcell := hR.2 i hi
  rw [hL] at hcell
  have hc := zI_clamp hz.1 hz.2 hN
  have h1 := zI_in hz.1 hz.2 hN
  refine W.iald (v := vI (M i z)) hex hcc hcell ((hK.1.2 0 _ rfl).1 N (fun j => vI (M i (j : Int)))) (fun q => by cases q) (by rw [arrV_size]; exact h1) (by rw [arrV_read _ _ (by omega), hc]) rfl rfl hd1 (kk H locs la hR hS hl)
theorem k_iast (hx : Cx x g cc own nL R) {i N : Nat} {z v : Int} (hd : At cc pc .iastore 1 pc') (hi : i < n) (hL : L i = kA 0 N) (hz : 0 ≤ z ∧ z < N) (hN : N ≤ 2147483647) (kk : K x g cs sl L n (up M i z v) pc' ls st) : K x g cs sl L n M pc ls (vI v :: vI z :: vR g i :: st) := by
  intro H locs la hR hS hl
  obtain ⟨hex, hcc, hnl, how, hts, hK, -⟩ := hx
  obtain ⟨hd1, hd2⟩ := hd
  subst hd2
  have hcell := hR.2 i hi
  rw [hL] at hcell
  have hc := zI_clamp hz.1 hz.2 hN
  have h1 := zI_in hz.1 hz.2 hN
  refine W.iast hex hcc hcell ((hK.1.2 0 _ rfl).1 N (fun j => vI (M i (j : Int)))) (fun q => by cases q) (by rw [arrV_size]; exact h1) rfl rfl hd1 (fun H' e1 e2 e3 => ?_)
  refine kk H' _ la (hR.up e2 e3 hi ?_) (hS.put e2 e3 (Nat.le_add_right _ _)) hl
  rw [hL]
  show H'[g.1 + i]? = some (arrV (g.2.2 0) N (fun j => vI (up M i z v i (j : Int))))
  rw [e1, arrV_store]
  congr 2
  funext j
  by_cases hj : j = (zI z).toNatClampNeg
  · subst hj
    simp [updV, hc, up_s]
  · have : (j : Int) ≠ z := fun q => hj (by omega)
    simp [updV, hj, up_k this]
theorem k_zald (hx : Cx x g cc own nL R) {i N : Nat} {z v : Int} (hd : At cc pc .baload 1 pc') (hi : i < n) (hL : L i = kA 1 N) (hz : 0 ≤ z ∧ z < N) (hN : N ≤ 2147483647) (hv : M i z = v) (kk : K x g cs sl L n M pc' ls (vI v :: st)) : K x g cs sl L n M pc ls (vI z :: vR g i :: st) := by
  intro H locs la hR hS hl
  obtain ⟨hex, hcc, hnl, how, hts, hK, -⟩ := hx
  obtain ⟨hd1, hd2⟩ := hd
  subst hd2; subst hv
  have hcell := hR.2 i hi
  rw [hL] at hcell
  have hc := zI_clamp hz.1 hz.2 hN
  have h1 := zI_in hz.1 hz.2 hN
  refine W.zald (v := vI (M i z)) hex hcc hcell ((hK.1.2 1 _ rfl).1 N (fun j => vI (M i (j : Int)))) (fun q => by cases q) (by rw [arrV_size]; exact h1) (by rw [arrV_read _ _ (by omega), hc]) rfl rfl hd1 (kk H locs la hR hS hl)
theorem k_zast (hx : Cx x g cc own nL R) {i N : Nat} {z v : Int} (hd : At cc pc .bastore 1 pc') (hi : i < n) (hL : L i = kA 1 N) (hz : 0 ≤ z ∧ z < N) (hN : N ≤ 2147483647) (hv : v = 0 ∨ v = 1) (kk : K x g cs sl L n (up M i z v) pc' ls st) : K x g cs sl L n M pc ls (vI v :: vI z :: vR g i :: st) := by
  intro H locs la hR hS hl
  obtain ⟨hex, hcc, hnl, how, hts, hK, -⟩ := hx
  obtain ⟨hd1, hd2⟩ := hd
  subst hd2
  have hcell := hR.2 i hi
  rw [hL] at hcell
  have hc := zI_clamp hz.1 hz.2 hN
  have h1 := zI_in hz.1 hz.2 hN
  have hnar : narrow .boolean (vI v) = vI v := by rcases hv with rfl | rfl <;> decide +kernel
  refine W.zast hex hcc hcell ((hK.1.2 1 _ rfl).1 N (fun j => vI (M i (j : Int)))) (fun q => by cases q) (by rw [arrV_size]; exact h1) rfl rfl hd1 (fun H' e1 e2 e3 => ?_)
  refine kk H' _ la (hR.up e2 e3 hi ?_) (hS.put e2 e3 (Nat.le_add_right _ _)) hl
  rw [hL]
  show H'[g.1 + i]? = some (arrV (g.2.2 1) N (fun j => vI (up M i z v i (j : Int))))
  rw [e1, hnar, arrV_store]
  congr 2
  funext j
  by_cases hj : j = (zI z).toNatClampNeg
  · subst hj
    simp [updV, hc, up_s]
  · have : (j : Int) ≠ z := fun q => hj (by omega)
    simp [updV, hj, up_k this]
theorem k_aald (hx : Cx x g cc own nL R) {i t q : Nat} {qs : List (Option Nat)} {z : Int} (hd : At cc pc .aaload 1 pc') (hi : i < n) (hL : L i = kR t qs) (ht : t = 2 ∨ t = 3) (hz : 0 ≤ z ∧ z < qs.length) (hN : qs.length ≤ 2147483647) (hv : qs.getD z.toNat none = some q) (kk : K x g cs sl L n M pc' ls (vR g q :: st)) : K x g cs sl L n M pc ls (vI z :: vR g i :: st) := by
  intro H locs la hR hS hl
  obtain ⟨hex, hcc, hnl, how, hts, hK, -⟩ := hx
  obtain ⟨hd1, hd2⟩ := hd
  subst hd2
  have hcell := hR.2 i hi
  rw [hL] at hcell
  have hc := zI_clamp hz.1 hz.2 hN
  have h1 := zI_in hz.1 hz.2 hN
  have hidx : (zI z).toNatClampNeg = z.toNat := by omega
  have har : ∀ f, (xS x).isArrayOf (arrV (g.2.2 t) qs.length f) (tyT t) := fun f => by
    rcases ht with rfl | rfl
    · exact (hK.1.2 2 _ rfl).1 _ f
    · exact (hK.1.2 3 _ rfl).1 _ f
  refine W.aald (v := vR g q) hex hcc hcell (har _) (by rcases ht with rfl | rfl <;> rfl) (fun q => by cases q) (by rw [arrV_size]; exact h1) ?_ rfl rfl hd1 (kk H locs la hR hS hl)
  rw [arrV_read _ _ (by omega), hidx, hv]
  rfl
theorem k_alen (hx : Cx x g cc own nL R) {i t N : Nat} (hd : At cc pc .arraylength 1 pc') (hi : i < n) (hL : L i = kA t N) (ht : t = 0 ∨ t = 1) (kk : K x g cs sl L n M pc' ls (vI N :: st)) : K x g cs sl L n M pc ls (vR g i :: st) := by
  intro H locs la hR hS hl
  obtain ⟨hex, hcc, hnl, how, hts, hK, -⟩ := hx
  obtain ⟨hd1, hd2⟩ := hd
  subst hd2
  have hcell := hR.2 i hi
  rw [hL] at hcell
  have har : ∀ f, (xS x).isArrayOf (arrV (g.2.2 t) N f) (tyT t) := fun f => by
    rcases ht with rfl | rfl
    · exact (hK.1.2 0 _ rfl).1 _ f
    · exact (hK.1.2 1 _ rfl).1 _ f
  refine W.alen (n := zI N) hex hcc hcell (har _) ?_ rfl rfl hd1 (kk H locs la hR hS hl)
  rw [arrV_size]
  exact (Int32.ofInt_eq_ofNat (n := N)).symm
theorem k_ldc2 (hx : Cx x g cc own nL R) {index : Nat} {v : Int64} (hd : At cc pc (.ldc2_w index) 3 pc') (hc : Cond.constantLong own index v ∈ TB) (kk : K x g cs sl L n M pc' ls (.long v :: st)) : K x g cs sl L n M pc ls st := by
  intro H locs la hR hS hl
  obtain ⟨hex, hcc, hnl, how, hts, hK, -⟩ := hx
  obtain ⟨hd1, hd2⟩ := hd
  subst hd2
  exact lv_ldc2 hex hcc how (hts _ hc) hd1 (kk H locs la hR hS hl)
end ROWS2
/-! contracts -/
abbrev mW (μ : Mu) : List Cond := .code μ.1 μ.2.1 μ.2.2.1 μ.2.2.2.1 :: TB
abbrev mRm (μ : Mu) (mc ms : Nat) : Room := { frames := μ.2.2.2.2.1, cells := mc, slots := ms, locals := μ.2.2.2.2.2 }
def Qz (g : GE) (post : Option Value → Lay → Nat → Mem → Prop) : Array Value → State → Outcome → State → Prop := fun _ st o t => (∃ (r : Option Value) (L : Lay) (n : Nat) (M : Mem), o = .returned r ∧ post r L n M ∧ Rep g n L M t.heap) ∧ va_F (fun q => g.1 ≤ q) st t
def Pz (g : GE) (av : List Value) (L : Lay) (n : Nat) (M : Mem) : Array Value → State → Prop := va_Pc av (fun U => Rep g n L M U.heap ∧ Kn g U)
def Ct (g : GE) (l : Launch) (μ : Mu) (mc ms : Nat) (av : List Value) (L : Lay) (n : Nat) (M : Mem) (post : Option Value → Lay → Nat → Mem → Prop) : Prop :=
  Met l μ.1 (mW μ) (mRm μ mc ms) (Pz g av L n M) (Qz g post) mc ms (fun q => g.1 ≤ q)
theorem Pz.blind {g : GE} {av : List Value} {L : Lay} {n : Nat} {M : Mem} : FrameBlind (Pz g av L n M) := fun _ _ _ _ q => ⟨q.1, q.2.1, q.2.2.eq rfl⟩
theorem Pz.of {g : GE} {av : List Value} {L : Lay} {n : Nat} {M : Mem} {s U : State} {H : Heap} (hR : Rep g n L M H) (hK : Kn g s) (hU : U.heap = H) (hW : s.WarmedH U.vm) : Pz g av L n M av.toArray U := ⟨rfl, by rw [hU]; exact hR, hK.warm hW⟩
/-- how the method ends -/
def Rx (x : Fx) (g : GE) (mc ms : Nat) (ret : Option FieldType) (post : Option Value → Lay → Nat → Mem → Prop) : Prop := (xT x).locks = false ∧ (xT x).sig.returnType = ret ∧ xQ x = MQ (xB x) (Qz g post) (xA x) (xS x) mc ms (fun q => g.1 ≤ q)
theorem Ct.of {g : GE} {l : Launch} {μ : Mu} {mc ms : Nat} {av : List Value} {L : Lay} {n : Nat} {M : Mem} {post : Option Value → Lay → Nat → Mem → Prop} (hy : plainName μ.1.cls = true) (hav : Nat.ble (lg_sl av).length μ.2.2.1 = true)
    (body : ∀ x : Fx, xL x = l → Cx x g μ.2.1 μ.1.cls μ.2.2.1 (mRm μ mc ms) → (xT x).name = μ.1.name → Rx x g mc ms μ.2.2.2.1 post → K x g 0 0 L n M 0 (lv_args 0 av) []) : Ct g l μ mc ms av L n M post := by
  refine Met.ofW (cc := μ.2.1) (maxL := μ.2.2.1) (ret := μ.2.2.2.1) hy rfl ?_
  intro p e s m args below meth c s₁ B hml hv
  obtain ⟨rfl, hR, hK⟩ := hv
  have hts := atoms_spec (ws := mW μ) B.pre
  have hl := lv_entry av (n := μ.2.2.1) (Nat.le_of_ble_eq_true hav)
  have k := body (p, l, e, mRm μ mc ms, s, m, av.toArray, below, meth, c, MQ below (Qz g post) av.toArray s mc ms (fun q => g.1 ≤ q)) rfl
    ⟨B.exec, B.bytes, hml, findClass_of_methodNamed B.named, fun w h => hts w (List.mem_cons_of_mem _ h), hK, rfl⟩ (name_of_methodNamed B.named B.method).1 ⟨B.notSynchronized, B.returns, rfl⟩
  rw [lg_entry_eq]
  refine k s.heap [] _ hR va_S.rf ?_
  show lv_has _ c.maxLocals _
  rw [hml]
  exact hl
section ENDS
variable {x : Fx} {g : GE} {cc : ByteArray} {own : String} {nL : Nat} {R : Room} {mc ms : Nat} {L : Lay} {n : Nat} {M : Mem} {pc : Nat} {ls : List (Nat × Value)} {post : Option Value → Lay → Nat → Mem → Prop}
theorem k_iret (hx : Cx x g cc own nL R) (hm : Rx x g mc ms (some .int) post) {z : Int} (hd : At cc pc .ireturn 1 (pc + 1)) (hp : post (some (vI z)) L n M) : K x g mc ms L n M pc ls [vI z] := by
  intro H locs la hR hS hl
  obtain ⟨h1, h2, h3⟩ := hm
  rw [h3]
  exact W.iret hx.1 hx.2.1 h2 (fun t ht _ => ⟨⟨_, L, n, M, rfl, hp, by rw [ht]; exact hR⟩, hS.F ht⟩) (fun q hq => hS.2.2 q hq) hd.1 (hlocks := h1)
theorem k_zret (hx : Cx x g cc own nL R) (hm : Rx x g mc ms (some .boolean) post) {z : Int} (hd : At cc pc .ireturn 1 (pc + 1)) (hz : z = 0 ∨ z = 1) (hp : post (some (vI z)) L n M) : K x g mc ms L n M pc ls [vI z] := by
  intro H locs la hR hS hl
  obtain ⟨h1, h2, h3⟩ := hm
  rw [h3]
  exact W.zret hx.1 hx.2.1 h2 (by rcases hz with rfl | rfl <;> decide +kernel) (fun t ht _ => ⟨⟨_, L, n, M, rfl, hp, by rw [ht]; exact hR⟩, hS.F ht⟩) (fun q hq => hS.2.2 q hq) hd.1 (hlocks := h1)
theorem k_vret (hx : Cx x g cc own nL R) (hm : Rx x g mc ms none post) (hd : At cc pc .return_ 1 (pc + 1)) (hp : post none L n M) : K x g mc ms L n M pc ls [] := by
  intro H locs la hR hS hl
  obtain ⟨h1, h2, h3⟩ := hm
  rw [h3]
  exact W.vret hx.1 hx.2.1 h2 (fun t ht _ => ⟨⟨_, L, n, M, rfl, hp, by rw [ht]; exact hR⟩, hS.F ht⟩) (fun q hq => hS.2.2 q hq) hd.1 (hlocks := h1)
end ENDS
/-! calls: what the tables say of a call's entry -/
def lkV (own : String) (index : Nat) (μ : Mu) (ci na : Nat) : Prop := Cond.methodLink own index μ.1 ∈ TB ∧ Cond.instanceMethod μ.1 ∈ TB ∧ Cond.selects μ.1.cls μ.1 μ.1 ∈ TB ∧ Cond.initialized μ.1.cls ∈ TB ∧ Cond.code μ.1 μ.2.1 μ.2.2.1 μ.2.2.2.1 ∈ TB ∧ (μ.1.cls = μ.1.cls ∧ μ.1.cls ≠ "java/lang/invoke/MethodHandle" ∧ μ.1.cls ≠ "java/lang/invoke/VarHandle" ∧ (parseMethodDescriptor μ.1.desc).map (fun d => d.parameters.length) = some na) ∧ ∃ T N, classes[ci]? = some (μ.1.cls, T, N)
def lkS (own : String) (index : Nat) (μ : Mu) (na : Nat) : Prop := Cond.methodLink own index μ.1 ∈ TB ∧ Cond.static μ.1 ∈ TB ∧ Cond.initialized μ.1.cls ∈ TB ∧ Cond.code μ.1 μ.2.1 μ.2.2.1 μ.2.2.2.1 ∈ TB ∧ (μ.1.cls ≠ "java/lang/invoke/MethodHandle" ∧ μ.1.cls ≠ "java/lang/invoke/VarHandle" ∧ (parseMethodDescriptor μ.1.desc).map (fun d => d.parameters.length) = some na)
def lkN (own : String) (index : Nat) (μ : Mu) (host : String) (na : Nat) : Prop := (own, index, μ.1, host) ∈ nestQ ∧ Cond.static μ.1 ∈ TB ∧ Cond.initialized μ.1.cls ∈ TB ∧ Cond.code μ.1 μ.2.1 μ.2.2.1 μ.2.2.2.1 ∈ TB ∧ (μ.1.cls ≠ "java/lang/invoke/MethodHandle" ∧ μ.1.cls ≠ "java/lang/invoke/VarHandle" ∧ (parseMethodDescriptor μ.1.desc).map (fun d => d.parameters.length) = some na)
def lkI (own : String) (index : Nat) (μ : Mu) (na : Nat) : Prop := Cond.methodLink own index μ.1 ∈ TB ∧ Cond.instanceMethod μ.1 ∈ TB ∧ Cond.initialized μ.1.cls ∈ TB ∧ Cond.code μ.1 μ.2.1 μ.2.2.1 μ.2.2.2.1 ∈ TB ∧ (μ.1.cls ≠ "java/lang/invoke/MethodHandle" ∧ μ.1.cls ≠ "java/lang/invoke/VarHandle" ∧ (parseMethodDescriptor μ.1.desc).map (fun d => d.parameters.length) = some na) ∧ μ.1.name = "<init>" ∧ μ.2.2.2.1 = none
theorem gdTB {μ : Mu} (h : Cond.code μ.1 μ.2.1 μ.2.2.1 μ.2.2.2.1 ∈ TB) : GoodIn TB (mW μ) := by
  intro w hw
  rcases List.mem_cons.mp hw with rfl | hw
  · exact ⟨h, gTB h⟩
  · exact ⟨hw, gTB hw⟩
section CALLS
variable {x : Fx} {g : GE} {cc : ByteArray} {own : String} {nL : Nat} {R : Room} {cs sl mc ms : Nat} {L : Lay} {n : Nat} {M : Mem} {pc pc' index na ci i : Nat} {ls : List (Nat × Value)} {st rest As av : List Value} {μ : Mu} {post : Option Value → Lay → Nat → Mem → Prop}
theorem k_run {H : Heap} {locs : List Loc} {la : Array Slot} {a : Array Value} (hx : Cx x g cc own nL R) (hS : va_S (fun q => g.1 ≤ q) (xS x).heap H locs) (hl : lv_has la (xC x).maxLocals ls) (hr : va_Run (xP x) (xL x) (xE x) (xR x) (xS x) (xM x) (xA x) (xB x) (xT x) (xC x) H locs cs sl mc ms (F0 (xM x) pc la st) rest (Qz g post a) (fun q => g.1 ≤ q))
    (kk : ∀ (r : Option Value) (L' : Lay) (n' : Nat) (M' : Mem), post r L' n' M' → K x g (cs + mc) (sl + ms) L' n' M' (pc + 3) ls (r.toList ++ rest)) : W (xP x) (xL x) (xE x) (xR x) (xS x) (xM x) (xA x) (xB x) (xT x) (xC x) H locs cs sl (xQ x) (F0 (xM x) pc la st) := by
  intro T hT X
  obtain ⟨v, st₀, t, T', Lc, h0, X', hL, e1, e2, ⟨⟨r, L', n', M', hv, hp, hR'⟩, hz, hk⟩, stp⟩ := hr T hT X
  cases hv
  rw [h0] at hz hk
  rw [← e1] at hz hk hR'
  obtain ⟨t2, a1, b1⟩ := kk _ L' n' M' hp T'.heap (locs ++ Lc) la hR'
    ⟨Nat.le_trans hS.1 hz, fun q h1 h2 => (hk q (Nat.lt_of_lt_of_le h1 hS.1) h2).trans (hS.2.1 q h1 h2), fun q hq => by
      rcases List.mem_append.mp hq with h | h
      · exact hS.2.2 q h
      · exact hL q h⟩ hl T' rfl X'
  exact ⟨t2, stp t2 a1, b1⟩
theorem k_callV (hx : Cx x g cc own nL R) (hlk : lkV own index μ ci na) (hd : At cc pc (.invokevirtual index) 3 pc') (hC : Ct g (xL x) μ mc ms (vR g i :: As) L n M post) {fs : List FS} (hi : i < n) (hL : L i = kO ci fs) (hn : As.length = na) (hst : st = As.reverse ++ vR g i :: rest) (hcat : Nat.ble (rest.map fun v => v.category).sum 8 = true) (hroom : Nat.ble (μ.2.2.2.2.1 + 1) R.frames = true ∧ Nat.ble (8 + (μ.2.2.1 + 11) + μ.2.2.2.2.2) R.locals = true) (hcell : cs + mc ≤ R.cells ∧ sl + ms ≤ R.slots)
    (kk : ∀ (r : Option Value) (L' : Lay) (n' : Nat) (M' : Mem), post r L' n' M' → K x g (cs + mc) (sl + ms) L' n' M' pc' ls (r.toList ++ rest)) : K x g cs sl L n M pc ls st := by
  intro H locs la hR hS hl
  obtain ⟨hd1, hd2⟩ := hd
  subst hd2
  obtain ⟨w1, w2, w3, w4, w5, hdesc, T, N, hc⟩ := hlk
  have hts := hx.2.2.2.2.1
  have hRm : xR x = R := hx.2.2.2.2.2.2
  have hcell0 := hR.2 i hi
  rw [hL] at hcell0
  obtain ⟨cell, q1, q2, q3, q4⟩ := cellAt.obj hc hcell0
  have hfc := (hx.2.2.2.2.2.1.1.1 ci _ hc).2.1
  refine k_run (a := (vR g i :: As).toArray) hx hS hl ?_ kk
  refine va_runV (own := own) (C := μ.1.cls) (cc := cc) (nL := nL) (Ts := TB) (n := na) (ret := μ.2.2.2.1) (bytes := μ.2.1) (maxL := μ.2.2.1) ⟨hx.1, hx.2.1, hx.2.2.1, hx.2.2.2.1, hts⟩ hC ?_ ⟨Pz.blind, ⟨cell, q1, by rw [q3]; rfl, by rw [q2]; exact hfc⟩, fun U hU hW => Pz.of hR hx.2.2.2.2.2.1 hU hW⟩ rfl hn (hl.1.trans hx.2.2.1) hst (lv_room (pc := pc) (m := xM x) (ls := la) (rest := st) (Nat.le_of_ble_eq_true hcat)) hd1 (by rw [hRm]; exact hcell)
  refine cwV na hts ?_ rfl rfl rfl hdesc (by rw [hRm]; exact ⟨Nat.le_of_ble_eq_true hroom.1, Nat.le_of_ble_eq_true hroom.2⟩)
  intro w hw
  rcases List.mem_append.mp hw with h | h
  · have h2 : w ∈ TB := by
      rcases List.mem_cons.mp h with rfl | h; exact w1
      rcases List.mem_cons.mp h with rfl | h; exact w2
      rcases List.mem_cons.mp h with rfl | h; exact w3
      rcases List.mem_cons.mp h with rfl | h; exact w4
      cases h
    exact ⟨h2, gTB h2⟩
  · exact gdTB w5 w h
theorem k_callS (hx : Cx x g cc own nL R) (hlk : lkS own index μ na) (hd : At cc pc (.invokestatic index) 3 pc') (hC : Ct g (xL x) μ mc ms As L n M post) (hn : As.length = na) (hst : st = As.reverse ++ rest) (hcat : Nat.ble (rest.map fun v => v.category).sum 8 = true) (hroom : Nat.ble (μ.2.2.2.2.1 + 1) R.frames = true ∧ Nat.ble (8 + (μ.2.2.1 + 11) + μ.2.2.2.2.2) R.locals = true) (hcell : cs + mc ≤ R.cells ∧ sl + ms ≤ R.slots)
    (kk : ∀ (r : Option Value) (L' : Lay) (n' : Nat) (M' : Mem), post r L' n' M' → K x g (cs + mc) (sl + ms) L' n' M' pc' ls (r.toList ++ rest)) : K x g cs sl L n M pc ls st := by
  intro H locs la hR hS hl
  obtain ⟨hd1, hd2⟩ := hd
  subst hd2
  obtain ⟨w1, w2, w3, w4, hdesc⟩ := hlk
  have hts := hx.2.2.2.2.1
  have hRm : xR x = R := hx.2.2.2.2.2.2
  refine k_run (a := As.toArray) hx hS hl ?_ kk
  refine va_runS (own := own) (cc := cc) (nL := nL) (Ts := TB) (n := na) (ret := μ.2.2.2.1) (bytes := μ.2.1) (maxL := μ.2.2.1) ⟨hx.1, hx.2.1, hx.2.2.1, hx.2.2.2.1, hts⟩ hC ?_ ⟨Pz.blind, fun U hU hW => Pz.of hR hx.2.2.2.2.2.1 hU hW⟩ rfl hn (hl.1.trans hx.2.2.1) hst (lv_room (pc := pc) (m := xM x) (ls := la) (rest := st) (Nat.le_of_ble_eq_true hcat)) hd1 (by rw [hRm]; exact hcell)
  refine va_cwS na hts ?_ rfl rfl rfl hdesc (by rw [hRm]; exact ⟨Nat.le_of_ble_eq_true hroom.1, Nat.le_of_ble_eq_true hroom.2⟩)
  intro w hw
  rcases List.mem_append.mp hw with h | h
  · have h2 : w ∈ TB := by
      rcases List.mem_cons.mp h with rfl | h; exact w1
      rcases List.mem_cons.mp h with rfl | h; exact w2
      rcases List.mem_cons.mp h with rfl | h; exact w3
      cases h
    exact ⟨h2, gTB h2⟩
  · exact gdTB w4 w h
theorem k_callN {host : String} (hx : Cx x g cc own nL R) (hlk : lkN own index μ host na) (hd : At cc pc (.invokestatic index) 3 pc') (hC : Ct g (xL x) μ mc ms As L n M post) (hn : As.length = na) (hst : st = As.reverse ++ rest) (hcat : Nat.ble (rest.map fun v => v.category).sum 8 = true) (hroom : Nat.ble (μ.2.2.2.2.1 + 1) R.frames = true ∧ Nat.ble (8 + (μ.2.2.1 + 11) + μ.2.2.2.2.2) R.locals = true) (hcell : cs + mc ≤ R.cells ∧ sl + ms ≤ R.slots)
    (kk : ∀ (r : Option Value) (L' : Lay) (n' : Nat) (M' : Mem), post r L' n' M' → K x g (cs + mc) (sl + ms) L' n' M' pc' ls (r.toList ++ rest)) : K x g cs sl L n M pc ls st := by
  intro H locs la hR hS hl
  obtain ⟨hd1, hd2⟩ := hd
  subst hd2
  obtain ⟨w1, w2, w3, w4, hdesc⟩ := hlk
  have hts := hx.2.2.2.2.1
  have hRm : xR x = R := hx.2.2.2.2.2.2
  refine k_run (a := As.toArray) hx hS hl ?_ kk
  refine va_runSN (own := own) (host := host) (cc := cc) (nL := nL) (Ts := TB) (n := na) (ret := μ.2.2.2.1) (bytes := μ.2.1) (maxL := μ.2.2.1) ⟨hx.1, hx.2.1, hx.2.2.1, hx.2.2.2.1, hts⟩ hC ?_ ⟨Pz.blind, fun U hU hW => Pz.of hR hx.2.2.2.2.2.1 hU hW⟩ rfl hn (hl.1.trans hx.2.2.1) hst (lv_room (pc := pc) (m := xM x) (ls := la) (rest := st) (Nat.le_of_ble_eq_true hcat)) hd1 (by rw [hRm]; exact hcell)
  exact ⟨va_cnB na hts (gdTB w4) rfl rfl rfl (hx.2.2.2.2.2.1.2.1 _ w1) (hts _ w3) hdesc (by rw [hRm]; exact ⟨Nat.le_of_ble_eq_true hroom.1, Nat.le_of_ble_eq_true hroom.2⟩), hts _ w2, trivial⟩
theorem k_callI (hx : Cx x g cc own nL R) (hlk : lkI own index μ na) (hd : At cc pc (.invokespecial index) 3 pc') (hC : Ct g (xL x) μ mc ms (vR g i :: As) L n M post) (hn : As.length = na) (hst : st = As.reverse ++ vR g i :: rest) (hcat : Nat.ble (rest.map fun v => v.category).sum 8 = true) (hroom : Nat.ble (μ.2.2.2.2.1 + 1) R.frames = true ∧ Nat.ble (8 + (μ.2.2.1 + 11) + μ.2.2.2.2.2) R.locals = true) (hcell : cs + mc ≤ R.cells ∧ sl + ms ≤ R.slots)
    (kk : ∀ (r : Option Value) (L' : Lay) (n' : Nat) (M' : Mem), post r L' n' M' → K x g (cs + mc) (sl + ms) L' n' M' pc' ls (r.toList ++ rest)) : K x g cs sl L n M pc ls st := by
  intro H locs la hR hS hl
  obtain ⟨hd1, hd2⟩ := hd
  subst hd2
  obtain ⟨w1, w2, w3, w4, hdesc, hnm, hret⟩ := hlk
  have hts := hx.2.2.2.2.1
  have hRm : xR x = R := hx.2.2.2.2.2.2
  refine k_run (a := (vR g i :: As).toArray) hx hS hl ?_ kk
  obtain ⟨y, by', mL, rt, fr, lo⟩ := μ
  dsimp only at hret
  subst hret
  refine va_runI (own := own) (cc := cc) (nL := nL) (Ts := TB) (n := na) (bytes := by') (maxL := mL) ⟨hx.1, hx.2.1, hx.2.2.1, hx.2.2.2.1, hts⟩ hC ?_ ⟨Pz.blind, fun U hU hW => Pz.of hR hx.2.2.2.2.2.1 hU hW⟩ rfl hn (hl.1.trans hx.2.2.1) hst (lv_room (pc := pc) (m := xM x) (ls := la) (rest := st) (Nat.le_of_ble_eq_true hcat)) hd1 (by rw [hRm]; exact hcell)
  exact cwI na hts (gdTB w4) rfl rfl rfl (hts _ w3) (hts _ w1) (hts _ w2) hnm hdesc (by rw [hRm]; exact ⟨Nat.le_of_ble_eq_true hroom.1, Nat.le_of_ble_eq_true hroom.2⟩)
end CALLS
end

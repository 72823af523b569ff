section
-- begun from the skeleton and the printed names: the tables' words
-- ===== PART A: goes FIRST, ahead of the names: the tables' words, and 'selects' of the private methods out of them =====
/-- a private method of a class that the tables say can be made, by its rows of tables_1 -/
def lw_okq (q : MethodName × Nat) : Prop := (q.1.cls ≠ "java/lang/invoke/MethodHandle" ∧ q.1.cls ≠ "java/lang/invoke/VarHandle") ∧ Cond.instantiable q.1.cls q.2 ∈ tables_1 ∧ Cond.privateMethod q.1 ∈ tables_1 ∧ Cond.instanceMethod q.1 ∈ tables_1
theorem lw_p0 : lw_okq (⟨"PostRopes", "laySwapped", "(LPostRopes$Word;II)V"⟩, 9) := ⟨⟨by decide +kernel, by decide +kernel⟩, List.mem_of_getElem? (i := 11) (by decide +kernel), List.mem_of_getElem? (i := 257) (by decide +kernel), List.mem_of_getElem? (i := 258) (by decide +kernel)⟩
theorem lw_p1 : lw_okq (⟨"PostRopes", "addSwapped", "(III)V"⟩, 9) := ⟨⟨by decide +kernel, by decide +kernel⟩, List.mem_of_getElem? (i := 11) (by decide +kernel), List.mem_of_getElem? (i := 262) (by decide +kernel), List.mem_of_getElem? (i := 263) (by decide +kernel)⟩
theorem lw_p2 : lw_okq (⟨"PostRopes", "layPulled", "(LPostRopes$Word;)V"⟩, 9) := ⟨⟨by decide +kernel, by decide +kernel⟩, List.mem_of_getElem? (i := 11) (by decide +kernel), List.mem_of_getElem? (i := 366) (by decide +kernel), List.mem_of_getElem? (i := 367) (by decide +kernel)⟩
theorem lw_p3 : lw_okq (⟨"PostRopes", "layLoop", "(LPostRopes$Word;)V"⟩, 9) := ⟨⟨by decide +kernel, by decide +kernel⟩, List.mem_of_getElem? (i := 11) (by decide +kernel), List.mem_of_getElem? (i := 370) (by decide +kernel), List.mem_of_getElem? (i := 371) (by decide +kernel)⟩
theorem lw_p4 : lw_okq (⟨"PostRopes", "fallsWithout", "(LPostRopes$Word;I)Z"⟩, 9) := ⟨⟨by decide +kernel, by decide +kernel⟩, List.mem_of_getElem? (i := 11) (by decide +kernel), List.mem_of_getElem? (i := 396) (by decide +kernel), List.mem_of_getElem? (i := 397) (by decide +kernel)⟩
theorem lw_p5 : lw_okq (⟨"PostRopes", "layLeast", "(LPostRopes$Word;LPostRopes$Word;)V"⟩, 9) := ⟨⟨by decide +kernel, by decide +kernel⟩, List.mem_of_getElem? (i := 11) (by decide +kernel), List.mem_of_getElem? (i := 415) (by decide +kernel), List.mem_of_getElem? (i := 416) (by decide +kernel)⟩
theorem lw_p6 : lw_okq (⟨"PostRopes", "areAlike", "(LPostRopes$Word;LPostRopes$Word;)Z"⟩, 9) := ⟨⟨by decide +kernel, by decide +kernel⟩, List.mem_of_getElem? (i := 11) (by decide +kernel), List.mem_of_getElem? (i := 460) (by decide +kernel), List.mem_of_getElem? (i := 461) (by decide +kernel)⟩
theorem lw_p7 : lw_okq (⟨"PostRopes", "doCommute", "(LPostRopes$Word;LPostRopes$Word;)Z"⟩, 9) := ⟨⟨by decide +kernel, by decide +kernel⟩, List.mem_of_getElem? (i := 11) (by decide +kernel), List.mem_of_getElem? (i := 468) (by decide +kernel), List.mem_of_getElem? (i := 469) (by decide +kernel)⟩
theorem lw_p8 : lw_okq (⟨"PostRopes", "arePulledTheSame", "(LPostRopes$Word;LPostRopes$Word;)Z"⟩, 9) := ⟨⟨by decide +kernel, by decide +kernel⟩, List.mem_of_getElem? (i := 11) (by decide +kernel), List.mem_of_getElem? (i := 472) (by decide +kernel), List.mem_of_getElem? (i := 473) (by decide +kernel)⟩
theorem lw_p9 : lw_okq (⟨"PostRopes", "crossingsIfSwapped", "(II)I"⟩, 9) := ⟨⟨by decide +kernel, by decide +kernel⟩, List.mem_of_getElem? (i := 11) (by decide +kernel), List.mem_of_getElem? (i := 510) (by decide +kernel), List.mem_of_getElem? (i := 511) (by decide +kernel)⟩
theorem lw_p10 : lw_okq (⟨"PostRopesModel", "record", "()V"⟩, 20) := ⟨⟨by decide +kernel, by decide +kernel⟩, List.mem_of_getElem? (i := 539) (by decide +kernel), List.mem_of_getElem? (i := 613) (by decide +kernel), List.mem_of_getElem? (i := 614) (by decide +kernel)⟩
theorem lw_p11 : lw_okq (⟨"PostRopesModel", "many", "(I)I"⟩, 20) := ⟨⟨by decide +kernel, by decide +kernel⟩, List.mem_of_getElem? (i := 539) (by decide +kernel), List.mem_of_getElem? (i := 624) (by decide +kernel), List.mem_of_getElem? (i := 625) (by decide +kernel)⟩
theorem lw_p12 : lw_okq (⟨"PostRopesModel", "layPulled", "(IZ)V"⟩, 20) := ⟨⟨by decide +kernel, by decide +kernel⟩, List.mem_of_getElem? (i := 539) (by decide +kernel), List.mem_of_getElem? (i := 636) (by decide +kernel), List.mem_of_getElem? (i := 637) (by decide +kernel)⟩
theorem lw_p13 : lw_okq (⟨"PostRopesModel", "pushRope", "(IZ)V"⟩, 20) := ⟨⟨by decide +kernel, by decide +kernel⟩, List.mem_of_getElem? (i := 539) (by decide +kernel), List.mem_of_getElem? (i := 640) (by decide +kernel), List.mem_of_getElem? (i := 641) (by decide +kernel)⟩
theorem lw_p14 : lw_okq (⟨"PostRopesModel", "at", "(II)I"⟩, 20) := ⟨⟨by decide +kernel, by decide +kernel⟩, List.mem_of_getElem? (i := 539) (by decide +kernel), List.mem_of_getElem? (i := 644) (by decide +kernel), List.mem_of_getElem? (i := 645) (by decide +kernel)⟩
theorem lw_p15 : lw_okq (⟨"PostRopesModel", "push", "(I)V"⟩, 20) := ⟨⟨by decide +kernel, by decide +kernel⟩, List.mem_of_getElem? (i := 539) (by decide +kernel), List.mem_of_getElem? (i := 651) (by decide +kernel), List.mem_of_getElem? (i := 652) (by decide +kernel)⟩
def lw_privs_1 : List (MethodName × Nat) := [(⟨"PostRopes", "laySwapped", "(LPostRopes$Word;II)V"⟩, 9), (⟨"PostRopes", "addSwapped", "(III)V"⟩, 9), (⟨"PostRopes", "layPulled", "(LPostRopes$Word;)V"⟩, 9), (⟨"PostRopes", "layLoop", "(LPostRopes$Word;)V"⟩, 9), (⟨"PostRopes", "fallsWithout", "(LPostRopes$Word;I)Z"⟩, 9), (⟨"PostRopes", "layLeast", "(LPostRopes$Word;LPostRopes$Word;)V"⟩, 9), (⟨"PostRopes", "areAlike", "(LPostRopes$Word;LPostRopes$Word;)Z"⟩, 9), (⟨"PostRopes", "doCommute", "(LPostRopes$Word;LPostRopes$Word;)Z"⟩, 9), (⟨"PostRopes", "arePulledTheSame", "(LPostRopes$Word;LPostRopes$Word;)Z"⟩, 9), (⟨"PostRopes", "crossingsIfSwapped", "(II)I"⟩, 9), (⟨"PostRopesModel", "record", "()V"⟩, 20), (⟨"PostRopesModel", "many", "(I)I"⟩, 20), (⟨"PostRopesModel", "layPulled", "(IZ)V"⟩, 20), (⟨"PostRopesModel", "pushRope", "(IZ)V"⟩, 20), (⟨"PostRopesModel", "at", "(II)I"⟩, 20), (⟨"PostRopesModel", "push", "(I)V"⟩, 20)]
theorem lw_r1 : ∀ q ∈ lw_privs_1, lw_okq q := List.forall_mem_cons.mpr ⟨lw_p0, List.forall_mem_cons.mpr ⟨lw_p1, List.forall_mem_cons.mpr ⟨lw_p2, List.forall_mem_cons.mpr ⟨lw_p3, List.forall_mem_cons.mpr ⟨lw_p4, List.forall_mem_cons.mpr ⟨lw_p5, List.forall_mem_cons.mpr ⟨lw_p6, List.forall_mem_cons.mpr ⟨lw_p7, List.forall_mem_cons.mpr ⟨lw_p8, List.forall_mem_cons.mpr ⟨lw_p9, List.forall_mem_cons.mpr ⟨lw_p10, List.forall_mem_cons.mpr ⟨lw_p11, List.forall_mem_cons.mpr ⟨lw_p12, List.forall_mem_cons.mpr ⟨lw_p13, List.forall_mem_cons.mpr ⟨lw_p14, List.forall_mem_cons.mpr ⟨lw_p15, fun _ h => absurd h List.not_mem_nil⟩⟩⟩⟩⟩⟩⟩⟩⟩⟩⟩⟩⟩⟩⟩⟩
theorem lw_p16 : lw_okq (⟨"PostRopesModel", "take", "(I)V"⟩, 20) := ⟨⟨by decide +kernel, by decide +kernel⟩, List.mem_of_getElem? (i := 539) (by decide +kernel), List.mem_of_getElem? (i := 658) (by decide +kernel), List.mem_of_getElem? (i := 659) (by decide +kernel)⟩
theorem lw_p17 : lw_okq (⟨"PostRopesModel", "laySwapped", "(III)V"⟩, 20) := ⟨⟨by decide +kernel, by decide +kernel⟩, List.mem_of_getElem? (i := 539) (by decide +kernel), List.mem_of_getElem? (i := 678) (by decide +kernel), List.mem_of_getElem? (i := 679) (by decide +kernel)⟩
theorem lw_p18 : lw_okq (⟨"PostRopesModel", "pushSwapped", "(III)V"⟩, 20) := ⟨⟨by decide +kernel, by decide +kernel⟩, List.mem_of_getElem? (i := 539) (by decide +kernel), List.mem_of_getElem? (i := 682) (by decide +kernel), List.mem_of_getElem? (i := 683) (by decide +kernel)⟩
theorem lw_p19 : lw_okq (⟨"PostRopesModel", "all", "()I"⟩, 20) := ⟨⟨by decide +kernel, by decide +kernel⟩, List.mem_of_getElem? (i := 539) (by decide +kernel), List.mem_of_getElem? (i := 686) (by decide +kernel), List.mem_of_getElem? (i := 687) (by decide +kernel)⟩
theorem lw_p20 : lw_okq (⟨"PostRopesModel", "read", "()I"⟩, 20) := ⟨⟨by decide +kernel, by decide +kernel⟩, List.mem_of_getElem? (i := 539) (by decide +kernel), List.mem_of_getElem? (i := 703) (by decide +kernel), List.mem_of_getElem? (i := 704) (by decide +kernel)⟩
theorem lw_p21 : lw_okq (⟨"PostRopesModel", "tell", "(I)V"⟩, 20) := ⟨⟨by decide +kernel, by decide +kernel⟩, List.mem_of_getElem? (i := 539) (by decide +kernel), List.mem_of_getElem? (i := 707) (by decide +kernel), List.mem_of_getElem? (i := 708) (by decide +kernel)⟩
theorem lw_p22 : lw_okq (⟨"PostRopesModel", "turnTold", "(I)V"⟩, 20) := ⟨⟨by decide +kernel, by decide +kernel⟩, List.mem_of_getElem? (i := 539) (by decide +kernel), List.mem_of_getElem? (i := 711) (by decide +kernel), List.mem_of_getElem? (i := 712) (by decide +kernel)⟩
theorem lw_p23 : lw_okq (⟨"PostRopesModel", "repeat", "(II)V"⟩, 20) := ⟨⟨by decide +kernel, by decide +kernel⟩, List.mem_of_getElem? (i := 539) (by decide +kernel), List.mem_of_getElem? (i := 715) (by decide +kernel), List.mem_of_getElem? (i := 716) (by decide +kernel)⟩
theorem lw_p24 : lw_okq (⟨"PostRopesModel", "tellAgain", "(IIZ)V"⟩, 20) := ⟨⟨by decide +kernel, by decide +kernel⟩, List.mem_of_getElem? (i := 539) (by decide +kernel), List.mem_of_getElem? (i := 719) (by decide +kernel), List.mem_of_getElem? (i := 720) (by decide +kernel)⟩
theorem lw_p25 : lw_okq (⟨"PostRopesModel", "layForm", "(IZ)V"⟩, 20) := ⟨⟨by decide +kernel, by decide +kernel⟩, List.mem_of_getElem? (i := 539) (by decide +kernel), List.mem_of_getElem? (i := 735) (by decide +kernel), List.mem_of_getElem? (i := 736) (by decide +kernel)⟩
theorem lw_p26 : lw_okq (⟨"PostRopesModel", "tighten", "()V"⟩, 20) := ⟨⟨by decide +kernel, by decide +kernel⟩, List.mem_of_getElem? (i := 539) (by decide +kernel), List.mem_of_getElem? (i := 739) (by decide +kernel), List.mem_of_getElem? (i := 740) (by decide +kernel)⟩
theorem lw_p27 : lw_okq (⟨"PostRopesModel", "isLess", "(II)Z"⟩, 20) := ⟨⟨by decide +kernel, by decide +kernel⟩, List.mem_of_getElem? (i := 539) (by decide +kernel), List.mem_of_getElem? (i := 743) (by decide +kernel), List.mem_of_getElem? (i := 744) (by decide +kernel)⟩
theorem lw_p28 : lw_okq (⟨"PostRopesModel", "ofWord", "(I)I"⟩, 20) := ⟨⟨by decide +kernel, by decide +kernel⟩, List.mem_of_getElem? (i := 539) (by decide +kernel), List.mem_of_getElem? (i := 747) (by decide +kernel), List.mem_of_getElem? (i := 748) (by decide +kernel)⟩
theorem lw_p29 : lw_okq (⟨"PostRopesModel", "power", "()I"⟩, 20) := ⟨⟨by decide +kernel, by decide +kernel⟩, List.mem_of_getElem? (i := 539) (by decide +kernel), List.mem_of_getElem? (i := 751) (by decide +kernel), List.mem_of_getElem? (i := 752) (by decide +kernel)⟩
theorem lw_p30 : lw_okq (⟨"PostRopesModel", "posts", "()I"⟩, 20) := ⟨⟨by decide +kernel, by decide +kernel⟩, List.mem_of_getElem? (i := 539) (by decide +kernel), List.mem_of_getElem? (i := 755) (by decide +kernel), List.mem_of_getElem? (i := 756) (by decide +kernel)⟩
theorem lw_p31 : lw_okq (⟨"PostRopesModel", "firstPair", "(I)I"⟩, 20) := ⟨⟨by decide +kernel, by decide +kernel⟩, List.mem_of_getElem? (i := 539) (by decide +kernel), List.mem_of_getElem? (i := 759) (by decide +kernel), List.mem_of_getElem? (i := 760) (by decide +kernel)⟩
def lw_privs_2 : List (MethodName × Nat) := [(⟨"PostRopesModel", "take", "(I)V"⟩, 20), (⟨"PostRopesModel", "laySwapped", "(III)V"⟩, 20), (⟨"PostRopesModel", "pushSwapped", "(III)V"⟩, 20), (⟨"PostRopesModel", "all", "()I"⟩, 20), (⟨"PostRopesModel", "read", "()I"⟩, 20), (⟨"PostRopesModel", "tell", "(I)V"⟩, 20), (⟨"PostRopesModel", "turnTold", "(I)V"⟩, 20), (⟨"PostRopesModel", "repeat", "(II)V"⟩, 20), (⟨"PostRopesModel", "tellAgain", "(IIZ)V"⟩, 20), (⟨"PostRopesModel", "layForm", "(IZ)V"⟩, 20), (⟨"PostRopesModel", "tighten", "()V"⟩, 20), (⟨"PostRopesModel", "isLess", "(II)Z"⟩, 20), (⟨"PostRopesModel", "ofWord", "(I)I"⟩, 20), (⟨"PostRopesModel", "power", "()I"⟩, 20), (⟨"PostRopesModel", "posts", "()I"⟩, 20), (⟨"PostRopesModel", "firstPair", "(I)I"⟩, 20)]
theorem lw_r2 : ∀ q ∈ lw_privs_2, lw_okq q := List.forall_mem_cons.mpr ⟨lw_p16, List.forall_mem_cons.mpr ⟨lw_p17, List.forall_mem_cons.mpr ⟨lw_p18, List.forall_mem_cons.mpr ⟨lw_p19, List.forall_mem_cons.mpr ⟨lw_p20, List.forall_mem_cons.mpr ⟨lw_p21, List.forall_mem_cons.mpr ⟨lw_p22, List.forall_mem_cons.mpr ⟨lw_p23, List.forall_mem_cons.mpr ⟨lw_p24, List.forall_mem_cons.mpr ⟨lw_p25, List.forall_mem_cons.mpr ⟨lw_p26, List.forall_mem_cons.mpr ⟨lw_p27, List.forall_mem_cons.mpr ⟨lw_p28, List.forall_mem_cons.mpr ⟨lw_p29, List.forall_mem_cons.mpr ⟨lw_p30, List.forall_mem_cons.mpr ⟨lw_p31, fun _ h => absurd h List.not_mem_nil⟩⟩⟩⟩⟩⟩⟩⟩⟩⟩⟩⟩⟩⟩⟩⟩
theorem lw_p32 : lw_okq (⟨"PostRopesModel", "widths", "()I"⟩, 20) := ⟨⟨by decide +kernel, by decide +kernel⟩, List.mem_of_getElem? (i := 539) (by decide +kernel), List.mem_of_getElem? (i := 763) (by decide +kernel), List.mem_of_getElem? (i := 764) (by decide +kernel)⟩
theorem lw_p33 : lw_okq (⟨"PostRopesModel", "fallsBy", "(II)Z"⟩, 20) := ⟨⟨by decide +kernel, by decide +kernel⟩, List.mem_of_getElem? (i := 539) (by decide +kernel), List.mem_of_getElem? (i := 783) (by decide +kernel), List.mem_of_getElem? (i := 784) (by decide +kernel)⟩
theorem lw_p34 : lw_okq (⟨"PostRopesModel", "isFelling", "(II)Z"⟩, 20) := ⟨⟨by decide +kernel, by decide +kernel⟩, List.mem_of_getElem? (i := 539) (by decide +kernel), List.mem_of_getElem? (i := 791) (by decide +kernel), List.mem_of_getElem? (i := 792) (by decide +kernel)⟩
theorem lw_p35 : lw_okq (⟨"PostRopesModel", "keepForm", "()V"⟩, 20) := ⟨⟨by decide +kernel, by decide +kernel⟩, List.mem_of_getElem? (i := 539) (by decide +kernel), List.mem_of_getElem? (i := 802) (by decide +kernel), List.mem_of_getElem? (i := 803) (by decide +kernel)⟩
theorem lw_p36 : lw_okq (⟨"PostRopesModel", "areFormsAlike", "()Z"⟩, 20) := ⟨⟨by decide +kernel, by decide +kernel⟩, List.mem_of_getElem? (i := 539) (by decide +kernel), List.mem_of_getElem? (i := 806) (by decide +kernel), List.mem_of_getElem? (i := 807) (by decide +kernel)⟩
theorem lw_p37 : lw_okq (⟨"PostRopesModel", "areSame", "(IIII)Z"⟩, 20) := ⟨⟨by decide +kernel, by decide +kernel⟩, List.mem_of_getElem? (i := 539) (by decide +kernel), List.mem_of_getElem? (i := 810) (by decide +kernel), List.mem_of_getElem? (i := 811) (by decide +kernel)⟩
theorem lw_p38 : lw_okq (⟨"PostRopesModel", "swapped", "(II)I"⟩, 20) := ⟨⟨by decide +kernel, by decide +kernel⟩, List.mem_of_getElem? (i := 539) (by decide +kernel), List.mem_of_getElem? (i := 822) (by decide +kernel), List.mem_of_getElem? (i := 823) (by decide +kernel)⟩
def lw_privs_3 : List (MethodName × Nat) := [(⟨"PostRopesModel", "widths", "()I"⟩, 20), (⟨"PostRopesModel", "fallsBy", "(II)Z"⟩, 20), (⟨"PostRopesModel", "isFelling", "(II)Z"⟩, 20), (⟨"PostRopesModel", "keepForm", "()V"⟩, 20), (⟨"PostRopesModel", "areFormsAlike", "()Z"⟩, 20), (⟨"PostRopesModel", "areSame", "(IIII)Z"⟩, 20), (⟨"PostRopesModel", "swapped", "(II)I"⟩, 20)]
theorem lw_r3 : ∀ q ∈ lw_privs_3, lw_okq q := List.forall_mem_cons.mpr ⟨lw_p32, List.forall_mem_cons.mpr ⟨lw_p33, List.forall_mem_cons.mpr ⟨lw_p34, List.forall_mem_cons.mpr ⟨lw_p35, List.forall_mem_cons.mpr ⟨lw_p36, List.forall_mem_cons.mpr ⟨lw_p37, List.forall_mem_cons.mpr ⟨lw_p38, fun _ h => absurd h List.not_mem_nil⟩⟩⟩⟩⟩⟩⟩
def lw_privs : List (MethodName × Nat) := lw_privs_1 ++ (lw_privs_2 ++ (lw_privs_3))
def lw_tbl : List Cond := k2_sels lw_privs ++ tables_1
theorem lw_privs_ok : ∀ q ∈ lw_privs, lw_okq q := by
  show ∀ q ∈ lw_privs_1 ++ (lw_privs_2 ++ (lw_privs_3)), lw_okq q
  exact List.forall_mem_append.mpr ⟨lw_r1, List.forall_mem_append.mpr ⟨lw_r2, lw_r3⟩⟩

def TB : List Cond := lw_tbl.filter goodWord
theorem gTB {w : Cond} (h : w ∈ TB) : (w.onTables && w.keeps) = true ∨ ∃ ty, w = .arrayClass ty := good_of_word (List.mem_filter.mp h).2
theorem tb_of {w : Cond} (i : Nat) (h : lw_tbl[i]? = some w) (g : goodWord w = true) : w ∈ TB := List.mem_filter.mpr ⟨List.mem_of_getElem? h, g⟩
def RX0 : String := "PostRopes$Pad"
def RX1 : String := "PostRopes$Past"
def RX2 : String := "PostRopes$Scissors"
def RX3 : String := "PostRopes$State"
def RX4 : String := "PostRopes$Word"
def RX5 : String := "PostRopes"
def RX6 : String := "PostRopesModel"
def RJ6 : String := "java/lang/Integer"
def RJ9 : String := "java/lang/Math"
def RL : String := "PostRopesLaw"
def TX0 : u_T := fun k => match k with
  | 0 => ("PostRopes$Pad", "codes", "[I", true)
  | 1 => ("PostRopes$Pad", "length", "I", false)
  | 2 => ("PostRopes$Pad", "signs", "[I", true)
  | 3 => ("PostRopes$Pad", "starts", "[I", true)
  | 4 => ("PostRopes$Pad", "middles", "[I", true)
  | _ => ("PostRopes$Pad", "depth", "I", false)
def tyX0 : Nat → FieldType := fun k => match k with
  | 0 => .array (.int)
  | 1 => .int
  | 2 => .array (.int)
  | 3 => .array (.int)
  | 4 => .array (.int)
  | _ => .int
theorem nmX0 : ∀ a, a < 6 → ∀ b, b < 6 → a ≠ b → (TX0 a).2.1 ≠ (TX0 b).2.1 := by decide +kernel
theorem tyX0_ok : ∀ k, k < 6 → parseFieldDescriptor (TX0 k).2.2.1 = some (tyX0 k) := by decide +kernel
theorem inX0 : ∀ w ∈ u_ws RX0 TX0 6, w ∈ TB := by decide +kernel
def TX1 : u_T := fun k => match k with
  | 0 => ("PostRopes$Past", "states", "[LPostRopes$State;", true)
  | 1 => ("PostRopes$Past", "next", "I", false)
  | _ => ("PostRopes$Past", "kept", "I", false)
def tyX1 : Nat → FieldType := fun k => match k with
  | 0 => .array (.object "PostRopes$State")
  | 1 => .int
  | _ => .int
theorem nmX1 : ∀ a, a < 3 → ∀ b, b < 3 → a ≠ b → (TX1 a).2.1 ≠ (TX1 b).2.1 := by decide +kernel
theorem tyX1_ok : ∀ k, k < 3 → parseFieldDescriptor (TX1 k).2.2.1 = some (tyX1 k) := by decide +kernel
theorem inX1 : ∀ w ∈ u_ws RX1 TX1 3, w ∈ TB := by decide +kernel
def TX2 : u_T := fun k => match k with
  | 0 => ("PostRopes$Scissors", "stays", "[I", true)
  | 1 => ("PostRopes$Scissors", "nextOpposite", "[I", true)
  | 2 => ("PostRopes$Scissors", "nextSame", "[I", true)
  | _ => ("PostRopes$Scissors", "nextOf", "[I", true)
def tyX2 : Nat → FieldType := fun k => match k with
  | 0 => .array (.int)
  | 1 => .array (.int)
  | 2 => .array (.int)
  | _ => .array (.int)
theorem nmX2 : ∀ a, a < 4 → ∀ b, b < 4 → a ≠ b → (TX2 a).2.1 ≠ (TX2 b).2.1 := by decide +kernel
theorem tyX2_ok : ∀ k, k < 4 → parseFieldDescriptor (TX2 k).2.2.1 = some (tyX2 k) := by decide +kernel
theorem inX2 : ∀ w ∈ u_ws RX2 TX2 4, w ∈ TB := by decide +kernel
def TX3 : u_T := fun k => match k with
  | 0 => ("PostRopes$State", "widths", "[I", true)
  | _ => ("PostRopes$State", "ropes", "[LPostRopes$Word;", true)
def tyX3 : Nat → FieldType := fun k => match k with
  | 0 => .array (.int)
  | _ => .array (.object "PostRopes$Word")
theorem nmX3 : ∀ a, a < 2 → ∀ b, b < 2 → a ≠ b → (TX3 a).2.1 ≠ (TX3 b).2.1 := by decide +kernel
theorem tyX3_ok : ∀ k, k < 2 → parseFieldDescriptor (TX3 k).2.2.1 = some (tyX3 k) := by decide +kernel
theorem inX3 : ∀ w ∈ u_ws RX3 TX3 2, w ∈ TB := by decide +kernel
def TX4 : u_T := fun k => match k with
  | 0 => ("PostRopes$Word", "crossings", "[I", true)
  | _ => ("PostRopes$Word", "length", "I", false)
def tyX4 : Nat → FieldType := fun k => match k with
  | 0 => .array (.int)
  | _ => .int
theorem nmX4 : ∀ a, a < 2 → ∀ b, b < 2 → a ≠ b → (TX4 a).2.1 ≠ (TX4 b).2.1 := by decide +kernel
theorem tyX4_ok : ∀ k, k < 2 → parseFieldDescriptor (TX4 k).2.2.1 = some (tyX4 k) := by decide +kernel
theorem inX4 : ∀ w ∈ u_ws RX4 TX4 2, w ∈ TB := by decide +kernel
def TX5 : u_T := fun k => match k with
  | 0 => ("PostRopes", "now", "LPostRopes$State;", true)
  | 1 => ("PostRopes", "past", "LPostRopes$Past;", true)
  | 2 => ("PostRopes", "slots", "[LPostRopes$State;", true)
  | 3 => ("PostRopes", "filled", "[Z", true)
  | 4 => ("PostRopes", "pad", "LPostRopes$Pad;", true)
  | 5 => ("PostRopes", "scissors", "LPostRopes$Scissors;", true)
  | 6 => ("PostRopes", "work", "LPostRopes$Word;", true)
  | 7 => ("PostRopes", "spare", "LPostRopes$Word;", true)
  | _ => ("PostRopes", "loop", "LPostRopes$Word;", true)
def tyX5 : Nat → FieldType := fun k => match k with
  | 0 => .object "PostRopes$State"
  | 1 => .object "PostRopes$Past"
  | 2 => .array (.object "PostRopes$State")
  | 3 => .array (.boolean)
  | 4 => .object "PostRopes$Pad"
  | 5 => .object "PostRopes$Scissors"
  | 6 => .object "PostRopes$Word"
  | 7 => .object "PostRopes$Word"
  | _ => .object "PostRopes$Word"
theorem nmX5 : ∀ a, a < 9 → ∀ b, b < 9 → a ≠ b → (TX5 a).2.1 ≠ (TX5 b).2.1 := by decide +kernel
theorem tyX5_ok : ∀ k, k < 9 → parseFieldDescriptor (TX5 k).2.2.1 = some (tyX5 k) := by decide +kernel
theorem inX5 : ∀ w ∈ u_ws RX5 TX5 9, w ∈ TB := by decide +kernel
def TX6 : u_T := fun k => match k with
  | 0 => ("PostRopesModel", "now", "[I", true)
  | 1 => ("PostRopesModel", "history", "[I", true)
  | 2 => ("PostRopesModel", "undos", "I", false)
  | 3 => ("PostRopesModel", "saved", "[I", true)
  | 4 => ("PostRopesModel", "isSaved", "[Z", true)
  | 5 => ("PostRopesModel", "pad", "[I", true)
  | 6 => ("PostRopesModel", "signs", "I", false)
  | 7 => ("PostRopesModel", "work", "[I", true)
  | 8 => ("PostRopesModel", "length", "I", false)
  | 9 => ("PostRopesModel", "form", "[I", true)
  | 10 => ("PostRopesModel", "formed", "I", false)
  | 11 => ("PostRopesModel", "form2", "[I", true)
  | 12 => ("PostRopesModel", "formed2", "I", false)
  | 13 => ("PostRopesModel", "told", "[I", true)
  | 14 => ("PostRopesModel", "tolds", "I", false)
  | 15 => ("PostRopesModel", "isLong", "Z", false)
  | 16 => ("PostRopesModel", "openKind", "[I", true)
  | 17 => ("PostRopesModel", "openAt", "[I", true)
  | 18 => ("PostRopesModel", "openSecond", "[I", true)
  | _ => ("PostRopesModel", "left", "[I", true)
def tyX6 : Nat → FieldType := fun k => match k with
  | 0 => .array (.int)
  | 1 => .array (.int)
  | 2 => .int
  | 3 => .array (.int)
  | 4 => .array (.boolean)
  | 5 => .array (.int)
  | 6 => .int
  | 7 => .array (.int)
  | 8 => .int
  | 9 => .array (.int)
  | 10 => .int
  | 11 => .array (.int)
  | 12 => .int
  | 13 => .array (.int)
  | 14 => .int
  | 15 => .boolean
  | 16 => .array (.int)
  | 17 => .array (.int)
  | 18 => .array (.int)
  | _ => .array (.int)
theorem nmX6 : ∀ a, a < 20 → ∀ b, b < 20 → a ≠ b → (TX6 a).2.1 ≠ (TX6 b).2.1 := by decide +kernel
theorem tyX6_ok : ∀ k, k < 20 → parseFieldDescriptor (TX6 k).2.2.1 = some (tyX6 k) := by decide +kernel
theorem inX6 : ∀ w ∈ u_ws RX6 TX6 20, w ∈ TB := by decide +kernel
abbrev classes : List vw_C := [(RX0, TX0, 6), (RX1, TX1, 3), (RX2, TX2, 4), (RX3, TX3, 2), (RX4, TX4, 2), (RX5, TX5, 9), (RX6, TX6, 20)]
abbrev Mu : Type := MethodName × ByteArray × Nat × Option FieldType × Nat × Nat
abbrev cX0_init : ByteArray := prog_2_method_1_code
def yX0_init : MethodName := ⟨RX0, "<init>", "()V"⟩
abbrev μX0_init : Mu := (yX0_init, cX0_init, 1, none, 1, 16)
abbrev cX0_charactersIn : ByteArray := prog_2_method_2_code
def yX0_charactersIn : MethodName := ⟨RX0, "charactersIn", "(J)I"⟩
abbrev μX0_charactersIn : Mu := (yX0_charactersIn, cX0_charactersIn, 6, (some .int), 0, 0)
abbrev cX0_append : ByteArray := prog_2_method_3_code
def yX0_append : MethodName := ⟨RX0, "append", "(JI)V"⟩
abbrev μX0_append : Mu := (yX0_append, cX0_append, 5, none, 0, 0)
abbrev cX0_clear : ByteArray := prog_2_method_4_code
def yX0_clear : MethodName := ⟨RX0, "clear", "()V"⟩
abbrev μX0_clear : Mu := (yX0_clear, cX0_clear, 1, none, 0, 0)
abbrev cX0_crossingOf : ByteArray := prog_2_method_5_code
def yX0_crossingOf : MethodName := ⟨RX0, "crossingOf", "(I)I"⟩
abbrev μX0_crossingOf : Mu := (yX0_crossingOf, cX0_crossingOf, 1, (some .int), 0, 0)
abbrev cX0_isTimes : ByteArray := prog_2_method_6_code
def yX0_isTimes : MethodName := ⟨RX0, "isTimes", "(I)Z"⟩
abbrev μX0_isTimes : Mu := (yX0_isTimes, cX0_isTimes, 1, (some .boolean), 0, 0)
abbrev cX0_findFault : ByteArray := prog_2_method_7_code
def yX0_findFault : MethodName := ⟨RX0, "findFault", "()I"⟩
abbrev μX0_findFault : Mu := (yX0_findFault, cX0_findFault, 3, (some .int), 3, 66)
abbrev cX0_stageAfter : ByteArray := prog_2_method_8_code
def yX0_stageAfter : MethodName := ⟨RX0, "stageAfter", "(II)I"⟩
abbrev μX0_stageAfter : Mu := (yX0_stageAfter, cX0_stageAfter, 3, (some .int), 2, 44)
abbrev cX0_stageAfterClosing : ByteArray := prog_2_method_9_code
def yX0_stageAfterClosing : MethodName := ⟨RX0, "stageAfterClosing", "(I)I"⟩
abbrev μX0_stageAfterClosing : Mu := (yX0_stageAfterClosing, cX0_stageAfterClosing, 4, (some .int), 1, 21)
abbrev cX0_open : ByteArray := prog_2_method_10_code
def yX0_open : MethodName := ⟨RX0, "open", "(II)Z"⟩
abbrev μX0_open : Mu := (yX0_open, cX0_open, 3, (some .boolean), 0, 0)
abbrev cX0_innermostSign : ByteArray := prog_2_method_11_code
def yX0_innermostSign : MethodName := ⟨RX0, "innermostSign", "()I"⟩
abbrev μX0_innermostSign : Mu := (yX0_innermostSign, cX0_innermostSign, 1, (some .int), 0, 0)
abbrev cX0_passComma : ByteArray := prog_2_method_12_code
def yX0_passComma : MethodName := ⟨RX0, "passComma", "(I)V"⟩
abbrev μX0_passComma : Mu := (yX0_passComma, cX0_passComma, 2, none, 0, 0)
abbrev cX0_readInto : ByteArray := prog_2_method_13_code
def yX0_readInto : MethodName := ⟨RX0, "readInto", "(LPostRopes$Word;)Z"⟩
abbrev μX0_readInto : Mu := (yX0_readInto, cX0_readInto, 6, (some .boolean), 3, 68)
abbrev cX0_addTurnedHalves : ByteArray := prog_2_method_14_code
def yX0_addTurnedHalves : MethodName := ⟨RX0, "addTurnedHalves", "(LPostRopes$Word;II)Z"⟩
abbrev μX0_addTurnedHalves : Mu := (yX0_addTurnedHalves, cX0_addTurnedHalves, 4, (some .boolean), 2, 45)
abbrev cX1_init : ByteArray := prog_3_method_1_code
def yX1_init : MethodName := ⟨RX1, "<init>", "()V"⟩
abbrev μX1_init : Mu := (yX1_init, cX1_init, 2, none, 3, 63)
abbrev cX1_remember : ByteArray := prog_3_method_2_code
def yX1_remember : MethodName := ⟨RX1, "remember", "(LPostRopes$State;)V"⟩
abbrev μX1_remember : Mu := (yX1_remember, cX1_remember, 2, none, 4, 87)
abbrev cX1_bringBack : ByteArray := prog_3_method_3_code
def yX1_bringBack : MethodName := ⟨RX1, "bringBack", "(LPostRopes$State;)V"⟩
abbrev μX1_bringBack : Mu := (yX1_bringBack, cX1_bringBack, 2, none, 4, 87)
abbrev cX2_init : ByteArray := prog_4_method_1_code
def yX2_init : MethodName := ⟨RX2, "<init>", "()V"⟩
abbrev μX2_init : Mu := (yX2_init, cX2_init, 1, none, 1, 16)
abbrev cX2_fewestCuts : ByteArray := prog_4_method_2_code
def yX2_fewestCuts : MethodName := ⟨RX2, "fewestCuts", "(LPostRopes$Word;)I"⟩
abbrev μX2_fewestCuts : Mu := (yX2_fewestCuts, cX2_fewestCuts, 5, (some .int), 3, 67)
abbrev cX2_linkPlaces : ByteArray := prog_4_method_3_code
def yX2_linkPlaces : MethodName := ⟨RX2, "linkPlaces", "(LPostRopes$Word;I)V"⟩
abbrev μX2_linkPlaces : Mu := (yX2_linkPlaces, cX2_linkPlaces, 5, none, 1, 22)
abbrev cX2_mostStaying : ByteArray := prog_4_method_4_code
def yX2_mostStaying : MethodName := ⟨RX2, "mostStaying", "(II)I"⟩
abbrev μX2_mostStaying : Mu := (yX2_mostStaying, cX2_mostStaying, 5, (some .int), 2, 43)
abbrev cX2_staying : ByteArray := prog_4_method_5_code
def yX2_staying : MethodName := ⟨RX2, "staying", "(II)I"⟩
abbrev μX2_staying : Mu := (yX2_staying, cX2_staying, 3, (some .int), 1, 21)
abbrev cX2_placeOf : ByteArray := prog_4_method_6_code
def yX2_placeOf : MethodName := ⟨RX2, "placeOf", "(II)I"⟩
abbrev μX2_placeOf : Mu := (yX2_placeOf, cX2_placeOf, 2, (some .int), 0, 0)
abbrev cX3_init : ByteArray := prog_5_method_1_code
def yX3_init : MethodName := ⟨RX3, "<init>", "()V"⟩
abbrev μX3_init : Mu := (yX3_init, cX3_init, 2, none, 2, 42)
abbrev cX3_copyFrom : ByteArray := prog_5_method_2_code
def yX3_copyFrom : MethodName := ⟨RX3, "copyFrom", "(LPostRopes$State;)V"⟩
abbrev μX3_copyFrom : Mu := (yX3_copyFrom, cX3_copyFrom, 3, none, 3, 65)
abbrev cX3_allCrossings : ByteArray := prog_5_method_3_code
def yX3_allCrossings : MethodName := ⟨RX3, "allCrossings", "()I"⟩
abbrev μX3_allCrossings : Mu := (yX3_allCrossings, cX3_allCrossings, 3, (some .int), 0, 0)
abbrev cX3_widthsAlong : ByteArray := prog_5_method_4_code
def yX3_widthsAlong : MethodName := ⟨RX3, "widthsAlong", "(LPostRopes$Word;)I"⟩
abbrev μX3_widthsAlong : Mu := (yX3_widthsAlong, cX3_widthsAlong, 5, (some .int), 1, 21)
abbrev cX4_init : ByteArray := prog_6_method_1_code
def yX4_init : MethodName := ⟨RX4, "<init>", "(I)V"⟩
abbrev μX4_init : Mu := (yX4_init, cX4_init, 2, none, 1, 21)
abbrev cX4_at : ByteArray := prog_6_method_2_code
def yX4_at : MethodName := ⟨RX4, "at", "(I)I"⟩
abbrev μX4_at : Mu := (yX4_at, cX4_at, 2, (some .int), 0, 0)
abbrev cX4_add : ByteArray := prog_6_method_3_code
def yX4_add : MethodName := ⟨RX4, "add", "(I)Z"⟩
abbrev μX4_add : Mu := (yX4_add, cX4_add, 2, (some .boolean), 0, 0)
abbrev cX4_addPulled : ByteArray := prog_6_method_4_code
def yX4_addPulled : MethodName := ⟨RX4, "addPulled", "(I)Z"⟩
abbrev μX4_addPulled : Mu := (yX4_addPulled, cX4_addPulled, 2, (some .boolean), 1, 21)
abbrev cX4_clear : ByteArray := prog_6_method_5_code
def yX4_clear : MethodName := ⟨RX4, "clear", "()V"⟩
abbrev μX4_clear : Mu := (yX4_clear, cX4_clear, 1, none, 0, 0)
abbrev cX4_dropLast : ByteArray := prog_6_method_6_code
def yX4_dropLast : MethodName := ⟨RX4, "dropLast", "(I)V"⟩
abbrev μX4_dropLast : Mu := (yX4_dropLast, cX4_dropLast, 2, none, 1, 21)
abbrev cX4_copyFrom : ByteArray := prog_6_method_7_code
def yX4_copyFrom : MethodName := ⟨RX4, "copyFrom", "(LPostRopes$Word;)V"⟩
abbrev μX4_copyFrom : Mu := (yX4_copyFrom, cX4_copyFrom, 2, none, 2, 44)
abbrev cX4_addWord : ByteArray := prog_6_method_8_code
def yX4_addWord : MethodName := ⟨RX4, "addWord", "(LPostRopes$Word;)V"⟩
abbrev μX4_addWord : Mu := (yX4_addWord, cX4_addWord, 4, none, 1, 21)
abbrev cX4_addTurned : ByteArray := prog_6_method_9_code
def yX4_addTurned : MethodName := ⟨RX4, "addTurned", "(LPostRopes$Word;)V"⟩
abbrev μX4_addTurned : Mu := (yX4_addTurned, cX4_addTurned, 2, none, 2, 45)
abbrev cX4_addTurnedPart : ByteArray := prog_6_method_10_code
def yX4_addTurnedPart : MethodName := ⟨RX4, "addTurnedPart", "(LPostRopes$Word;II)Z"⟩
abbrev μX4_addTurnedPart : Mu := (yX4_addTurnedPart, cX4_addTurnedPart, 5, (some .boolean), 1, 21)
abbrev cX4_repeatFrom : ByteArray := prog_6_method_11_code
def yX4_repeatFrom : MethodName := ⟨RX4, "repeatFrom", "(II)Z"⟩
abbrev μX4_repeatFrom : Mu := (yX4_repeatFrom, cX4_repeatFrom, 6, (some .boolean), 1, 21)
abbrev cX4_turnFrom : ByteArray := prog_6_method_12_code
def yX4_turnFrom : MethodName := ⟨RX4, "turnFrom", "(I)V"⟩
abbrev μX4_turnFrom : Mu := (yX4_turnFrom, cX4_turnFrom, 5, none, 1, 21)
abbrev cX4_cancelPairs : ByteArray := prog_6_method_13_code
def yX4_cancelPairs : MethodName := ⟨RX4, "cancelPairs", "()I"⟩
abbrev μX4_cancelPairs : Mu := (yX4_cancelPairs, cX4_cancelPairs, 3, (some .int), 2, 42)
abbrev cX4_tighten : ByteArray := prog_6_method_14_code
def yX4_tighten : MethodName := ⟨RX4, "tighten", "()V"⟩
abbrev μX4_tighten : Mu := (yX4_tighten, cX4_tighten, 4, none, 3, 64)
abbrev cX4_atRound : ByteArray := prog_6_method_15_code
def yX4_atRound : MethodName := ⟨RX4, "atRound", "(I)I"⟩
abbrev μX4_atRound : Mu := (yX4_atRound, cX4_atRound, 2, (some .int), 1, 21)
abbrev cX4_leastStart : ByteArray := prog_6_method_16_code
def yX4_leastStart : MethodName := ⟨RX4, "leastStart", "()I"⟩
abbrev μX4_leastStart : Mu := (yX4_leastStart, cX4_leastStart, 3, (some .int), 3, 67)
abbrev cX4_isLessFrom : ByteArray := prog_6_method_17_code
def yX4_isLessFrom : MethodName := ⟨RX4, "isLessFrom", "(II)Z"⟩
abbrev μX4_isLessFrom : Mu := (yX4_isLessFrom, cX4_isLessFrom, 6, (some .boolean), 2, 42)
abbrev cX4_copyFromStart : ByteArray := prog_6_method_18_code
def yX4_copyFromStart : MethodName := ⟨RX4, "copyFromStart", "(LPostRopes$Word;I)V"⟩
abbrev μX4_copyFromStart : Mu := (yX4_copyFromStart, cX4_copyFromStart, 4, none, 2, 42)
abbrev cX4_power : ByteArray := prog_6_method_19_code
def yX4_power : MethodName := ⟨RX4, "power", "()I"⟩
abbrev μX4_power : Mu := (yX4_power, cX4_power, 2, (some .int), 2, 43)
abbrev cX4_repeatsAfter : ByteArray := prog_6_method_20_code
def yX4_repeatsAfter : MethodName := ⟨RX4, "repeatsAfter", "(I)Z"⟩
abbrev μX4_repeatsAfter : Mu := (yX4_repeatsAfter, cX4_repeatsAfter, 3, (some .boolean), 1, 21)
abbrev cX4_posts : ByteArray := prog_6_method_21_code
def yX4_posts : MethodName := ⟨RX4, "posts", "()I"⟩
abbrev μX4_posts : Mu := (yX4_posts, cX4_posts, 3, (some .int), 1, 20)
abbrev cX4_firstPair : ByteArray := prog_6_method_22_code
def yX4_firstPair : MethodName := ⟨RX4, "firstPair", "()I"⟩
abbrev μX4_firstPair : Mu := (yX4_firstPair, cX4_firstPair, 2, (some .int), 1, 20)
abbrev cX4_windings : ByteArray := prog_6_method_23_code
def yX4_windings : MethodName := ⟨RX4, "windings", "(I)I"⟩
abbrev μX4_windings : Mu := (yX4_windings, cX4_windings, 4, (some .int), 1, 20)
abbrev cX4_isSameAs : ByteArray := prog_6_method_24_code
def yX4_isSameAs : MethodName := ⟨RX4, "isSameAs", "(LPostRopes$Word;)Z"⟩
abbrev μX4_isSameAs : Mu := (yX4_isSameAs, cX4_isSameAs, 3, (some .boolean), 1, 21)
abbrev cX5_init : ByteArray := prog_1_method_1_code
def yX5_init : MethodName := ⟨RX5, "<init>", "()V"⟩
abbrev μX5_init : Mu := (yX5_init, cX5_init, 2, none, 4, 84)
abbrev cX5_width : ByteArray := prog_1_method_2_code
def yX5_width : MethodName := ⟨RX5, "width", "(II)I"⟩
abbrev μX5_width : Mu := (yX5_width, cX5_width, 4, (some .int), 5, 108)
abbrev cX5_cross : ByteArray := prog_1_method_3_code
def yX5_cross : MethodName := ⟨RX5, "cross", "(II)I"⟩
abbrev μX5_cross : Mu := (yX5_cross, cX5_cross, 4, (some .int), 5, 108)
abbrev cX5_back : ByteArray := prog_1_method_4_code
def yX5_back : MethodName := ⟨RX5, "back", "(II)I"⟩
abbrev μX5_back : Mu := (yX5_back, cX5_back, 4, (some .int), 5, 108)
abbrev cX5_pull : ByteArray := prog_1_method_5_code
def yX5_pull : MethodName := ⟨RX5, "pull", "(I)I"⟩
abbrev μX5_pull : Mu := (yX5_pull, cX5_pull, 2, (some .int), 5, 108)
abbrev cX5_join : ByteArray := prog_1_method_6_code
def yX5_join : MethodName := ⟨RX5, "join", "(II)I"⟩
abbrev μX5_join : Mu := (yX5_join, cX5_join, 4, (some .int), 5, 108)
abbrev cX5_turn : ByteArray := prog_1_method_7_code
def yX5_turn : MethodName := ⟨RX5, "turn", "(I)I"⟩
abbrev μX5_turn : Mu := (yX5_turn, cX5_turn, 3, (some .int), 5, 108)
abbrev cX5_weave : ByteArray := prog_1_method_8_code
def yX5_weave : MethodName := ⟨RX5, "weave", "(II)I"⟩
abbrev μX5_weave : Mu := (yX5_weave, cX5_weave, 4, (some .int), 5, 108)
abbrev cX5_swap : ByteArray := prog_1_method_9_code
def yX5_swap : MethodName := ⟨RX5, "swap", "(II)I"⟩
abbrev μX5_swap : Mu := (yX5_swap, cX5_swap, 4, (some .int), 5, 108)
abbrev cX5_put : ByteArray := prog_1_method_10_code
def yX5_put : MethodName := ⟨RX5, "put", "(J)I"⟩
abbrev μX5_put : Mu := (yX5_put, cX5_put, 4, (some .int), 1, 25)
abbrev cX5_wipe : ByteArray := prog_1_method_11_code
def yX5_wipe : MethodName := ⟨RX5, "wipe", "()I"⟩
abbrev μX5_wipe : Mu := (yX5_wipe, cX5_wipe, 2, (some .int), 1, 20)
abbrev cX5_fault : ByteArray := prog_1_method_12_code
def yX5_fault : MethodName := ⟨RX5, "fault", "()I"⟩
abbrev μX5_fault : Mu := (yX5_fault, cX5_fault, 1, (some .int), 4, 88)
abbrev cX5_load : ByteArray := prog_1_method_13_code
def yX5_load : MethodName := ⟨RX5, "load", "(I)I"⟩
abbrev μX5_load : Mu := (yX5_load, cX5_load, 2, (some .int), 5, 108)
abbrev cX5_crossing : ByteArray := prog_1_method_14_code
def yX5_crossing : MethodName := ⟨RX5, "crossing", "(II)I"⟩
abbrev μX5_crossing : Mu := (yX5_crossing, cX5_crossing, 3, (some .int), 2, 43)
abbrev cX5_ofRope : ByteArray := prog_1_method_15_code
def yX5_ofRope : MethodName := ⟨RX5, "ofRope", "(II)I"⟩
abbrev μX5_ofRope : Mu := (yX5_ofRope, cX5_ofRope, 4, (some .int), 5, 108)
abbrev cX5_winds : ByteArray := prog_1_method_16_code
def yX5_winds : MethodName := ⟨RX5, "winds", "(II)I"⟩
abbrev μX5_winds : Mu := (yX5_winds, cX5_winds, 3, (some .int), 2, 43)
abbrev cX5_least : ByteArray := prog_1_method_17_code
def yX5_least : MethodName := ⟨RX5, "least", "(II)I"⟩
abbrev μX5_least : Mu := (yX5_least, cX5_least, 3, (some .int), 5, 111)
abbrev cX5_count : ByteArray := prog_1_method_18_code
def yX5_count : MethodName := ⟨RX5, "count", "(I)I"⟩
abbrev μX5_count : Mu := (yX5_count, cX5_count, 2, (some .int), 1, 22)
abbrev cX5_falls : ByteArray := prog_1_method_19_code
def yX5_falls : MethodName := ⟨RX5, "falls", "(II)I"⟩
abbrev μX5_falls : Mu := (yX5_falls, cX5_falls, 3, (some .int), 3, 66)
abbrev cX5_felling : ByteArray := prog_1_method_20_code
def yX5_felling : MethodName := ⟨RX5, "felling", "(II)I"⟩
abbrev μX5_felling : Mu := (yX5_felling, cX5_felling, 8, (some .int), 3, 66)
abbrev cX5_both : ByteArray := prog_1_method_21_code
def yX5_both : MethodName := ⟨RX5, "both", "(III)I"⟩
abbrev μX5_both : Mu := (yX5_both, cX5_both, 6, (some .int), 6, 133)
abbrev cX5_cuts : ByteArray := prog_1_method_22_code
def yX5_cuts : MethodName := ⟨RX5, "cuts", "(I)I"⟩
abbrev μX5_cuts : Mu := (yX5_cuts, cX5_cuts, 2, (some .int), 4, 91)
abbrev cX5_ifSwapped : ByteArray := prog_1_method_23_code
def yX5_ifSwapped : MethodName := ⟨RX5, "ifSwapped", "(II)I"⟩
abbrev μX5_ifSwapped : Mu := (yX5_ifSwapped, cX5_ifSwapped, 3, (some .int), 5, 118)
abbrev cX5_bestSwap : ByteArray := prog_1_method_24_code
def yX5_bestSwap : MethodName := ⟨RX5, "bestSwap", "(I)I"⟩
abbrev μX5_bestSwap : Mu := (yX5_bestSwap, cX5_bestSwap, 8, (some .int), 5, 118)
abbrev cX5_undo : ByteArray := prog_1_method_25_code
def yX5_undo : MethodName := ⟨RX5, "undo", "()I"⟩
abbrev μX5_undo : Mu := (yX5_undo, cX5_undo, 1, (some .int), 5, 108)
abbrev cX5_save : ByteArray := prog_1_method_26_code
def yX5_save : MethodName := ⟨RX5, "save", "(I)I"⟩
abbrev μX5_save : Mu := (yX5_save, cX5_save, 2, (some .int), 4, 87)
abbrev cX5_restore : ByteArray := prog_1_method_27_code
def yX5_restore : MethodName := ⟨RX5, "restore", "(I)I"⟩
abbrev μX5_restore : Mu := (yX5_restore, cX5_restore, 2, (some .int), 5, 108)
abbrev cX5_isPost : ByteArray := prog_1_method_28_code
def yX5_isPost : MethodName := ⟨RX5, "isPost", "(I)Z"⟩
abbrev μX5_isPost : Mu := (yX5_isPost, cX5_isPost, 1, (some .boolean), 0, 0)
abbrev cX5_isRope : ByteArray := prog_1_method_29_code
def yX5_isRope : MethodName := ⟨RX5, "isRope", "(I)Z"⟩
abbrev μX5_isRope : Mu := (yX5_isRope, cX5_isRope, 1, (some .boolean), 0, 0)
abbrev cX5_isSwap : ByteArray := prog_1_method_30_code
def yX5_isSwap : MethodName := ⟨RX5, "isSwap", "(I)Z"⟩
abbrev μX5_isSwap : Mu := (yX5_isSwap, cX5_isSwap, 1, (some .boolean), 0, 0)
abbrev cX5_isBack : ByteArray := prog_1_method_31_code
def yX5_isBack : MethodName := ⟨RX5, "isBack", "(I)Z"⟩
abbrev μX5_isBack : Mu := (yX5_isBack, cX5_isBack, 1, (some .boolean), 0, 0)
abbrev cX5_isSlot : ByteArray := prog_1_method_32_code
def yX5_isSlot : MethodName := ⟨RX5, "isSlot", "(I)Z"⟩
abbrev μX5_isSlot : Mu := (yX5_isSlot, cX5_isSlot, 1, (some .boolean), 0, 0)
abbrev cX5_postOf : ByteArray := prog_1_method_33_code
def yX5_postOf : MethodName := ⟨RX5, "postOf", "(I)I"⟩
abbrev μX5_postOf : Mu := (yX5_postOf, cX5_postOf, 1, (some .int), 0, 0)
abbrev cX5_opposite : ByteArray := prog_1_method_34_code
def yX5_opposite : MethodName := ⟨RX5, "opposite", "(I)I"⟩
abbrev μX5_opposite : Mu := (yX5_opposite, cX5_opposite, 1, (some .int), 0, 0)
abbrev cX5_oneIf : ByteArray := prog_1_method_35_code
def yX5_oneIf : MethodName := ⟨RX5, "oneIf", "(Z)I"⟩
abbrev μX5_oneIf : Mu := (yX5_oneIf, cX5_oneIf, 1, (some .int), 0, 0)
abbrev cX5_crossingOrNoSuch : ByteArray := prog_1_method_36_code
def yX5_crossingOrNoSuch : MethodName := ⟨RX5, "crossingOrNoSuch", "(LPostRopes$Word;I)I"⟩
abbrev μX5_crossingOrNoSuch : Mu := (yX5_crossingOrNoSuch, cX5_crossingOrNoSuch, 3, (some .int), 1, 21)
abbrev cX5_layPulled : ByteArray := prog_1_method_37_code
def yX5_layPulled : MethodName := ⟨RX5, "layPulled", "(LPostRopes$Word;)V"⟩
abbrev μX5_layPulled : Mu := (yX5_layPulled, cX5_layPulled, 2, none, 3, 65)
abbrev cX5_layLoop : ByteArray := prog_1_method_38_code
def yX5_layLoop : MethodName := ⟨RX5, "layLoop", "(LPostRopes$Word;)V"⟩
abbrev μX5_layLoop : Mu := (yX5_layLoop, cX5_layLoop, 2, none, 4, 87)
abbrev cX5_layLeast : ByteArray := prog_1_method_39_code
def yX5_layLeast : MethodName := ⟨RX5, "layLeast", "(LPostRopes$Word;LPostRopes$Word;)V"⟩
abbrev μX5_layLeast : Mu := (yX5_layLeast, cX5_layLeast, 3, none, 4, 89)
abbrev cX5_laySwapped : ByteArray := prog_1_method_40_code
def yX5_laySwapped : MethodName := ⟨RX5, "laySwapped", "(LPostRopes$Word;II)V"⟩
abbrev μX5_laySwapped : Mu := (yX5_laySwapped, cX5_laySwapped, 5, none, 3, 70)
abbrev cX5_addSwapped : ByteArray := prog_1_method_41_code
def yX5_addSwapped : MethodName := ⟨RX5, "addSwapped", "(III)V"⟩
abbrev μX5_addSwapped : Mu := (yX5_addSwapped, cX5_addSwapped, 9, none, 2, 42)
abbrev cX5_crossingsIfSwapped : ByteArray := prog_1_method_42_code
def yX5_crossingsIfSwapped : MethodName := ⟨RX5, "crossingsIfSwapped", "(II)I"⟩
abbrev μX5_crossingsIfSwapped : Mu := (yX5_crossingsIfSwapped, cX5_crossingsIfSwapped, 5, (some .int), 4, 94)
abbrev cX5_fallsWithout : ByteArray := prog_1_method_43_code
def yX5_fallsWithout : MethodName := ⟨RX5, "fallsWithout", "(LPostRopes$Word;I)Z"⟩
abbrev μX5_fallsWithout : Mu := (yX5_fallsWithout, cX5_fallsWithout, 5, (some .boolean), 2, 42)
abbrev cX5_holdsFallingPart : ByteArray := prog_1_method_44_code
def yX5_holdsFallingPart : MethodName := ⟨RX5, "holdsFallingPart", "(JI)Z"⟩
abbrev μX5_holdsFallingPart : Mu := (yX5_holdsFallingPart, cX5_holdsFallingPart, 5, (some .boolean), 0, 0)
abbrev cX5_areAlike : ByteArray := prog_1_method_45_code
def yX5_areAlike : MethodName := ⟨RX5, "areAlike", "(LPostRopes$Word;LPostRopes$Word;)Z"⟩
abbrev μX5_areAlike : Mu := (yX5_areAlike, cX5_areAlike, 3, (some .boolean), 5, 111)
abbrev cX5_doCommute : ByteArray := prog_1_method_46_code
def yX5_doCommute : MethodName := ⟨RX5, "doCommute", "(LPostRopes$Word;LPostRopes$Word;)Z"⟩
abbrev μX5_doCommute : Mu := (yX5_doCommute, cX5_doCommute, 3, (some .boolean), 3, 65)
abbrev cX5_arePulledTheSame : ByteArray := prog_1_method_47_code
def yX5_arePulledTheSame : MethodName := ⟨RX5, "arePulledTheSame", "(LPostRopes$Word;LPostRopes$Word;)Z"⟩
abbrev μX5_arePulledTheSame : Mu := (yX5_arePulledTheSame, cX5_arePulledTheSame, 3, (some .boolean), 4, 86)
abbrev cX6_init : ByteArray := prog_8_method_1_code
def yX6_init : MethodName := ⟨RX6, "<init>", "()V"⟩
abbrev μX6_init : Mu := (yX6_init, cX6_init, 2, none, 1, 16)
abbrev cX6_in : ByteArray := prog_8_method_2_code
def yX6_in : MethodName := ⟨RX6, "in", "(III)Z"⟩
abbrev μX6_in : Mu := (yX6_in, cX6_in, 3, (some .boolean), 0, 0)
abbrev cX6_record : ByteArray := prog_8_method_3_code
def yX6_record : MethodName := ⟨RX6, "record", "()V"⟩
abbrev μX6_record : Mu := (yX6_record, cX6_record, 2, none, 0, 0)
abbrev cX6_cancel : ByteArray := prog_8_method_4_code
def yX6_cancel : MethodName := ⟨RX6, "cancel", "(II)Z"⟩
abbrev μX6_cancel : Mu := (yX6_cancel, cX6_cancel, 2, (some .boolean), 0, 0)
abbrev cX6_otherSide : ByteArray := prog_8_method_5_code
def yX6_otherSide : MethodName := ⟨RX6, "otherSide", "(I)I"⟩
abbrev μX6_otherSide : Mu := (yX6_otherSide, cX6_otherSide, 1, (some .int), 0, 0)
abbrev cX6_push : ByteArray := prog_8_method_6_code
def yX6_push : MethodName := ⟨RX6, "push", "(I)V"⟩
abbrev μX6_push : Mu := (yX6_push, cX6_push, 2, none, 1, 21)
abbrev cX6_isRope : ByteArray := prog_8_method_7_code
def yX6_isRope : MethodName := ⟨RX6, "isRope", "(I)Z"⟩
abbrev μX6_isRope : Mu := (yX6_isRope, cX6_isRope, 1, (some .boolean), 1, 22)
abbrev cX6_many : ByteArray := prog_8_method_8_code
def yX6_many : MethodName := ⟨RX6, "many", "(I)I"⟩
abbrev μX6_many : Mu := (yX6_many, cX6_many, 2, (some .int), 0, 0)
abbrev cX6_at : ByteArray := prog_8_method_9_code
def yX6_at : MethodName := ⟨RX6, "at", "(II)I"⟩
abbrev μX6_at : Mu := (yX6_at, cX6_at, 3, (some .int), 0, 0)
abbrev cX6_pushRope : ByteArray := prog_8_method_10_code
def yX6_pushRope : MethodName := ⟨RX6, "pushRope", "(IZ)V"⟩
abbrev μX6_pushRope : Mu := (yX6_pushRope, cX6_pushRope, 4, none, 2, 42)
abbrev cX6_layPulled : ByteArray := prog_8_method_11_code
def yX6_layPulled : MethodName := ⟨RX6, "layPulled", "(IZ)V"⟩
abbrev μX6_layPulled : Mu := (yX6_layPulled, cX6_layPulled, 3, none, 3, 65)
abbrev cX6_take : ByteArray := prog_8_method_12_code
def yX6_take : MethodName := ⟨RX6, "take", "(I)V"⟩
abbrev μX6_take : Mu := (yX6_take, cX6_take, 3, none, 0, 0)
abbrev cX6_tighten : ByteArray := prog_8_method_13_code
def yX6_tighten : MethodName := ⟨RX6, "tighten", "()V"⟩
abbrev μX6_tighten : Mu := (yX6_tighten, cX6_tighten, 3, none, 1, 21)
abbrev cX6_isLess : ByteArray := prog_8_method_14_code
def yX6_isLess : MethodName := ⟨RX6, "isLess", "(II)Z"⟩
abbrev μX6_isLess : Mu := (yX6_isLess, cX6_isLess, 6, (some .boolean), 0, 0)
abbrev cX6_layForm : ByteArray := prog_8_method_15_code
def yX6_layForm : MethodName := ⟨RX6, "layForm", "(IZ)V"⟩
abbrev μX6_layForm : Mu := (yX6_layForm, cX6_layForm, 5, none, 4, 87)
abbrev cX6_keepForm : ByteArray := prog_8_method_16_code
def yX6_keepForm : MethodName := ⟨RX6, "keepForm", "()V"⟩
abbrev μX6_keepForm : Mu := (yX6_keepForm, cX6_keepForm, 2, none, 0, 0)
abbrev cX6_areFormsAlike : ByteArray := prog_8_method_17_code
def yX6_areFormsAlike : MethodName := ⟨RX6, "areFormsAlike", "()Z"⟩
abbrev μX6_areFormsAlike : Mu := (yX6_areFormsAlike, cX6_areFormsAlike, 3, (some .boolean), 0, 0)
abbrev cX6_power : ByteArray := prog_8_method_18_code
def yX6_power : MethodName := ⟨RX6, "power", "()I"⟩
abbrev μX6_power : Mu := (yX6_power, cX6_power, 4, (some .int), 0, 0)
abbrev cX6_width : ByteArray := prog_8_method_19_code
def yX6_width : MethodName := ⟨RX6, "width", "(II)I"⟩
abbrev μX6_width : Mu := (yX6_width, cX6_width, 4, (some .int), 1, 22)
abbrev cX6_cross : ByteArray := prog_8_method_20_code
def yX6_cross : MethodName := ⟨RX6, "cross", "(II)I"⟩
abbrev μX6_cross : Mu := (yX6_cross, cX6_cross, 3, (some .int), 2, 42)
abbrev cX6_back : ByteArray := prog_8_method_21_code
def yX6_back : MethodName := ⟨RX6, "back", "(II)I"⟩
abbrev μX6_back : Mu := (yX6_back, cX6_back, 3, (some .int), 2, 42)
abbrev cX6_pull : ByteArray := prog_8_method_22_code
def yX6_pull : MethodName := ⟨RX6, "pull", "(I)I"⟩
abbrev μX6_pull : Mu := (yX6_pull, cX6_pull, 3, (some .int), 4, 87)
abbrev cX6_join : ByteArray := prog_8_method_23_code
def yX6_join : MethodName := ⟨RX6, "join", "(II)I"⟩
abbrev μX6_join : Mu := (yX6_join, cX6_join, 6, (some .int), 2, 42)
abbrev cX6_turn : ByteArray := prog_8_method_24_code
def yX6_turn : MethodName := ⟨RX6, "turn", "(I)I"⟩
abbrev μX6_turn : Mu := (yX6_turn, cX6_turn, 3, (some .int), 2, 42)
abbrev cX6_weave : ByteArray := prog_8_method_25_code
def yX6_weave : MethodName := ⟨RX6, "weave", "(II)I"⟩
abbrev μX6_weave : Mu := (yX6_weave, cX6_weave, 3, (some .int), 3, 65)
abbrev cX6_pushSwapped : ByteArray := prog_8_method_26_code
def yX6_pushSwapped : MethodName := ⟨RX6, "pushSwapped", "(III)V"⟩
abbrev μX6_pushSwapped : Mu := (yX6_pushSwapped, cX6_pushSwapped, 7, none, 2, 42)
abbrev cX6_laySwapped : ByteArray := prog_8_method_27_code
def yX6_laySwapped : MethodName := ⟨RX6, "laySwapped", "(III)V"⟩
abbrev μX6_laySwapped : Mu := (yX6_laySwapped, cX6_laySwapped, 5, none, 3, 68)
abbrev cX6_swap : ByteArray := prog_8_method_28_code
def yX6_swap : MethodName := ⟨RX6, "swap", "(II)I"⟩
abbrev μX6_swap : Mu := (yX6_swap, cX6_swap, 4, (some .int), 4, 92)
abbrev cX6_all : ByteArray := prog_8_method_29_code
def yX6_all : MethodName := ⟨RX6, "all", "()I"⟩
abbrev μX6_all : Mu := (yX6_all, cX6_all, 1, (some .int), 1, 21)
abbrev cX6_tell : ByteArray := prog_8_method_30_code
def yX6_tell : MethodName := ⟨RX6, "tell", "(I)V"⟩
abbrev μX6_tell : Mu := (yX6_tell, cX6_tell, 2, none, 0, 0)
abbrev cX6_tellAgain : ByteArray := prog_8_method_31_code
def yX6_tellAgain : MethodName := ⟨RX6, "tellAgain", "(IIZ)V"⟩
abbrev μX6_tellAgain : Mu := (yX6_tellAgain, cX6_tellAgain, 5, none, 1, 21)
abbrev cX6_turnTold : ByteArray := prog_8_method_32_code
def yX6_turnTold : MethodName := ⟨RX6, "turnTold", "(I)V"⟩
abbrev μX6_turnTold : Mu := (yX6_turnTold, cX6_turnTold, 5, none, 1, 20)
abbrev cX6_repeat : ByteArray := prog_8_method_33_code
def yX6_repeat : MethodName := ⟨RX6, "repeat", "(II)V"⟩
abbrev μX6_repeat : Mu := (yX6_repeat, cX6_repeat, 5, none, 2, 45)
abbrev cX6_read : ByteArray := prog_8_method_34_code
def yX6_read : MethodName := ⟨RX6, "read", "()I"⟩
abbrev μX6_read : Mu := (yX6_read, cX6_read, 10, (some .int), 3, 69)
abbrev cX6_put : ByteArray := prog_8_method_35_code
def yX6_put : MethodName := ⟨RX6, "put", "(J)I"⟩
abbrev μX6_put : Mu := (yX6_put, cX6_put, 7, (some .int), 1, 22)
abbrev cX6_wipe : ByteArray := prog_8_method_36_code
def yX6_wipe : MethodName := ⟨RX6, "wipe", "()I"⟩
abbrev μX6_wipe : Mu := (yX6_wipe, cX6_wipe, 2, (some .int), 0, 0)
abbrev cX6_fault : ByteArray := prog_8_method_37_code
def yX6_fault : MethodName := ⟨RX6, "fault", "()I"⟩
abbrev μX6_fault : Mu := (yX6_fault, cX6_fault, 1, (some .int), 4, 98)
abbrev cX6_load : ByteArray := prog_8_method_38_code
def yX6_load : MethodName := ⟨RX6, "load", "(I)I"⟩
abbrev μX6_load : Mu := (yX6_load, cX6_load, 3, (some .int), 4, 98)
abbrev cX6_crossing : ByteArray := prog_8_method_39_code
def yX6_crossing : MethodName := ⟨RX6, "crossing", "(II)I"⟩
abbrev μX6_crossing : Mu := (yX6_crossing, cX6_crossing, 3, (some .int), 2, 42)
abbrev cX6_widths : ByteArray := prog_8_method_40_code
def yX6_widths : MethodName := ⟨RX6, "widths", "()I"⟩
abbrev μX6_widths : Mu := (yX6_widths, cX6_widths, 3, (some .int), 0, 0)
abbrev cX6_ofWord : ByteArray := prog_8_method_41_code
def yX6_ofWord : MethodName := ⟨RX6, "ofWord", "(I)I"⟩
abbrev μX6_ofWord : Mu := (yX6_ofWord, cX6_ofWord, 4, (some .int), 1, 22)
abbrev cX6_posts : ByteArray := prog_8_method_42_code
def yX6_posts : MethodName := ⟨RX6, "posts", "()I"⟩
abbrev μX6_posts : Mu := (yX6_posts, cX6_posts, 3, (some .int), 0, 0)
abbrev cX6_firstPair : ByteArray := prog_8_method_43_code
def yX6_firstPair : MethodName := ⟨RX6, "firstPair", "(I)I"⟩
abbrev μX6_firstPair : Mu := (yX6_firstPair, cX6_firstPair, 3, (some .int), 1, 22)
abbrev cX6_ofRope : ByteArray := prog_8_method_44_code
def yX6_ofRope : MethodName := ⟨RX6, "ofRope", "(II)I"⟩
abbrev μX6_ofRope : Mu := (yX6_ofRope, cX6_ofRope, 3, (some .int), 5, 111)
abbrev cX6_winds : ByteArray := prog_8_method_45_code
def yX6_winds : MethodName := ⟨RX6, "winds", "(II)I"⟩
abbrev μX6_winds : Mu := (yX6_winds, cX6_winds, 5, (some .int), 2, 42)
abbrev cX6_least : ByteArray := prog_8_method_46_code
def yX6_least : MethodName := ⟨RX6, "least", "(II)I"⟩
abbrev μX6_least : Mu := (yX6_least, cX6_least, 3, (some .int), 5, 111)
abbrev cX6_count : ByteArray := prog_8_method_47_code
def yX6_count : MethodName := ⟨RX6, "count", "(I)I"⟩
abbrev μX6_count : Mu := (yX6_count, cX6_count, 2, (some .int), 2, 41)
abbrev cX6_fallsBy : ByteArray := prog_8_method_48_code
def yX6_fallsBy : MethodName := ⟨RX6, "fallsBy", "(II)Z"⟩
abbrev μX6_fallsBy : Mu := (yX6_fallsBy, cX6_fallsBy, 5, (some .boolean), 2, 42)
abbrev cX6_falls : ByteArray := prog_8_method_49_code
def yX6_falls : MethodName := ⟨RX6, "falls", "(II)I"⟩
abbrev μX6_falls : Mu := (yX6_falls, cX6_falls, 3, (some .int), 3, 66)
abbrev cX6_size : ByteArray := prog_8_method_50_code
def yX6_size : MethodName := ⟨RX6, "size", "(I)I"⟩
abbrev μX6_size : Mu := (yX6_size, cX6_size, 3, (some .int), 0, 0)
abbrev cX6_isFelling : ByteArray := prog_8_method_51_code
def yX6_isFelling : MethodName := ⟨RX6, "isFelling", "(II)Z"⟩
abbrev μX6_isFelling : Mu := (yX6_isFelling, cX6_isFelling, 5, (some .boolean), 3, 66)
abbrev cX6_felling : ByteArray := prog_8_method_52_code
def yX6_felling : MethodName := ⟨RX6, "felling", "(II)I"⟩
abbrev μX6_felling : Mu := (yX6_felling, cX6_felling, 6, (some .int), 4, 90)
abbrev cX6_areSame : ByteArray := prog_8_method_53_code
def yX6_areSame : MethodName := ⟨RX6, "areSame", "(IIII)Z"⟩
abbrev μX6_areSame : Mu := (yX6_areSame, cX6_areSame, 5, (some .boolean), 3, 65)
abbrev cX6_both : ByteArray := prog_8_method_54_code
def yX6_both : MethodName := ⟨RX6, "both", "(III)I"⟩
abbrev μX6_both : Mu := (yX6_both, cX6_both, 5, (some .int), 5, 111)
abbrev cX6_cuts : ByteArray := prog_8_method_55_code
def yX6_cuts : MethodName := ⟨RX6, "cuts", "(I)I"⟩
abbrev μX6_cuts : Mu := (yX6_cuts, cX6_cuts, 9, (some .int), 2, 42)
abbrev cX6_swapped : ByteArray := prog_8_method_56_code
def yX6_swapped : MethodName := ⟨RX6, "swapped", "(II)I"⟩
abbrev μX6_swapped : Mu := (yX6_swapped, cX6_swapped, 5, (some .int), 4, 92)
abbrev cX6_ifSwapped : ByteArray := prog_8_method_57_code
def yX6_ifSwapped : MethodName := ⟨RX6, "ifSwapped", "(II)I"⟩
abbrev μX6_ifSwapped : Mu := (yX6_ifSwapped, cX6_ifSwapped, 3, (some .int), 5, 116)
abbrev cX6_bestSwap : ByteArray := prog_8_method_58_code
def yX6_bestSwap : MethodName := ⟨RX6, "bestSwap", "(I)I"⟩
abbrev μX6_bestSwap : Mu := (yX6_bestSwap, cX6_bestSwap, 6, (some .int), 5, 116)
abbrev cX6_undo : ByteArray := prog_8_method_59_code
def yX6_undo : MethodName := ⟨RX6, "undo", "()I"⟩
abbrev μX6_undo : Mu := (yX6_undo, cX6_undo, 2, (some .int), 0, 0)
abbrev cX6_save : ByteArray := prog_8_method_60_code
def yX6_save : MethodName := ⟨RX6, "save", "(I)I"⟩
abbrev μX6_save : Mu := (yX6_save, cX6_save, 3, (some .int), 2, 41)
abbrev cX6_restore : ByteArray := prog_8_method_61_code
def yX6_restore : MethodName := ⟨RX6, "restore", "(I)I"⟩
abbrev μX6_restore : Mu := (yX6_restore, cX6_restore, 3, (some .int), 2, 41)
abbrev cJ6_bitCount_0f7a4 : ByteArray := prog_9_method_49_code
def yJ6_bitCount_0f7a4 : MethodName := ⟨RJ6, "bitCount", "(I)I"⟩
abbrev μJ6_bitCount_0f7a4 : Mu := (yJ6_bitCount_0f7a4, cJ6_bitCount_0f7a4, 1, (some .int), 0, 0)
abbrev cJ9_floorMod_7cf53 : ByteArray := prog_10_method_50_code
def yJ9_floorMod_7cf53 : MethodName := ⟨RJ9, "floorMod", "(II)I"⟩
abbrev μJ9_floorMod_7cf53 : Mu := (yJ9_floorMod_7cf53, cJ9_floorMod_7cf53, 3, (some .int), 0, 0)
abbrev cJ9_max_7cf53 : ByteArray := prog_10_method_65_code
def yJ9_max_7cf53 : MethodName := ⟨RJ9, "max", "(II)I"⟩
abbrev μJ9_max_7cf53 : Mu := (yJ9_max_7cf53, cJ9_max_7cf53, 2, (some .int), 0, 0)
abbrev cJ9_min_7cf53 : ByteArray := prog_10_method_69_code
def yJ9_min_7cf53 : MethodName := ⟨RJ9, "min", "(II)I"⟩
abbrev μJ9_min_7cf53 : Mu := (yJ9_min_7cf53, cJ9_min_7cf53, 2, (some .int), 0, 0)
abbrev cL_law : ByteArray := code
def yL_law : MethodName := ⟨RL, "law", "([I)Z"⟩
end
section
/-! ONE WORLD AT FIXED PLACES: every object of the run stands at g.1 + i; what it is, says a layout; its numbers are a function of place and index -/
abbrev Mem : Type := Nat → Int → Int
abbrev FS : Type := Option (Option Nat)
abbrev LK : Type := (Nat × List FS) ⊕ (Nat × (Nat ⊕ List (Option Nat)))
abbrev Lay : Type := Nat → LK
abbrev GE : Type := Nat × va_G × (Nat → ClassId)
abbrev kO (ci : Nat) (fs : List FS) : LK := .inl (ci, fs)
abbrev kA (t n : Nat) : LK := .inr (t, .inl n)
abbrev kR (t : Nat) (qs : List (Option Nat)) : LK := .inr (t, .inr qs)
/-- numbers: an Int32 is the image of an Int -/
def zI (z : Int) : Int32 := Int32.ofInt z
theorem zI_add (a b : Int) : zI a + zI b = zI (a + b) := (Int32.ofInt_add a b).symm
theorem zI_sub (a b : Int) : zI a - zI b = zI (a - b) := (Int32.ofInt_sub a b).symm
theorem zI_mul (a b : Int) : zI a * zI b = zI (a * b) := (Int32.ofInt_mul a b).symm
theorem zI_neg (a : Int) : - zI a = zI (-a) := (Int32.ofInt_neg a).symm
theorem zI_int {z : Int} (h : -2147483648 ≤ z ∧ z < 2147483648) : (zI z).toInt = z := Int32.toInt_ofInt_of_le (by omega) (by omega)
theorem zI_of (x : Int32) : zI x.toInt = x := Int32.ofInt_toInt x
theorem i32_rg (x : Int32) : -2147483648 ≤ x.toInt ∧ x.toInt < 2147483648 := ⟨by have := Int32.le_toInt x; omega, by have := Int32.toInt_lt x; omega⟩
theorem zI_lt {a b : Int} (h : (-2147483648 ≤ a ∧ a < 2147483648) ∧ (-2147483648 ≤ b ∧ b < 2147483648)) : zI a < zI b ↔ a < b := by
  rw [Int32.lt_iff_toInt_lt, zI_int h.1, zI_int h.2]
theorem zI_le {a b : Int} (h : (-2147483648 ≤ a ∧ a < 2147483648) ∧ (-2147483648 ≤ b ∧ b < 2147483648)) : zI a ≤ zI b ↔ a ≤ b := by
  rw [Int32.le_iff_toInt_le, zI_int h.1, zI_int h.2]
theorem zI_eq {a b : Int} (h : (-2147483648 ≤ a ∧ a < 2147483648) ∧ (-2147483648 ≤ b ∧ b < 2147483648)) : zI a = zI b ↔ a = b := by
  rw [← Int32.toInt_inj, zI_int h.1, zI_int h.2]
theorem zI_0 : zI 0 = 0 := by decide +kernel
theorem zI_1 : zI 1 = 1 := by decide +kernel
theorem zI_clamp {z : Int} {N : Nat} (h0 : 0 ≤ z) (h : z < N) (hN : N ≤ 2147483647) : (((zI z).toNatClampNeg : Nat) : Int) = z := by
  have : (zI z).toNatClampNeg = (zI z).toInt.toNat := rfl
  rw [this, zI_int (by omega)]
  omega
theorem zI_in {z : Int} {N : Nat} (h0 : 0 ≤ z) (h : z < N) (hN : N ≤ 2147483647) : ¬ (zI z < 0 ∨ N ≤ (zI z).toNatClampNeg) := by
  intro q
  rcases q with q | q
  · rw [← zI_0, zI_lt (by omega)] at q
    omega
  · have := zI_clamp h0 h hN
    omega
theorem zI_irem {a b : Int} (ha : 0 ≤ a) (hb : 0 < b) (ha2 : a < 2147483648) (hb2 : b < 2147483648) : zI a - zI a / zI b * zI b = zI (a % b) := by
  have h1 : (zI a / zI b) = zI (a / b) := by
    apply Int32.toInt.inj
    rw [Int32.toInt_div_of_ne_right _ _ (fun q => by have := congrArg Int32.toInt q; rw [zI_int (by omega)] at this; have e : (-1 : Int32).toInt = -1 := by decide +kernel
                                                     omega), zI_int (by omega), zI_int (by omega), Int.tdiv_eq_ediv_of_nonneg ha, zI_int]
    have h1 := Int.ediv_nonneg ha (Int.le_of_lt hb)
    have h2 := Int.ediv_le_self b ha
    omega
  rw [h1, zI_mul, zI_sub, Int.emod_def, Int.mul_comm]
theorem zI_idiv {a b : Int} (ha : 0 ≤ a) (hb : 0 < b) (ha2 : a < 2147483648) (hb2 : b < 2147483648) : zI a / zI b = zI (a / b) := by
  apply Int32.toInt.inj
  rw [Int32.toInt_div_of_ne_right _ _ (fun q => by have := congrArg Int32.toInt q; rw [zI_int (by omega)] at this; have e : (-1 : Int32).toInt = -1 := by decide +kernel
                                                   omega), zI_int (by omega), zI_int (by omega), Int.tdiv_eq_ediv_of_nonneg ha, zI_int]
  have h1 := Int.ediv_nonneg ha (Int.le_of_lt hb)
  have h2 := Int.ediv_le_self b ha
  omega
abbrev vI (z : Int) : Value := .int (zI z)
abbrev vR (g : GE) (i : Nat) : Value := .ref (g.1 + i)
def fv (g : GE) (m : Int → Int) (k : Nat) : FS → Value
  | none => vI (m (k : Int))
  | some none => .null
  | some (some q) => vR g q
def cellAt (g : GE) (a : Nat) (m : Int → Int) (H : Heap) : LK → Prop
  | .inl (ci, fs) => ∃ r : vw_C, classes[ci]? = some r ∧ t_OB a (g.2.1.1 ci) r.2.2 (g.2.1.2 ci) H (fun k => fv g m k (fs.getD k none))
  | .inr (t, .inl n) => H[a]? = some (arrV (g.2.2 t) n (fun j => vI (m (j : Int))))
  | .inr (t, .inr qs) => H[a]? = some (arrV (g.2.2 t) qs.length (fun j => va_rf ((qs.getD j none).map (fun q => g.1 + q))))
theorem cellAt.kept {g : GE} {a : Nat} {m : Int → Int} {H H1 : Heap} {k : LK} (h : cellAt g a m H k) (hq : H1[a]? = H[a]?) : cellAt g a m H1 k := by
  match k, h with
  | .inl (ci, fs), ⟨r, h1, h2⟩ => exact ⟨r, h1, h2.kept hq⟩
  | .inr (t, .inl n), h => exact hq.trans h
  | .inr (t, .inr qs), h => exact hq.trans h
/-- n cells from g.1 on, and none behind them -/
def Rep (g : GE) (n : Nat) (L : Lay) (M : Mem) (H : Heap) : Prop := H.size = g.1 + n ∧ ∀ i, i < n → cellAt g (g.1 + i) (M i) H (L i)
def tyT : Nat → FieldType
  | 0 => .int
  | 1 => .boolean
  | 2 => .object RX3
  | _ => .object RX4
abbrev tysT (g : GE) : List (ClassId × FieldType) := [(g.2.2 0, tyT 0), (g.2.2 1, tyT 1), (g.2.2 2, tyT 2), (g.2.2 3, tyT 3)]
def nestQ : List (String × Nat × MethodName × String) := [(RX4, 25, yX5_opposite, RX5), (RX3, 36, yX5_postOf, RX5), (RX3, 39, yX5_isPost, RX5), (RX4, 61, yX5_postOf, RX5), (RX2, 56, yX5_opposite, RX5)]
/-- what is known of classes and links -/
def Kn (g : GE) (U : State) : Prop := va_K g.2.1 classes (tysT g) U ∧ (∀ q ∈ nestQ, va_Nw (.methodLinkNest q.1 q.2.1 q.2.2.1 q.2.2.2) U) ∧ va_AO RX3 U ∧ va_AO RX4 U
theorem Kn.eq {g : GE} {u U : State} (h : u.vm = U.vm) (k : Kn g u) : Kn g U := by
  have ha : u.vm.Alike U.vm := by rw [h]; exact Vm.Alike.refl _
  exact ⟨va_K.moved ha k.1, fun q hq => va_Nw.same rfl h (k.2.1 q hq), va_AO.moved ha k.2.2.1, va_AO.moved ha k.2.2.2⟩
theorem Kn.warm {g : GE} {s U : State} (hW : s.WarmedH U.vm) (k : Kn g s) : Kn g U :=
  ⟨va_K.moved hW.alike k.1, fun q hq => va_Nw.warmM hW (k.2.1 q hq), va_AO.moved hW.alike k.2.2.1, va_AO.moved hW.alike k.2.2.2⟩
abbrev Fx : Type := Program × Launch × Env × Room × State × MethodId × Array Value × List Frame × Method × Code × (State → Prop)
abbrev xP (x : Fx) : Program := x.1
abbrev xL (x : Fx) : Launch := x.2.1
abbrev xE (x : Fx) : Env := x.2.2.1
abbrev xR (x : Fx) : Room := x.2.2.2.1
abbrev xS (x : Fx) : State := x.2.2.2.2.1
abbrev xM (x : Fx) : MethodId := x.2.2.2.2.2.1
abbrev xA (x : Fx) : Array Value := x.2.2.2.2.2.2.1
abbrev xB (x : Fx) : List Frame := x.2.2.2.2.2.2.2.1
abbrev xT (x : Fx) : Method := x.2.2.2.2.2.2.2.2.1
abbrev xC (x : Fx) : Code := x.2.2.2.2.2.2.2.2.2.1
abbrev xQ (x : Fx) : State → Prop := x.2.2.2.2.2.2.2.2.2.2
/-- the walk's goal: at pc, with these locals and this stack, over this world -/
def K (x : Fx) (g : GE) (cs sl : Nat) (L : Lay) (n : Nat) (M : Mem) (pc : Nat) (ls : List (Nat × Value)) (st : List Value) : Prop :=
  ∀ (H : Heap) (locs : List Loc) (la : Array Slot), Rep g n L M H → va_S (fun q => g.1 ≤ q) (xS x).heap H locs → lv_has la (xC x).maxLocals ls →
    W (xP x) (xL x) (xE x) (xR x) (xS x) (xM x) (xA x) (xB x) (xT x) (xC x) H locs cs sl (xQ x) (F0 (xM x) pc la st)
/-- what the method stands on -/
def Cx (x : Fx) (g : GE) (cc : ByteArray) (own : String) (nL : Nat) (R : Room) : Prop :=
  (xP x).tables.exec = Jvm.exec ∧ (xC x).code = cc ∧ (xC x).maxLocals = nL ∧ (xS x).vm.findClass own = some (xM x).cls ∧ (∀ w ∈ TB, w.before (xA x) (xS x) = true) ∧ Kn g (xS x) ∧ xR x = R
def At (cc : ByteArray) (pc : Nat) (i : Instr) (len pc' : Nat) : Prop := decode cc pc = .ok (i, len) ∧ pc + len = pc'
def Br (cc : ByteArray) (pc : Nat) (f : Int → Instr) (pc' tgt : Nat) : Prop := ∃ off : Int, decode cc pc = .ok (f off, 3) ∧ pc + 3 = pc' ∧ (pc : Int) + off = (tgt : Int)
def insL (i : Nat) (v : Value) : List (Nat × Value) → List (Nat × Value)
  | [] => [(i, v)]
  | q :: t => bif Nat.blt i q.1 then (i, v) :: q :: t else q :: insL i v t
def setL (ls : List (Nat × Value)) (i : Nat) (v : Value) : List (Nat × Value) := insL i v (ls.filter (fun q => !(q.1 == i)))
def okL (ls : List (Nat × Value)) (i : Nat) : Bool := ls.all (fun q => !(q.1 + 1 == i && q.2.category == 2))
theorem insL_mem {i : Nat} {v : Value} {q : Nat × Value} : ∀ {ls : List (Nat × Value)}, q ∈ insL i v ls → q = (i, v) ∨ q ∈ ls
  | [], h => by simpa [insL] using h
  | a :: t, h => by
    unfold insL at h
    cases hb : Nat.blt i a.1
    · rw [hb] at h
      rcases List.mem_cons.mp h with h | h
      · exact Or.inr (by rw [h]; exact List.mem_cons_self)
      · rcases insL_mem h with h | h
        · exact Or.inl h
        · exact Or.inr (List.mem_cons_of_mem _ h)
    · rw [hb] at h
      rcases List.mem_cons.mp h with h | h
      · exact Or.inl h
      · exact Or.inr h
theorem setL_has {la : Array Slot} {nL i : Nat} {v : Value} {ls : List (Nat × Value)} (hok : okL ls i = true) (h : lv_has la nL ((i, v) :: ls.filter (fun q => !(q.1 == i) && !(q.1 + 1 == i && q.2.category == 2)))) : lv_has la nL (setL ls i v) := by
  refine ⟨h.1, h.2.1, fun q hq => ?_⟩
  rcases insL_mem hq with h1 | h1
  · rw [h1]; exact h.2.2 _ List.mem_cons_self
  · obtain ⟨h2, h3⟩ := List.mem_filter.mp h1
    refine h.2.2 q (List.mem_cons_of_mem _ (List.mem_filter.mpr ⟨h2, ?_⟩))
    have h4 := List.all_eq_true.mp hok q h2
    rw [h3, h4]
    rfl
/-- a long takes two places -/
def okL2 (ls : List (Nat × Value)) (i : Nat) : Bool := ls.all (fun q => !(q.1 == i + 1) && !(q.1 + 1 == i && q.2.category == 2))
theorem setL_has2 {la : Array Slot} {nL i : Nat} {v : Value} {ls : List (Nat × Value)} (hok : okL2 ls i = true) (h : lv_has la nL ((i, v) :: ls.filter (fun q => !(q.1 == i) && (!(q.1 == i + 1) && !(q.1 + 1 == i && q.2.category == 2))))) : lv_has la nL (setL ls i v) := by
  refine ⟨h.1, h.2.1, fun q hq => ?_⟩
  rcases insL_mem hq with h1 | h1
  · rw [h1]; exact h.2.2 _ List.mem_cons_self
  · obtain ⟨h2, h3⟩ := List.mem_filter.mp h1
    refine h.2.2 q (List.mem_cons_of_mem _ (List.mem_filter.mpr ⟨h2, ?_⟩))
    have h4 := List.all_eq_true.mp hok q h2
    rw [h3, h4]
    rfl
def up (M : Mem) (i : Nat) (k z : Int) : Mem := fun a b => if a = i ∧ b = k then z else M a b
theorem up_s {M : Mem} {i : Nat} {k z : Int} : up M i k z i k = z := if_pos ⟨rfl, rfl⟩
theorem up_k {M : Mem} {i : Nat} {k z : Int} {j : Int} (h : j ≠ k) : up M i k z i j = M i j := if_neg fun q => h q.2
theorem up_i {M : Mem} {i : Nat} {k z : Int} {a : Nat} (h : a ≠ i) : up M i k z a = M a := funext fun b => if_neg fun q => h q.1
section ROWS
variable {x : Fx} {g : GE} {cc : ByteArray} {own : String} {nL : Nat} {R : Room} {cs sl : Nat} {L : Lay} {n : Nat} {M : Mem} {pc pc' tgt : Nat} {ls : List (Nat × Value)} {st : List Value}
theorem K.sub {ls' : List (Nat × Value)} (ks : List Nat) (hl : lv_pick ls ks = ls') (k : K x g cs sl L n M pc ls' st) : K x g cs sl L n M pc ls st := fun H locs la hR hS h => k H locs la hR hS (lv_sub h ks hl)
theorem k_iconst (hx : Cx x g cc own nL R) {z : Int} (hd : At cc pc (.iconst z) 1 pc') (k : K x g cs sl L n M pc' ls (vI z :: st)) : K x g cs sl L n M pc ls st := by
  intro H locs la hR hS hl
  obtain ⟨h1, h2⟩ := hd; subst h2
  exact lv_iconst hx.1 hx.2.1 h1 rfl (k H locs la hR hS hl)
theorem k_bipush (hx : Cx x g cc own nL R) {z : Int} (hd : At cc pc (.bipush z) 2 pc') (hz : (Int8.ofInt z).toInt32 = zI z) (k : K x g cs sl L n M pc' ls (vI z :: st)) : K x g cs sl L n M pc ls st := by
  intro H locs la hR hS hl
  obtain ⟨h1, h2⟩ := hd; subst h2
  exact lv_bipush hx.1 hx.2.1 h1 hz (k H locs la hR hS hl)
theorem k_sipush (hx : Cx x g cc own nL R) {z : Int} (hd : At cc pc (.sipush z) 3 pc') (hz : (Int16.ofInt z).toInt32 = zI z) (k : K x g cs sl L n M pc' ls (vI z :: st)) : K x g cs sl L n M pc ls st := by
  intro H locs la hR hS hl
  obtain ⟨h1, h2⟩ := hd; subst h2
  exact lv_sipush hx.1 hx.2.1 h1 hz (k H locs la hR hS hl)
theorem k_lconst (hx : Cx x g cc own nL R) {z : Fin 2} {v : Int64} (hd : At cc pc (.lconst z) 1 pc') (hv : Int64.ofNat (z : Nat) = v) (k : K x g cs sl L n M pc' ls (.long v :: st)) : K x g cs sl L n M pc ls st := by
  intro H locs la hR hS hl
  obtain ⟨h1, h2⟩ := hd; subst h2
  exact lv_lconst hx.1 hx.2.1 h1 hv (k H locs la hR hS hl)
theorem k_iload_n (hx : Cx x g cc own nL R) {k : Fin 4} {v : Int32} (hd : At cc pc (.iload_n k) 1 pc') (j : Nat) (hj : ls[j]? = some ((k : Nat), .int v)) (kk : K x g cs sl L n M pc' ls (.int v :: st)) : K x g cs sl L n M pc ls st := by
  intro H locs la hR hS hl
  obtain ⟨h1, h2⟩ := hd; subst h2
  exact lv_iload_n hx.1 hx.2.1 h1 rfl (lv_at hl j hj) (kk H locs la hR hS hl)
theorem k_iload (hx : Cx x g cc own nL R) {k : Nat} {v : Int32} (hd : At cc pc (.iload k) 2 pc') (j : Nat) (hj : ls[j]? = some (k, .int v)) (kk : K x g cs sl L n M pc' ls (.int v :: st)) : K x g cs sl L n M pc ls st := by
  intro H locs la hR hS hl
  obtain ⟨h1, h2⟩ := hd; subst h2
  exact lv_iload hx.1 hx.2.1 h1 (lv_at hl j hj) (kk H locs la hR hS hl)
theorem k_lload_n (hx : Cx x g cc own nL R) {k : Fin 4} {v : Int64} (hd : At cc pc (.lload_n k) 1 pc') (j : Nat) (hj : ls[j]? = some ((k : Nat), .long v)) (kk : K x g cs sl L n M pc' ls (.long v :: st)) : K x g cs sl L n M pc ls st := by
  intro H locs la hR hS hl
  obtain ⟨h1, h2⟩ := hd; subst h2
  exact lv_lload_n hx.1 hx.2.1 h1 rfl (lv_at hl j hj) (kk H locs la hR hS hl)
theorem k_lload (hx : Cx x g cc own nL R) {k : Nat} {v : Int64} (hd : At cc pc (.lload k) 2 pc') (j : Nat) (hj : ls[j]? = some (k, .long v)) (kk : K x g cs sl L n M pc' ls (.long v :: st)) : K x g cs sl L n M pc ls st := by
  intro H locs la hR hS hl
  obtain ⟨h1, h2⟩ := hd; subst h2
  exact lv_lload hx.1 hx.2.1 h1 (lv_at hl j hj) (kk H locs la hR hS hl)
theorem k_aload_n (hx : Cx x g cc own nL R) {k : Fin 4} {v : Nat} (hd : At cc pc (.aload_n k) 1 pc') (j : Nat) (hj : ls[j]? = some ((k : Nat), .ref v)) (kk : K x g cs sl L n M pc' ls (.ref v :: st)) : K x g cs sl L n M pc ls st := by
  intro H locs la hR hS hl
  obtain ⟨h1, h2⟩ := hd; subst h2
  exact lv_aload_n hx.1 hx.2.1 h1 rfl (lv_at hl j hj) (kk H locs la hR hS hl)
theorem k_aload (hx : Cx x g cc own nL R) {k : Nat} {v : Nat} (hd : At cc pc (.aload k) 2 pc') (j : Nat) (hj : ls[j]? = some (k, .ref v)) (kk : K x g cs sl L n M pc' ls (.ref v :: st)) : K x g cs sl L n M pc ls st := by
  intro H locs la hR hS hl
  obtain ⟨h1, h2⟩ := hd; subst h2
  exact lv_aload hx.1 hx.2.1 h1 (lv_at hl j hj) (kk H locs la hR hS hl)
theorem k_istore_n (hx : Cx x g cc own nL R) {k : Fin 4} {v : Int32} (hd : At cc pc (.istore_n k) 1 pc') {ls' : List (Nat × Value)} (hs : setL ls (k : Nat) (.int v) = ls') (hok : okL ls (k : Nat) = true) (hk : (k : Nat) < nL) (kk : K x g cs sl L n M pc' ls' st) : K x g cs sl L n M pc ls (.int v :: st) := by
  intro H locs la hR hS hl
  obtain ⟨h1, h2⟩ := hd; subst h2; subst hs
  exact lv_istore_n hx.1 hx.2.1 h1 rfl hl (by rw [hx.2.2.1]; exact hk) rfl (fun la' hl' => kk H locs la' hR hS (setL_has hok hl'))
theorem k_istore (hx : Cx x g cc own nL R) {k : Nat} {v : Int32} (hd : At cc pc (.istore k) 2 pc') {ls' : List (Nat × Value)} (hs : setL ls k (.int v) = ls') (hok : okL ls k = true) (hk : k < nL) (kk : K x g cs sl L n M pc' ls' st) : K x g cs sl L n M pc ls (.int v :: st) := by
  intro H locs la hR hS hl
  obtain ⟨h1, h2⟩ := hd; subst h2; subst hs
  exact lv_istore hx.1 hx.2.1 h1 hl (by rw [hx.2.2.1]; exact hk) rfl (fun la' hl' => kk H locs la' hR hS (setL_has hok hl'))
theorem k_astore_n (hx : Cx x g cc own nL R) {k : Fin 4} {v : Nat} (hd : At cc pc (.astore_n k) 1 pc') {ls' : List (Nat × Value)} (hs : setL ls (k : Nat) (.ref v) = ls') (hok : okL ls (k : Nat) = true) (hk : (k : Nat) < nL) (kk : K x g cs sl L n M pc' ls' st) : K x g cs sl L n M pc ls (.ref v :: st) := by
  intro H locs la hR hS hl
  obtain ⟨h1, h2⟩ := hd; subst h2; subst hs
  exact lv_astore_n hx.1 hx.2.1 h1 rfl hl (by rw [hx.2.2.1]; exact hk) rfl (fun la' hl' => kk H locs la' hR hS (setL_has hok hl'))
theorem k_astore (hx : Cx x g cc own nL R) {k : Nat} {v : Nat} (hd : At cc pc (.astore k) 2 pc') {ls' : List (Nat × Value)} (hs : setL ls k (.ref v) = ls') (hok : okL ls k = true) (hk : k < nL) (kk : K x g cs sl L n M pc' ls' st) : K x g cs sl L n M pc ls (.ref v :: st) := by
  intro H locs la hR hS hl
  obtain ⟨h1, h2⟩ := hd; subst h2; subst hs
  exact lv_astore hx.1 hx.2.1 h1 hl (by rw [hx.2.2.1]; exact hk) rfl (fun la' hl' => kk H locs la' hR hS (setL_has hok hl'))
theorem k_lstore_n (hx : Cx x g cc own nL R) {k : Fin 4} {v : Int64} (hd : At cc pc (.lstore_n k) 1 pc') {ls' : List (Nat × Value)} (hs : setL ls (k : Nat) (.long v) = ls') (hok : okL2 ls (k : Nat) = true) (hk : (k : Nat) + 1 < nL) (kk : K x g cs sl L n M pc' ls' st) : K x g cs sl L n M pc ls (.long v :: st) := by
  intro H locs la hR hS hl
  obtain ⟨h1, h2⟩ := hd; subst h2; subst hs
  exact lv_lstore_n hx.1 hx.2.1 h1 rfl hl (by rw [hx.2.2.1]; exact hk) rfl (fun la' hl' => kk H locs la' hR hS (setL_has2 hok hl'))
theorem k_lstore (hx : Cx x g cc own nL R) {k : Nat} {v : Int64} (hd : At cc pc (.lstore k) 2 pc') {ls' : List (Nat × Value)} (hs : setL ls k (.long v) = ls') (hok : okL2 ls k = true) (hk : k + 1 < nL) (kk : K x g cs sl L n M pc' ls' st) : K x g cs sl L n M pc ls (.long v :: st) := by
  intro H locs la hR hS hl
  obtain ⟨h1, h2⟩ := hd; subst h2; subst hs
  exact lv_lstore hx.1 hx.2.1 h1 hl (by rw [hx.2.2.1]; exact hk) rfl (fun la' hl' => kk H locs la' hR hS (setL_has2 hok hl'))
theorem k_iinc (hx : Cx x g cc own nL R) {k : Nat} {c a : Int} (hd : At cc pc (.iinc k c) 3 pc') (j : Nat) (hj : ls[j]? = some (k, vI a)) {ls' : List (Nat × Value)} (hs : setL ls k (vI (a + c)) = ls') (hok : okL ls k = true) (hk : k < nL) (kk : K x g cs sl L n M pc' ls' st) : K x g cs sl L n M pc ls st := by
  intro H locs la hR hS hl
  obtain ⟨h1, h2⟩ := hd; subst h2; subst hs
  exact lv_iinc hx.1 hx.2.1 h1 hl hj (zI_add a c) (by rw [hx.2.2.1]; exact hk) rfl (fun la' hl' => kk H locs la' hR hS (setL_has hok hl'))
theorem k_iadd (hx : Cx x g cc own nL R) {a b : Int} (hd : At cc pc .iadd 1 pc') (k : K x g cs sl L n M pc' ls (vI (a + b) :: st)) : K x g cs sl L n M pc ls (vI b :: vI a :: st) := by
  intro H locs la hR hS hl
  obtain ⟨h1, h2⟩ := hd; subst h2
  refine lv_iadd hx.1 hx.2.1 h1 ?_
  rw [zI_add]
  exact k H locs la hR hS hl
theorem k_isub (hx : Cx x g cc own nL R) {a b : Int} (hd : At cc pc .isub 1 pc') (k : K x g cs sl L n M pc' ls (vI (a - b) :: st)) : K x g cs sl L n M pc ls (vI b :: vI a :: st) := by
  intro H locs la hR hS hl
  obtain ⟨h1, h2⟩ := hd; subst h2
  refine lv_isub hx.1 hx.2.1 h1 ?_
  rw [zI_sub]
  exact k H locs la hR hS hl
theorem k_imul (hx : Cx x g cc own nL R) {a b : Int} (hd : At cc pc .imul 1 pc') (k : K x g cs sl L n M pc' ls (vI (a * b) :: st)) : K x g cs sl L n M pc ls (vI b :: vI a :: st) := by
  intro H locs la hR hS hl
  obtain ⟨h1, h2⟩ := hd; subst h2
  refine lv_imul hx.1 hx.2.1 h1 ?_
  rw [zI_mul]
  exact k H locs la hR hS hl
theorem k_irem (hx : Cx x g cc own nL R) {a b : Int} (hd : At cc pc .irem 1 pc') (h : (0 ≤ a ∧ a < 2147483648) ∧ (0 < b ∧ b < 2147483648)) (k : K x g cs sl L n M pc' ls (vI (a % b) :: st)) : K x g cs sl L n M pc ls (vI b :: vI a :: st) := by
  intro H locs la hR hS hl
  obtain ⟨h1, h2⟩ := hd; subst h2
  refine lv_irem hx.1 hx.2.1 h1 (fun q => ?_) ?_
  · rw [← zI_0, zI_eq (by omega)] at q
    omega
  · rw [zI_irem h.1.1 h.2.1 h.1.2 h.2.2]
    exact k H locs la hR hS hl
theorem k_idiv (hx : Cx x g cc own nL R) {a b : Int} (hd : At cc pc .idiv 1 pc') (h : (0 ≤ a ∧ a < 2147483648) ∧ (0 < b ∧ b < 2147483648)) (k : K x g cs sl L n M pc' ls (vI (a / b) :: st)) : K x g cs sl L n M pc ls (vI b :: vI a :: st) := by
  intro H locs la hR hS hl
  obtain ⟨h1, h2⟩ := hd; subst h2
  refine lv_idiv hx.1 hx.2.1 h1 (fun q => ?_) ?_
  · rw [← zI_0, zI_eq (by omega)] at q
    omega
  · rw [zI_idiv h.1.1 h.2.1 h.1.2 h.2.2]
    exact k H locs la hR hS hl
theorem k_iand (hx : Cx x g cc own nL R) {a b : Int32} {v : Int32} (hd : At cc pc .iand 1 pc') (hv : a &&& b = v) (k : K x g cs sl L n M pc' ls (.int v :: st)) : K x g cs sl L n M pc ls (.int b :: .int a :: st) := by
  intro H locs la hR hS hl
  obtain ⟨h1, h2⟩ := hd; subst h2; subst hv
  exact lv_iand hx.1 hx.2.1 h1 (k H locs la hR hS hl)
theorem k_ior (hx : Cx x g cc own nL R) {a b : Int32} {v : Int32} (hd : At cc pc .ior 1 pc') (hv : a ||| b = v) (k : K x g cs sl L n M pc' ls (.int v :: st)) : K x g cs sl L n M pc ls (.int b :: .int a :: st) := by
  intro H locs la hR hS hl
  obtain ⟨h1, h2⟩ := hd; subst h2; subst hv
  exact lv_ior hx.1 hx.2.1 h1 (k H locs la hR hS hl)
theorem k_ixor (hx : Cx x g cc own nL R) {a b : Int32} {v : Int32} (hd : At cc pc .ixor 1 pc') (hv : a ^^^ b = v) (k : K x g cs sl L n M pc' ls (.int v :: st)) : K x g cs sl L n M pc ls (.int b :: .int a :: st) := by
  intro H locs la hR hS hl
  obtain ⟨h1, h2⟩ := hd; subst h2; subst hv
  exact lv_ixor hx.1 hx.2.1 h1 (k H locs la hR hS hl)
theorem k_ishl (hx : Cx x g cc own nL R) {a b : Int32} {v : Int32} (hd : At cc pc .ishl 1 pc') (hv : a <<< (b &&& 31) = v) (k : K x g cs sl L n M pc' ls (.int v :: st)) : K x g cs sl L n M pc ls (.int b :: .int a :: st) := by
  intro H locs la hR hS hl
  obtain ⟨h1, h2⟩ := hd; subst h2; subst hv
  exact lv_ishl hx.1 hx.2.1 h1 (k H locs la hR hS hl)
theorem k_ishr (hx : Cx x g cc own nL R) {a b : Int32} {v : Int32} (hd : At cc pc .ishr 1 pc') (hv : a >>> (b &&& 31) = v) (k : K x g cs sl L n M pc' ls (.int v :: st)) : K x g cs sl L n M pc ls (.int b :: .int a :: st) := by
  intro H locs la hR hS hl
  obtain ⟨h1, h2⟩ := hd; subst h2; subst hv
  exact lv_ishr hx.1 hx.2.1 h1 (k H locs la hR hS hl)
theorem k_iushr (hx : Cx x g cc own nL R) {a b : Int32} {v : Int32} (hd : At cc pc .iushr 1 pc') (hv : (a.toUInt32 >>> (b.toUInt32 &&& Int32.toUInt32 31)).toInt32 = v) (k : K x g cs sl L n M pc' ls (.int v :: st)) : K x g cs sl L n M pc ls (.int b :: .int a :: st) := by
  intro H locs la hR hS hl
  obtain ⟨h1, h2⟩ := hd; subst h2
  exact lv_iushr hx.1 hx.2.1 h1 hv (k H locs la hR hS hl)
theorem k_land (hx : Cx x g cc own nL R) {a b : Int64} (hd : At cc pc .land 1 pc') (k : K x g cs sl L n M pc' ls (.long (a &&& b) :: st)) : K x g cs sl L n M pc ls (.long b :: .long a :: st) := by
  intro H locs la hR hS hl
  obtain ⟨h1, h2⟩ := hd; subst h2
  exact lv_land hx.1 hx.2.1 h1 (k H locs la hR hS hl)
theorem k_lor (hx : Cx x g cc own nL R) {a b : Int64} (hd : At cc pc .lor 1 pc') (k : K x g cs sl L n M pc' ls (.long (a ||| b) :: st)) : K x g cs sl L n M pc ls (.long b :: .long a :: st) := by
  intro H locs la hR hS hl
  obtain ⟨h1, h2⟩ := hd; subst h2
  exact lv_lor hx.1 hx.2.1 h1 (k H locs la hR hS hl)
theorem k_lshl (hx : Cx x g cc own nL R) {a : Int64} {b : Int32} (hd : At cc pc .lshl 1 pc') (k : K x g cs sl L n M pc' ls (.long (a <<< (b.toInt64 &&& 63)) :: st)) : K x g cs sl L n M pc ls (.int b :: .long a :: st) := by
  intro H locs la hR hS hl
  obtain ⟨h1, h2⟩ := hd; subst h2
  exact lv_lshl hx.1 hx.2.1 h1 rfl (k H locs la hR hS hl)
theorem k_lshr (hx : Cx x g cc own nL R) {a : Int64} {b : Int32} (hd : At cc pc .lshr 1 pc') (k : K x g cs sl L n M pc' ls (.long (a >>> (b.toInt64 &&& 63)) :: st)) : K x g cs sl L n M pc ls (.int b :: .long a :: st) := by
  intro H locs la hR hS hl
  obtain ⟨h1, h2⟩ := hd; subst h2
  exact lv_lshr hx.1 hx.2.1 h1 rfl (k H locs la hR hS hl)
theorem k_lushr (hx : Cx x g cc own nL R) {a : Int64} {b : Int32} (hd : At cc pc .lushr 1 pc') (k : K x g cs sl L n M pc' ls (.long (a.toUInt64 >>> (b.toInt64.toUInt64 &&& Int64.toUInt64 63)).toInt64 :: st)) : K x g cs sl L n M pc ls (.int b :: .long a :: st) := by
  intro H locs la hR hS hl
  obtain ⟨h1, h2⟩ := hd; subst h2
  exact lv_lushr hx.1 hx.2.1 h1 rfl (k H locs la hR hS hl)
theorem k_i2l (hx : Cx x g cc own nL R) {a : Int32} (hd : At cc pc .i2l 1 pc') (k : K x g cs sl L n M pc' ls (.long a.toInt64 :: st)) : K x g cs sl L n M pc ls (.int a :: st) := by
  intro H locs la hR hS hl
  obtain ⟨h1, h2⟩ := hd; subst h2
  exact lv_i2l hx.1 hx.2.1 h1 rfl (k H locs la hR hS hl)
theorem k_l2i (hx : Cx x g cc own nL R) {a : Int64} {v : Int32} (hd : At cc pc .l2i 1 pc') (hv : a.toInt32 = v) (k : K x g cs sl L n M pc' ls (.int v :: st)) : K x g cs sl L n M pc ls (.long a :: st) := by
  intro H locs la hR hS hl
  obtain ⟨h1, h2⟩ := hd; subst h2
  exact lv_l2i hx.1 hx.2.1 h1 hv (k H locs la hR hS hl)
theorem k_lcmp (hx : Cx x g cc own nL R) {a b : Int64} (hd : At cc pc .lcmp 1 pc') (k : K x g cs sl L n M pc' ls (.int (lg_cmp a b) :: st)) : K x g cs sl L n M pc ls (.long b :: .long a :: st) := by
  intro H locs la hR hS hl
  obtain ⟨h1, h2⟩ := hd; subst h2
  exact W.lcmp hx.1 hx.2.1 h1 (k H locs la hR hS hl)
theorem k_dup (hx : Cx x g cc own nL R) {v : Value} (hd : At cc pc .dup 1 pc') (hv : v.category = 1) (k : K x g cs sl L n M pc' ls (v :: v :: st)) : K x g cs sl L n M pc ls (v :: st) := by
  intro H locs la hR hS hl
  obtain ⟨h1, h2⟩ := hd; subst h2
  exact lv_dup hx.1 hx.2.1 h1 hv (k H locs la hR hS hl)
theorem k_pop (hx : Cx x g cc own nL R) {v : Value} (hd : At cc pc .pop 1 pc') (hv : v.category = 1) (k : K x g cs sl L n M pc' ls st) : K x g cs sl L n M pc ls (v :: st) := by
  intro H locs la hR hS hl
  obtain ⟨h1, h2⟩ := hd; subst h2
  exact lv_pop hx.1 hx.2.1 h1 hv (k H locs la hR hS hl)
theorem k_dup2 (hx : Cx x g cc own nL R) {v w : Value} (hd : At cc pc .dup2 1 pc') (hv : v.category = 1) (hw : w.category = 1) (k : K x g cs sl L n M pc' ls (v :: w :: v :: w :: st)) : K x g cs sl L n M pc ls (v :: w :: st) := by
  intro H locs la hR hS hl
  obtain ⟨h1, h2⟩ := hd; subst h2
  exact lv_dup2_11 hx.1 hx.2.1 h1 hv hw (k H locs la hR hS hl)
theorem k_goto (hx : Cx x g cc own nL R) (hd : Br cc pc .goto pc' tgt) (k : K x g cs sl L n M tgt ls st) : K x g cs sl L n M pc ls st := by
  intro H locs la hR hS hl
  obtain ⟨off, h1, h2, h3⟩ := hd
  exact lv_goto hx.1 hx.2.1 h1 h3 (k H locs la hR hS hl)
theorem k_ifeq (hx : Cx x g cc own nL R) {a : Int} (hd : Br cc pc (.ifCond .eq) pc' tgt) (h : -2147483648 ≤ a ∧ a < 2147483648) (kt : a = 0 → K x g cs sl L n M tgt ls st) (kf : ¬ a = 0 → K x g cs sl L n M pc' ls st) : K x g cs sl L n M pc ls (vI a :: st) := by
  intro H locs la hR hS hl
  obtain ⟨off, h1, h2, h3⟩ := hd; subst h2
  exact lv_if_eq hx.1 hx.2.1 h1 h3 (fun q => kt ((zI_eq ⟨h, by omega⟩).mp (by rw [zI_0]; exact q)) H locs la hR hS hl) (fun q => kf (fun z => q (by rw [z]; exact zI_0)) H locs la hR hS hl)
theorem k_ifne (hx : Cx x g cc own nL R) {a : Int} (hd : Br cc pc (.ifCond .ne) pc' tgt) (h : -2147483648 ≤ a ∧ a < 2147483648) (kt : ¬ a = 0 → K x g cs sl L n M tgt ls st) (kf : a = 0 → K x g cs sl L n M pc' ls st) : K x g cs sl L n M pc ls (vI a :: st) := by
  intro H locs la hR hS hl
  obtain ⟨off, h1, h2, h3⟩ := hd; subst h2
  exact lv_if_ne hx.1 hx.2.1 h1 h3 (fun q => kt (fun z => q (by rw [z]; exact zI_0)) H locs la hR hS hl) (fun q => kf ((zI_eq ⟨h, by omega⟩).mp (by rw [zI_0]; exact q)) H locs la hR hS hl)
theorem k_iflt (hx : Cx x g cc own nL R) {a : Int} (hd : Br cc pc (.ifCond .lt) pc' tgt) (h : -2147483648 ≤ a ∧ a < 2147483648) (kt : a < 0 → K x g cs sl L n M tgt ls st) (kf : ¬ a < 0 → K x g cs sl L n M pc' ls st) : K x g cs sl L n M pc ls (vI a :: st) := by
  intro H locs la hR hS hl
  obtain ⟨off, h1, h2, h3⟩ := hd; subst h2
  have e : zI a < 0 ↔ a < 0 := by rw [← zI_0]; exact zI_lt ⟨h, by omega⟩
  exact lv_if_lt hx.1 hx.2.1 h1 h3 (fun q => kt (e.mp q) H locs la hR hS hl) (fun q => kf (fun z => q (e.mpr z)) H locs la hR hS hl)
theorem k_ifge (hx : Cx x g cc own nL R) {a : Int} (hd : Br cc pc (.ifCond .ge) pc' tgt) (h : -2147483648 ≤ a ∧ a < 2147483648) (kt : 0 ≤ a → K x g cs sl L n M tgt ls st) (kf : ¬ 0 ≤ a → K x g cs sl L n M pc' ls st) : K x g cs sl L n M pc ls (vI a :: st) := by
  intro H locs la hR hS hl
  obtain ⟨off, h1, h2, h3⟩ := hd; subst h2
  have e : 0 ≤ zI a ↔ 0 ≤ a := by rw [← zI_0]; exact zI_le ⟨by omega, h⟩
  exact lv_if_ge hx.1 hx.2.1 h1 h3 (fun q => kt (e.mp q) H locs la hR hS hl) (fun q => kf (fun z => q (e.mpr z)) H locs la hR hS hl)
theorem k_ifle (hx : Cx x g cc own nL R) {a : Int} (hd : Br cc pc (.ifCond .le) pc' tgt) (h : -2147483648 ≤ a ∧ a < 2147483648) (kt : a ≤ 0 → K x g cs sl L n M tgt ls st) (kf : ¬ a ≤ 0 → K x g cs sl L n M pc' ls st) : K x g cs sl L n M pc ls (vI a :: st) := by
  intro H locs la hR hS hl
  obtain ⟨off, h1, h2, h3⟩ := hd; subst h2
  have e : zI a ≤ 0 ↔ a ≤ 0 := by rw [← zI_0]; exact zI_le ⟨h, by omega⟩
  exact lv_if_le hx.1 hx.2.1 h1 h3 (fun q => kt (e.mp q) H locs la hR hS hl) (fun q => kf (fun z => q (e.mpr z)) H locs la hR hS hl)
theorem k_icmp_eq (hx : Cx x g cc own nL R) {a b : Int} (hd : Br cc pc (.if_icmp .eq) pc' tgt) (h : (-2147483648 ≤ a ∧ a < 2147483648) ∧ (-2147483648 ≤ b ∧ b < 2147483648)) (kt : a = b → K x g cs sl L n M tgt ls st) (kf : ¬ a = b → K x g cs sl L n M pc' ls st) : K x g cs sl L n M pc ls (vI b :: vI a :: st) := by
  intro H locs la hR hS hl
  obtain ⟨off, h1, h2, h3⟩ := hd; subst h2
  exact lv_icmp_eq hx.1 hx.2.1 h1 h3 (fun q => kt ((zI_eq h).mp q) H locs la hR hS hl) (fun q => kf (fun z => q ((zI_eq h).mpr z)) H locs la hR hS hl)
theorem k_icmp_ne (hx : Cx x g cc own nL R) {a b : Int} (hd : Br cc pc (.if_icmp .ne) pc' tgt) (h : (-2147483648 ≤ a ∧ a < 2147483648) ∧ (-2147483648 ≤ b ∧ b < 2147483648)) (kt : ¬ a = b → K x g cs sl L n M tgt ls st) (kf : a = b → K x g cs sl L n M pc' ls st) : K x g cs sl L n M pc ls (vI b :: vI a :: st) := by
  intro H locs la hR hS hl
  obtain ⟨off, h1, h2, h3⟩ := hd; subst h2
  exact lv_icmp_ne hx.1 hx.2.1 h1 h3 (fun q => kt (fun z => q ((zI_eq h).mpr z)) H locs la hR hS hl) (fun q => kf ((zI_eq h).mp q) H locs la hR hS hl)
theorem k_icmp_lt (hx : Cx x g cc own nL R) {a b : Int} (hd : Br cc pc (.if_icmp .lt) pc' tgt) (h : (-2147483648 ≤ a ∧ a < 2147483648) ∧ (-2147483648 ≤ b ∧ b < 2147483648)) (kt : a < b → K x g cs sl L n M tgt ls st) (kf : ¬ a < b → K x g cs sl L n M pc' ls st) : K x g cs sl L n M pc ls (vI b :: vI a :: st) := by
  intro H locs la hR hS hl
  obtain ⟨off, h1, h2, h3⟩ := hd; subst h2
  exact lv_icmp_lt hx.1 hx.2.1 h1 h3 (fun q => kt ((zI_lt h).mp q) H locs la hR hS hl) (fun q => kf (fun z => q ((zI_lt h).mpr z)) H locs la hR hS hl)
theorem k_icmp_ge (hx : Cx x g cc own nL R) {a b : Int} (hd : Br cc pc (.if_icmp .ge) pc' tgt) (h : (-2147483648 ≤ a ∧ a < 2147483648) ∧ (-2147483648 ≤ b ∧ b < 2147483648)) (kt : b ≤ a → K x g cs sl L n M tgt ls st) (kf : ¬ b ≤ a → K x g cs sl L n M pc' ls st) : K x g cs sl L n M pc ls (vI b :: vI a :: st) := by
  intro H locs la hR hS hl
  obtain ⟨off, h1, h2, h3⟩ := hd; subst h2
  exact lv_icmp_ge hx.1 hx.2.1 h1 h3 (fun q => kt ((zI_le ⟨h.2, h.1⟩).mp q) H locs la hR hS hl) (fun q => kf (fun z => q ((zI_le ⟨h.2, h.1⟩).mpr z)) H locs la hR hS hl)
theorem k_icmp_gt (hx : Cx x g cc own nL R) {a b : Int} (hd : Br cc pc (.if_icmp .gt) pc' tgt) (h : (-2147483648 ≤ a ∧ a < 2147483648) ∧ (-2147483648 ≤ b ∧ b < 2147483648)) (kt : b < a → K x g cs sl L n M tgt ls st) (kf : ¬ b < a → K x g cs sl L n M pc' ls st) : K x g cs sl L n M pc ls (vI b :: vI a :: st) := by
  intro H locs la hR hS hl
  obtain ⟨off, h1, h2, h3⟩ := hd; subst h2
  exact lv_icmp_gt hx.1 hx.2.1 h1 h3 (fun q => kt ((zI_lt ⟨h.2, h.1⟩).mp q) H locs la hR hS hl) (fun q => kf (fun z => q ((zI_lt ⟨h.2, h.1⟩).mpr z)) H locs la hR hS hl)
theorem k_icmp_le (hx : Cx x g cc own nL R) {a b : Int} (hd : Br cc pc (.if_icmp .le) pc' tgt) (h : (-2147483648 ≤ a ∧ a < 2147483648) ∧ (-2147483648 ≤ b ∧ b < 2147483648)) (kt : a ≤ b → K x g cs sl L n M tgt ls st) (kf : ¬ a ≤ b → K x g cs sl L n M pc' ls st) : K x g cs sl L n M pc ls (vI b :: vI a :: st) := by
  intro H locs la hR hS hl
  obtain ⟨off, h1, h2, h3⟩ := hd; subst h2
  exact lv_icmp_le hx.1 hx.2.1 h1 h3 (fun q => kt ((zI_le h).mp q) H locs la hR hS hl) (fun q => kf (fun z => q ((zI_le h).mpr z)) H locs la hR hS hl)
theorem k_tsOut (hx : Cx x g cc own nL R) {dflt lo hi : Int} {offs : Array Int} {len : Nat} {a : Int} (hd : decode cc pc = .ok (.tableswitch dflt lo hi offs, len)) (ht : (pc : Int) + dflt = (tgt : Int)) (h : -2147483648 ≤ a ∧ a < 2147483648) (h2 : a < lo ∨ hi < a) (k : K x g cs sl L n M tgt ls st) : K x g cs sl L n M pc ls (vI a :: st) := by
  intro H locs la hR hS hl
  exact lv_tableOut hx.1 hx.2.1 hd (by rw [zI_int h]; exact h2) ht (k H locs la hR hS hl)
theorem k_tsIn (hx : Cx x g cc own nL R) {dflt lo hi off : Int} {offs : Array Int} {len : Nat} {a : Int} (hd : decode cc pc = .ok (.tableswitch dflt lo hi offs, len)) (h : -2147483648 ≤ a ∧ a < 2147483648) (h1 : ¬ a < lo) (h2 : ¬ hi < a) (ho : offs[(a - lo).toNat]? = some off) (ht : (pc : Int) + off = (tgt : Int)) (k : K x g cs sl L n M tgt ls st) : K x g cs sl L n M pc ls (vI a :: st) := by
  intro H locs la hR hS hl
  exact lv_tableIn hx.1 hx.2.1 hd (by rw [zI_int h]; exact h1) (by rw [zI_int h]; exact h2) (by rw [zI_int h]; exact ho) ht (k H locs la hR hS hl)
end ROWS
end
section
/-! rows of fields and arrays, of calls and ends, over the world at fixed places -/
/-- the entry 'index' of 'own' is the field k of class ci -/
def FL (own : String) (index ci k : Nat) (fin : Bool) (ft : FieldType) : Prop := ∃ (C : String) (T : u_T) (N : Nat) (ty : Nat → FieldType), classes[ci]? = some (C, T, N) ∧ k < N ∧ Cond.fieldLink own index (T k).1 (T k).2.1 (T k).2.2.1 ∈ TB ∧ (∀ w ∈ u_ws C T N, w ∈ TB) ∧ (∀ k, k < N → parseFieldDescriptor (T k).2.2.1 = some (ty k)) ∧ (∀ a, a < N → ∀ b, b < N → a ≠ b → (T a).2.1 ≠ (T b).2.1) ∧ (T k).2.2.2 = fin ∧ ty k = ft ∧ (T k).1 = C
theorem Rep.up {g : GE} {n : Nat} {L : Lay} {M : Mem} {H H1 : Heap} {i : Nat} {k z : Int} (hR : Rep g n L M H) (hs : H1.size = H.size) (ho : ∀ q : Nat, q ≠ g.1 + i → H1[q]? = H[q]?) (hi : i < n) (hc : cellAt g (g.1 + i) (up M i k z i) H1 (L i)) : Rep g n L (up M i k z) H1 := by
  refine ⟨by rw [hs]; exact hR.1, fun j hj => ?_⟩
  by_cases hji : j = i
  · subst hji; exact hc
  · rw [up_i hji]
    exact (hR.2 j hj).kept (ho _ (fun q => hji (by omega)))
/-- the layout of one cell changes, its numbers stay (a reference is put) -/
def upL (L : Lay) (i : Nat) (k : LK) : Lay := fun a => if a = i then k else L a
theorem upL_s {L : Lay} {i : Nat} {k : LK} : upL L i k i = k := if_pos rfl
theorem upL_n {L : Lay} {i a : Nat} {k : LK} (h : a ≠ i) : upL L i k a = L a := if_neg h
theorem Rep.upL {g : GE} {n : Nat} {L : Lay} {M : Mem} {H H1 : Heap} {i : Nat} {k : LK} (hR : Rep g n L M H) (hs : H1.size = H.size) (ho : ∀ q : Nat, q ≠ g.1 + i → H1[q]? = H[q]?) (hi : i < n) (hc : cellAt g (g.1 + i) (M i) H1 k) : Rep g n (upL L i k) M H1 := by
  refine ⟨by rw [hs]; exact hR.1, fun j hj => ?_⟩
  by_cases hji : j = i
  · subst hji; rw [upL_s]; exact hc
  · rw [upL_n hji]
    exact (hR.2 j hj).kept (ho _ (fun q => hji (by omega)))
theorem cellAt.obj {g : GE} {a : Nat} {m : Int → Int} {H : Heap} {ci : Nat} {fs : List FS} {C : String} {T : u_T} {N : Nat} (hc : classes[ci]? = some (C, T, N)) (h : cellAt g a m H (kO ci fs)) : t_OB a (g.2.1.1 ci) N (g.2.1.2 ci) H (fun k => fv g m k (fs.getD k none)) := by
  obtain ⟨r, h1, h2⟩ := h
  have hr : r = (C, T, N) := Option.some.inj (h1.symm.trans hc)
  subst hr
  exact h2
section ROWS2
variable {x : Fx} {g : GE} {cc : ByteArray} {own : String} {nL : Nat} {R : Room} {cs sl : Nat} {L : Lay} {n : Nat} {M : Mem} {pc pc' tgt : Nat} {ls : List (Nat × Value)} {st : List Value}
theorem k_get (hx : Cx x g cc own nL R) {index ci k i : Nat} {fin : Bool} {ft : FieldType} {fs : List FS} {v : Value} (hf : FL own index ci k fin ft) (hd : At cc pc (.getfield index) 3 pc') (hi : i < n) (hL : L i = kO ci fs) (hv : fv g (M i) k (fs.getD k none) = v) (kk : K x g cs sl L n M pc' ls (v :: st)) : K x g cs sl L n M pc ls (vR g i :: st) := by
  intro H locs la hR hS hl
  obtain ⟨hex, hcc, hnl, how, hts, hK, -⟩ := hx
  obtain ⟨C, T, N, ty, hc, hk, hlk, hin, hty, hnm, -⟩ := hf
  obtain ⟨hd1, hd2⟩ := hd
  subst hd2
  have hcell := hR.2 i hi
  rw [hL] at hcell
  obtain ⟨cell, q1, q2, q3, q4⟩ := cellAt.obj hc hcell
  obtain ⟨hSl, hfc, kC, hkC, hkind⟩ := hK.1.1 ci _ hc
  obtain ⟨cf, kf, fi, f, hi', hsl⟩ := hSl k hk
  refine W.getf hex hcc how (hts _ hlk) hi' (u_facts hfc hkC (u_lays hts hin hk) hi').1 q1 (by rw [q3]; exact fun h => by cases h) (v := v) ?_ rfl rfl hd1 (kk H locs la hR hS hl)
  rw [hsl, q4 k hk]
  exact congrArg some hv
theorem k_put (hx : Cx x g cc own nL R) {index ci k i : Nat} {fs : List FS} {z : Int} {ft : FieldType} (hf : FL own index ci k false ft) (hd : At cc pc (.putfield index) 3 pc') (hi : i < n) (hL : L i = kO ci fs) (hn : fs.getD k none = none) (hz : narrow ft (vI z) = vI z ∧ fits ft (vI z) = true) (kk : K x g cs sl L n (up M i k z) pc' ls st) : K x g cs sl L n M pc ls (vI z :: vR g i :: st) := by
  intro H locs la hR hS hl
  obtain ⟨hex, hcc, hnl, how, hts, hK, -⟩ := hx
  obtain ⟨C, T, N, ty, hc, hk, hlk, hin, hty, hnm, hfin, hft, -⟩ := hf
  obtain ⟨hd1, hd2⟩ := hd
  subst hd2
  have hcell := hR.2 i hi
  rw [hL] at hcell
  obtain ⟨cell, q1, q2, q3, q4⟩ := cellAt.obj hc hcell
  have hap := va_apart (own := own) hts hin ty hty hnm hK.1 hc
  obtain ⟨hSl, hfc, kC, hkC, hkind⟩ := hK.1.1 ci _ hc
  obtain ⟨cf, kf, fi, f, hi', hsl⟩ := hSl k hk
  have hlay := hts _ (hin _ (u_in_lay hk))
  unfold u_lay at hlay
  rw [if_neg (by rw [hfin]; decide)] at hlay
  have hst := (u_facts hfc hkC (u_lays hts hin hk) hi').1
  have h6 := u_store (v := vI z) hfc hkC hkind hlay hi' (by rw [hty k hk, hft]) hz.1 hz.2
  refine W.putK hex hcc (f := f) ⟨how, hts _ hlk, ⟨_, _, _, hi'⟩, hst⟩ (by rw [q2]; exact h6) q1 q3 (by rw [hsl]; exact k2_hasslot (q4 k hk)) rfl rfl hd1 fun H' e1 e2 e3 => ?_
  rw [hsl] at e1
  refine kk H' _ la (hR.up e2 e3 hi ?_) (hS.put e2 e3 (Nat.le_add_right _ _)) hl
  rw [hL]
  refine ⟨_, hc, t_OB.to ⟨_, e1, q2, q3, t_set q4 hap hk (vI z)⟩ (fun j hj => ?_)⟩
  by_cases hjk : j = k
  · subst hjk
    rw [hn]
    simp [updV, fv, up_s]
  · have e : ∀ o : FS, fv g (M i) j o = fv g (up M i k z i) j o := fun o => by
      match o with
      | none => exact congrArg vI (up_k (show (j : Int) ≠ (k : Int) by omega)).symm
      | some none => rfl
      | some (some q) => rfl
    simp [updV, hjk]
    exact e _
/-- a reference (or null) is put: into a field that is final, in a constructor -/
theorem k_putF (hx : Cx x g cc own nL R) (hin2 : (xT x).name = "<init>") {index ci k i : Nat} {fs fs' : List FS} {v : Value} {o : FS} {ft : FieldType} (hf : FL own index ci k true ft) (hown : ∀ q : vw_C, classes[ci]? = some q → q.1 = own) (hd : At cc pc (.putfield index) 3 pc') (hi : i < n) (hL : L i = kO ci fs) (hv : ∀ m : Int → Int, fv g m k o = v) (hz : narrow ft v = v ∧ fits ft v = true) (hs : fs' = fs.set k o) (hk2 : k < fs.length) (kk : K x g cs sl (upL L i (kO ci fs')) n M pc' ls st) : K x g cs sl L n M pc ls (v :: vR g i :: st) := by
  intro H locs la hR hS hl
  obtain ⟨hex, hcc, hnl, how, hts, hK, -⟩ := hx
  obtain ⟨C, T, N, ty, hc, hk, hlk, hin, hty, hnm, hfin, hft, hdecl⟩ := hf
  obtain ⟨hd1, hd2⟩ := hd
  subst hd2
  have hcell := hR.2 i hi
  rw [hL] at hcell
  obtain ⟨cell, q1, q2, q3, q4⟩ := cellAt.obj hc hcell
  have hap := va_apart (own := own) hts hin ty hty hnm hK.1 hc
  obtain ⟨hSl, hfc, kC, hkC, hkind⟩ := hK.1.1 ci _ hc
  obtain ⟨cf, kf, fi, f, hi', hsl⟩ := hSl k hk
  have hlay := hts _ (hin _ (u_in_lay hk))
  unfold u_lay at hlay
  rw [if_pos hfin] at hlay
  have hst := (u_facts hfc hkC (u_lays hts hin hk) hi').1
  have hcf : (xM x).cls = cf := by
    obtain ⟨_, _, c', _, _, _, -, -, hf', -, -, -, hown2, -⟩ := Cond.laysFinal_spec hlay
    have e1 : c' = cf := by have := hi'.symm.trans hf'; simp at this; exact this.1.symm
    rw [hdecl, show C = own from hown _ hc] at hown2
    rw [← e1]; exact Option.some.inj (how.symm.trans hown2)
  have h6 := u_fits hfc hkC hkind (Or.inr hlay) hi' (by rw [hty k hk, hft]) hz.1 hz.2
  refine W.putFinK hex hcc how (hts _ hlk) hi' hst hcf hin2 (by rw [q2]; exact h6) q1 q3 (by rw [hsl]; exact k2_hasslot (q4 k hk)) rfl rfl hd1 fun H' e1 e2 e3 => ?_
  rw [hsl] at e1
  refine kk H' _ la (hR.upL e2 e3 hi ?_) (hS.put e2 e3 (Nat.le_add_right _ _)) hl
  subst hs
  refine ⟨_, hc, t_OB.to ⟨_, e1, q2, q3, t_set q4 hap hk v⟩ (fun j hj => ?_)⟩
  by_cases hjk : j = k
  · subst hjk
    simp [updV, List.getD_eq_getElem?_getD, List.getElem?_set, hk2, hv]
  · simp [updV, hjk, List.getD_eq_getElem?_getD, List.getElem?_set, Ne.symm hjk]
theorem k_iald (hx : Cx x g cc own nL R) {i N : Nat} {z v : Int} (hd : At cc pc .iaload 1 pc') (hi : i < n) (hL : L i = kA 0 N) (hz : 0 ≤ z ∧ z < N) (hN : N ≤ 2147483647) (hv : M i z = v) (kk : K x g cs sl L n M pc' ls (vI v :: st)) : K x g cs sl L n M pc ls (vI z :: vR g i :: st) := by
  intro H locs la hR hS hl
  obtain ⟨hex, hcc, hnl, how, hts, hK, -⟩ := hx
  obtain ⟨hd1, hd2⟩ := hd
  subst hd2; subst hv
  have hcell := hR.2 i hi
  rw [hL] at hcell
  have hc := zI_clamp hz.1 hz.2 hN
  have h1 := zI_in hz.1 hz.2 hN
  refine W.iald (v := vI (M i z)) hex hcc hcell ((hK.1.2 0 _ rfl).1 N (fun j => vI (M i (j : Int)))) (fun q => by cases q) (by rw [arrV_size]; exact h1) (by rw [arrV_read _ _ (by omega), hc]) rfl rfl hd1 (kk H locs la hR hS hl)
theorem k_iast (hx : Cx x g cc own nL R) {i N : Nat} {z v : Int} (hd : At cc pc .iastore 1 pc') (hi : i < n) (hL : L i = kA 0 N) (hz : 0 ≤ z ∧ z < N) (hN : N ≤ 2147483647) (kk : K x g cs sl L n (up M i z v) pc' ls st) : K x g cs sl L n M pc ls (vI v :: vI z :: vR g i :: st) := by
  intro H locs la hR hS hl
  obtain ⟨hex, hcc, hnl, how, hts, hK, -⟩ := hx
  obtain ⟨hd1, hd2⟩ := hd
  subst hd2
  have hcell := hR.2 i hi
  rw [hL] at hcell
  have hc := zI_clamp hz.1 hz.2 hN
  have h1 := zI_in hz.1 hz.2 hN
  refine W.iast hex hcc hcell ((hK.1.2 0 _ rfl).1 N (fun j => vI (M i (j : Int)))) (fun q => by cases q) (by rw [arrV_size]; exact h1) rfl rfl hd1 (fun H' e1 e2 e3 => ?_)
  refine kk H' _ la (hR.up e2 e3 hi ?_) (hS.put e2 e3 (Nat.le_add_right _ _)) hl
  rw [hL]
  show H'[g.1 + i]? = some (arrV (g.2.2 0) N (fun j => vI (up M i z v i (j : Int))))
  rw [e1, arrV_store]
  congr 2
  funext j
  by_cases hj : j = (zI z).toNatClampNeg
  · subst hj
    simp [updV, hc, up_s]
  · have : (j : Int) ≠ z := fun q => hj (by omega)
    simp [updV, hj, up_k this]
theorem k_zald (hx : Cx x g cc own nL R) {i N : Nat} {z v : Int} (hd : At cc pc .baload 1 pc') (hi : i < n) (hL : L i = kA 1 N) (hz : 0 ≤ z ∧ z < N) (hN : N ≤ 2147483647) (hv : M i z = v) (kk : K x g cs sl L n M pc' ls (vI v :: st)) : K x g cs sl L n M pc ls (vI z :: vR g i :: st) := by
  intro H locs la hR hS hl
  obtain ⟨hex, hcc, hnl, how, hts, hK, -⟩ := hx
  obtain ⟨hd1, hd2⟩ := hd
  subst hd2; subst hv
  have hcell := hR.2 i hi
  rw [hL] at hcell
  have hc := zI_clamp hz.1 hz.2 hN
  have h1 := zI_in hz.1 hz.2 hN
  refine W.zald (v := vI (M i z)) hex hcc hcell ((hK.1.2 1 _ rfl).1 N (fun j => vI (M i (j : Int)))) (fun q => by cases q) (by rw [arrV_size]; exact h1) (by rw [arrV_read _ _ (by omega), hc]) rfl rfl hd1 (kk H locs la hR hS hl)
theorem k_zast (hx : Cx x g cc own nL R) {i N : Nat} {z v : Int} (hd : At cc pc .bastore 1 pc') (hi : i < n) (hL : L i = kA 1 N) (hz : 0 ≤ z ∧ z < N) (hN : N ≤ 2147483647) (hv : v = 0 ∨ v = 1) (kk : K x g cs sl L n (up M i z v) pc' ls st) : K x g cs sl L n M pc ls (vI v :: vI z :: vR g i :: st) := by
  intro H locs la hR hS hl
  obtain ⟨hex, hcc, hnl, how, hts, hK, -⟩ := hx
  obtain ⟨hd1, hd2⟩ := hd
  subst hd2
  have hcell := hR.2 i hi
  rw [hL] at hcell
  have hc := zI_clamp hz.1 hz.2 hN
  have h1 := zI_in hz.1 hz.2 hN
  have hnar : narrow .boolean (vI v) = vI v := by rcases hv with rfl | rfl <;> decide +kernel
  refine W.zast hex hcc hcell ((hK.1.2 1 _ rfl).1 N (fun j => vI (M i (j : Int)))) (fun q => by cases q) (by rw [arrV_size]; exact h1) rfl rfl hd1 (fun H' e1 e2 e3 => ?_)
  refine kk H' _ la (hR.up e2 e3 hi ?_) (hS.put e2 e3 (Nat.le_add_right _ _)) hl
  rw [hL]
  show H'[g.1 + i]? = some (arrV (g.2.2 1) N (fun j => vI (up M i z v i (j : Int))))
  rw [e1, hnar, arrV_store]
  congr 2
  funext j
  by_cases hj : j = (zI z).toNatClampNeg
  · subst hj
    simp [updV, hc, up_s]
  · have : (j : Int) ≠ z := fun q => hj (by omega)
    simp [updV, hj, up_k this]
theorem k_aald (hx : Cx x g cc own nL R) {i t q : Nat} {qs : List (Option Nat)} {z : Int} (hd : At cc pc .aaload 1 pc') (hi : i < n) (hL : L i = kR t qs) (ht : t = 2 ∨ t = 3) (hz : 0 ≤ z ∧ z < qs.length) (hN : qs.length ≤ 2147483647) (hv : qs.getD z.toNat none = some q) (kk : K x g cs sl L n M pc' ls (vR g q :: st)) : K x g cs sl L n M pc ls (vI z :: vR g i :: st) := by
  intro H locs la hR hS hl
  obtain ⟨hex, hcc, hnl, how, hts, hK, -⟩ := hx
  obtain ⟨hd1, hd2⟩ := hd
  subst hd2
  have hcell := hR.2 i hi
  rw [hL] at hcell
  have hc := zI_clamp hz.1 hz.2 hN
  have h1 := zI_in hz.1 hz.2 hN
  have hidx : (zI z).toNatClampNeg = z.toNat := by omega
  have har : ∀ f, (xS x).isArrayOf (arrV (g.2.2 t) qs.length f) (tyT t) := fun f => by
    rcases ht with rfl | rfl
    · exact (hK.1.2 2 _ rfl).1 _ f
    · exact (hK.1.2 3 _ rfl).1 _ f
  refine W.aald (v := vR g q) hex hcc hcell (har _) (by rcases ht with rfl | rfl <;> rfl) (fun q => by cases q) (by rw [arrV_size]; exact h1) ?_ rfl rfl hd1 (kk H locs la hR hS hl)
  rw [arrV_read _ _ (by omega), hidx, hv]
  rfl
theorem k_alen (hx : Cx x g cc own nL R) {i t N : Nat} (hd : At cc pc .arraylength 1 pc') (hi : i < n) (hL : L i = kA t N) (ht : t = 0 ∨ t = 1) (kk : K x g cs sl L n M pc' ls (vI N :: st)) : K x g cs sl L n M pc ls (vR g i :: st) := by
  intro H locs la hR hS hl
  obtain ⟨hex, hcc, hnl, how, hts, hK, -⟩ := hx
  obtain ⟨hd1, hd2⟩ := hd
  subst hd2
  have hcell := hR.2 i hi
  rw [hL] at hcell
  have har : ∀ f, (xS x).isArrayOf (arrV (g.2.2 t) N f) (tyT t) := fun f => by
    rcases ht with rfl | rfl
    · exact (hK.1.2 0 _ rfl).1 _ f
    · exact (hK.1.2 1 _ rfl).1 _ f
  refine W.alen (n := zI N) hex hcc hcell (har _) ?_ rfl rfl hd1 (kk H locs la hR hS hl)
  rw [arrV_size]
  exact (Int32.ofInt_eq_ofNat (n := N)).symm
theorem k_ldc2 (hx : Cx x g cc own nL R) {index : Nat} {v : Int64} (hd : At cc pc (.ldc2_w index) 3 pc') (hc : Cond.constantLong own index v ∈ TB) (kk : K x g cs sl L n M pc' ls (.long v :: st)) : K x g cs sl L n M pc ls st := by
  intro H locs la hR hS hl
  obtain ⟨hex, hcc, hnl, how, hts, hK, -⟩ := hx
  obtain ⟨hd1, hd2⟩ := hd
  subst hd2
  exact lv_ldc2 hex hcc how (hts _ hc) hd1 (kk H locs la hR hS hl)
end ROWS2
/-! contracts -/
abbrev mW (μ : Mu) : List Cond := .code μ.1 μ.2.1 μ.2.2.1 μ.2.2.2.1 :: TB
abbrev mRm (μ : Mu) (mc ms : Nat) : Room := { frames := μ.2.2.2.2.1, cells := mc, slots := ms, locals := μ.2.2.2.2.2 }
def Qz (g : GE) (post : Option Value → Lay → Nat → Mem → Prop) : Array Value → State → Outcome → State → Prop := fun _ st o t => (∃ (r : Option Value) (L : Lay) (n : Nat) (M : Mem), o = .returned r ∧ post r L n M ∧ Rep g n L M t.heap) ∧ va_F (fun q => g.1 ≤ q) st t
def Pz (g : GE) (av : List Value) (L : Lay) (n : Nat) (M : Mem) : Array Value → State → Prop := va_Pc av (fun U => Rep g n L M U.heap ∧ Kn g U)
def Ct (g : GE) (l : Launch) (μ : Mu) (mc ms : Nat) (av : List Value) (L : Lay) (n : Nat) (M : Mem) (post : Option Value → Lay → Nat → Mem → Prop) : Prop :=
  Met l μ.1 (mW μ) (mRm μ mc ms) (Pz g av L n M) (Qz g post) mc ms (fun q => g.1 ≤ q)
theorem Pz.blind {g : GE} {av : List Value} {L : Lay} {n : Nat} {M : Mem} : FrameBlind (Pz g av L n M) := fun _ _ _ _ q => ⟨q.1, q.2.1, q.2.2.eq rfl⟩
theorem Pz.of {g : GE} {av : List Value} {L : Lay} {n : Nat} {M : Mem} {s U : State} {H : Heap} (hR : Rep g n L M H) (hK : Kn g s) (hU : U.heap = H) (hW : s.WarmedH U.vm) : Pz g av L n M av.toArray U := ⟨rfl, by rw [hU]; exact hR, hK.warm hW⟩
/-- how the method ends -/
def Rx (x : Fx) (g : GE) (mc ms : Nat) (ret : Option FieldType) (post : Option Value → Lay → Nat → Mem → Prop) : Prop := (xT x).locks = false ∧ (xT x).sig.returnType = ret ∧ xQ x = MQ (xB x) (Qz g post) (xA x) (xS x) mc ms (fun q => g.1 ≤ q)
theorem Ct.of {g : GE} {l : Launch} {μ : Mu} {mc ms : Nat} {av : List Value} {L : Lay} {n : Nat} {M : Mem} {post : Option Value → Lay → Nat → Mem → Prop} (hy : plainName μ.1.cls = true) (hav : Nat.ble (lg_sl av).length μ.2.2.1 = true)
    (body : ∀ x : Fx, xL x = l → Cx x g μ.2.1 μ.1.cls μ.2.2.1 (mRm μ mc ms) → (xT x).name = μ.1.name → Rx x g mc ms μ.2.2.2.1 post → K x g 0 0 L n M 0 (lv_args 0 av) []) : Ct g l μ mc ms av L n M post := by
  refine Met.ofW (cc := μ.2.1) (maxL := μ.2.2.1) (ret := μ.2.2.2.1) hy rfl ?_
  intro p e s m args below meth c s₁ B hml hv
  obtain ⟨rfl, hR, hK⟩ := hv
  have hts := atoms_spec (ws := mW μ) B.pre
  have hl := lv_entry av (n := μ.2.2.1) (Nat.le_of_ble_eq_true hav)
  have k := body (p, l, e, mRm μ mc ms, s, m, av.toArray, below, meth, c, MQ below (Qz g post) av.toArray s mc ms (fun q => g.1 ≤ q)) rfl
    ⟨B.exec, B.bytes, hml, findClass_of_methodNamed B.named, fun w h => hts w (List.mem_cons_of_mem _ h), hK, rfl⟩ (name_of_methodNamed B.named B.method).1 ⟨B.notSynchronized, B.returns, rfl⟩
  rw [lg_entry_eq]
  refine k s.heap [] _ hR va_S.rf ?_
  show lv_has _ c.maxLocals _
  rw [hml]
  exact hl
section ENDS
variable {x : Fx} {g : GE} {cc : ByteArray} {own : String} {nL : Nat} {R : Room} {mc ms : Nat} {L : Lay} {n : Nat} {M : Mem} {pc : Nat} {ls : List (Nat × Value)} {post : Option Value → Lay → Nat → Mem → Prop}
theorem k_iret (hx : Cx x g cc own nL R) (hm : Rx x g mc ms (some .int) post) {z : Int} (hd : At cc pc .ireturn 1 (pc + 1)) (hp : post (some (vI z)) L n M) : K x g mc ms L n M pc ls [vI z] := by
  intro H locs la hR hS hl
  obtain ⟨h1, h2, h3⟩ := hm
  rw [h3]
  exact W.iret hx.1 hx.2.1 h2 (fun t ht _ => ⟨⟨_, L, n, M, rfl, hp, by rw [ht]; exact hR⟩, hS.F ht⟩) (fun q hq => hS.2.2 q hq) hd.1 (hlocks := h1)
theorem k_zret (hx : Cx x g cc own nL R) (hm : Rx x g mc ms (some .boolean) post) {z : Int} (hd : At cc pc .ireturn 1 (pc + 1)) (hz : z = 0 ∨ z = 1) (hp : post (some (vI z)) L n M) : K x g mc ms L n M pc ls [vI z] := by
  intro H locs la hR hS hl
  obtain ⟨h1, h2, h3⟩ := hm
  rw [h3]
  exact W.zret hx.1 hx.2.1 h2 (by rcases hz with rfl | rfl <;> decide +kernel) (fun t ht _ => ⟨⟨_, L, n, M, rfl, hp, by rw [ht]; exact hR⟩, hS.F ht⟩) (fun q hq => hS.2.2 q hq) hd.1 (hlocks := h1)
theorem k_vret (hx : Cx x g cc own nL R) (hm : Rx x g mc ms none post) (hd : At cc pc .return_ 1 (pc + 1)) (hp : post none L n M) : K x g mc ms L n M pc ls [] := by
  intro H locs la hR hS hl
  obtain ⟨h1, h2, h3⟩ := hm
  rw [h3]
  exact W.vret hx.1 hx.2.1 h2 (fun t ht _ => ⟨⟨_, L, n, M, rfl, hp, by rw [ht]; exact hR⟩, hS.F ht⟩) (fun q hq => hS.2.2 q hq) hd.1 (hlocks := h1)
end ENDS
/-! calls: what the tables say of a call's entry -/
def lkV (own : String) (index : Nat) (μ : Mu) (ci na : Nat) : Prop := Cond.methodLink own index μ.1 ∈ TB ∧ Cond.instanceMethod μ.1 ∈ TB ∧ Cond.selects μ.1.cls μ.1 μ.1 ∈ TB ∧ Cond.initialized μ.1.cls ∈ TB ∧ Cond.code μ.1 μ.2.1 μ.2.2.1 μ.2.2.2.1 ∈ TB ∧ (μ.1.cls = μ.1.cls ∧ μ.1.cls ≠ "java/lang/invoke/MethodHandle" ∧ μ.1.cls ≠ "java/lang/invoke/VarHandle" ∧ (parseMethodDescriptor μ.1.desc).map (fun d => d.parameters.length) = some na) ∧ ∃ T N, classes[ci]? = some (μ.1.cls, T, N)
def lkS (own : String) (index : Nat) (μ : Mu) (na : Nat) : Prop := Cond.methodLink own index μ.1 ∈ TB ∧ Cond.static μ.1 ∈ TB ∧ Cond.initialized μ.1.cls ∈ TB ∧ Cond.code μ.1 μ.2.1 μ.2.2.1 μ.2.2.2.1 ∈ TB ∧ (μ.1.cls ≠ "java/lang/invoke/MethodHandle" ∧ μ.1.cls ≠ "java/lang/invoke/VarHandle" ∧ (parseMethodDescriptor μ.1.desc).map (fun d => d.parameters.length) = some na)
def lkN (own : String) (index : Nat) (μ : Mu) (host : String) (na : Nat) : Prop := (own, index, μ.1, host) ∈ nestQ ∧ Cond.static μ.1 ∈ TB ∧ Cond.initialized μ.1.cls ∈ TB ∧ Cond.code μ.1 μ.2.1 μ.2.2.1 μ.2.2.2.1 ∈ TB ∧ (μ.1.cls ≠ "java/lang/invoke/MethodHandle" ∧ μ.1.cls ≠ "java/lang/invoke/VarHandle" ∧ (parseMethodDescriptor μ.1.desc).map (fun d => d.parameters.length) = some na)
def lkI (own : String) (index : Nat) (μ : Mu) (na : Nat) : Prop := Cond.methodLink own index μ.1 ∈ TB ∧ Cond.instanceMethod μ.1 ∈ TB ∧ Cond.initialized μ.1.cls ∈ TB ∧ Cond.code μ.1 μ.2.1 μ.2.2.1 μ.2.2.2.1 ∈ TB ∧ (μ.1.cls ≠ "java/lang/invoke/MethodHandle" ∧ μ.1.cls ≠ "java/lang/invoke/VarHandle" ∧ (parseMethodDescriptor μ.1.desc).map (fun d => d.parameters.length) = some na) ∧ μ.1.name = "<init>" ∧ μ.2.2.2.1 = none
theorem gdTB {μ : Mu} (h : Cond.code μ.1 μ.2.1 μ.2.2.1 μ.2.2.2.1 ∈ TB) : GoodIn TB (mW μ) := by
  intro w hw
  rcases List.mem_cons.mp hw with rfl | hw
  · exact ⟨h, gTB h⟩
  · exact ⟨hw, gTB hw⟩
section CALLS
variable {x : Fx} {g : GE} {cc : ByteArray} {own : String} {nL : Nat} {R : Room} {cs sl mc ms : Nat} {L : Lay} {n : Nat} {M : Mem} {pc pc' index na ci i : Nat} {ls : List (Nat × Value)} {st rest As av : List Value} {μ : Mu} {post : Option Value → Lay → Nat → Mem → Prop}
theorem k_run {H : Heap} {locs : List Loc} {la : Array Slot} {a : Array Value} (hx : Cx x g cc own nL R) (hS : va_S (fun q => g.1 ≤ q) (xS x).heap H locs) (hl : lv_has la (xC x).maxLocals ls) (hr : va_Run (xP x) (xL x) (xE x) (xR x) (xS x) (xM x) (xA x) (xB x) (xT x) (xC x) H locs cs sl mc ms (F0 (xM x) pc la st) rest (Qz g post a) (fun q => g.1 ≤ q))
    (kk : ∀ (r : Option Value) (L' : Lay) (n' : Nat) (M' : Mem), post r L' n' M' → K x g (cs + mc) (sl + ms) L' n' M' (pc + 3) ls (r.toList ++ rest)) : W (xP x) (xL x) (xE x) (xR x) (xS x) (xM x) (xA x) (xB x) (xT x) (xC x) H locs cs sl (xQ x) (F0 (xM x) pc la st) := by
  intro T hT X
  obtain ⟨v, st₀, t, T', Lc, h0, X', hL, e1, e2, ⟨⟨r, L', n', M', hv, hp, hR'⟩, hz, hk⟩, stp⟩ := hr T hT X
  cases hv
  rw [h0] at hz hk
  rw [← e1] at hz hk hR'
  obtain ⟨t2, a1, b1⟩ := kk _ L' n' M' hp T'.heap (locs ++ Lc) la hR'
    ⟨Nat.le_trans hS.1 hz, fun q h1 h2 => (hk q (Nat.lt_of_lt_of_le h1 hS.1) h2).trans (hS.2.1 q h1 h2), fun q hq => by
      rcases List.mem_append.mp hq with h | h
      · exact hS.2.2 q h
      · exact hL q h⟩ hl T' rfl X'
  exact ⟨t2, stp t2 a1, b1⟩
theorem k_callV (hx : Cx x g cc own nL R) (hlk : lkV own index μ ci na) (hd : At cc pc (.invokevirtual index) 3 pc') (hC : Ct g (xL x) μ mc ms (vR g i :: As) L n M post) {fs : List FS} (hi : i < n) (hL : L i = kO ci fs) (hn : As.length = na) (hst : st = As.reverse ++ vR g i :: rest) (hcat : Nat.ble (rest.map fun v => v.category).sum 8 = true) (hroom : Nat.ble (μ.2.2.2.2.1 + 1) R.frames = true ∧ Nat.ble (8 + (μ.2.2.1 + 11) + μ.2.2.2.2.2) R.locals = true) (hcell : cs + mc ≤ R.cells ∧ sl + ms ≤ R.slots)
    (kk : ∀ (r : Option Value) (L' : Lay) (n' : Nat) (M' : Mem), post r L' n' M' → K x g (cs + mc) (sl + ms) L' n' M' pc' ls (r.toList ++ rest)) : K x g cs sl L n M pc ls st := by
  intro H locs la hR hS hl
  obtain ⟨hd1, hd2⟩ := hd
  subst hd2
  obtain ⟨w1, w2, w3, w4, w5, hdesc, T, N, hc⟩ := hlk
  have hts := hx.2.2.2.2.1
  have hRm : xR x = R := hx.2.2.2.2.2.2
  have hcell0 := hR.2 i hi
  rw [hL] at hcell0
  obtain ⟨cell, q1, q2, q3, q4⟩ := cellAt.obj hc hcell0
  have hfc := (hx.2.2.2.2.2.1.1.1 ci _ hc).2.1
  refine k_run (a := (vR g i :: As).toArray) hx hS hl ?_ kk
  refine va_runV (own := own) (C := μ.1.cls) (cc := cc) (nL := nL) (Ts := TB) (n := na) (ret := μ.2.2.2.1) (bytes := μ.2.1) (maxL := μ.2.2.1) ⟨hx.1, hx.2.1, hx.2.2.1, hx.2.2.2.1, hts⟩ hC ?_ ⟨Pz.blind, ⟨cell, q1, by rw [q3]; rfl, by rw [q2]; exact hfc⟩, fun U hU hW => Pz.of hR hx.2.2.2.2.2.1 hU hW⟩ rfl hn (hl.1.trans hx.2.2.1) hst (lv_room (pc := pc) (m := xM x) (ls := la) (rest := st) (Nat.le_of_ble_eq_true hcat)) hd1 (by rw [hRm]; exact hcell)
  refine cwV na hts ?_ rfl rfl rfl hdesc (by rw [hRm]; exact ⟨Nat.le_of_ble_eq_true hroom.1, Nat.le_of_ble_eq_true hroom.2⟩)
  intro w hw
  rcases List.mem_append.mp hw with h | h
  · have h2 : w ∈ TB := by
      rcases List.mem_cons.mp h with rfl | h; exact w1
      rcases List.mem_cons.mp h with rfl | h; exact w2
      rcases List.mem_cons.mp h with rfl | h; exact w3
      rcases List.mem_cons.mp h with rfl | h; exact w4
      cases h
    exact ⟨h2, gTB h2⟩
  · exact gdTB w5 w h
theorem k_callS (hx : Cx x g cc own nL R) (hlk : lkS own index μ na) (hd : At cc pc (.invokestatic index) 3 pc') (hC : Ct g (xL x) μ mc ms As L n M post) (hn : As.length = na) (hst : st = As.reverse ++ rest) (hcat : Nat.ble (rest.map fun v => v.category).sum 8 = true) (hroom : Nat.ble (μ.2.2.2.2.1 + 1) R.frames = true ∧ Nat.ble (8 + (μ.2.2.1 + 11) + μ.2.2.2.2.2) R.locals = true) (hcell : cs + mc ≤ R.cells ∧ sl + ms ≤ R.slots)
    (kk : ∀ (r : Option Value) (L' : Lay) (n' : Nat) (M' : Mem), post r L' n' M' → K x g (cs + mc) (sl + ms) L' n' M' pc' ls (r.toList ++ rest)) : K x g cs sl L n M pc ls st := by
  intro H locs la hR hS hl
  obtain ⟨hd1, hd2⟩ := hd
  subst hd2
  obtain ⟨w1, w2, w3, w4, hdesc⟩ := hlk
  have hts := hx.2.2.2.2.1
  have hRm : xR x = R := hx.2.2.2.2.2.2
  refine k_run (a := As.toArray) hx hS hl ?_ kk
  refine va_runS (own := own) (cc := cc) (nL := nL) (Ts := TB) (n := na) (ret := μ.2.2.2.1) (bytes := μ.2.1) (maxL := μ.2.2.1) ⟨hx.1, hx.2.1, hx.2.2.1, hx.2.2.2.1, hts⟩ hC ?_ ⟨Pz.blind, fun U hU hW => Pz.of hR hx.2.2.2.2.2.1 hU hW⟩ rfl hn (hl.1.trans hx.2.2.1) hst (lv_room (pc := pc) (m := xM x) (ls := la) (rest := st) (Nat.le_of_ble_eq_true hcat)) hd1 (by rw [hRm]; exact hcell)
  refine va_cwS na hts ?_ rfl rfl rfl hdesc (by rw [hRm]; exact ⟨Nat.le_of_ble_eq_true hroom.1, Nat.le_of_ble_eq_true hroom.2⟩)
  intro w hw
  rcases List.mem_append.mp hw with h | h
  · have h2 : w ∈ TB := by
      rcases List.mem_cons.mp h with rfl | h; exact w1
      rcases List.mem_cons.mp h with rfl | h; exact w2
      rcases List.mem_cons.mp h with rfl | h; exact w3
      cases h
    exact ⟨h2, gTB h2⟩
  · exact gdTB w4 w h
theorem k_callN {host : String} (hx : Cx x g cc own nL R) (hlk : lkN own index μ host na) (hd : At cc pc (.invokestatic index) 3 pc') (hC : Ct g (xL x) μ mc ms As L n M post) (hn : As.length = na) (hst : st = As.reverse ++ rest) (hcat : Nat.ble (rest.map fun v => v.category).sum 8 = true) (hroom : Nat.ble (μ.2.2.2.2.1 + 1) R.frames = true ∧ Nat.ble (8 + (μ.2.2.1 + 11) + μ.2.2.2.2.2) R.locals = true) (hcell : cs + mc ≤ R.cells ∧ sl + ms ≤ R.slots)
    (kk : ∀ (r : Option Value) (L' : Lay) (n' : Nat) (M' : Mem), post r L' n' M' → K x g (cs + mc) (sl + ms) L' n' M' pc' ls (r.toList ++ rest)) : K x g cs sl L n M pc ls st := by
  intro H locs la hR hS hl
  obtain ⟨hd1, hd2⟩ := hd
  subst hd2
  obtain ⟨w1, w2, w3, w4, hdesc⟩ := hlk
  have hts := hx.2.2.2.2.1
  have hRm : xR x = R := hx.2.2.2.2.2.2
  refine k_run (a := As.toArray) hx hS hl ?_ kk
  refine va_runSN (own := own) (host := host) (cc := cc) (nL := nL) (Ts := TB) (n := na) (ret := μ.2.2.2.1) (bytes := μ.2.1) (maxL := μ.2.2.1) ⟨hx.1, hx.2.1, hx.2.2.1, hx.2.2.2.1, hts⟩ hC ?_ ⟨Pz.blind, fun U hU hW => Pz.of hR hx.2.2.2.2.2.1 hU hW⟩ rfl hn (hl.1.trans hx.2.2.1) hst (lv_room (pc := pc) (m := xM x) (ls := la) (rest := st) (Nat.le_of_ble_eq_true hcat)) hd1 (by rw [hRm]; exact hcell)
  exact ⟨va_cnB na hts (gdTB w4) rfl rfl rfl (hx.2.2.2.2.2.1.2.1 _ w1) (hts _ w3) hdesc (by rw [hRm]; exact ⟨Nat.le_of_ble_eq_true hroom.1, Nat.le_of_ble_eq_true hroom.2⟩), hts _ w2, trivial⟩
theorem k_callI (hx : Cx x g cc own nL R) (hlk : lkI own index μ na) (hd : At cc pc (.invokespecial index) 3 pc') (hC : Ct g (xL x) μ mc ms (vR g i :: As) L n M post) (hn : As.length = na) (hst : st = As.reverse ++ vR g i :: rest) (hcat : Nat.ble (rest.map fun v => v.category).sum 8 = true) (hroom : Nat.ble (μ.2.2.2.2.1 + 1) R.frames = true ∧ Nat.ble (8 + (μ.2.2.1 + 11) + μ.2.2.2.2.2) R.locals = true) (hcell : cs + mc ≤ R.cells ∧ sl + ms ≤ R.slots)
    (kk : ∀ (r : Option Value) (L' : Lay) (n' : Nat) (M' : Mem), post r L' n' M' → K x g (cs + mc) (sl + ms) L' n' M' pc' ls (r.toList ++ rest)) : K x g cs sl L n M pc ls st := by
  intro H locs la hR hS hl
  obtain ⟨hd1, hd2⟩ := hd
  subst hd2
  obtain ⟨w1, w2, w3, w4, hdesc, hnm, hret⟩ := hlk
  have hts := hx.2.2.2.2.1
  have hRm : xR x = R := hx.2.2.2.2.2.2
  refine k_run (a := (vR g i :: As).toArray) hx hS hl ?_ kk
  obtain ⟨y, by', mL, rt, fr, lo⟩ := μ
  dsimp only at hret
  subst hret
  refine va_runI (own := own) (cc := cc) (nL := nL) (Ts := TB) (n := na) (bytes := by') (maxL := mL) ⟨hx.1, hx.2.1, hx.2.2.1, hx.2.2.2.1, hts⟩ hC ?_ ⟨Pz.blind, fun U hU hW => Pz.of hR hx.2.2.2.2.2.1 hU hW⟩ rfl hn (hl.1.trans hx.2.2.1) hst (lv_room (pc := pc) (m := xM x) (ls := la) (rest := st) (Nat.le_of_ble_eq_true hcat)) hd1 (by rw [hRm]; exact hcell)
  exact cwI na hts (gdTB w4) rfl rfl rfl (hts _ w3) (hts _ w1) (hts _ w2) hnm hdesc (by rw [hRm]; exact ⟨Nat.le_of_ble_eq_true hroom.1, Nat.le_of_ble_eq_true hroom.2⟩)
end CALLS
end
section
theorem dX0_init_0 : At cX0_init 0 (.aload_n 0) 1 1 := ⟨by decide +kernel, rfl⟩
theorem dX0_init_1 : At cX0_init 1 (.invokespecial 3) 3 4 := ⟨by decide +kernel, rfl⟩
theorem dX0_init_4 : At cX0_init 4 (.aload_n 0) 1 5 := ⟨by decide +kernel, rfl⟩
theorem dX0_init_5 : At cX0_init 5 (.bipush 60) 2 7 := ⟨by decide +kernel, rfl⟩
theorem dX0_init_7 : At cX0_init 7 (.newarray .int) 2 9 := ⟨by decide +kernel, rfl⟩
theorem dX0_init_9 : At cX0_init 9 (.putfield 9) 3 12 := ⟨by decide +kernel, rfl⟩
theorem dX0_init_12 : At cX0_init 12 (.aload_n 0) 1 13 := ⟨by decide +kernel, rfl⟩
theorem dX0_init_13 : At cX0_init 13 (.iconst 0) 1 14 := ⟨by decide +kernel, rfl⟩
theorem dX0_init_14 : At cX0_init 14 (.putfield 15) 3 17 := ⟨by decide +kernel, rfl⟩
theorem dX0_init_17 : At cX0_init 17 (.aload_n 0) 1 18 := ⟨by decide +kernel, rfl⟩
theorem dX0_init_18 : At cX0_init 18 (.iconst 4) 1 19 := ⟨by decide +kernel, rfl⟩
theorem dX0_init_19 : At cX0_init 19 (.newarray .int) 2 21 := ⟨by decide +kernel, rfl⟩
theorem dX0_init_21 : At cX0_init 21 (.putfield 19) 3 24 := ⟨by decide +kernel, rfl⟩
theorem dX0_init_24 : At cX0_init 24 (.aload_n 0) 1 25 := ⟨by decide +kernel, rfl⟩
theorem dX0_init_25 : At cX0_init 25 (.iconst 4) 1 26 := ⟨by decide +kernel, rfl⟩
theorem dX0_init_26 : At cX0_init 26 (.newarray .int) 2 28 := ⟨by decide +kernel, rfl⟩
theorem dX0_init_28 : At cX0_init 28 (.putfield 22) 3 31 := ⟨by decide +kernel, rfl⟩
theorem dX0_init_31 : At cX0_init 31 (.aload_n 0) 1 32 := ⟨by decide +kernel, rfl⟩
theorem dX0_init_32 : At cX0_init 32 (.iconst 4) 1 33 := ⟨by decide +kernel, rfl⟩
theorem dX0_init_33 : At cX0_init 33 (.newarray .int) 2 35 := ⟨by decide +kernel, rfl⟩
theorem dX0_init_35 : At cX0_init 35 (.putfield 25) 3 38 := ⟨by decide +kernel, rfl⟩
theorem dX0_init_38 : At cX0_init 38 (.aload_n 0) 1 39 := ⟨by decide +kernel, rfl⟩
theorem dX0_init_39 : At cX0_init 39 (.iconst 0) 1 40 := ⟨by decide +kernel, rfl⟩
theorem dX0_init_40 : At cX0_init 40 (.putfield 28) 3 43 := ⟨by decide +kernel, rfl⟩
theorem dX0_init_43 : At cX0_init 43 (.return_) 1 44 := ⟨by decide +kernel, rfl⟩
theorem dX0_charactersIn_0 : At cX0_charactersIn 0 (.lload_n 0) 1 1 := ⟨by decide +kernel, rfl⟩
theorem dX0_charactersIn_1 : At cX0_charactersIn 1 (.lstore_n 2) 1 2 := ⟨by decide +kernel, rfl⟩
theorem dX0_charactersIn_2 : At cX0_charactersIn 2 (.iconst 0) 1 3 := ⟨by decide +kernel, rfl⟩
theorem dX0_charactersIn_3 : At cX0_charactersIn 3 (.istore 4) 2 5 := ⟨by decide +kernel, rfl⟩
theorem dX0_charactersIn_5 : At cX0_charactersIn 5 (.iload 4) 2 7 := ⟨by decide +kernel, rfl⟩
theorem dX0_charactersIn_7 : At cX0_charactersIn 7 (.bipush 8) 2 9 := ⟨by decide +kernel, rfl⟩
theorem dX0_charactersIn_9 : Br cX0_charactersIn 9 (.if_icmp .ge) 12 53 := ⟨(44), by decide +kernel, rfl, by decide⟩
theorem dX0_charactersIn_12 : At cX0_charactersIn 12 (.lload_n 2) 1 13 := ⟨by decide +kernel, rfl⟩
theorem dX0_charactersIn_13 : At cX0_charactersIn 13 (.lconst 0) 1 14 := ⟨by decide +kernel, rfl⟩
theorem dX0_charactersIn_14 : At cX0_charactersIn 14 (.lcmp) 1 15 := ⟨by decide +kernel, rfl⟩
theorem dX0_charactersIn_15 : Br cX0_charactersIn 15 (.ifCond .eq) 18 53 := ⟨(38), by decide +kernel, rfl, by decide⟩
theorem dX0_charactersIn_18 : At cX0_charactersIn 18 (.lload_n 2) 1 19 := ⟨by decide +kernel, rfl⟩
theorem dX0_charactersIn_19 : At cX0_charactersIn 19 (.ldc2_w 31) 3 22 := ⟨by decide +kernel, rfl⟩
theorem dX0_charactersIn_22 : At cX0_charactersIn 22 (.land) 1 23 := ⟨by decide +kernel, rfl⟩
theorem dX0_charactersIn_23 : At cX0_charactersIn 23 (.l2i) 1 24 := ⟨by decide +kernel, rfl⟩
theorem dX0_charactersIn_24 : At cX0_charactersIn 24 (.istore 5) 2 26 := ⟨by decide +kernel, rfl⟩
theorem dX0_charactersIn_26 : At cX0_charactersIn 26 (.iload 5) 2 28 := ⟨by decide +kernel, rfl⟩
theorem dX0_charactersIn_28 : At cX0_charactersIn 28 (.bipush 33) 2 30 := ⟨by decide +kernel, rfl⟩
theorem dX0_charactersIn_30 : Br cX0_charactersIn 30 (.if_icmp .lt) 33 40 := ⟨(10), by decide +kernel, rfl, by decide⟩
theorem dX0_charactersIn_33 : At cX0_charactersIn 33 (.iload 5) 2 35 := ⟨by decide +kernel, rfl⟩
theorem dX0_charactersIn_35 : At cX0_charactersIn 35 (.bipush 126) 2 37 := ⟨by decide +kernel, rfl⟩
theorem dX0_charactersIn_37 : Br cX0_charactersIn 37 (.if_icmp .le) 40 42 := ⟨(5), by decide +kernel, rfl, by decide⟩
theorem dX0_charactersIn_40 : At cX0_charactersIn 40 (.iconst 0) 1 41 := ⟨by decide +kernel, rfl⟩
theorem dX0_charactersIn_41 : At cX0_charactersIn 41 (.ireturn) 1 42 := ⟨by decide +kernel, rfl⟩
theorem dX0_charactersIn_42 : At cX0_charactersIn 42 (.iinc 4 1) 3 45 := ⟨by decide +kernel, rfl⟩
theorem dX0_charactersIn_45 : At cX0_charactersIn 45 (.lload_n 2) 1 46 := ⟨by decide +kernel, rfl⟩
theorem dX0_charactersIn_46 : At cX0_charactersIn 46 (.bipush 8) 2 48 := ⟨by decide +kernel, rfl⟩
theorem dX0_charactersIn_48 : At cX0_charactersIn 48 (.lushr) 1 49 := ⟨by decide +kernel, rfl⟩
theorem dX0_charactersIn_49 : At cX0_charactersIn 49 (.lstore_n 2) 1 50 := ⟨by decide +kernel, rfl⟩
theorem dX0_charactersIn_50 : Br cX0_charactersIn 50 .goto 53 5 := ⟨(-45), by decide +kernel, rfl, by decide⟩
theorem dX0_charactersIn_53 : At cX0_charactersIn 53 (.iload 4) 2 55 := ⟨by decide +kernel, rfl⟩
theorem dX0_charactersIn_55 : At cX0_charactersIn 55 (.ireturn) 1 56 := ⟨by decide +kernel, rfl⟩
theorem dX0_append_0 : At cX0_append 0 (.iload_n 3) 1 1 := ⟨by decide +kernel, rfl⟩
theorem dX0_append_1 : At cX0_append 1 (.iconst 1) 1 2 := ⟨by decide +kernel, rfl⟩
theorem dX0_append_2 : At cX0_append 2 (.isub) 1 3 := ⟨by decide +kernel, rfl⟩
theorem dX0_append_3 : At cX0_append 3 (.istore 4) 2 5 := ⟨by decide +kernel, rfl⟩
theorem dX0_append_5 : At cX0_append 5 (.iload 4) 2 7 := ⟨by decide +kernel, rfl⟩
theorem dX0_append_7 : Br cX0_append 7 (.ifCond .lt) 10 56 := ⟨(49), by decide +kernel, rfl, by decide⟩
theorem dX0_append_10 : At cX0_append 10 (.aload_n 0) 1 11 := ⟨by decide +kernel, rfl⟩
theorem dX0_append_11 : At cX0_append 11 (.getfield 15) 3 14 := ⟨by decide +kernel, rfl⟩
theorem dX0_append_14 : At cX0_append 14 (.bipush 60) 2 16 := ⟨by decide +kernel, rfl⟩
theorem dX0_append_16 : Br cX0_append 16 (.if_icmp .ge) 19 56 := ⟨(40), by decide +kernel, rfl, by decide⟩
theorem dX0_append_19 : At cX0_append 19 (.aload_n 0) 1 20 := ⟨by decide +kernel, rfl⟩
theorem dX0_append_20 : At cX0_append 20 (.getfield 9) 3 23 := ⟨by decide +kernel, rfl⟩
theorem dX0_append_23 : At cX0_append 23 (.aload_n 0) 1 24 := ⟨by decide +kernel, rfl⟩
theorem dX0_append_24 : At cX0_append 24 (.getfield 15) 3 27 := ⟨by decide +kernel, rfl⟩
theorem dX0_append_27 : At cX0_append 27 (.lload_n 1) 1 28 := ⟨by decide +kernel, rfl⟩
theorem dX0_append_28 : At cX0_append 28 (.bipush 8) 2 30 := ⟨by decide +kernel, rfl⟩
theorem dX0_append_30 : At cX0_append 30 (.iload 4) 2 32 := ⟨by decide +kernel, rfl⟩
theorem dX0_append_32 : At cX0_append 32 (.imul) 1 33 := ⟨by decide +kernel, rfl⟩
theorem dX0_append_33 : At cX0_append 33 (.lushr) 1 34 := ⟨by decide +kernel, rfl⟩
theorem dX0_append_34 : At cX0_append 34 (.ldc2_w 31) 3 37 := ⟨by decide +kernel, rfl⟩
theorem dX0_append_37 : At cX0_append 37 (.land) 1 38 := ⟨by decide +kernel, rfl⟩
theorem dX0_append_38 : At cX0_append 38 (.l2i) 1 39 := ⟨by decide +kernel, rfl⟩
theorem dX0_append_39 : At cX0_append 39 (.iastore) 1 40 := ⟨by decide +kernel, rfl⟩
theorem dX0_append_40 : At cX0_append 40 (.aload_n 0) 1 41 := ⟨by decide +kernel, rfl⟩
theorem dX0_append_41 : At cX0_append 41 (.dup) 1 42 := ⟨by decide +kernel, rfl⟩
theorem dX0_append_42 : At cX0_append 42 (.getfield 15) 3 45 := ⟨by decide +kernel, rfl⟩
theorem dX0_append_45 : At cX0_append 45 (.iconst 1) 1 46 := ⟨by decide +kernel, rfl⟩
theorem dX0_append_46 : At cX0_append 46 (.iadd) 1 47 := ⟨by decide +kernel, rfl⟩
theorem dX0_append_47 : At cX0_append 47 (.putfield 15) 3 50 := ⟨by decide +kernel, rfl⟩
theorem dX0_append_50 : At cX0_append 50 (.iinc 4 (-1)) 3 53 := ⟨by decide +kernel, rfl⟩
theorem dX0_append_53 : Br cX0_append 53 .goto 56 5 := ⟨(-48), by decide +kernel, rfl, by decide⟩
theorem dX0_append_56 : At cX0_append 56 (.return_) 1 57 := ⟨by decide +kernel, rfl⟩
theorem dX0_clear_0 : At cX0_clear 0 (.aload_n 0) 1 1 := ⟨by decide +kernel, rfl⟩
theorem dX0_clear_1 : At cX0_clear 1 (.iconst 0) 1 2 := ⟨by decide +kernel, rfl⟩
theorem dX0_clear_2 : At cX0_clear 2 (.putfield 15) 3 5 := ⟨by decide +kernel, rfl⟩
theorem dX0_clear_5 : At cX0_clear 5 (.return_) 1 6 := ⟨by decide +kernel, rfl⟩
theorem dX0_crossingOf_0 : At cX0_crossingOf 0 (.iload_n 0) 1 1 := ⟨by decide +kernel, rfl⟩
theorem dX0_crossingOf_1 : At cX0_crossingOf 1 (.bipush 97) 2 3 := ⟨by decide +kernel, rfl⟩
theorem dX0_crossingOf_3 : Br cX0_crossingOf 3 (.if_icmp .lt) 6 17 := ⟨(14), by decide +kernel, rfl, by decide⟩
theorem dX0_crossingOf_6 : At cX0_crossingOf 6 (.iload_n 0) 1 7 := ⟨by decide +kernel, rfl⟩
theorem dX0_crossingOf_7 : At cX0_crossingOf 7 (.bipush 102) 2 9 := ⟨by decide +kernel, rfl⟩
theorem dX0_crossingOf_9 : Br cX0_crossingOf 9 (.if_icmp .gt) 12 17 := ⟨(8), by decide +kernel, rfl, by decide⟩
theorem dX0_crossingOf_12 : At cX0_crossingOf 12 (.iload_n 0) 1 13 := ⟨by decide +kernel, rfl⟩
theorem dX0_crossingOf_13 : At cX0_crossingOf 13 (.bipush 97) 2 15 := ⟨by decide +kernel, rfl⟩
theorem dX0_crossingOf_15 : At cX0_crossingOf 15 (.isub) 1 16 := ⟨by decide +kernel, rfl⟩
theorem dX0_crossingOf_16 : At cX0_crossingOf 16 (.ireturn) 1 17 := ⟨by decide +kernel, rfl⟩
theorem dX0_crossingOf_17 : At cX0_crossingOf 17 (.iload_n 0) 1 18 := ⟨by decide +kernel, rfl⟩
theorem dX0_crossingOf_18 : At cX0_crossingOf 18 (.bipush 65) 2 20 := ⟨by decide +kernel, rfl⟩
theorem dX0_crossingOf_20 : Br cX0_crossingOf 20 (.if_icmp .lt) 23 37 := ⟨(17), by decide +kernel, rfl, by decide⟩
theorem dX0_crossingOf_23 : At cX0_crossingOf 23 (.iload_n 0) 1 24 := ⟨by decide +kernel, rfl⟩
theorem dX0_crossingOf_24 : At cX0_crossingOf 24 (.bipush 70) 2 26 := ⟨by decide +kernel, rfl⟩
theorem dX0_crossingOf_26 : Br cX0_crossingOf 26 (.if_icmp .gt) 29 37 := ⟨(11), by decide +kernel, rfl, by decide⟩
theorem dX0_crossingOf_29 : At cX0_crossingOf 29 (.iload_n 0) 1 30 := ⟨by decide +kernel, rfl⟩
theorem dX0_crossingOf_30 : At cX0_crossingOf 30 (.bipush 65) 2 32 := ⟨by decide +kernel, rfl⟩
theorem dX0_crossingOf_32 : At cX0_crossingOf 32 (.isub) 1 33 := ⟨by decide +kernel, rfl⟩
theorem dX0_crossingOf_33 : At cX0_crossingOf 33 (.bipush 6) 2 35 := ⟨by decide +kernel, rfl⟩
theorem dX0_crossingOf_35 : At cX0_crossingOf 35 (.iadd) 1 36 := ⟨by decide +kernel, rfl⟩
theorem dX0_crossingOf_36 : At cX0_crossingOf 36 (.ireturn) 1 37 := ⟨by decide +kernel, rfl⟩
theorem dX0_crossingOf_37 : At cX0_crossingOf 37 (.iconst (-1)) 1 38 := ⟨by decide +kernel, rfl⟩
theorem dX0_crossingOf_38 : At cX0_crossingOf 38 (.ireturn) 1 39 := ⟨by decide +kernel, rfl⟩
theorem dX0_isTimes_0 : At cX0_isTimes 0 (.iload_n 0) 1 1 := ⟨by decide +kernel, rfl⟩
theorem dX0_isTimes_1 : At cX0_isTimes 1 (.bipush 50) 2 3 := ⟨by decide +kernel, rfl⟩
theorem dX0_isTimes_3 : Br cX0_isTimes 3 (.if_icmp .lt) 6 16 := ⟨(13), by decide +kernel, rfl, by decide⟩
theorem dX0_isTimes_6 : At cX0_isTimes 6 (.iload_n 0) 1 7 := ⟨by decide +kernel, rfl⟩
theorem dX0_isTimes_7 : At cX0_isTimes 7 (.bipush 57) 2 9 := ⟨by decide +kernel, rfl⟩
theorem dX0_isTimes_9 : Br cX0_isTimes 9 (.if_icmp .gt) 12 16 := ⟨(7), by decide +kernel, rfl, by decide⟩
theorem dX0_isTimes_12 : At cX0_isTimes 12 (.iconst 1) 1 13 := ⟨by decide +kernel, rfl⟩
theorem dX0_isTimes_13 : Br cX0_isTimes 13 .goto 16 17 := ⟨(4), by decide +kernel, rfl, by decide⟩
theorem dX0_isTimes_16 : At cX0_isTimes 16 (.iconst 0) 1 17 := ⟨by decide +kernel, rfl⟩
theorem dX0_isTimes_17 : At cX0_isTimes 17 (.ireturn) 1 18 := ⟨by decide +kernel, rfl⟩
theorem dX0_findFault_0 : At cX0_findFault 0 (.aload_n 0) 1 1 := ⟨by decide +kernel, rfl⟩
theorem dX0_findFault_1 : At cX0_findFault 1 (.iconst 0) 1 2 := ⟨by decide +kernel, rfl⟩
theorem dX0_findFault_2 : At cX0_findFault 2 (.putfield 28) 3 5 := ⟨by decide +kernel, rfl⟩
theorem dX0_findFault_5 : At cX0_findFault 5 (.iconst 0) 1 6 := ⟨by decide +kernel, rfl⟩
theorem dX0_findFault_6 : At cX0_findFault 6 (.istore_n 1) 1 7 := ⟨by decide +kernel, rfl⟩
theorem dX0_findFault_7 : At cX0_findFault 7 (.iconst 0) 1 8 := ⟨by decide +kernel, rfl⟩
theorem dX0_findFault_8 : At cX0_findFault 8 (.istore_n 2) 1 9 := ⟨by decide +kernel, rfl⟩
theorem dX0_findFault_9 : At cX0_findFault 9 (.iload_n 2) 1 10 := ⟨by decide +kernel, rfl⟩
theorem dX0_findFault_10 : At cX0_findFault 10 (.aload_n 0) 1 11 := ⟨by decide +kernel, rfl⟩
theorem dX0_findFault_11 : At cX0_findFault 11 (.getfield 15) 3 14 := ⟨by decide +kernel, rfl⟩
theorem dX0_findFault_14 : Br cX0_findFault 14 (.if_icmp .ge) 17 42 := ⟨(28), by decide +kernel, rfl, by decide⟩
theorem dX0_findFault_17 : At cX0_findFault 17 (.aload_n 0) 1 18 := ⟨by decide +kernel, rfl⟩
theorem dX0_findFault_18 : At cX0_findFault 18 (.iload_n 1) 1 19 := ⟨by decide +kernel, rfl⟩
theorem dX0_findFault_19 : At cX0_findFault 19 (.aload_n 0) 1 20 := ⟨by decide +kernel, rfl⟩
theorem dX0_findFault_20 : At cX0_findFault 20 (.getfield 9) 3 23 := ⟨by decide +kernel, rfl⟩
theorem dX0_findFault_23 : At cX0_findFault 23 (.iload_n 2) 1 24 := ⟨by decide +kernel, rfl⟩
theorem dX0_findFault_24 : At cX0_findFault 24 (.iaload) 1 25 := ⟨by decide +kernel, rfl⟩
theorem dX0_findFault_25 : At cX0_findFault 25 (.invokevirtual 33) 3 28 := ⟨by decide +kernel, rfl⟩
theorem dX0_findFault_28 : At cX0_findFault 28 (.istore_n 1) 1 29 := ⟨by decide +kernel, rfl⟩
theorem dX0_findFault_29 : At cX0_findFault 29 (.iload_n 1) 1 30 := ⟨by decide +kernel, rfl⟩
theorem dX0_findFault_30 : At cX0_findFault 30 (.iconst (-1)) 1 31 := ⟨by decide +kernel, rfl⟩
theorem dX0_findFault_31 : Br cX0_findFault 31 (.if_icmp .ne) 34 36 := ⟨(5), by decide +kernel, rfl, by decide⟩
theorem dX0_findFault_34 : At cX0_findFault 34 (.iload_n 2) 1 35 := ⟨by decide +kernel, rfl⟩
theorem dX0_findFault_35 : At cX0_findFault 35 (.ireturn) 1 36 := ⟨by decide +kernel, rfl⟩
theorem dX0_findFault_36 : At cX0_findFault 36 (.iinc 2 1) 3 39 := ⟨by decide +kernel, rfl⟩
theorem dX0_findFault_39 : Br cX0_findFault 39 .goto 42 9 := ⟨(-30), by decide +kernel, rfl, by decide⟩
theorem dX0_findFault_42 : At cX0_findFault 42 (.iload_n 1) 1 43 := ⟨by decide +kernel, rfl⟩
theorem dX0_findFault_43 : Br cX0_findFault 43 (.ifCond .eq) 46 53 := ⟨(10), by decide +kernel, rfl, by decide⟩
theorem dX0_findFault_46 : At cX0_findFault 46 (.aload_n 0) 1 47 := ⟨by decide +kernel, rfl⟩
theorem dX0_findFault_47 : At cX0_findFault 47 (.getfield 28) 3 50 := ⟨by decide +kernel, rfl⟩
theorem dX0_findFault_50 : Br cX0_findFault 50 (.ifCond .le) 53 60 := ⟨(10), by decide +kernel, rfl, by decide⟩
theorem dX0_findFault_53 : At cX0_findFault 53 (.aload_n 0) 1 54 := ⟨by decide +kernel, rfl⟩
theorem dX0_findFault_54 : At cX0_findFault 54 (.getfield 15) 3 57 := ⟨by decide +kernel, rfl⟩
theorem dX0_findFault_57 : Br cX0_findFault 57 .goto 60 62 := ⟨(5), by decide +kernel, rfl, by decide⟩
theorem dX0_findFault_60 : At cX0_findFault 60 (.bipush (-6)) 2 62 := ⟨by decide +kernel, rfl⟩
theorem dX0_findFault_62 : At cX0_findFault 62 (.ireturn) 1 63 := ⟨by decide +kernel, rfl⟩
theorem dX0_stageAfter_0 : At cX0_stageAfter 0 (.iload_n 2) 1 1 := ⟨by decide +kernel, rfl⟩
theorem dX0_stageAfter_1 : At cX0_stageAfter 1 (.invokestatic 37) 3 4 := ⟨by decide +kernel, rfl⟩
theorem dX0_stageAfter_4 : At cX0_stageAfter 4 (.iconst (-1)) 1 5 := ⟨by decide +kernel, rfl⟩
theorem dX0_stageAfter_5 : Br cX0_stageAfter 5 (.if_icmp .eq) 8 10 := ⟨(5), by decide +kernel, rfl, by decide⟩
theorem dX0_stageAfter_8 : At cX0_stageAfter 8 (.iconst 1) 1 9 := ⟨by decide +kernel, rfl⟩
theorem dX0_stageAfter_9 : At cX0_stageAfter 9 (.ireturn) 1 10 := ⟨by decide +kernel, rfl⟩
theorem dX0_stageAfter_10 : At cX0_stageAfter 10 (.iload_n 2) 1 11 := ⟨by decide +kernel, rfl⟩
theorem dX0_stageAfter_11 : At cX0_stageAfter 11 (.bipush 40) 2 13 := ⟨by decide +kernel, rfl⟩
theorem dX0_stageAfter_13 : Br cX0_stageAfter 13 (.if_icmp .eq) 16 22 := ⟨(9), by decide +kernel, rfl, by decide⟩
theorem dX0_stageAfter_16 : At cX0_stageAfter 16 (.iload_n 2) 1 17 := ⟨by decide +kernel, rfl⟩
theorem dX0_stageAfter_17 : At cX0_stageAfter 17 (.bipush 91) 2 19 := ⟨by decide +kernel, rfl⟩
theorem dX0_stageAfter_19 : Br cX0_stageAfter 19 (.if_icmp .ne) 22 37 := ⟨(18), by decide +kernel, rfl, by decide⟩
theorem dX0_stageAfter_22 : At cX0_stageAfter 22 (.aload_n 0) 1 23 := ⟨by decide +kernel, rfl⟩
theorem dX0_stageAfter_23 : At cX0_stageAfter 23 (.iload_n 2) 1 24 := ⟨by decide +kernel, rfl⟩
theorem dX0_stageAfter_24 : At cX0_stageAfter 24 (.iconst 0) 1 25 := ⟨by decide +kernel, rfl⟩
theorem dX0_stageAfter_25 : At cX0_stageAfter 25 (.invokevirtual 41) 3 28 := ⟨by decide +kernel, rfl⟩
theorem dX0_stageAfter_28 : Br cX0_stageAfter 28 (.ifCond .eq) 31 35 := ⟨(7), by decide +kernel, rfl, by decide⟩
theorem dX0_stageAfter_31 : At cX0_stageAfter 31 (.iconst 0) 1 32 := ⟨by decide +kernel, rfl⟩
theorem dX0_stageAfter_32 : Br cX0_stageAfter 32 .goto 35 36 := ⟨(4), by decide +kernel, rfl, by decide⟩
theorem dX0_stageAfter_35 : At cX0_stageAfter 35 (.iconst (-1)) 1 36 := ⟨by decide +kernel, rfl⟩
theorem dX0_stageAfter_36 : At cX0_stageAfter 36 (.ireturn) 1 37 := ⟨by decide +kernel, rfl⟩
theorem dX0_stageAfter_37 : At cX0_stageAfter 37 (.iload_n 1) 1 38 := ⟨by decide +kernel, rfl⟩
theorem dX0_stageAfter_38 : Br cX0_stageAfter 38 (.ifCond .ne) 41 43 := ⟨(5), by decide +kernel, rfl, by decide⟩
theorem dX0_stageAfter_41 : At cX0_stageAfter 41 (.iconst (-1)) 1 42 := ⟨by decide +kernel, rfl⟩
theorem dX0_stageAfter_42 : At cX0_stageAfter 42 (.ireturn) 1 43 := ⟨by decide +kernel, rfl⟩
theorem dX0_stageAfter_43 : At cX0_stageAfter 43 (.iload_n 2) 1 44 := ⟨by decide +kernel, rfl⟩
theorem dX0_stageAfter_44 : At cX0_stageAfter 44 (.bipush 39) 2 46 := ⟨by decide +kernel, rfl⟩
theorem dX0_stageAfter_46 : Br cX0_stageAfter 46 (.if_icmp .ne) 49 60 := ⟨(14), by decide +kernel, rfl, by decide⟩
theorem dX0_stageAfter_49 : At cX0_stageAfter 49 (.iload_n 1) 1 50 := ⟨by decide +kernel, rfl⟩
theorem dX0_stageAfter_50 : At cX0_stageAfter 50 (.iconst 1) 1 51 := ⟨by decide +kernel, rfl⟩
theorem dX0_stageAfter_51 : Br cX0_stageAfter 51 (.if_icmp .ne) 54 58 := ⟨(7), by decide +kernel, rfl, by decide⟩
theorem dX0_stageAfter_54 : At cX0_stageAfter 54 (.iconst 2) 1 55 := ⟨by decide +kernel, rfl⟩
theorem dX0_stageAfter_55 : Br cX0_stageAfter 55 .goto 58 59 := ⟨(4), by decide +kernel, rfl, by decide⟩
theorem dX0_stageAfter_58 : At cX0_stageAfter 58 (.iconst (-1)) 1 59 := ⟨by decide +kernel, rfl⟩
theorem dX0_stageAfter_59 : At cX0_stageAfter 59 (.ireturn) 1 60 := ⟨by decide +kernel, rfl⟩
theorem dX0_stageAfter_60 : At cX0_stageAfter 60 (.iload_n 2) 1 61 := ⟨by decide +kernel, rfl⟩
theorem dX0_stageAfter_61 : At cX0_stageAfter 61 (.invokestatic 45) 3 64 := ⟨by decide +kernel, rfl⟩
theorem dX0_stageAfter_64 : Br cX0_stageAfter 64 (.ifCond .eq) 67 78 := ⟨(14), by decide +kernel, rfl, by decide⟩
theorem dX0_stageAfter_67 : At cX0_stageAfter 67 (.iload_n 1) 1 68 := ⟨by decide +kernel, rfl⟩
theorem dX0_stageAfter_68 : At cX0_stageAfter 68 (.iconst 3) 1 69 := ⟨by decide +kernel, rfl⟩
theorem dX0_stageAfter_69 : Br cX0_stageAfter 69 (.if_icmp .ne) 72 76 := ⟨(7), by decide +kernel, rfl, by decide⟩
theorem dX0_stageAfter_72 : At cX0_stageAfter 72 (.iconst (-1)) 1 73 := ⟨by decide +kernel, rfl⟩
theorem dX0_stageAfter_73 : Br cX0_stageAfter 73 .goto 76 77 := ⟨(4), by decide +kernel, rfl, by decide⟩
theorem dX0_stageAfter_76 : At cX0_stageAfter 76 (.iconst 3) 1 77 := ⟨by decide +kernel, rfl⟩
theorem dX0_stageAfter_77 : At cX0_stageAfter 77 (.ireturn) 1 78 := ⟨by decide +kernel, rfl⟩
theorem dX0_stageAfter_78 : At cX0_stageAfter 78 (.aload_n 0) 1 79 := ⟨by decide +kernel, rfl⟩
theorem dX0_stageAfter_79 : At cX0_stageAfter 79 (.iload_n 2) 1 80 := ⟨by decide +kernel, rfl⟩
theorem dX0_stageAfter_80 : At cX0_stageAfter 80 (.invokevirtual 49) 3 83 := ⟨by decide +kernel, rfl⟩
theorem dX0_stageAfter_83 : At cX0_stageAfter 83 (.ireturn) 1 84 := ⟨by decide +kernel, rfl⟩
theorem dX0_stageAfterClosing_0 : At cX0_stageAfterClosing 0 (.aload_n 0) 1 1 := ⟨by decide +kernel, rfl⟩
theorem dX0_stageAfterClosing_1 : At cX0_stageAfterClosing 1 (.invokevirtual 52) 3 4 := ⟨by decide +kernel, rfl⟩
theorem dX0_stageAfterClosing_4 : At cX0_stageAfterClosing 4 (.istore_n 2) 1 5 := ⟨by decide +kernel, rfl⟩
theorem dX0_stageAfterClosing_5 : At cX0_stageAfterClosing 5 (.iload_n 1) 1 6 := ⟨by decide +kernel, rfl⟩
theorem dX0_stageAfterClosing_6 : At cX0_stageAfterClosing 6 (.bipush 44) 2 8 := ⟨by decide +kernel, rfl⟩
theorem dX0_stageAfterClosing_8 : Br cX0_stageAfterClosing 8 (.if_icmp .ne) 11 24 := ⟨(16), by decide +kernel, rfl, by decide⟩
theorem dX0_stageAfterClosing_11 : At cX0_stageAfterClosing 11 (.iload_n 2) 1 12 := ⟨by decide +kernel, rfl⟩
theorem dX0_stageAfterClosing_12 : At cX0_stageAfterClosing 12 (.bipush 91) 2 14 := ⟨by decide +kernel, rfl⟩
theorem dX0_stageAfterClosing_14 : Br cX0_stageAfterClosing 14 (.if_icmp .ne) 17 24 := ⟨(10), by decide +kernel, rfl, by decide⟩
theorem dX0_stageAfterClosing_17 : At cX0_stageAfterClosing 17 (.aload_n 0) 1 18 := ⟨by decide +kernel, rfl⟩
theorem dX0_stageAfterClosing_18 : At cX0_stageAfterClosing 18 (.iconst 0) 1 19 := ⟨by decide +kernel, rfl⟩
theorem dX0_stageAfterClosing_19 : At cX0_stageAfterClosing 19 (.invokevirtual 56) 3 22 := ⟨by decide +kernel, rfl⟩
theorem dX0_stageAfterClosing_22 : At cX0_stageAfterClosing 22 (.iconst 0) 1 23 := ⟨by decide +kernel, rfl⟩
theorem dX0_stageAfterClosing_23 : At cX0_stageAfterClosing 23 (.ireturn) 1 24 := ⟨by decide +kernel, rfl⟩
theorem dX0_stageAfterClosing_24 : At cX0_stageAfterClosing 24 (.iload_n 1) 1 25 := ⟨by decide +kernel, rfl⟩
theorem dX0_stageAfterClosing_25 : At cX0_stageAfterClosing 25 (.bipush 41) 2 27 := ⟨by decide +kernel, rfl⟩
theorem dX0_stageAfterClosing_27 : Br cX0_stageAfterClosing 27 (.if_icmp .ne) 30 36 := ⟨(9), by decide +kernel, rfl, by decide⟩
theorem dX0_stageAfterClosing_30 : At cX0_stageAfterClosing 30 (.iload_n 2) 1 31 := ⟨by decide +kernel, rfl⟩
theorem dX0_stageAfterClosing_31 : At cX0_stageAfterClosing 31 (.bipush 40) 2 33 := ⟨by decide +kernel, rfl⟩
theorem dX0_stageAfterClosing_33 : Br cX0_stageAfterClosing 33 (.if_icmp .eq) 36 48 := ⟨(15), by decide +kernel, rfl, by decide⟩
theorem dX0_stageAfterClosing_36 : At cX0_stageAfterClosing 36 (.iload_n 1) 1 37 := ⟨by decide +kernel, rfl⟩
theorem dX0_stageAfterClosing_37 : At cX0_stageAfterClosing 37 (.bipush 93) 2 39 := ⟨by decide +kernel, rfl⟩
theorem dX0_stageAfterClosing_39 : Br cX0_stageAfterClosing 39 (.if_icmp .ne) 42 52 := ⟨(13), by decide +kernel, rfl, by decide⟩
theorem dX0_stageAfterClosing_42 : At cX0_stageAfterClosing 42 (.iload_n 2) 1 43 := ⟨by decide +kernel, rfl⟩
theorem dX0_stageAfterClosing_43 : At cX0_stageAfterClosing 43 (.bipush 44) 2 45 := ⟨by decide +kernel, rfl⟩
theorem dX0_stageAfterClosing_45 : Br cX0_stageAfterClosing 45 (.if_icmp .ne) 48 52 := ⟨(7), by decide +kernel, rfl, by decide⟩
theorem dX0_stageAfterClosing_48 : At cX0_stageAfterClosing 48 (.iconst 1) 1 49 := ⟨by decide +kernel, rfl⟩
theorem dX0_stageAfterClosing_49 : Br cX0_stageAfterClosing 49 .goto 52 53 := ⟨(4), by decide +kernel, rfl, by decide⟩
theorem dX0_stageAfterClosing_52 : At cX0_stageAfterClosing 52 (.iconst 0) 1 53 := ⟨by decide +kernel, rfl⟩
theorem dX0_stageAfterClosing_53 : At cX0_stageAfterClosing 53 (.istore_n 3) 1 54 := ⟨by decide +kernel, rfl⟩
theorem dX0_stageAfterClosing_54 : At cX0_stageAfterClosing 54 (.iload_n 3) 1 55 := ⟨by decide +kernel, rfl⟩
theorem dX0_stageAfterClosing_55 : Br cX0_stageAfterClosing 55 (.ifCond .ne) 58 60 := ⟨(5), by decide +kernel, rfl, by decide⟩
theorem dX0_stageAfterClosing_58 : At cX0_stageAfterClosing 58 (.iconst (-1)) 1 59 := ⟨by decide +kernel, rfl⟩
theorem dX0_stageAfterClosing_59 : At cX0_stageAfterClosing 59 (.ireturn) 1 60 := ⟨by decide +kernel, rfl⟩
theorem dX0_stageAfterClosing_60 : At cX0_stageAfterClosing 60 (.aload_n 0) 1 61 := ⟨by decide +kernel, rfl⟩
theorem dX0_stageAfterClosing_61 : At cX0_stageAfterClosing 61 (.dup) 1 62 := ⟨by decide +kernel, rfl⟩
theorem dX0_stageAfterClosing_62 : At cX0_stageAfterClosing 62 (.getfield 28) 3 65 := ⟨by decide +kernel, rfl⟩
theorem dX0_stageAfterClosing_65 : At cX0_stageAfterClosing 65 (.iconst 1) 1 66 := ⟨by decide +kernel, rfl⟩
theorem dX0_stageAfterClosing_66 : At cX0_stageAfterClosing 66 (.isub) 1 67 := ⟨by decide +kernel, rfl⟩
theorem dX0_stageAfterClosing_67 : At cX0_stageAfterClosing 67 (.putfield 28) 3 70 := ⟨by decide +kernel, rfl⟩
theorem dX0_stageAfterClosing_70 : At cX0_stageAfterClosing 70 (.iconst 1) 1 71 := ⟨by decide +kernel, rfl⟩
theorem dX0_stageAfterClosing_71 : At cX0_stageAfterClosing 71 (.ireturn) 1 72 := ⟨by decide +kernel, rfl⟩
theorem dX0_open_0 : At cX0_open 0 (.aload_n 0) 1 1 := ⟨by decide +kernel, rfl⟩
theorem dX0_open_1 : At cX0_open 1 (.getfield 28) 3 4 := ⟨by decide +kernel, rfl⟩
theorem dX0_open_4 : At cX0_open 4 (.iconst 4) 1 5 := ⟨by decide +kernel, rfl⟩
theorem dX0_open_5 : Br cX0_open 5 (.if_icmp .lt) 8 10 := ⟨(5), by decide +kernel, rfl, by decide⟩
theorem dX0_open_8 : At cX0_open 8 (.iconst 0) 1 9 := ⟨by decide +kernel, rfl⟩
theorem dX0_open_9 : At cX0_open 9 (.ireturn) 1 10 := ⟨by decide +kernel, rfl⟩
theorem dX0_open_10 : At cX0_open 10 (.aload_n 0) 1 11 := ⟨by decide +kernel, rfl⟩
theorem dX0_open_11 : At cX0_open 11 (.getfield 19) 3 14 := ⟨by decide +kernel, rfl⟩
theorem dX0_open_14 : At cX0_open 14 (.aload_n 0) 1 15 := ⟨by decide +kernel, rfl⟩
theorem dX0_open_15 : At cX0_open 15 (.getfield 28) 3 18 := ⟨by decide +kernel, rfl⟩
theorem dX0_open_18 : At cX0_open 18 (.iload_n 1) 1 19 := ⟨by decide +kernel, rfl⟩
theorem dX0_open_19 : At cX0_open 19 (.iastore) 1 20 := ⟨by decide +kernel, rfl⟩
theorem dX0_open_20 : At cX0_open 20 (.aload_n 0) 1 21 := ⟨by decide +kernel, rfl⟩
theorem dX0_open_21 : At cX0_open 21 (.getfield 22) 3 24 := ⟨by decide +kernel, rfl⟩
theorem dX0_open_24 : At cX0_open 24 (.aload_n 0) 1 25 := ⟨by decide +kernel, rfl⟩
theorem dX0_open_25 : At cX0_open 25 (.getfield 28) 3 28 := ⟨by decide +kernel, rfl⟩
theorem dX0_open_28 : At cX0_open 28 (.iload_n 2) 1 29 := ⟨by decide +kernel, rfl⟩
theorem dX0_open_29 : At cX0_open 29 (.iastore) 1 30 := ⟨by decide +kernel, rfl⟩
theorem dX0_open_30 : At cX0_open 30 (.aload_n 0) 1 31 := ⟨by decide +kernel, rfl⟩
theorem dX0_open_31 : At cX0_open 31 (.getfield 25) 3 34 := ⟨by decide +kernel, rfl⟩
theorem dX0_open_34 : At cX0_open 34 (.aload_n 0) 1 35 := ⟨by decide +kernel, rfl⟩
theorem dX0_open_35 : At cX0_open 35 (.getfield 28) 3 38 := ⟨by decide +kernel, rfl⟩
theorem dX0_open_38 : At cX0_open 38 (.iload_n 2) 1 39 := ⟨by decide +kernel, rfl⟩
theorem dX0_open_39 : At cX0_open 39 (.iastore) 1 40 := ⟨by decide +kernel, rfl⟩
theorem dX0_open_40 : At cX0_open 40 (.aload_n 0) 1 41 := ⟨by decide +kernel, rfl⟩
theorem dX0_open_41 : At cX0_open 41 (.dup) 1 42 := ⟨by decide +kernel, rfl⟩
theorem dX0_open_42 : At cX0_open 42 (.getfield 28) 3 45 := ⟨by decide +kernel, rfl⟩
theorem dX0_open_45 : At cX0_open 45 (.iconst 1) 1 46 := ⟨by decide +kernel, rfl⟩
theorem dX0_open_46 : At cX0_open 46 (.iadd) 1 47 := ⟨by decide +kernel, rfl⟩
theorem dX0_open_47 : At cX0_open 47 (.putfield 28) 3 50 := ⟨by decide +kernel, rfl⟩
theorem dX0_open_50 : At cX0_open 50 (.iconst 1) 1 51 := ⟨by decide +kernel, rfl⟩
theorem dX0_open_51 : At cX0_open 51 (.ireturn) 1 52 := ⟨by decide +kernel, rfl⟩
theorem dX0_innermostSign_0 : At cX0_innermostSign 0 (.aload_n 0) 1 1 := ⟨by decide +kernel, rfl⟩
theorem dX0_innermostSign_1 : At cX0_innermostSign 1 (.getfield 28) 3 4 := ⟨by decide +kernel, rfl⟩
theorem dX0_innermostSign_4 : Br cX0_innermostSign 4 (.ifCond .le) 7 21 := ⟨(17), by decide +kernel, rfl, by decide⟩
theorem dX0_innermostSign_7 : At cX0_innermostSign 7 (.aload_n 0) 1 8 := ⟨by decide +kernel, rfl⟩
theorem dX0_innermostSign_8 : At cX0_innermostSign 8 (.getfield 19) 3 11 := ⟨by decide +kernel, rfl⟩
theorem dX0_innermostSign_11 : At cX0_innermostSign 11 (.aload_n 0) 1 12 := ⟨by decide +kernel, rfl⟩
theorem dX0_innermostSign_12 : At cX0_innermostSign 12 (.getfield 28) 3 15 := ⟨by decide +kernel, rfl⟩
theorem dX0_innermostSign_15 : At cX0_innermostSign 15 (.iconst 1) 1 16 := ⟨by decide +kernel, rfl⟩
theorem dX0_innermostSign_16 : At cX0_innermostSign 16 (.isub) 1 17 := ⟨by decide +kernel, rfl⟩
theorem dX0_innermostSign_17 : At cX0_innermostSign 17 (.iaload) 1 18 := ⟨by decide +kernel, rfl⟩
theorem dX0_innermostSign_18 : Br cX0_innermostSign 18 .goto 21 22 := ⟨(4), by decide +kernel, rfl, by decide⟩
theorem dX0_innermostSign_21 : At cX0_innermostSign 21 (.iconst 0) 1 22 := ⟨by decide +kernel, rfl⟩
theorem dX0_innermostSign_22 : At cX0_innermostSign 22 (.ireturn) 1 23 := ⟨by decide +kernel, rfl⟩
theorem dX0_passComma_0 : At cX0_passComma 0 (.aload_n 0) 1 1 := ⟨by decide +kernel, rfl⟩
theorem dX0_passComma_1 : At cX0_passComma 1 (.getfield 28) 3 4 := ⟨by decide +kernel, rfl⟩
theorem dX0_passComma_4 : Br cX0_passComma 4 (.ifCond .le) 7 32 := ⟨(28), by decide +kernel, rfl, by decide⟩
theorem dX0_passComma_7 : At cX0_passComma 7 (.aload_n 0) 1 8 := ⟨by decide +kernel, rfl⟩
theorem dX0_passComma_8 : At cX0_passComma 8 (.getfield 19) 3 11 := ⟨by decide +kernel, rfl⟩
theorem dX0_passComma_11 : At cX0_passComma 11 (.aload_n 0) 1 12 := ⟨by decide +kernel, rfl⟩
theorem dX0_passComma_12 : At cX0_passComma 12 (.getfield 28) 3 15 := ⟨by decide +kernel, rfl⟩
theorem dX0_passComma_15 : At cX0_passComma 15 (.iconst 1) 1 16 := ⟨by decide +kernel, rfl⟩
theorem dX0_passComma_16 : At cX0_passComma 16 (.isub) 1 17 := ⟨by decide +kernel, rfl⟩
theorem dX0_passComma_17 : At cX0_passComma 17 (.bipush 44) 2 19 := ⟨by decide +kernel, rfl⟩
theorem dX0_passComma_19 : At cX0_passComma 19 (.iastore) 1 20 := ⟨by decide +kernel, rfl⟩
theorem dX0_passComma_20 : At cX0_passComma 20 (.aload_n 0) 1 21 := ⟨by decide +kernel, rfl⟩
theorem dX0_passComma_21 : At cX0_passComma 21 (.getfield 25) 3 24 := ⟨by decide +kernel, rfl⟩
theorem dX0_passComma_24 : At cX0_passComma 24 (.aload_n 0) 1 25 := ⟨by decide +kernel, rfl⟩
theorem dX0_passComma_25 : At cX0_passComma 25 (.getfield 28) 3 28 := ⟨by decide +kernel, rfl⟩
theorem dX0_passComma_28 : At cX0_passComma 28 (.iconst 1) 1 29 := ⟨by decide +kernel, rfl⟩
theorem dX0_passComma_29 : At cX0_passComma 29 (.isub) 1 30 := ⟨by decide +kernel, rfl⟩
theorem dX0_passComma_30 : At cX0_passComma 30 (.iload_n 1) 1 31 := ⟨by decide +kernel, rfl⟩
theorem dX0_passComma_31 : At cX0_passComma 31 (.iastore) 1 32 := ⟨by decide +kernel, rfl⟩
theorem dX0_passComma_32 : At cX0_passComma 32 (.return_) 1 33 := ⟨by decide +kernel, rfl⟩
theorem dX0_readInto_0 : At cX0_readInto 0 (.aload_n 1) 1 1 := ⟨by decide +kernel, rfl⟩
theorem dX0_readInto_1 : At cX0_readInto 1 (.invokevirtual 60) 3 4 := ⟨by decide +kernel, rfl⟩
theorem dX0_readInto_4 : At cX0_readInto 4 (.aload_n 0) 1 5 := ⟨by decide +kernel, rfl⟩
theorem dX0_readInto_5 : At cX0_readInto 5 (.iconst 0) 1 6 := ⟨by decide +kernel, rfl⟩
theorem dX0_readInto_6 : At cX0_readInto 6 (.putfield 28) 3 9 := ⟨by decide +kernel, rfl⟩
theorem dX0_readInto_9 : At cX0_readInto 9 (.iconst 0) 1 10 := ⟨by decide +kernel, rfl⟩
theorem dX0_readInto_10 : At cX0_readInto 10 (.istore_n 2) 1 11 := ⟨by decide +kernel, rfl⟩
theorem dX0_readInto_11 : At cX0_readInto 11 (.iconst 0) 1 12 := ⟨by decide +kernel, rfl⟩
theorem dX0_readInto_12 : At cX0_readInto 12 (.istore_n 3) 1 13 := ⟨by decide +kernel, rfl⟩
theorem dX0_readInto_13 : At cX0_readInto 13 (.iload_n 3) 1 14 := ⟨by decide +kernel, rfl⟩
theorem dX0_readInto_14 : At cX0_readInto 14 (.aload_n 0) 1 15 := ⟨by decide +kernel, rfl⟩
theorem dX0_readInto_15 : At cX0_readInto 15 (.getfield 15) 3 18 := ⟨by decide +kernel, rfl⟩
theorem dX0_readInto_18 : Br cX0_readInto 18 (.if_icmp .ge) 21 216 := ⟨(198), by decide +kernel, rfl, by decide⟩
theorem dX0_readInto_21 : At cX0_readInto 21 (.aload_n 0) 1 22 := ⟨by decide +kernel, rfl⟩
theorem dX0_readInto_22 : At cX0_readInto 22 (.getfield 9) 3 25 := ⟨by decide +kernel, rfl⟩
theorem dX0_readInto_25 : At cX0_readInto 25 (.iload_n 3) 1 26 := ⟨by decide +kernel, rfl⟩
theorem dX0_readInto_26 : At cX0_readInto 26 (.iaload) 1 27 := ⟨by decide +kernel, rfl⟩
theorem dX0_readInto_27 : At cX0_readInto 27 (.istore 4) 2 29 := ⟨by decide +kernel, rfl⟩
theorem dX0_readInto_29 : At cX0_readInto 29 (.iconst 1) 1 30 := ⟨by decide +kernel, rfl⟩
theorem dX0_readInto_30 : At cX0_readInto 30 (.istore 5) 2 32 := ⟨by decide +kernel, rfl⟩
theorem dX0_readInto_32 : At cX0_readInto 32 (.iload 4) 2 34 := ⟨by decide +kernel, rfl⟩
theorem dX0_readInto_34 : At cX0_readInto 34 (.invokestatic 37) 3 37 := ⟨by decide +kernel, rfl⟩
theorem dX0_readInto_37 : At cX0_readInto 37 (.iconst (-1)) 1 38 := ⟨by decide +kernel, rfl⟩
theorem dX0_readInto_38 : Br cX0_readInto 38 (.if_icmp .eq) 41 60 := ⟨(22), by decide +kernel, rfl, by decide⟩
theorem dX0_readInto_41 : At cX0_readInto 41 (.aload_n 1) 1 42 := ⟨by decide +kernel, rfl⟩
theorem dX0_readInto_42 : At cX0_readInto 42 (.getfield 65) 3 45 := ⟨by decide +kernel, rfl⟩
theorem dX0_readInto_45 : At cX0_readInto 45 (.istore_n 2) 1 46 := ⟨by decide +kernel, rfl⟩
theorem dX0_readInto_46 : At cX0_readInto 46 (.aload_n 1) 1 47 := ⟨by decide +kernel, rfl⟩
theorem dX0_readInto_47 : At cX0_readInto 47 (.iload 4) 2 49 := ⟨by decide +kernel, rfl⟩
theorem dX0_readInto_49 : At cX0_readInto 49 (.invokestatic 37) 3 52 := ⟨by decide +kernel, rfl⟩
theorem dX0_readInto_52 : At cX0_readInto 52 (.invokevirtual 66) 3 55 := ⟨by decide +kernel, rfl⟩
theorem dX0_readInto_55 : At cX0_readInto 55 (.istore 5) 2 57 := ⟨by decide +kernel, rfl⟩
theorem dX0_readInto_57 : Br cX0_readInto 57 .goto 60 203 := ⟨(146), by decide +kernel, rfl, by decide⟩
theorem dX0_readInto_60 : At cX0_readInto 60 (.iload 4) 2 62 := ⟨by decide +kernel, rfl⟩
theorem dX0_readInto_62 : At cX0_readInto 62 (.bipush 40) 2 64 := ⟨by decide +kernel, rfl⟩
theorem dX0_readInto_64 : Br cX0_readInto 64 (.if_icmp .eq) 67 74 := ⟨(10), by decide +kernel, rfl, by decide⟩
theorem dX0_readInto_67 : At cX0_readInto 67 (.iload 4) 2 69 := ⟨by decide +kernel, rfl⟩
theorem dX0_readInto_69 : At cX0_readInto 69 (.bipush 91) 2 71 := ⟨by decide +kernel, rfl⟩
theorem dX0_readInto_71 : Br cX0_readInto 71 (.if_icmp .ne) 74 89 := ⟨(18), by decide +kernel, rfl, by decide⟩
theorem dX0_readInto_74 : At cX0_readInto 74 (.aload_n 0) 1 75 := ⟨by decide +kernel, rfl⟩
theorem dX0_readInto_75 : At cX0_readInto 75 (.iload 4) 2 77 := ⟨by decide +kernel, rfl⟩
theorem dX0_readInto_77 : At cX0_readInto 77 (.aload_n 1) 1 78 := ⟨by decide +kernel, rfl⟩
theorem dX0_readInto_78 : At cX0_readInto 78 (.getfield 65) 3 81 := ⟨by decide +kernel, rfl⟩
theorem dX0_readInto_81 : At cX0_readInto 81 (.invokevirtual 41) 3 84 := ⟨by decide +kernel, rfl⟩
theorem dX0_readInto_84 : At cX0_readInto 84 (.istore 5) 2 86 := ⟨by decide +kernel, rfl⟩
theorem dX0_readInto_86 : Br cX0_readInto 86 .goto 89 203 := ⟨(117), by decide +kernel, rfl, by decide⟩
theorem dX0_readInto_89 : At cX0_readInto 89 (.iload 4) 2 91 := ⟨by decide +kernel, rfl⟩
theorem dX0_readInto_91 : At cX0_readInto 91 (.bipush 44) 2 93 := ⟨by decide +kernel, rfl⟩
theorem dX0_readInto_93 : Br cX0_readInto 93 (.if_icmp .ne) 96 107 := ⟨(14), by decide +kernel, rfl, by decide⟩
theorem dX0_readInto_96 : At cX0_readInto 96 (.aload_n 0) 1 97 := ⟨by decide +kernel, rfl⟩
theorem dX0_readInto_97 : At cX0_readInto 97 (.aload_n 1) 1 98 := ⟨by decide +kernel, rfl⟩
theorem dX0_readInto_98 : At cX0_readInto 98 (.getfield 65) 3 101 := ⟨by decide +kernel, rfl⟩
theorem dX0_readInto_101 : At cX0_readInto 101 (.invokevirtual 56) 3 104 := ⟨by decide +kernel, rfl⟩
theorem dX0_readInto_104 : Br cX0_readInto 104 .goto 107 203 := ⟨(99), by decide +kernel, rfl, by decide⟩
theorem dX0_readInto_107 : At cX0_readInto 107 (.iload 4) 2 109 := ⟨by decide +kernel, rfl⟩
theorem dX0_readInto_109 : At cX0_readInto 109 (.bipush 39) 2 111 := ⟨by decide +kernel, rfl⟩
theorem dX0_readInto_111 : Br cX0_readInto 111 (.if_icmp .ne) 114 122 := ⟨(11), by decide +kernel, rfl, by decide⟩
theorem dX0_readInto_114 : At cX0_readInto 114 (.aload_n 1) 1 115 := ⟨by decide +kernel, rfl⟩
theorem dX0_readInto_115 : At cX0_readInto 115 (.iload_n 2) 1 116 := ⟨by decide +kernel, rfl⟩
theorem dX0_readInto_116 : At cX0_readInto 116 (.invokevirtual 69) 3 119 := ⟨by decide +kernel, rfl⟩
theorem dX0_readInto_119 : Br cX0_readInto 119 .goto 122 203 := ⟨(84), by decide +kernel, rfl, by decide⟩
theorem dX0_readInto_122 : At cX0_readInto 122 (.iload 4) 2 124 := ⟨by decide +kernel, rfl⟩
theorem dX0_readInto_124 : At cX0_readInto 124 (.invokestatic 45) 3 127 := ⟨by decide +kernel, rfl⟩
theorem dX0_readInto_127 : Br cX0_readInto 127 (.ifCond .eq) 130 145 := ⟨(18), by decide +kernel, rfl, by decide⟩
theorem dX0_readInto_130 : At cX0_readInto 130 (.aload_n 1) 1 131 := ⟨by decide +kernel, rfl⟩
theorem dX0_readInto_131 : At cX0_readInto 131 (.iload_n 2) 1 132 := ⟨by decide +kernel, rfl⟩
theorem dX0_readInto_132 : At cX0_readInto 132 (.iload 4) 2 134 := ⟨by decide +kernel, rfl⟩
theorem dX0_readInto_134 : At cX0_readInto 134 (.bipush 48) 2 136 := ⟨by decide +kernel, rfl⟩
theorem dX0_readInto_136 : At cX0_readInto 136 (.isub) 1 137 := ⟨by decide +kernel, rfl⟩
theorem dX0_readInto_137 : At cX0_readInto 137 (.invokevirtual 72) 3 140 := ⟨by decide +kernel, rfl⟩
theorem dX0_readInto_140 : At cX0_readInto 140 (.istore 5) 2 142 := ⟨by decide +kernel, rfl⟩
theorem dX0_readInto_142 : Br cX0_readInto 142 .goto 145 203 := ⟨(61), by decide +kernel, rfl, by decide⟩
theorem dX0_readInto_145 : At cX0_readInto 145 (.aload_n 0) 1 146 := ⟨by decide +kernel, rfl⟩
theorem dX0_readInto_146 : At cX0_readInto 146 (.getfield 28) 3 149 := ⟨by decide +kernel, rfl⟩
theorem dX0_readInto_149 : Br cX0_readInto 149 (.ifCond .le) 152 203 := ⟨(54), by decide +kernel, rfl, by decide⟩
theorem dX0_readInto_152 : At cX0_readInto 152 (.aload_n 0) 1 153 := ⟨by decide +kernel, rfl⟩
theorem dX0_readInto_153 : At cX0_readInto 153 (.dup) 1 154 := ⟨by decide +kernel, rfl⟩
theorem dX0_readInto_154 : At cX0_readInto 154 (.getfield 28) 3 157 := ⟨by decide +kernel, rfl⟩
theorem dX0_readInto_157 : At cX0_readInto 157 (.iconst 1) 1 158 := ⟨by decide +kernel, rfl⟩
theorem dX0_readInto_158 : At cX0_readInto 158 (.isub) 1 159 := ⟨by decide +kernel, rfl⟩
theorem dX0_readInto_159 : At cX0_readInto 159 (.putfield 28) 3 162 := ⟨by decide +kernel, rfl⟩
theorem dX0_readInto_162 : At cX0_readInto 162 (.aload_n 0) 1 163 := ⟨by decide +kernel, rfl⟩
theorem dX0_readInto_163 : At cX0_readInto 163 (.getfield 22) 3 166 := ⟨by decide +kernel, rfl⟩
theorem dX0_readInto_166 : At cX0_readInto 166 (.aload_n 0) 1 167 := ⟨by decide +kernel, rfl⟩
theorem dX0_readInto_167 : At cX0_readInto 167 (.getfield 28) 3 170 := ⟨by decide +kernel, rfl⟩
theorem dX0_readInto_170 : At cX0_readInto 170 (.iaload) 1 171 := ⟨by decide +kernel, rfl⟩
theorem dX0_readInto_171 : At cX0_readInto 171 (.istore_n 2) 1 172 := ⟨by decide +kernel, rfl⟩
theorem dX0_readInto_172 : At cX0_readInto 172 (.iload 4) 2 174 := ⟨by decide +kernel, rfl⟩
theorem dX0_readInto_174 : At cX0_readInto 174 (.bipush 41) 2 176 := ⟨by decide +kernel, rfl⟩
theorem dX0_readInto_176 : Br cX0_readInto 176 (.if_icmp .eq) 179 196 := ⟨(20), by decide +kernel, rfl, by decide⟩
theorem dX0_readInto_179 : At cX0_readInto 179 (.aload_n 1) 1 180 := ⟨by decide +kernel, rfl⟩
theorem dX0_readInto_180 : At cX0_readInto 180 (.iload_n 2) 1 181 := ⟨by decide +kernel, rfl⟩
theorem dX0_readInto_181 : At cX0_readInto 181 (.aload_n 0) 1 182 := ⟨by decide +kernel, rfl⟩
theorem dX0_readInto_182 : At cX0_readInto 182 (.getfield 25) 3 185 := ⟨by decide +kernel, rfl⟩
theorem dX0_readInto_185 : At cX0_readInto 185 (.aload_n 0) 1 186 := ⟨by decide +kernel, rfl⟩
theorem dX0_readInto_186 : At cX0_readInto 186 (.getfield 28) 3 189 := ⟨by decide +kernel, rfl⟩
theorem dX0_readInto_189 : At cX0_readInto 189 (.iaload) 1 190 := ⟨by decide +kernel, rfl⟩
theorem dX0_readInto_190 : At cX0_readInto 190 (.invokestatic 75) 3 193 := ⟨by decide +kernel, rfl⟩
theorem dX0_readInto_193 : Br cX0_readInto 193 (.ifCond .eq) 196 200 := ⟨(7), by decide +kernel, rfl, by decide⟩
theorem dX0_readInto_196 : At cX0_readInto 196 (.iconst 1) 1 197 := ⟨by decide +kernel, rfl⟩
theorem dX0_readInto_197 : Br cX0_readInto 197 .goto 200 201 := ⟨(4), by decide +kernel, rfl, by decide⟩
theorem dX0_readInto_200 : At cX0_readInto 200 (.iconst 0) 1 201 := ⟨by decide +kernel, rfl⟩
theorem dX0_readInto_201 : At cX0_readInto 201 (.istore 5) 2 203 := ⟨by decide +kernel, rfl⟩
theorem dX0_readInto_203 : At cX0_readInto 203 (.iload 5) 2 205 := ⟨by decide +kernel, rfl⟩
theorem dX0_readInto_205 : Br cX0_readInto 205 (.ifCond .ne) 208 210 := ⟨(5), by decide +kernel, rfl, by decide⟩
theorem dX0_readInto_208 : At cX0_readInto 208 (.iconst 0) 1 209 := ⟨by decide +kernel, rfl⟩
theorem dX0_readInto_209 : At cX0_readInto 209 (.ireturn) 1 210 := ⟨by decide +kernel, rfl⟩
theorem dX0_readInto_210 : At cX0_readInto 210 (.iinc 3 1) 3 213 := ⟨by decide +kernel, rfl⟩
theorem dX0_readInto_213 : Br cX0_readInto 213 .goto 216 13 := ⟨(-200), by decide +kernel, rfl, by decide⟩
theorem dX0_readInto_216 : At cX0_readInto 216 (.iconst 1) 1 217 := ⟨by decide +kernel, rfl⟩
theorem dX0_readInto_217 : At cX0_readInto 217 (.ireturn) 1 218 := ⟨by decide +kernel, rfl⟩
theorem dX0_addTurnedHalves_0 : At cX0_addTurnedHalves 0 (.aload_n 0) 1 1 := ⟨by decide +kernel, rfl⟩
theorem dX0_addTurnedHalves_1 : At cX0_addTurnedHalves 1 (.getfield 65) 3 4 := ⟨by decide +kernel, rfl⟩
theorem dX0_addTurnedHalves_4 : At cX0_addTurnedHalves 4 (.istore_n 3) 1 5 := ⟨by decide +kernel, rfl⟩
theorem dX0_addTurnedHalves_5 : At cX0_addTurnedHalves 5 (.aload_n 0) 1 6 := ⟨by decide +kernel, rfl⟩
theorem dX0_addTurnedHalves_6 : At cX0_addTurnedHalves 6 (.aload_n 0) 1 7 := ⟨by decide +kernel, rfl⟩
theorem dX0_addTurnedHalves_7 : At cX0_addTurnedHalves 7 (.iload_n 1) 1 8 := ⟨by decide +kernel, rfl⟩
theorem dX0_addTurnedHalves_8 : At cX0_addTurnedHalves 8 (.iload_n 2) 1 9 := ⟨by decide +kernel, rfl⟩
theorem dX0_addTurnedHalves_9 : At cX0_addTurnedHalves 9 (.invokevirtual 79) 3 12 := ⟨by decide +kernel, rfl⟩
theorem dX0_addTurnedHalves_12 : Br cX0_addTurnedHalves 12 (.ifCond .eq) 15 29 := ⟨(17), by decide +kernel, rfl, by decide⟩
theorem dX0_addTurnedHalves_15 : At cX0_addTurnedHalves 15 (.aload_n 0) 1 16 := ⟨by decide +kernel, rfl⟩
theorem dX0_addTurnedHalves_16 : At cX0_addTurnedHalves 16 (.aload_n 0) 1 17 := ⟨by decide +kernel, rfl⟩
theorem dX0_addTurnedHalves_17 : At cX0_addTurnedHalves 17 (.iload_n 2) 1 18 := ⟨by decide +kernel, rfl⟩
theorem dX0_addTurnedHalves_18 : At cX0_addTurnedHalves 18 (.iload_n 3) 1 19 := ⟨by decide +kernel, rfl⟩
theorem dX0_addTurnedHalves_19 : At cX0_addTurnedHalves 19 (.invokevirtual 79) 3 22 := ⟨by decide +kernel, rfl⟩
theorem dX0_addTurnedHalves_22 : Br cX0_addTurnedHalves 22 (.ifCond .eq) 25 29 := ⟨(7), by decide +kernel, rfl, by decide⟩
theorem dX0_addTurnedHalves_25 : At cX0_addTurnedHalves 25 (.iconst 1) 1 26 := ⟨by decide +kernel, rfl⟩
theorem dX0_addTurnedHalves_26 : Br cX0_addTurnedHalves 26 .goto 29 30 := ⟨(4), by decide +kernel, rfl, by decide⟩
theorem dX0_addTurnedHalves_29 : At cX0_addTurnedHalves 29 (.iconst 0) 1 30 := ⟨by decide +kernel, rfl⟩
theorem dX0_addTurnedHalves_30 : At cX0_addTurnedHalves 30 (.ireturn) 1 31 := ⟨by decide +kernel, rfl⟩
theorem dX1_init_0 : At cX1_init 0 (.aload_n 0) 1 1 := ⟨by decide +kernel, rfl⟩
theorem dX1_init_1 : At cX1_init 1 (.invokespecial 3) 3 4 := ⟨by decide +kernel, rfl⟩
theorem dX1_init_4 : At cX1_init 4 (.aload_n 0) 1 5 := ⟨by decide +kernel, rfl⟩
theorem dX1_init_5 : At cX1_init 5 (.bipush 6) 2 7 := ⟨by decide +kernel, rfl⟩
theorem dX1_init_7 : At cX1_init 7 (.anewarray 9) 3 10 := ⟨by decide +kernel, rfl⟩
theorem dX1_init_10 : At cX1_init 10 (.putfield 11) 3 13 := ⟨by decide +kernel, rfl⟩
theorem dX1_init_13 : At cX1_init 13 (.iconst 0) 1 14 := ⟨by decide +kernel, rfl⟩
theorem dX1_init_14 : At cX1_init 14 (.istore_n 1) 1 15 := ⟨by decide +kernel, rfl⟩
theorem dX1_init_15 : At cX1_init 15 (.iload_n 1) 1 16 := ⟨by decide +kernel, rfl⟩
theorem dX1_init_16 : At cX1_init 16 (.bipush 6) 2 18 := ⟨by decide +kernel, rfl⟩
theorem dX1_init_18 : Br cX1_init 18 (.if_icmp .ge) 21 40 := ⟨(22), by decide +kernel, rfl, by decide⟩
theorem dX1_init_21 : At cX1_init 21 (.aload_n 0) 1 22 := ⟨by decide +kernel, rfl⟩
theorem dX1_init_22 : At cX1_init 22 (.getfield 11) 3 25 := ⟨by decide +kernel, rfl⟩
theorem dX1_init_25 : At cX1_init 25 (.iload_n 1) 1 26 := ⟨by decide +kernel, rfl⟩
theorem dX1_init_26 : At cX1_init 26 (.new 9) 3 29 := ⟨by decide +kernel, rfl⟩
theorem dX1_init_29 : At cX1_init 29 (.dup) 1 30 := ⟨by decide +kernel, rfl⟩
theorem dX1_init_30 : At cX1_init 30 (.invokespecial 17) 3 33 := ⟨by decide +kernel, rfl⟩
theorem dX1_init_33 : At cX1_init 33 (.aastore) 1 34 := ⟨by decide +kernel, rfl⟩
theorem dX1_init_34 : At cX1_init 34 (.iinc 1 1) 3 37 := ⟨by decide +kernel, rfl⟩
theorem dX1_init_37 : Br cX1_init 37 .goto 40 15 := ⟨(-22), by decide +kernel, rfl, by decide⟩
theorem dX1_init_40 : At cX1_init 40 (.aload_n 0) 1 41 := ⟨by decide +kernel, rfl⟩
theorem dX1_init_41 : At cX1_init 41 (.iconst 0) 1 42 := ⟨by decide +kernel, rfl⟩
theorem dX1_init_42 : At cX1_init 42 (.putfield 18) 3 45 := ⟨by decide +kernel, rfl⟩
theorem dX1_init_45 : At cX1_init 45 (.aload_n 0) 1 46 := ⟨by decide +kernel, rfl⟩
theorem dX1_init_46 : At cX1_init 46 (.iconst 0) 1 47 := ⟨by decide +kernel, rfl⟩
theorem dX1_init_47 : At cX1_init 47 (.putfield 22) 3 50 := ⟨by decide +kernel, rfl⟩
theorem dX1_init_50 : At cX1_init 50 (.return_) 1 51 := ⟨by decide +kernel, rfl⟩
theorem dX1_remember_0 : At cX1_remember 0 (.aload_n 0) 1 1 := ⟨by decide +kernel, rfl⟩
theorem dX1_remember_1 : At cX1_remember 1 (.getfield 11) 3 4 := ⟨by decide +kernel, rfl⟩
theorem dX1_remember_4 : At cX1_remember 4 (.aload_n 0) 1 5 := ⟨by decide +kernel, rfl⟩
theorem dX1_remember_5 : At cX1_remember 5 (.getfield 18) 3 8 := ⟨by decide +kernel, rfl⟩
theorem dX1_remember_8 : At cX1_remember 8 (.aaload) 1 9 := ⟨by decide +kernel, rfl⟩
theorem dX1_remember_9 : At cX1_remember 9 (.aload_n 1) 1 10 := ⟨by decide +kernel, rfl⟩
theorem dX1_remember_10 : At cX1_remember 10 (.invokevirtual 25) 3 13 := ⟨by decide +kernel, rfl⟩
theorem dX1_remember_13 : At cX1_remember 13 (.aload_n 0) 1 14 := ⟨by decide +kernel, rfl⟩
theorem dX1_remember_14 : At cX1_remember 14 (.aload_n 0) 1 15 := ⟨by decide +kernel, rfl⟩
theorem dX1_remember_15 : At cX1_remember 15 (.getfield 18) 3 18 := ⟨by decide +kernel, rfl⟩
theorem dX1_remember_18 : At cX1_remember 18 (.iconst 1) 1 19 := ⟨by decide +kernel, rfl⟩
theorem dX1_remember_19 : At cX1_remember 19 (.iadd) 1 20 := ⟨by decide +kernel, rfl⟩
theorem dX1_remember_20 : At cX1_remember 20 (.bipush 6) 2 22 := ⟨by decide +kernel, rfl⟩
theorem dX1_remember_22 : At cX1_remember 22 (.irem) 1 23 := ⟨by decide +kernel, rfl⟩
theorem dX1_remember_23 : At cX1_remember 23 (.putfield 18) 3 26 := ⟨by decide +kernel, rfl⟩
theorem dX1_remember_26 : At cX1_remember 26 (.aload_n 0) 1 27 := ⟨by decide +kernel, rfl⟩
theorem dX1_remember_27 : At cX1_remember 27 (.aload_n 0) 1 28 := ⟨by decide +kernel, rfl⟩
theorem dX1_remember_28 : At cX1_remember 28 (.getfield 22) 3 31 := ⟨by decide +kernel, rfl⟩
theorem dX1_remember_31 : At cX1_remember 31 (.iconst 1) 1 32 := ⟨by decide +kernel, rfl⟩
theorem dX1_remember_32 : At cX1_remember 32 (.iadd) 1 33 := ⟨by decide +kernel, rfl⟩
theorem dX1_remember_33 : At cX1_remember 33 (.bipush 6) 2 35 := ⟨by decide +kernel, rfl⟩
theorem dX1_remember_35 : At cX1_remember 35 (.invokestatic 29) 3 38 := ⟨by decide +kernel, rfl⟩
theorem dX1_remember_38 : At cX1_remember 38 (.putfield 22) 3 41 := ⟨by decide +kernel, rfl⟩
theorem dX1_remember_41 : At cX1_remember 41 (.return_) 1 42 := ⟨by decide +kernel, rfl⟩
theorem dX1_bringBack_0 : At cX1_bringBack 0 (.aload_n 0) 1 1 := ⟨by decide +kernel, rfl⟩
theorem dX1_bringBack_1 : At cX1_bringBack 1 (.aload_n 0) 1 2 := ⟨by decide +kernel, rfl⟩
theorem dX1_bringBack_2 : At cX1_bringBack 2 (.getfield 18) 3 5 := ⟨by decide +kernel, rfl⟩
theorem dX1_bringBack_5 : At cX1_bringBack 5 (.bipush 6) 2 7 := ⟨by decide +kernel, rfl⟩
theorem dX1_bringBack_7 : At cX1_bringBack 7 (.iadd) 1 8 := ⟨by decide +kernel, rfl⟩
theorem dX1_bringBack_8 : At cX1_bringBack 8 (.iconst 1) 1 9 := ⟨by decide +kernel, rfl⟩
theorem dX1_bringBack_9 : At cX1_bringBack 9 (.isub) 1 10 := ⟨by decide +kernel, rfl⟩
theorem dX1_bringBack_10 : At cX1_bringBack 10 (.bipush 6) 2 12 := ⟨by decide +kernel, rfl⟩
theorem dX1_bringBack_12 : At cX1_bringBack 12 (.irem) 1 13 := ⟨by decide +kernel, rfl⟩
theorem dX1_bringBack_13 : At cX1_bringBack 13 (.putfield 18) 3 16 := ⟨by decide +kernel, rfl⟩
theorem dX1_bringBack_16 : At cX1_bringBack 16 (.aload_n 0) 1 17 := ⟨by decide +kernel, rfl⟩
theorem dX1_bringBack_17 : At cX1_bringBack 17 (.aload_n 0) 1 18 := ⟨by decide +kernel, rfl⟩
theorem dX1_bringBack_18 : At cX1_bringBack 18 (.getfield 22) 3 21 := ⟨by decide +kernel, rfl⟩
theorem dX1_bringBack_21 : At cX1_bringBack 21 (.iconst 1) 1 22 := ⟨by decide +kernel, rfl⟩
theorem dX1_bringBack_22 : At cX1_bringBack 22 (.isub) 1 23 := ⟨by decide +kernel, rfl⟩
theorem dX1_bringBack_23 : At cX1_bringBack 23 (.iconst 0) 1 24 := ⟨by decide +kernel, rfl⟩
theorem dX1_bringBack_24 : At cX1_bringBack 24 (.invokestatic 35) 3 27 := ⟨by decide +kernel, rfl⟩
theorem dX1_bringBack_27 : At cX1_bringBack 27 (.putfield 22) 3 30 := ⟨by decide +kernel, rfl⟩
theorem dX1_bringBack_30 : At cX1_bringBack 30 (.aload_n 1) 1 31 := ⟨by decide +kernel, rfl⟩
theorem dX1_bringBack_31 : At cX1_bringBack 31 (.aload_n 0) 1 32 := ⟨by decide +kernel, rfl⟩
theorem dX1_bringBack_32 : At cX1_bringBack 32 (.getfield 11) 3 35 := ⟨by decide +kernel, rfl⟩
theorem dX1_bringBack_35 : At cX1_bringBack 35 (.aload_n 0) 1 36 := ⟨by decide +kernel, rfl⟩
theorem dX1_bringBack_36 : At cX1_bringBack 36 (.getfield 18) 3 39 := ⟨by decide +kernel, rfl⟩
theorem dX1_bringBack_39 : At cX1_bringBack 39 (.aaload) 1 40 := ⟨by decide +kernel, rfl⟩
theorem dX1_bringBack_40 : At cX1_bringBack 40 (.invokevirtual 25) 3 43 := ⟨by decide +kernel, rfl⟩
theorem dX1_bringBack_43 : At cX1_bringBack 43 (.return_) 1 44 := ⟨by decide +kernel, rfl⟩
theorem dX2_init_0 : At cX2_init 0 (.aload_n 0) 1 1 := ⟨by decide +kernel, rfl⟩
theorem dX2_init_1 : At cX2_init 1 (.invokespecial 3) 3 4 := ⟨by decide +kernel, rfl⟩
theorem dX2_init_4 : At cX2_init 4 (.aload_n 0) 1 5 := ⟨by decide +kernel, rfl⟩
theorem dX2_init_5 : At cX2_init 5 (.sipush 7260) 3 8 := ⟨by decide +kernel, rfl⟩
theorem dX2_init_8 : At cX2_init 8 (.newarray .int) 2 10 := ⟨by decide +kernel, rfl⟩
theorem dX2_init_10 : At cX2_init 10 (.putfield 9) 3 13 := ⟨by decide +kernel, rfl⟩
theorem dX2_init_13 : At cX2_init 13 (.aload_n 0) 1 14 := ⟨by decide +kernel, rfl⟩
theorem dX2_init_14 : At cX2_init 14 (.bipush 120) 2 16 := ⟨by decide +kernel, rfl⟩
theorem dX2_init_16 : At cX2_init 16 (.newarray .int) 2 18 := ⟨by decide +kernel, rfl⟩
theorem dX2_init_18 : At cX2_init 18 (.putfield 15) 3 21 := ⟨by decide +kernel, rfl⟩
theorem dX2_init_21 : At cX2_init 21 (.aload_n 0) 1 22 := ⟨by decide +kernel, rfl⟩
theorem dX2_init_22 : At cX2_init 22 (.bipush 120) 2 24 := ⟨by decide +kernel, rfl⟩
theorem dX2_init_24 : At cX2_init 24 (.newarray .int) 2 26 := ⟨by decide +kernel, rfl⟩
theorem dX2_init_26 : At cX2_init 26 (.putfield 18) 3 29 := ⟨by decide +kernel, rfl⟩
theorem dX2_init_29 : At cX2_init 29 (.aload_n 0) 1 30 := ⟨by decide +kernel, rfl⟩
theorem dX2_init_30 : At cX2_init 30 (.bipush 12) 2 32 := ⟨by decide +kernel, rfl⟩
theorem dX2_init_32 : At cX2_init 32 (.newarray .int) 2 34 := ⟨by decide +kernel, rfl⟩
theorem dX2_init_34 : At cX2_init 34 (.putfield 21) 3 37 := ⟨by decide +kernel, rfl⟩
theorem dX2_init_37 : At cX2_init 37 (.return_) 1 38 := ⟨by decide +kernel, rfl⟩
theorem dX2_fewestCuts_0 : At cX2_fewestCuts 0 (.aload_n 1) 1 1 := ⟨by decide +kernel, rfl⟩
theorem dX2_fewestCuts_1 : At cX2_fewestCuts 1 (.getfield 24) 3 4 := ⟨by decide +kernel, rfl⟩
theorem dX2_fewestCuts_4 : At cX2_fewestCuts 4 (.bipush 120) 2 6 := ⟨by decide +kernel, rfl⟩
theorem dX2_fewestCuts_6 : At cX2_fewestCuts 6 (.invokestatic 30) 3 9 := ⟨by decide +kernel, rfl⟩
theorem dX2_fewestCuts_9 : At cX2_fewestCuts 9 (.istore_n 2) 1 10 := ⟨by decide +kernel, rfl⟩
theorem dX2_fewestCuts_10 : At cX2_fewestCuts 10 (.aload_n 0) 1 11 := ⟨by decide +kernel, rfl⟩
theorem dX2_fewestCuts_11 : At cX2_fewestCuts 11 (.aload_n 1) 1 12 := ⟨by decide +kernel, rfl⟩
theorem dX2_fewestCuts_12 : At cX2_fewestCuts 12 (.iload_n 2) 1 13 := ⟨by decide +kernel, rfl⟩
theorem dX2_fewestCuts_13 : At cX2_fewestCuts 13 (.invokevirtual 36) 3 16 := ⟨by decide +kernel, rfl⟩
theorem dX2_fewestCuts_16 : At cX2_fewestCuts 16 (.iconst 1) 1 17 := ⟨by decide +kernel, rfl⟩
theorem dX2_fewestCuts_17 : At cX2_fewestCuts 17 (.istore_n 3) 1 18 := ⟨by decide +kernel, rfl⟩
theorem dX2_fewestCuts_18 : At cX2_fewestCuts 18 (.iload_n 3) 1 19 := ⟨by decide +kernel, rfl⟩
theorem dX2_fewestCuts_19 : At cX2_fewestCuts 19 (.iload_n 2) 1 20 := ⟨by decide +kernel, rfl⟩
theorem dX2_fewestCuts_20 : Br cX2_fewestCuts 20 (.if_icmp .gt) 23 63 := ⟨(43), by decide +kernel, rfl, by decide⟩
theorem dX2_fewestCuts_23 : At cX2_fewestCuts 23 (.iload_n 3) 1 24 := ⟨by decide +kernel, rfl⟩
theorem dX2_fewestCuts_24 : At cX2_fewestCuts 24 (.iconst 1) 1 25 := ⟨by decide +kernel, rfl⟩
theorem dX2_fewestCuts_25 : At cX2_fewestCuts 25 (.isub) 1 26 := ⟨by decide +kernel, rfl⟩
theorem dX2_fewestCuts_26 : At cX2_fewestCuts 26 (.istore 4) 2 28 := ⟨by decide +kernel, rfl⟩
theorem dX2_fewestCuts_28 : At cX2_fewestCuts 28 (.iload 4) 2 30 := ⟨by decide +kernel, rfl⟩
theorem dX2_fewestCuts_30 : Br cX2_fewestCuts 30 (.ifCond .lt) 33 57 := ⟨(27), by decide +kernel, rfl, by decide⟩
theorem dX2_fewestCuts_33 : At cX2_fewestCuts 33 (.aload_n 0) 1 34 := ⟨by decide +kernel, rfl⟩
theorem dX2_fewestCuts_34 : At cX2_fewestCuts 34 (.getfield 9) 3 37 := ⟨by decide +kernel, rfl⟩
theorem dX2_fewestCuts_37 : At cX2_fewestCuts 37 (.iload 4) 2 39 := ⟨by decide +kernel, rfl⟩
theorem dX2_fewestCuts_39 : At cX2_fewestCuts 39 (.iload_n 3) 1 40 := ⟨by decide +kernel, rfl⟩
theorem dX2_fewestCuts_40 : At cX2_fewestCuts 40 (.invokestatic 40) 3 43 := ⟨by decide +kernel, rfl⟩
theorem dX2_fewestCuts_43 : At cX2_fewestCuts 43 (.aload_n 0) 1 44 := ⟨by decide +kernel, rfl⟩
theorem dX2_fewestCuts_44 : At cX2_fewestCuts 44 (.iload 4) 2 46 := ⟨by decide +kernel, rfl⟩
theorem dX2_fewestCuts_46 : At cX2_fewestCuts 46 (.iload_n 3) 1 47 := ⟨by decide +kernel, rfl⟩
theorem dX2_fewestCuts_47 : At cX2_fewestCuts 47 (.invokevirtual 43) 3 50 := ⟨by decide +kernel, rfl⟩
theorem dX2_fewestCuts_50 : At cX2_fewestCuts 50 (.iastore) 1 51 := ⟨by decide +kernel, rfl⟩
theorem dX2_fewestCuts_51 : At cX2_fewestCuts 51 (.iinc 4 (-1)) 3 54 := ⟨by decide +kernel, rfl⟩
theorem dX2_fewestCuts_54 : Br cX2_fewestCuts 54 .goto 57 28 := ⟨(-26), by decide +kernel, rfl, by decide⟩
theorem dX2_fewestCuts_57 : At cX2_fewestCuts 57 (.iinc 3 1) 3 60 := ⟨by decide +kernel, rfl⟩
theorem dX2_fewestCuts_60 : Br cX2_fewestCuts 60 .goto 63 18 := ⟨(-42), by decide +kernel, rfl, by decide⟩
theorem dX2_fewestCuts_63 : At cX2_fewestCuts 63 (.iload_n 2) 1 64 := ⟨by decide +kernel, rfl⟩
theorem dX2_fewestCuts_64 : At cX2_fewestCuts 64 (.aload_n 0) 1 65 := ⟨by decide +kernel, rfl⟩
theorem dX2_fewestCuts_65 : At cX2_fewestCuts 65 (.iconst 0) 1 66 := ⟨by decide +kernel, rfl⟩
theorem dX2_fewestCuts_66 : At cX2_fewestCuts 66 (.iload_n 2) 1 67 := ⟨by decide +kernel, rfl⟩
theorem dX2_fewestCuts_67 : At cX2_fewestCuts 67 (.invokevirtual 46) 3 70 := ⟨by decide +kernel, rfl⟩
theorem dX2_fewestCuts_70 : At cX2_fewestCuts 70 (.isub) 1 71 := ⟨by decide +kernel, rfl⟩
theorem dX2_fewestCuts_71 : At cX2_fewestCuts 71 (.ireturn) 1 72 := ⟨by decide +kernel, rfl⟩
theorem dX2_linkPlaces_0 : At cX2_linkPlaces 0 (.iconst 0) 1 1 := ⟨by decide +kernel, rfl⟩
theorem dX2_linkPlaces_1 : At cX2_linkPlaces 1 (.istore_n 3) 1 2 := ⟨by decide +kernel, rfl⟩
theorem dX2_linkPlaces_2 : At cX2_linkPlaces 2 (.iload_n 3) 1 3 := ⟨by decide +kernel, rfl⟩
theorem dX2_linkPlaces_3 : At cX2_linkPlaces 3 (.bipush 12) 2 5 := ⟨by decide +kernel, rfl⟩
theorem dX2_linkPlaces_5 : Br cX2_linkPlaces 5 (.if_icmp .ge) 8 21 := ⟨(16), by decide +kernel, rfl, by decide⟩
theorem dX2_linkPlaces_8 : At cX2_linkPlaces 8 (.aload_n 0) 1 9 := ⟨by decide +kernel, rfl⟩
theorem dX2_linkPlaces_9 : At cX2_linkPlaces 9 (.getfield 21) 3 12 := ⟨by decide +kernel, rfl⟩
theorem dX2_linkPlaces_12 : At cX2_linkPlaces 12 (.iload_n 3) 1 13 := ⟨by decide +kernel, rfl⟩
theorem dX2_linkPlaces_13 : At cX2_linkPlaces 13 (.iload_n 2) 1 14 := ⟨by decide +kernel, rfl⟩
theorem dX2_linkPlaces_14 : At cX2_linkPlaces 14 (.iastore) 1 15 := ⟨by decide +kernel, rfl⟩
theorem dX2_linkPlaces_15 : At cX2_linkPlaces 15 (.iinc 3 1) 3 18 := ⟨by decide +kernel, rfl⟩
theorem dX2_linkPlaces_18 : Br cX2_linkPlaces 18 .goto 21 2 := ⟨(-16), by decide +kernel, rfl, by decide⟩
theorem dX2_linkPlaces_21 : At cX2_linkPlaces 21 (.iload_n 2) 1 22 := ⟨by decide +kernel, rfl⟩
theorem dX2_linkPlaces_22 : At cX2_linkPlaces 22 (.iconst 1) 1 23 := ⟨by decide +kernel, rfl⟩
theorem dX2_linkPlaces_23 : At cX2_linkPlaces 23 (.isub) 1 24 := ⟨by decide +kernel, rfl⟩
theorem dX2_linkPlaces_24 : At cX2_linkPlaces 24 (.istore_n 3) 1 25 := ⟨by decide +kernel, rfl⟩
theorem dX2_linkPlaces_25 : At cX2_linkPlaces 25 (.iload_n 3) 1 26 := ⟨by decide +kernel, rfl⟩
theorem dX2_linkPlaces_26 : Br cX2_linkPlaces 26 (.ifCond .lt) 29 84 := ⟨(58), by decide +kernel, rfl, by decide⟩
theorem dX2_linkPlaces_29 : At cX2_linkPlaces 29 (.aload_n 1) 1 30 := ⟨by decide +kernel, rfl⟩
theorem dX2_linkPlaces_30 : At cX2_linkPlaces 30 (.iload_n 3) 1 31 := ⟨by decide +kernel, rfl⟩
theorem dX2_linkPlaces_31 : At cX2_linkPlaces 31 (.invokevirtual 49) 3 34 := ⟨by decide +kernel, rfl⟩
theorem dX2_linkPlaces_34 : At cX2_linkPlaces 34 (.bipush 12) 2 36 := ⟨by decide +kernel, rfl⟩
theorem dX2_linkPlaces_36 : At cX2_linkPlaces 36 (.invokestatic 53) 3 39 := ⟨by decide +kernel, rfl⟩
theorem dX2_linkPlaces_39 : At cX2_linkPlaces 39 (.istore 4) 2 41 := ⟨by decide +kernel, rfl⟩
theorem dX2_linkPlaces_41 : At cX2_linkPlaces 41 (.aload_n 0) 1 42 := ⟨by decide +kernel, rfl⟩
theorem dX2_linkPlaces_42 : At cX2_linkPlaces 42 (.getfield 15) 3 45 := ⟨by decide +kernel, rfl⟩
theorem dX2_linkPlaces_45 : At cX2_linkPlaces 45 (.iload_n 3) 1 46 := ⟨by decide +kernel, rfl⟩
theorem dX2_linkPlaces_46 : At cX2_linkPlaces 46 (.aload_n 0) 1 47 := ⟨by decide +kernel, rfl⟩
theorem dX2_linkPlaces_47 : At cX2_linkPlaces 47 (.getfield 21) 3 50 := ⟨by decide +kernel, rfl⟩
theorem dX2_linkPlaces_50 : At cX2_linkPlaces 50 (.iload 4) 2 52 := ⟨by decide +kernel, rfl⟩
theorem dX2_linkPlaces_52 : At cX2_linkPlaces 52 (.invokestatic 56) 3 55 := ⟨by decide +kernel, rfl⟩
theorem dX2_linkPlaces_55 : At cX2_linkPlaces 55 (.iaload) 1 56 := ⟨by decide +kernel, rfl⟩
theorem dX2_linkPlaces_56 : At cX2_linkPlaces 56 (.iastore) 1 57 := ⟨by decide +kernel, rfl⟩
theorem dX2_linkPlaces_57 : At cX2_linkPlaces 57 (.aload_n 0) 1 58 := ⟨by decide +kernel, rfl⟩
theorem dX2_linkPlaces_58 : At cX2_linkPlaces 58 (.getfield 18) 3 61 := ⟨by decide +kernel, rfl⟩
theorem dX2_linkPlaces_61 : At cX2_linkPlaces 61 (.iload_n 3) 1 62 := ⟨by decide +kernel, rfl⟩
theorem dX2_linkPlaces_62 : At cX2_linkPlaces 62 (.aload_n 0) 1 63 := ⟨by decide +kernel, rfl⟩
theorem dX2_linkPlaces_63 : At cX2_linkPlaces 63 (.getfield 21) 3 66 := ⟨by decide +kernel, rfl⟩
theorem dX2_linkPlaces_66 : At cX2_linkPlaces 66 (.iload 4) 2 68 := ⟨by decide +kernel, rfl⟩
theorem dX2_linkPlaces_68 : At cX2_linkPlaces 68 (.iaload) 1 69 := ⟨by decide +kernel, rfl⟩
theorem dX2_linkPlaces_69 : At cX2_linkPlaces 69 (.iastore) 1 70 := ⟨by decide +kernel, rfl⟩
theorem dX2_linkPlaces_70 : At cX2_linkPlaces 70 (.aload_n 0) 1 71 := ⟨by decide +kernel, rfl⟩
theorem dX2_linkPlaces_71 : At cX2_linkPlaces 71 (.getfield 21) 3 74 := ⟨by decide +kernel, rfl⟩
theorem dX2_linkPlaces_74 : At cX2_linkPlaces 74 (.iload 4) 2 76 := ⟨by decide +kernel, rfl⟩
theorem dX2_linkPlaces_76 : At cX2_linkPlaces 76 (.iload_n 3) 1 77 := ⟨by decide +kernel, rfl⟩
theorem dX2_linkPlaces_77 : At cX2_linkPlaces 77 (.iastore) 1 78 := ⟨by decide +kernel, rfl⟩
theorem dX2_linkPlaces_78 : At cX2_linkPlaces 78 (.iinc 3 (-1)) 3 81 := ⟨by decide +kernel, rfl⟩
theorem dX2_linkPlaces_81 : Br cX2_linkPlaces 81 .goto 84 25 := ⟨(-56), by decide +kernel, rfl, by decide⟩
theorem dX2_linkPlaces_84 : At cX2_linkPlaces 84 (.return_) 1 85 := ⟨by decide +kernel, rfl⟩
theorem dX2_mostStaying_0 : At cX2_mostStaying 0 (.aload_n 0) 1 1 := ⟨by decide +kernel, rfl⟩
theorem dX2_mostStaying_1 : At cX2_mostStaying 1 (.iload_n 1) 1 2 := ⟨by decide +kernel, rfl⟩
theorem dX2_mostStaying_2 : At cX2_mostStaying 2 (.iconst 1) 1 3 := ⟨by decide +kernel, rfl⟩
theorem dX2_mostStaying_3 : At cX2_mostStaying 3 (.iadd) 1 4 := ⟨by decide +kernel, rfl⟩
theorem dX2_mostStaying_4 : At cX2_mostStaying 4 (.iload_n 2) 1 5 := ⟨by decide +kernel, rfl⟩
theorem dX2_mostStaying_5 : At cX2_mostStaying 5 (.invokevirtual 46) 3 8 := ⟨by decide +kernel, rfl⟩
theorem dX2_mostStaying_8 : At cX2_mostStaying 8 (.istore_n 3) 1 9 := ⟨by decide +kernel, rfl⟩
theorem dX2_mostStaying_9 : At cX2_mostStaying 9 (.aload_n 0) 1 10 := ⟨by decide +kernel, rfl⟩
theorem dX2_mostStaying_10 : At cX2_mostStaying 10 (.getfield 15) 3 13 := ⟨by decide +kernel, rfl⟩
theorem dX2_mostStaying_13 : At cX2_mostStaying 13 (.iload_n 1) 1 14 := ⟨by decide +kernel, rfl⟩
theorem dX2_mostStaying_14 : At cX2_mostStaying 14 (.iaload) 1 15 := ⟨by decide +kernel, rfl⟩
theorem dX2_mostStaying_15 : At cX2_mostStaying 15 (.istore 4) 2 17 := ⟨by decide +kernel, rfl⟩
theorem dX2_mostStaying_17 : At cX2_mostStaying 17 (.iload 4) 2 19 := ⟨by decide +kernel, rfl⟩
theorem dX2_mostStaying_19 : At cX2_mostStaying 19 (.iload_n 2) 1 20 := ⟨by decide +kernel, rfl⟩
theorem dX2_mostStaying_20 : Br cX2_mostStaying 20 (.if_icmp .ge) 23 68 := ⟨(48), by decide +kernel, rfl, by decide⟩
theorem dX2_mostStaying_23 : At cX2_mostStaying 23 (.iload_n 3) 1 24 := ⟨by decide +kernel, rfl⟩
theorem dX2_mostStaying_24 : At cX2_mostStaying 24 (.iconst 2) 1 25 := ⟨by decide +kernel, rfl⟩
theorem dX2_mostStaying_25 : At cX2_mostStaying 25 (.aload_n 0) 1 26 := ⟨by decide +kernel, rfl⟩
theorem dX2_mostStaying_26 : At cX2_mostStaying 26 (.iload_n 1) 1 27 := ⟨by decide +kernel, rfl⟩
theorem dX2_mostStaying_27 : At cX2_mostStaying 27 (.iconst 1) 1 28 := ⟨by decide +kernel, rfl⟩
theorem dX2_mostStaying_28 : At cX2_mostStaying 28 (.iadd) 1 29 := ⟨by decide +kernel, rfl⟩
theorem dX2_mostStaying_29 : At cX2_mostStaying 29 (.iload 4) 2 31 := ⟨by decide +kernel, rfl⟩
theorem dX2_mostStaying_31 : At cX2_mostStaying 31 (.invokevirtual 46) 3 34 := ⟨by decide +kernel, rfl⟩
theorem dX2_mostStaying_34 : At cX2_mostStaying 34 (.iadd) 1 35 := ⟨by decide +kernel, rfl⟩
theorem dX2_mostStaying_35 : At cX2_mostStaying 35 (.aload_n 0) 1 36 := ⟨by decide +kernel, rfl⟩
theorem dX2_mostStaying_36 : At cX2_mostStaying 36 (.iload 4) 2 38 := ⟨by decide +kernel, rfl⟩
theorem dX2_mostStaying_38 : At cX2_mostStaying 38 (.iconst 1) 1 39 := ⟨by decide +kernel, rfl⟩
theorem dX2_mostStaying_39 : At cX2_mostStaying 39 (.iadd) 1 40 := ⟨by decide +kernel, rfl⟩
theorem dX2_mostStaying_40 : At cX2_mostStaying 40 (.iload_n 2) 1 41 := ⟨by decide +kernel, rfl⟩
theorem dX2_mostStaying_41 : At cX2_mostStaying 41 (.invokevirtual 46) 3 44 := ⟨by decide +kernel, rfl⟩
theorem dX2_mostStaying_44 : At cX2_mostStaying 44 (.iadd) 1 45 := ⟨by decide +kernel, rfl⟩
theorem dX2_mostStaying_45 : At cX2_mostStaying 45 (.invokestatic 59) 3 48 := ⟨by decide +kernel, rfl⟩
theorem dX2_mostStaying_48 : At cX2_mostStaying 48 (.istore_n 3) 1 49 := ⟨by decide +kernel, rfl⟩
theorem dX2_mostStaying_49 : At cX2_mostStaying 49 (.iload 4) 2 51 := ⟨by decide +kernel, rfl⟩
theorem dX2_mostStaying_51 : At cX2_mostStaying 51 (.iconst 1) 1 52 := ⟨by decide +kernel, rfl⟩
theorem dX2_mostStaying_52 : At cX2_mostStaying 52 (.iadd) 1 53 := ⟨by decide +kernel, rfl⟩
theorem dX2_mostStaying_53 : At cX2_mostStaying 53 (.aload_n 0) 1 54 := ⟨by decide +kernel, rfl⟩
theorem dX2_mostStaying_54 : At cX2_mostStaying 54 (.getfield 18) 3 57 := ⟨by decide +kernel, rfl⟩
theorem dX2_mostStaying_57 : At cX2_mostStaying 57 (.iload 4) 2 59 := ⟨by decide +kernel, rfl⟩
theorem dX2_mostStaying_59 : At cX2_mostStaying 59 (.iaload) 1 60 := ⟨by decide +kernel, rfl⟩
theorem dX2_mostStaying_60 : At cX2_mostStaying 60 (.invokestatic 59) 3 63 := ⟨by decide +kernel, rfl⟩
theorem dX2_mostStaying_63 : At cX2_mostStaying 63 (.istore 4) 2 65 := ⟨by decide +kernel, rfl⟩
theorem dX2_mostStaying_65 : Br cX2_mostStaying 65 .goto 68 17 := ⟨(-48), by decide +kernel, rfl, by decide⟩
theorem dX2_mostStaying_68 : At cX2_mostStaying 68 (.iload_n 3) 1 69 := ⟨by decide +kernel, rfl⟩
theorem dX2_mostStaying_69 : At cX2_mostStaying 69 (.ireturn) 1 70 := ⟨by decide +kernel, rfl⟩
theorem dX2_staying_0 : At cX2_staying 0 (.iload_n 1) 1 1 := ⟨by decide +kernel, rfl⟩
theorem dX2_staying_1 : At cX2_staying 1 (.iload_n 2) 1 2 := ⟨by decide +kernel, rfl⟩
theorem dX2_staying_2 : Br cX2_staying 2 (.if_icmp .ge) 5 18 := ⟨(16), by decide +kernel, rfl, by decide⟩
theorem dX2_staying_5 : At cX2_staying 5 (.aload_n 0) 1 6 := ⟨by decide +kernel, rfl⟩
theorem dX2_staying_6 : At cX2_staying 6 (.getfield 9) 3 9 := ⟨by decide +kernel, rfl⟩
theorem dX2_staying_9 : At cX2_staying 9 (.iload_n 1) 1 10 := ⟨by decide +kernel, rfl⟩
theorem dX2_staying_10 : At cX2_staying 10 (.iload_n 2) 1 11 := ⟨by decide +kernel, rfl⟩
theorem dX2_staying_11 : At cX2_staying 11 (.invokestatic 40) 3 14 := ⟨by decide +kernel, rfl⟩
theorem dX2_staying_14 : At cX2_staying 14 (.iaload) 1 15 := ⟨by decide +kernel, rfl⟩
theorem dX2_staying_15 : Br cX2_staying 15 .goto 18 19 := ⟨(4), by decide +kernel, rfl, by decide⟩
theorem dX2_staying_18 : At cX2_staying 18 (.iconst 0) 1 19 := ⟨by decide +kernel, rfl⟩
theorem dX2_staying_19 : At cX2_staying 19 (.ireturn) 1 20 := ⟨by decide +kernel, rfl⟩
theorem dX2_placeOf_0 : At cX2_placeOf 0 (.iload_n 1) 1 1 := ⟨by decide +kernel, rfl⟩
theorem dX2_placeOf_1 : At cX2_placeOf 1 (.iload_n 1) 1 2 := ⟨by decide +kernel, rfl⟩
theorem dX2_placeOf_2 : At cX2_placeOf 2 (.iconst 1) 1 3 := ⟨by decide +kernel, rfl⟩
theorem dX2_placeOf_3 : At cX2_placeOf 3 (.isub) 1 4 := ⟨by decide +kernel, rfl⟩
theorem dX2_placeOf_4 : At cX2_placeOf 4 (.imul) 1 5 := ⟨by decide +kernel, rfl⟩
theorem dX2_placeOf_5 : At cX2_placeOf 5 (.iconst 2) 1 6 := ⟨by decide +kernel, rfl⟩
theorem dX2_placeOf_6 : At cX2_placeOf 6 (.idiv) 1 7 := ⟨by decide +kernel, rfl⟩
theorem dX2_placeOf_7 : At cX2_placeOf 7 (.iload_n 0) 1 8 := ⟨by decide +kernel, rfl⟩
theorem dX2_placeOf_8 : At cX2_placeOf 8 (.iadd) 1 9 := ⟨by decide +kernel, rfl⟩
theorem dX2_placeOf_9 : At cX2_placeOf 9 (.ireturn) 1 10 := ⟨by decide +kernel, rfl⟩
theorem dX3_init_0 : At cX3_init 0 (.aload_n 0) 1 1 := ⟨by decide +kernel, rfl⟩
theorem dX3_init_1 : At cX3_init 1 (.invokespecial 3) 3 4 := ⟨by decide +kernel, rfl⟩
theorem dX3_init_4 : At cX3_init 4 (.aload_n 0) 1 5 := ⟨by decide +kernel, rfl⟩
theorem dX3_init_5 : At cX3_init 5 (.bipush 6) 2 7 := ⟨by decide +kernel, rfl⟩
theorem dX3_init_7 : At cX3_init 7 (.newarray .int) 2 9 := ⟨by decide +kernel, rfl⟩
theorem dX3_init_9 : At cX3_init 9 (.putfield 9) 3 12 := ⟨by decide +kernel, rfl⟩
theorem dX3_init_12 : At cX3_init 12 (.iconst 0) 1 13 := ⟨by decide +kernel, rfl⟩
theorem dX3_init_13 : At cX3_init 13 (.istore_n 1) 1 14 := ⟨by decide +kernel, rfl⟩
theorem dX3_init_14 : At cX3_init 14 (.iload_n 1) 1 15 := ⟨by decide +kernel, rfl⟩
theorem dX3_init_15 : At cX3_init 15 (.bipush 6) 2 17 := ⟨by decide +kernel, rfl⟩
theorem dX3_init_17 : Br cX3_init 17 (.if_icmp .ge) 20 33 := ⟨(16), by decide +kernel, rfl, by decide⟩
theorem dX3_init_20 : At cX3_init 20 (.aload_n 0) 1 21 := ⟨by decide +kernel, rfl⟩
theorem dX3_init_21 : At cX3_init 21 (.getfield 9) 3 24 := ⟨by decide +kernel, rfl⟩
theorem dX3_init_24 : At cX3_init 24 (.iload_n 1) 1 25 := ⟨by decide +kernel, rfl⟩
theorem dX3_init_25 : At cX3_init 25 (.iconst 1) 1 26 := ⟨by decide +kernel, rfl⟩
theorem dX3_init_26 : At cX3_init 26 (.iastore) 1 27 := ⟨by decide +kernel, rfl⟩
theorem dX3_init_27 : At cX3_init 27 (.iinc 1 1) 3 30 := ⟨by decide +kernel, rfl⟩
theorem dX3_init_30 : Br cX3_init 30 .goto 33 14 := ⟨(-16), by decide +kernel, rfl, by decide⟩
theorem dX3_init_33 : At cX3_init 33 (.aload_n 0) 1 34 := ⟨by decide +kernel, rfl⟩
theorem dX3_init_34 : At cX3_init 34 (.iconst 4) 1 35 := ⟨by decide +kernel, rfl⟩
theorem dX3_init_35 : At cX3_init 35 (.anewarray 15) 3 38 := ⟨by decide +kernel, rfl⟩
theorem dX3_init_38 : At cX3_init 38 (.putfield 17) 3 41 := ⟨by decide +kernel, rfl⟩
theorem dX3_init_41 : At cX3_init 41 (.iconst 0) 1 42 := ⟨by decide +kernel, rfl⟩
theorem dX3_init_42 : At cX3_init 42 (.istore_n 1) 1 43 := ⟨by decide +kernel, rfl⟩
theorem dX3_init_43 : At cX3_init 43 (.iload_n 1) 1 44 := ⟨by decide +kernel, rfl⟩
theorem dX3_init_44 : At cX3_init 44 (.iconst 4) 1 45 := ⟨by decide +kernel, rfl⟩
theorem dX3_init_45 : Br cX3_init 45 (.if_icmp .ge) 48 69 := ⟨(24), by decide +kernel, rfl, by decide⟩
theorem dX3_init_48 : At cX3_init 48 (.aload_n 0) 1 49 := ⟨by decide +kernel, rfl⟩
theorem dX3_init_49 : At cX3_init 49 (.getfield 17) 3 52 := ⟨by decide +kernel, rfl⟩
theorem dX3_init_52 : At cX3_init 52 (.iload_n 1) 1 53 := ⟨by decide +kernel, rfl⟩
theorem dX3_init_53 : At cX3_init 53 (.new 15) 3 56 := ⟨by decide +kernel, rfl⟩
theorem dX3_init_56 : At cX3_init 56 (.dup) 1 57 := ⟨by decide +kernel, rfl⟩
theorem dX3_init_57 : At cX3_init 57 (.bipush 120) 2 59 := ⟨by decide +kernel, rfl⟩
theorem dX3_init_59 : At cX3_init 59 (.invokespecial 21) 3 62 := ⟨by decide +kernel, rfl⟩
theorem dX3_init_62 : At cX3_init 62 (.aastore) 1 63 := ⟨by decide +kernel, rfl⟩
theorem dX3_init_63 : At cX3_init 63 (.iinc 1 1) 3 66 := ⟨by decide +kernel, rfl⟩
theorem dX3_init_66 : Br cX3_init 66 .goto 69 43 := ⟨(-23), by decide +kernel, rfl, by decide⟩
theorem dX3_init_69 : At cX3_init 69 (.return_) 1 70 := ⟨by decide +kernel, rfl⟩
theorem dX3_copyFrom_0 : At cX3_copyFrom 0 (.iconst 0) 1 1 := ⟨by decide +kernel, rfl⟩
theorem dX3_copyFrom_1 : At cX3_copyFrom 1 (.istore_n 2) 1 2 := ⟨by decide +kernel, rfl⟩
theorem dX3_copyFrom_2 : At cX3_copyFrom 2 (.iload_n 2) 1 3 := ⟨by decide +kernel, rfl⟩
theorem dX3_copyFrom_3 : At cX3_copyFrom 3 (.bipush 6) 2 5 := ⟨by decide +kernel, rfl⟩
theorem dX3_copyFrom_5 : Br cX3_copyFrom 5 (.if_icmp .ge) 8 26 := ⟨(21), by decide +kernel, rfl, by decide⟩
theorem dX3_copyFrom_8 : At cX3_copyFrom 8 (.aload_n 0) 1 9 := ⟨by decide +kernel, rfl⟩
theorem dX3_copyFrom_9 : At cX3_copyFrom 9 (.getfield 9) 3 12 := ⟨by decide +kernel, rfl⟩
theorem dX3_copyFrom_12 : At cX3_copyFrom 12 (.iload_n 2) 1 13 := ⟨by decide +kernel, rfl⟩
theorem dX3_copyFrom_13 : At cX3_copyFrom 13 (.aload_n 1) 1 14 := ⟨by decide +kernel, rfl⟩
theorem dX3_copyFrom_14 : At cX3_copyFrom 14 (.getfield 9) 3 17 := ⟨by decide +kernel, rfl⟩
theorem dX3_copyFrom_17 : At cX3_copyFrom 17 (.iload_n 2) 1 18 := ⟨by decide +kernel, rfl⟩
theorem dX3_copyFrom_18 : At cX3_copyFrom 18 (.iaload) 1 19 := ⟨by decide +kernel, rfl⟩
theorem dX3_copyFrom_19 : At cX3_copyFrom 19 (.iastore) 1 20 := ⟨by decide +kernel, rfl⟩
theorem dX3_copyFrom_20 : At cX3_copyFrom 20 (.iinc 2 1) 3 23 := ⟨by decide +kernel, rfl⟩
theorem dX3_copyFrom_23 : Br cX3_copyFrom 23 .goto 26 2 := ⟨(-21), by decide +kernel, rfl, by decide⟩
theorem dX3_copyFrom_26 : At cX3_copyFrom 26 (.iconst 0) 1 27 := ⟨by decide +kernel, rfl⟩
theorem dX3_copyFrom_27 : At cX3_copyFrom 27 (.istore_n 2) 1 28 := ⟨by decide +kernel, rfl⟩
theorem dX3_copyFrom_28 : At cX3_copyFrom 28 (.iload_n 2) 1 29 := ⟨by decide +kernel, rfl⟩
theorem dX3_copyFrom_29 : At cX3_copyFrom 29 (.iconst 4) 1 30 := ⟨by decide +kernel, rfl⟩
theorem dX3_copyFrom_30 : Br cX3_copyFrom 30 (.if_icmp .ge) 33 54 := ⟨(24), by decide +kernel, rfl, by decide⟩
theorem dX3_copyFrom_33 : At cX3_copyFrom 33 (.aload_n 0) 1 34 := ⟨by decide +kernel, rfl⟩
theorem dX3_copyFrom_34 : At cX3_copyFrom 34 (.getfield 17) 3 37 := ⟨by decide +kernel, rfl⟩
theorem dX3_copyFrom_37 : At cX3_copyFrom 37 (.iload_n 2) 1 38 := ⟨by decide +kernel, rfl⟩
theorem dX3_copyFrom_38 : At cX3_copyFrom 38 (.aaload) 1 39 := ⟨by decide +kernel, rfl⟩
theorem dX3_copyFrom_39 : At cX3_copyFrom 39 (.aload_n 1) 1 40 := ⟨by decide +kernel, rfl⟩
theorem dX3_copyFrom_40 : At cX3_copyFrom 40 (.getfield 17) 3 43 := ⟨by decide +kernel, rfl⟩
theorem dX3_copyFrom_43 : At cX3_copyFrom 43 (.iload_n 2) 1 44 := ⟨by decide +kernel, rfl⟩
theorem dX3_copyFrom_44 : At cX3_copyFrom 44 (.aaload) 1 45 := ⟨by decide +kernel, rfl⟩
theorem dX3_copyFrom_45 : At cX3_copyFrom 45 (.invokevirtual 24) 3 48 := ⟨by decide +kernel, rfl⟩
theorem dX3_copyFrom_48 : At cX3_copyFrom 48 (.iinc 2 1) 3 51 := ⟨by decide +kernel, rfl⟩
theorem dX3_copyFrom_51 : Br cX3_copyFrom 51 .goto 54 28 := ⟨(-23), by decide +kernel, rfl, by decide⟩
theorem dX3_copyFrom_54 : At cX3_copyFrom 54 (.return_) 1 55 := ⟨by decide +kernel, rfl⟩
theorem dX3_allCrossings_0 : At cX3_allCrossings 0 (.iconst 0) 1 1 := ⟨by decide +kernel, rfl⟩
theorem dX3_allCrossings_1 : At cX3_allCrossings 1 (.istore_n 1) 1 2 := ⟨by decide +kernel, rfl⟩
theorem dX3_allCrossings_2 : At cX3_allCrossings 2 (.iconst 0) 1 3 := ⟨by decide +kernel, rfl⟩
theorem dX3_allCrossings_3 : At cX3_allCrossings 3 (.istore_n 2) 1 4 := ⟨by decide +kernel, rfl⟩
theorem dX3_allCrossings_4 : At cX3_allCrossings 4 (.iload_n 2) 1 5 := ⟨by decide +kernel, rfl⟩
theorem dX3_allCrossings_5 : At cX3_allCrossings 5 (.iconst 4) 1 6 := ⟨by decide +kernel, rfl⟩
theorem dX3_allCrossings_6 : Br cX3_allCrossings 6 (.if_icmp .ge) 9 27 := ⟨(21), by decide +kernel, rfl, by decide⟩
theorem dX3_allCrossings_9 : At cX3_allCrossings 9 (.iload_n 1) 1 10 := ⟨by decide +kernel, rfl⟩
theorem dX3_allCrossings_10 : At cX3_allCrossings 10 (.aload_n 0) 1 11 := ⟨by decide +kernel, rfl⟩
theorem dX3_allCrossings_11 : At cX3_allCrossings 11 (.getfield 17) 3 14 := ⟨by decide +kernel, rfl⟩
theorem dX3_allCrossings_14 : At cX3_allCrossings 14 (.iload_n 2) 1 15 := ⟨by decide +kernel, rfl⟩
theorem dX3_allCrossings_15 : At cX3_allCrossings 15 (.aaload) 1 16 := ⟨by decide +kernel, rfl⟩
theorem dX3_allCrossings_16 : At cX3_allCrossings 16 (.getfield 28) 3 19 := ⟨by decide +kernel, rfl⟩
theorem dX3_allCrossings_19 : At cX3_allCrossings 19 (.iadd) 1 20 := ⟨by decide +kernel, rfl⟩
theorem dX3_allCrossings_20 : At cX3_allCrossings 20 (.istore_n 1) 1 21 := ⟨by decide +kernel, rfl⟩
theorem dX3_allCrossings_21 : At cX3_allCrossings 21 (.iinc 2 1) 3 24 := ⟨by decide +kernel, rfl⟩
theorem dX3_allCrossings_24 : Br cX3_allCrossings 24 .goto 27 4 := ⟨(-20), by decide +kernel, rfl, by decide⟩
theorem dX3_allCrossings_27 : At cX3_allCrossings 27 (.iload_n 1) 1 28 := ⟨by decide +kernel, rfl⟩
theorem dX3_allCrossings_28 : At cX3_allCrossings 28 (.ireturn) 1 29 := ⟨by decide +kernel, rfl⟩
theorem dX3_widthsAlong_0 : At cX3_widthsAlong 0 (.iconst 0) 1 1 := ⟨by decide +kernel, rfl⟩
theorem dX3_widthsAlong_1 : At cX3_widthsAlong 1 (.istore_n 2) 1 2 := ⟨by decide +kernel, rfl⟩
theorem dX3_widthsAlong_2 : At cX3_widthsAlong 2 (.iconst 0) 1 3 := ⟨by decide +kernel, rfl⟩
theorem dX3_widthsAlong_3 : At cX3_widthsAlong 3 (.istore_n 3) 1 4 := ⟨by decide +kernel, rfl⟩
theorem dX3_widthsAlong_4 : At cX3_widthsAlong 4 (.iload_n 3) 1 5 := ⟨by decide +kernel, rfl⟩
theorem dX3_widthsAlong_5 : At cX3_widthsAlong 5 (.aload_n 1) 1 6 := ⟨by decide +kernel, rfl⟩
theorem dX3_widthsAlong_6 : At cX3_widthsAlong 6 (.getfield 28) 3 9 := ⟨by decide +kernel, rfl⟩
theorem dX3_widthsAlong_9 : Br cX3_widthsAlong 9 (.if_icmp .ge) 12 50 := ⟨(41), by decide +kernel, rfl, by decide⟩
theorem dX3_widthsAlong_12 : At cX3_widthsAlong 12 (.aload_n 1) 1 13 := ⟨by decide +kernel, rfl⟩
theorem dX3_widthsAlong_13 : At cX3_widthsAlong 13 (.iload_n 3) 1 14 := ⟨by decide +kernel, rfl⟩
theorem dX3_widthsAlong_14 : At cX3_widthsAlong 14 (.invokevirtual 32) 3 17 := ⟨by decide +kernel, rfl⟩
theorem dX3_widthsAlong_17 : At cX3_widthsAlong 17 (.invokestatic 36) 3 20 := ⟨by decide +kernel, rfl⟩
theorem dX3_widthsAlong_20 : At cX3_widthsAlong 20 (.istore 4) 2 22 := ⟨by decide +kernel, rfl⟩
theorem dX3_widthsAlong_22 : At cX3_widthsAlong 22 (.iload_n 2) 1 23 := ⟨by decide +kernel, rfl⟩
theorem dX3_widthsAlong_23 : At cX3_widthsAlong 23 (.iload 4) 2 25 := ⟨by decide +kernel, rfl⟩
theorem dX3_widthsAlong_25 : At cX3_widthsAlong 25 (.invokestatic 39) 3 28 := ⟨by decide +kernel, rfl⟩
theorem dX3_widthsAlong_28 : Br cX3_widthsAlong 28 (.ifCond .eq) 31 41 := ⟨(13), by decide +kernel, rfl, by decide⟩
theorem dX3_widthsAlong_31 : At cX3_widthsAlong 31 (.aload_n 0) 1 32 := ⟨by decide +kernel, rfl⟩
theorem dX3_widthsAlong_32 : At cX3_widthsAlong 32 (.getfield 9) 3 35 := ⟨by decide +kernel, rfl⟩
theorem dX3_widthsAlong_35 : At cX3_widthsAlong 35 (.iload 4) 2 37 := ⟨by decide +kernel, rfl⟩
theorem dX3_widthsAlong_37 : At cX3_widthsAlong 37 (.iaload) 1 38 := ⟨by decide +kernel, rfl⟩
theorem dX3_widthsAlong_38 : Br cX3_widthsAlong 38 .goto 41 42 := ⟨(4), by decide +kernel, rfl, by decide⟩
theorem dX3_widthsAlong_41 : At cX3_widthsAlong 41 (.iconst 0) 1 42 := ⟨by decide +kernel, rfl⟩
theorem dX3_widthsAlong_42 : At cX3_widthsAlong 42 (.iadd) 1 43 := ⟨by decide +kernel, rfl⟩
theorem dX3_widthsAlong_43 : At cX3_widthsAlong 43 (.istore_n 2) 1 44 := ⟨by decide +kernel, rfl⟩
theorem dX3_widthsAlong_44 : At cX3_widthsAlong 44 (.iinc 3 1) 3 47 := ⟨by decide +kernel, rfl⟩
theorem dX3_widthsAlong_47 : Br cX3_widthsAlong 47 .goto 50 4 := ⟨(-43), by decide +kernel, rfl, by decide⟩
theorem dX3_widthsAlong_50 : At cX3_widthsAlong 50 (.iload_n 2) 1 51 := ⟨by decide +kernel, rfl⟩
theorem dX3_widthsAlong_51 : At cX3_widthsAlong 51 (.ireturn) 1 52 := ⟨by decide +kernel, rfl⟩
theorem dX4_init_0 : At cX4_init 0 (.aload_n 0) 1 1 := ⟨by decide +kernel, rfl⟩
theorem dX4_init_1 : At cX4_init 1 (.invokespecial 3) 3 4 := ⟨by decide +kernel, rfl⟩
theorem dX4_init_4 : At cX4_init 4 (.aload_n 0) 1 5 := ⟨by decide +kernel, rfl⟩
theorem dX4_init_5 : At cX4_init 5 (.iload_n 1) 1 6 := ⟨by decide +kernel, rfl⟩
theorem dX4_init_6 : At cX4_init 6 (.iconst 0) 1 7 := ⟨by decide +kernel, rfl⟩
theorem dX4_init_7 : At cX4_init 7 (.invokestatic 9) 3 10 := ⟨by decide +kernel, rfl⟩
theorem dX4_init_10 : At cX4_init 10 (.newarray .int) 2 12 := ⟨by decide +kernel, rfl⟩
theorem dX4_init_12 : At cX4_init 12 (.putfield 15) 3 15 := ⟨by decide +kernel, rfl⟩
theorem dX4_init_15 : At cX4_init 15 (.aload_n 0) 1 16 := ⟨by decide +kernel, rfl⟩
theorem dX4_init_16 : At cX4_init 16 (.iconst 0) 1 17 := ⟨by decide +kernel, rfl⟩
theorem dX4_init_17 : At cX4_init 17 (.putfield 21) 3 20 := ⟨by decide +kernel, rfl⟩
theorem dX4_init_20 : At cX4_init 20 (.return_) 1 21 := ⟨by decide +kernel, rfl⟩
theorem dX4_at_0 : At cX4_at 0 (.iload_n 1) 1 1 := ⟨by decide +kernel, rfl⟩
theorem dX4_at_1 : Br cX4_at 1 (.ifCond .lt) 4 21 := ⟨(20), by decide +kernel, rfl, by decide⟩
theorem dX4_at_4 : At cX4_at 4 (.iload_n 1) 1 5 := ⟨by decide +kernel, rfl⟩
theorem dX4_at_5 : At cX4_at 5 (.aload_n 0) 1 6 := ⟨by decide +kernel, rfl⟩
theorem dX4_at_6 : At cX4_at 6 (.getfield 21) 3 9 := ⟨by decide +kernel, rfl⟩
theorem dX4_at_9 : Br cX4_at 9 (.if_icmp .ge) 12 21 := ⟨(12), by decide +kernel, rfl, by decide⟩
theorem dX4_at_12 : At cX4_at 12 (.aload_n 0) 1 13 := ⟨by decide +kernel, rfl⟩
theorem dX4_at_13 : At cX4_at 13 (.getfield 15) 3 16 := ⟨by decide +kernel, rfl⟩
theorem dX4_at_16 : At cX4_at 16 (.iload_n 1) 1 17 := ⟨by decide +kernel, rfl⟩
theorem dX4_at_17 : At cX4_at 17 (.iaload) 1 18 := ⟨by decide +kernel, rfl⟩
theorem dX4_at_18 : Br cX4_at 18 .goto 21 22 := ⟨(4), by decide +kernel, rfl, by decide⟩
theorem dX4_at_21 : At cX4_at 21 (.iconst (-1)) 1 22 := ⟨by decide +kernel, rfl⟩
theorem dX4_at_22 : At cX4_at 22 (.ireturn) 1 23 := ⟨by decide +kernel, rfl⟩
theorem dX4_add_0 : At cX4_add 0 (.aload_n 0) 1 1 := ⟨by decide +kernel, rfl⟩
theorem dX4_add_1 : At cX4_add 1 (.getfield 21) 3 4 := ⟨by decide +kernel, rfl⟩
theorem dX4_add_4 : At cX4_add 4 (.aload_n 0) 1 5 := ⟨by decide +kernel, rfl⟩
theorem dX4_add_5 : At cX4_add 5 (.getfield 15) 3 8 := ⟨by decide +kernel, rfl⟩
theorem dX4_add_8 : At cX4_add 8 (.arraylength) 1 9 := ⟨by decide +kernel, rfl⟩
theorem dX4_add_9 : Br cX4_add 9 (.if_icmp .lt) 12 14 := ⟨(5), by decide +kernel, rfl, by decide⟩
theorem dX4_add_12 : At cX4_add 12 (.iconst 0) 1 13 := ⟨by decide +kernel, rfl⟩
theorem dX4_add_13 : At cX4_add 13 (.ireturn) 1 14 := ⟨by decide +kernel, rfl⟩
theorem dX4_add_14 : At cX4_add 14 (.aload_n 0) 1 15 := ⟨by decide +kernel, rfl⟩
theorem dX4_add_15 : At cX4_add 15 (.getfield 15) 3 18 := ⟨by decide +kernel, rfl⟩
theorem dX4_add_18 : At cX4_add 18 (.aload_n 0) 1 19 := ⟨by decide +kernel, rfl⟩
theorem dX4_add_19 : At cX4_add 19 (.getfield 21) 3 22 := ⟨by decide +kernel, rfl⟩
theorem dX4_add_22 : At cX4_add 22 (.iload_n 1) 1 23 := ⟨by decide +kernel, rfl⟩
theorem dX4_add_23 : At cX4_add 23 (.iastore) 1 24 := ⟨by decide +kernel, rfl⟩
theorem dX4_add_24 : At cX4_add 24 (.aload_n 0) 1 25 := ⟨by decide +kernel, rfl⟩
theorem dX4_add_25 : At cX4_add 25 (.dup) 1 26 := ⟨by decide +kernel, rfl⟩
theorem dX4_add_26 : At cX4_add 26 (.getfield 21) 3 29 := ⟨by decide +kernel, rfl⟩
theorem dX4_add_29 : At cX4_add 29 (.iconst 1) 1 30 := ⟨by decide +kernel, rfl⟩
theorem dX4_add_30 : At cX4_add 30 (.iadd) 1 31 := ⟨by decide +kernel, rfl⟩
theorem dX4_add_31 : At cX4_add 31 (.putfield 21) 3 34 := ⟨by decide +kernel, rfl⟩
theorem dX4_add_34 : At cX4_add 34 (.iconst 1) 1 35 := ⟨by decide +kernel, rfl⟩
theorem dX4_add_35 : At cX4_add 35 (.ireturn) 1 36 := ⟨by decide +kernel, rfl⟩
theorem dX4_addPulled_0 : At cX4_addPulled 0 (.aload_n 0) 1 1 := ⟨by decide +kernel, rfl⟩
theorem dX4_addPulled_1 : At cX4_addPulled 1 (.getfield 21) 3 4 := ⟨by decide +kernel, rfl⟩
theorem dX4_addPulled_4 : Br cX4_addPulled 4 (.ifCond .le) 7 37 := ⟨(33), by decide +kernel, rfl, by decide⟩
theorem dX4_addPulled_7 : At cX4_addPulled 7 (.aload_n 0) 1 8 := ⟨by decide +kernel, rfl⟩
theorem dX4_addPulled_8 : At cX4_addPulled 8 (.getfield 15) 3 11 := ⟨by decide +kernel, rfl⟩
theorem dX4_addPulled_11 : At cX4_addPulled 11 (.aload_n 0) 1 12 := ⟨by decide +kernel, rfl⟩
theorem dX4_addPulled_12 : At cX4_addPulled 12 (.getfield 21) 3 15 := ⟨by decide +kernel, rfl⟩
theorem dX4_addPulled_15 : At cX4_addPulled 15 (.iconst 1) 1 16 := ⟨by decide +kernel, rfl⟩
theorem dX4_addPulled_16 : At cX4_addPulled 16 (.isub) 1 17 := ⟨by decide +kernel, rfl⟩
theorem dX4_addPulled_17 : At cX4_addPulled 17 (.iaload) 1 18 := ⟨by decide +kernel, rfl⟩
theorem dX4_addPulled_18 : At cX4_addPulled 18 (.iload_n 1) 1 19 := ⟨by decide +kernel, rfl⟩
theorem dX4_addPulled_19 : At cX4_addPulled 19 (.invokestatic 25) 3 22 := ⟨by decide +kernel, rfl⟩
theorem dX4_addPulled_22 : Br cX4_addPulled 22 (.if_icmp .ne) 25 37 := ⟨(15), by decide +kernel, rfl, by decide⟩
theorem dX4_addPulled_25 : At cX4_addPulled 25 (.aload_n 0) 1 26 := ⟨by decide +kernel, rfl⟩
theorem dX4_addPulled_26 : At cX4_addPulled 26 (.dup) 1 27 := ⟨by decide +kernel, rfl⟩
theorem dX4_addPulled_27 : At cX4_addPulled 27 (.getfield 21) 3 30 := ⟨by decide +kernel, rfl⟩
theorem dX4_addPulled_30 : At cX4_addPulled 30 (.iconst 1) 1 31 := ⟨by decide +kernel, rfl⟩
theorem dX4_addPulled_31 : At cX4_addPulled 31 (.isub) 1 32 := ⟨by decide +kernel, rfl⟩
theorem dX4_addPulled_32 : At cX4_addPulled 32 (.putfield 21) 3 35 := ⟨by decide +kernel, rfl⟩
theorem dX4_addPulled_35 : At cX4_addPulled 35 (.iconst 1) 1 36 := ⟨by decide +kernel, rfl⟩
theorem dX4_addPulled_36 : At cX4_addPulled 36 (.ireturn) 1 37 := ⟨by decide +kernel, rfl⟩
theorem dX4_addPulled_37 : At cX4_addPulled 37 (.aload_n 0) 1 38 := ⟨by decide +kernel, rfl⟩
theorem dX4_addPulled_38 : At cX4_addPulled 38 (.iload_n 1) 1 39 := ⟨by decide +kernel, rfl⟩
theorem dX4_addPulled_39 : At cX4_addPulled 39 (.invokevirtual 29) 3 42 := ⟨by decide +kernel, rfl⟩
theorem dX4_addPulled_42 : At cX4_addPulled 42 (.ireturn) 1 43 := ⟨by decide +kernel, rfl⟩
theorem dX4_clear_0 : At cX4_clear 0 (.aload_n 0) 1 1 := ⟨by decide +kernel, rfl⟩
theorem dX4_clear_1 : At cX4_clear 1 (.iconst 0) 1 2 := ⟨by decide +kernel, rfl⟩
theorem dX4_clear_2 : At cX4_clear 2 (.putfield 21) 3 5 := ⟨by decide +kernel, rfl⟩
theorem dX4_clear_5 : At cX4_clear 5 (.return_) 1 6 := ⟨by decide +kernel, rfl⟩
theorem dX4_dropLast_0 : At cX4_dropLast 0 (.aload_n 0) 1 1 := ⟨by decide +kernel, rfl⟩
theorem dX4_dropLast_1 : At cX4_dropLast 1 (.iconst 0) 1 2 := ⟨by decide +kernel, rfl⟩
theorem dX4_dropLast_2 : At cX4_dropLast 2 (.aload_n 0) 1 3 := ⟨by decide +kernel, rfl⟩
theorem dX4_dropLast_3 : At cX4_dropLast 3 (.getfield 21) 3 6 := ⟨by decide +kernel, rfl⟩
theorem dX4_dropLast_6 : At cX4_dropLast 6 (.iload_n 1) 1 7 := ⟨by decide +kernel, rfl⟩
theorem dX4_dropLast_7 : At cX4_dropLast 7 (.isub) 1 8 := ⟨by decide +kernel, rfl⟩
theorem dX4_dropLast_8 : At cX4_dropLast 8 (.invokestatic 9) 3 11 := ⟨by decide +kernel, rfl⟩
theorem dX4_dropLast_11 : At cX4_dropLast 11 (.putfield 21) 3 14 := ⟨by decide +kernel, rfl⟩
theorem dX4_dropLast_14 : At cX4_dropLast 14 (.return_) 1 15 := ⟨by decide +kernel, rfl⟩
theorem dX4_copyFrom_0 : At cX4_copyFrom 0 (.aload_n 0) 1 1 := ⟨by decide +kernel, rfl⟩
theorem dX4_copyFrom_1 : At cX4_copyFrom 1 (.iconst 0) 1 2 := ⟨by decide +kernel, rfl⟩
theorem dX4_copyFrom_2 : At cX4_copyFrom 2 (.putfield 21) 3 5 := ⟨by decide +kernel, rfl⟩
theorem dX4_copyFrom_5 : At cX4_copyFrom 5 (.aload_n 0) 1 6 := ⟨by decide +kernel, rfl⟩
theorem dX4_copyFrom_6 : At cX4_copyFrom 6 (.aload_n 1) 1 7 := ⟨by decide +kernel, rfl⟩
theorem dX4_copyFrom_7 : At cX4_copyFrom 7 (.invokevirtual 33) 3 10 := ⟨by decide +kernel, rfl⟩
theorem dX4_copyFrom_10 : At cX4_copyFrom 10 (.return_) 1 11 := ⟨by decide +kernel, rfl⟩
theorem dX4_addWord_0 : At cX4_addWord 0 (.aload_n 1) 1 1 := ⟨by decide +kernel, rfl⟩
theorem dX4_addWord_1 : At cX4_addWord 1 (.getfield 21) 3 4 := ⟨by decide +kernel, rfl⟩
theorem dX4_addWord_4 : At cX4_addWord 4 (.istore_n 2) 1 5 := ⟨by decide +kernel, rfl⟩
theorem dX4_addWord_5 : At cX4_addWord 5 (.iconst 0) 1 6 := ⟨by decide +kernel, rfl⟩
theorem dX4_addWord_6 : At cX4_addWord 6 (.istore_n 3) 1 7 := ⟨by decide +kernel, rfl⟩
theorem dX4_addWord_7 : At cX4_addWord 7 (.iload_n 3) 1 8 := ⟨by decide +kernel, rfl⟩
theorem dX4_addWord_8 : At cX4_addWord 8 (.iload_n 2) 1 9 := ⟨by decide +kernel, rfl⟩
theorem dX4_addWord_9 : Br cX4_addWord 9 (.if_icmp .ge) 12 28 := ⟨(19), by decide +kernel, rfl, by decide⟩
theorem dX4_addWord_12 : At cX4_addWord 12 (.aload_n 0) 1 13 := ⟨by decide +kernel, rfl⟩
theorem dX4_addWord_13 : At cX4_addWord 13 (.aload_n 1) 1 14 := ⟨by decide +kernel, rfl⟩
theorem dX4_addWord_14 : At cX4_addWord 14 (.iload_n 3) 1 15 := ⟨by decide +kernel, rfl⟩
theorem dX4_addWord_15 : At cX4_addWord 15 (.invokevirtual 37) 3 18 := ⟨by decide +kernel, rfl⟩
theorem dX4_addWord_18 : At cX4_addWord 18 (.invokevirtual 29) 3 21 := ⟨by decide +kernel, rfl⟩
theorem dX4_addWord_21 : At cX4_addWord 21 (.pop) 1 22 := ⟨by decide +kernel, rfl⟩
theorem dX4_addWord_22 : At cX4_addWord 22 (.iinc 3 1) 3 25 := ⟨by decide +kernel, rfl⟩
theorem dX4_addWord_25 : Br cX4_addWord 25 .goto 28 7 := ⟨(-18), by decide +kernel, rfl, by decide⟩
theorem dX4_addWord_28 : At cX4_addWord 28 (.return_) 1 29 := ⟨by decide +kernel, rfl⟩
theorem dX4_addTurned_0 : At cX4_addTurned 0 (.aload_n 0) 1 1 := ⟨by decide +kernel, rfl⟩
theorem dX4_addTurned_1 : At cX4_addTurned 1 (.aload_n 1) 1 2 := ⟨by decide +kernel, rfl⟩
theorem dX4_addTurned_2 : At cX4_addTurned 2 (.iconst 0) 1 3 := ⟨by decide +kernel, rfl⟩
theorem dX4_addTurned_3 : At cX4_addTurned 3 (.aload_n 1) 1 4 := ⟨by decide +kernel, rfl⟩
theorem dX4_addTurned_4 : At cX4_addTurned 4 (.getfield 21) 3 7 := ⟨by decide +kernel, rfl⟩
theorem dX4_addTurned_7 : At cX4_addTurned 7 (.invokevirtual 40) 3 10 := ⟨by decide +kernel, rfl⟩
theorem dX4_addTurned_10 : At cX4_addTurned 10 (.pop) 1 11 := ⟨by decide +kernel, rfl⟩
theorem dX4_addTurned_11 : At cX4_addTurned 11 (.return_) 1 12 := ⟨by decide +kernel, rfl⟩
theorem dX4_addTurnedPart_0 : At cX4_addTurnedPart 0 (.iload_n 3) 1 1 := ⟨by decide +kernel, rfl⟩
theorem dX4_addTurnedPart_1 : At cX4_addTurnedPart 1 (.iconst 1) 1 2 := ⟨by decide +kernel, rfl⟩
theorem dX4_addTurnedPart_2 : At cX4_addTurnedPart 2 (.isub) 1 3 := ⟨by decide +kernel, rfl⟩
theorem dX4_addTurnedPart_3 : At cX4_addTurnedPart 3 (.istore 4) 2 5 := ⟨by decide +kernel, rfl⟩
theorem dX4_addTurnedPart_5 : At cX4_addTurnedPart 5 (.iload 4) 2 7 := ⟨by decide +kernel, rfl⟩
theorem dX4_addTurnedPart_7 : At cX4_addTurnedPart 7 (.iload_n 2) 1 8 := ⟨by decide +kernel, rfl⟩
theorem dX4_addTurnedPart_8 : Br cX4_addTurnedPart 8 (.if_icmp .lt) 11 35 := ⟨(27), by decide +kernel, rfl, by decide⟩
theorem dX4_addTurnedPart_11 : At cX4_addTurnedPart 11 (.aload_n 0) 1 12 := ⟨by decide +kernel, rfl⟩
theorem dX4_addTurnedPart_12 : At cX4_addTurnedPart 12 (.aload_n 1) 1 13 := ⟨by decide +kernel, rfl⟩
theorem dX4_addTurnedPart_13 : At cX4_addTurnedPart 13 (.iload 4) 2 15 := ⟨by decide +kernel, rfl⟩
theorem dX4_addTurnedPart_15 : At cX4_addTurnedPart 15 (.invokevirtual 37) 3 18 := ⟨by decide +kernel, rfl⟩
theorem dX4_addTurnedPart_18 : At cX4_addTurnedPart 18 (.invokestatic 25) 3 21 := ⟨by decide +kernel, rfl⟩
theorem dX4_addTurnedPart_21 : At cX4_addTurnedPart 21 (.invokevirtual 29) 3 24 := ⟨by decide +kernel, rfl⟩
theorem dX4_addTurnedPart_24 : Br cX4_addTurnedPart 24 (.ifCond .ne) 27 29 := ⟨(5), by decide +kernel, rfl, by decide⟩
theorem dX4_addTurnedPart_27 : At cX4_addTurnedPart 27 (.iconst 0) 1 28 := ⟨by decide +kernel, rfl⟩
theorem dX4_addTurnedPart_28 : At cX4_addTurnedPart 28 (.ireturn) 1 29 := ⟨by decide +kernel, rfl⟩
theorem dX4_addTurnedPart_29 : At cX4_addTurnedPart 29 (.iinc 4 (-1)) 3 32 := ⟨by decide +kernel, rfl⟩
theorem dX4_addTurnedPart_32 : Br cX4_addTurnedPart 32 .goto 35 5 := ⟨(-27), by decide +kernel, rfl, by decide⟩
theorem dX4_addTurnedPart_35 : At cX4_addTurnedPart 35 (.iconst 1) 1 36 := ⟨by decide +kernel, rfl⟩
theorem dX4_addTurnedPart_36 : At cX4_addTurnedPart 36 (.ireturn) 1 37 := ⟨by decide +kernel, rfl⟩
theorem dX4_repeatFrom_0 : At cX4_repeatFrom 0 (.aload_n 0) 1 1 := ⟨by decide +kernel, rfl⟩
theorem dX4_repeatFrom_1 : At cX4_repeatFrom 1 (.getfield 21) 3 4 := ⟨by decide +kernel, rfl⟩
theorem dX4_repeatFrom_4 : At cX4_repeatFrom 4 (.istore_n 3) 1 5 := ⟨by decide +kernel, rfl⟩
theorem dX4_repeatFrom_5 : At cX4_repeatFrom 5 (.iconst 1) 1 6 := ⟨by decide +kernel, rfl⟩
theorem dX4_repeatFrom_6 : At cX4_repeatFrom 6 (.istore 4) 2 8 := ⟨by decide +kernel, rfl⟩
theorem dX4_repeatFrom_8 : At cX4_repeatFrom 8 (.iload 4) 2 10 := ⟨by decide +kernel, rfl⟩
theorem dX4_repeatFrom_10 : At cX4_repeatFrom 10 (.iload_n 2) 1 11 := ⟨by decide +kernel, rfl⟩
theorem dX4_repeatFrom_11 : Br cX4_repeatFrom 11 (.if_icmp .ge) 14 50 := ⟨(39), by decide +kernel, rfl, by decide⟩
theorem dX4_repeatFrom_14 : At cX4_repeatFrom 14 (.iload_n 1) 1 15 := ⟨by decide +kernel, rfl⟩
theorem dX4_repeatFrom_15 : At cX4_repeatFrom 15 (.istore 5) 2 17 := ⟨by decide +kernel, rfl⟩
theorem dX4_repeatFrom_17 : At cX4_repeatFrom 17 (.iload 5) 2 19 := ⟨by decide +kernel, rfl⟩
theorem dX4_repeatFrom_19 : At cX4_repeatFrom 19 (.iload_n 3) 1 20 := ⟨by decide +kernel, rfl⟩
theorem dX4_repeatFrom_20 : Br cX4_repeatFrom 20 (.if_icmp .ge) 23 44 := ⟨(24), by decide +kernel, rfl, by decide⟩
theorem dX4_repeatFrom_23 : At cX4_repeatFrom 23 (.aload_n 0) 1 24 := ⟨by decide +kernel, rfl⟩
theorem dX4_repeatFrom_24 : At cX4_repeatFrom 24 (.aload_n 0) 1 25 := ⟨by decide +kernel, rfl⟩
theorem dX4_repeatFrom_25 : At cX4_repeatFrom 25 (.iload 5) 2 27 := ⟨by decide +kernel, rfl⟩
theorem dX4_repeatFrom_27 : At cX4_repeatFrom 27 (.invokevirtual 37) 3 30 := ⟨by decide +kernel, rfl⟩
theorem dX4_repeatFrom_30 : At cX4_repeatFrom 30 (.invokevirtual 29) 3 33 := ⟨by decide +kernel, rfl⟩
theorem dX4_repeatFrom_33 : Br cX4_repeatFrom 33 (.ifCond .ne) 36 38 := ⟨(5), by decide +kernel, rfl, by decide⟩
theorem dX4_repeatFrom_36 : At cX4_repeatFrom 36 (.iconst 0) 1 37 := ⟨by decide +kernel, rfl⟩
theorem dX4_repeatFrom_37 : At cX4_repeatFrom 37 (.ireturn) 1 38 := ⟨by decide +kernel, rfl⟩
theorem dX4_repeatFrom_38 : At cX4_repeatFrom 38 (.iinc 5 1) 3 41 := ⟨by decide +kernel, rfl⟩
theorem dX4_repeatFrom_41 : Br cX4_repeatFrom 41 .goto 44 17 := ⟨(-24), by decide +kernel, rfl, by decide⟩
theorem dX4_repeatFrom_44 : At cX4_repeatFrom 44 (.iinc 4 1) 3 47 := ⟨by decide +kernel, rfl⟩
theorem dX4_repeatFrom_47 : Br cX4_repeatFrom 47 .goto 50 8 := ⟨(-39), by decide +kernel, rfl, by decide⟩
theorem dX4_repeatFrom_50 : At cX4_repeatFrom 50 (.iconst 1) 1 51 := ⟨by decide +kernel, rfl⟩
theorem dX4_repeatFrom_51 : At cX4_repeatFrom 51 (.ireturn) 1 52 := ⟨by decide +kernel, rfl⟩
theorem dX4_turnFrom_0 : At cX4_turnFrom 0 (.iload_n 1) 1 1 := ⟨by decide +kernel, rfl⟩
theorem dX4_turnFrom_1 : At cX4_turnFrom 1 (.iconst 0) 1 2 := ⟨by decide +kernel, rfl⟩
theorem dX4_turnFrom_2 : At cX4_turnFrom 2 (.invokestatic 9) 3 5 := ⟨by decide +kernel, rfl⟩
theorem dX4_turnFrom_5 : At cX4_turnFrom 5 (.istore_n 2) 1 6 := ⟨by decide +kernel, rfl⟩
theorem dX4_turnFrom_6 : At cX4_turnFrom 6 (.aload_n 0) 1 7 := ⟨by decide +kernel, rfl⟩
theorem dX4_turnFrom_7 : At cX4_turnFrom 7 (.getfield 21) 3 10 := ⟨by decide +kernel, rfl⟩
theorem dX4_turnFrom_10 : At cX4_turnFrom 10 (.iconst 1) 1 11 := ⟨by decide +kernel, rfl⟩
theorem dX4_turnFrom_11 : At cX4_turnFrom 11 (.isub) 1 12 := ⟨by decide +kernel, rfl⟩
theorem dX4_turnFrom_12 : At cX4_turnFrom 12 (.istore_n 3) 1 13 := ⟨by decide +kernel, rfl⟩
theorem dX4_turnFrom_13 : At cX4_turnFrom 13 (.iload_n 2) 1 14 := ⟨by decide +kernel, rfl⟩
theorem dX4_turnFrom_14 : At cX4_turnFrom 14 (.iload_n 3) 1 15 := ⟨by decide +kernel, rfl⟩
theorem dX4_turnFrom_15 : Br cX4_turnFrom 15 (.if_icmp .ge) 18 61 := ⟨(46), by decide +kernel, rfl, by decide⟩
theorem dX4_turnFrom_18 : At cX4_turnFrom 18 (.aload_n 0) 1 19 := ⟨by decide +kernel, rfl⟩
theorem dX4_turnFrom_19 : At cX4_turnFrom 19 (.getfield 15) 3 22 := ⟨by decide +kernel, rfl⟩
theorem dX4_turnFrom_22 : At cX4_turnFrom 22 (.iload_n 2) 1 23 := ⟨by decide +kernel, rfl⟩
theorem dX4_turnFrom_23 : At cX4_turnFrom 23 (.iaload) 1 24 := ⟨by decide +kernel, rfl⟩
theorem dX4_turnFrom_24 : At cX4_turnFrom 24 (.istore 4) 2 26 := ⟨by decide +kernel, rfl⟩
theorem dX4_turnFrom_26 : At cX4_turnFrom 26 (.aload_n 0) 1 27 := ⟨by decide +kernel, rfl⟩
theorem dX4_turnFrom_27 : At cX4_turnFrom 27 (.getfield 15) 3 30 := ⟨by decide +kernel, rfl⟩
theorem dX4_turnFrom_30 : At cX4_turnFrom 30 (.iload_n 2) 1 31 := ⟨by decide +kernel, rfl⟩
theorem dX4_turnFrom_31 : At cX4_turnFrom 31 (.aload_n 0) 1 32 := ⟨by decide +kernel, rfl⟩
theorem dX4_turnFrom_32 : At cX4_turnFrom 32 (.getfield 15) 3 35 := ⟨by decide +kernel, rfl⟩
theorem dX4_turnFrom_35 : At cX4_turnFrom 35 (.iload_n 3) 1 36 := ⟨by decide +kernel, rfl⟩
theorem dX4_turnFrom_36 : At cX4_turnFrom 36 (.iaload) 1 37 := ⟨by decide +kernel, rfl⟩
theorem dX4_turnFrom_37 : At cX4_turnFrom 37 (.invokestatic 25) 3 40 := ⟨by decide +kernel, rfl⟩
theorem dX4_turnFrom_40 : At cX4_turnFrom 40 (.iastore) 1 41 := ⟨by decide +kernel, rfl⟩
theorem dX4_turnFrom_41 : At cX4_turnFrom 41 (.aload_n 0) 1 42 := ⟨by decide +kernel, rfl⟩
theorem dX4_turnFrom_42 : At cX4_turnFrom 42 (.getfield 15) 3 45 := ⟨by decide +kernel, rfl⟩
theorem dX4_turnFrom_45 : At cX4_turnFrom 45 (.iload_n 3) 1 46 := ⟨by decide +kernel, rfl⟩
theorem dX4_turnFrom_46 : At cX4_turnFrom 46 (.iload 4) 2 48 := ⟨by decide +kernel, rfl⟩
theorem dX4_turnFrom_48 : At cX4_turnFrom 48 (.invokestatic 25) 3 51 := ⟨by decide +kernel, rfl⟩
theorem dX4_turnFrom_51 : At cX4_turnFrom 51 (.iastore) 1 52 := ⟨by decide +kernel, rfl⟩
theorem dX4_turnFrom_52 : At cX4_turnFrom 52 (.iinc 2 1) 3 55 := ⟨by decide +kernel, rfl⟩
theorem dX4_turnFrom_55 : At cX4_turnFrom 55 (.iinc 3 (-1)) 3 58 := ⟨by decide +kernel, rfl⟩
theorem dX4_turnFrom_58 : Br cX4_turnFrom 58 .goto 61 13 := ⟨(-45), by decide +kernel, rfl, by decide⟩
theorem dX4_turnFrom_61 : At cX4_turnFrom 61 (.iload_n 2) 1 62 := ⟨by decide +kernel, rfl⟩
theorem dX4_turnFrom_62 : At cX4_turnFrom 62 (.iload_n 3) 1 63 := ⟨by decide +kernel, rfl⟩
theorem dX4_turnFrom_63 : Br cX4_turnFrom 63 (.if_icmp .ne) 66 81 := ⟨(18), by decide +kernel, rfl, by decide⟩
theorem dX4_turnFrom_66 : At cX4_turnFrom 66 (.aload_n 0) 1 67 := ⟨by decide +kernel, rfl⟩
theorem dX4_turnFrom_67 : At cX4_turnFrom 67 (.getfield 15) 3 70 := ⟨by decide +kernel, rfl⟩
theorem dX4_turnFrom_70 : At cX4_turnFrom 70 (.iload_n 2) 1 71 := ⟨by decide +kernel, rfl⟩
theorem dX4_turnFrom_71 : At cX4_turnFrom 71 (.aload_n 0) 1 72 := ⟨by decide +kernel, rfl⟩
theorem dX4_turnFrom_72 : At cX4_turnFrom 72 (.getfield 15) 3 75 := ⟨by decide +kernel, rfl⟩
theorem dX4_turnFrom_75 : At cX4_turnFrom 75 (.iload_n 2) 1 76 := ⟨by decide +kernel, rfl⟩
theorem dX4_turnFrom_76 : At cX4_turnFrom 76 (.iaload) 1 77 := ⟨by decide +kernel, rfl⟩
theorem dX4_turnFrom_77 : At cX4_turnFrom 77 (.invokestatic 25) 3 80 := ⟨by decide +kernel, rfl⟩
theorem dX4_turnFrom_80 : At cX4_turnFrom 80 (.iastore) 1 81 := ⟨by decide +kernel, rfl⟩
theorem dX4_turnFrom_81 : At cX4_turnFrom 81 (.return_) 1 82 := ⟨by decide +kernel, rfl⟩
theorem dX4_cancelPairs_0 : At cX4_cancelPairs 0 (.aload_n 0) 1 1 := ⟨by decide +kernel, rfl⟩
theorem dX4_cancelPairs_1 : At cX4_cancelPairs 1 (.getfield 21) 3 4 := ⟨by decide +kernel, rfl⟩
theorem dX4_cancelPairs_4 : At cX4_cancelPairs 4 (.istore_n 1) 1 5 := ⟨by decide +kernel, rfl⟩
theorem dX4_cancelPairs_5 : At cX4_cancelPairs 5 (.aload_n 0) 1 6 := ⟨by decide +kernel, rfl⟩
theorem dX4_cancelPairs_6 : At cX4_cancelPairs 6 (.iconst 0) 1 7 := ⟨by decide +kernel, rfl⟩
theorem dX4_cancelPairs_7 : At cX4_cancelPairs 7 (.putfield 21) 3 10 := ⟨by decide +kernel, rfl⟩
theorem dX4_cancelPairs_10 : At cX4_cancelPairs 10 (.iconst 0) 1 11 := ⟨by decide +kernel, rfl⟩
theorem dX4_cancelPairs_11 : At cX4_cancelPairs 11 (.istore_n 2) 1 12 := ⟨by decide +kernel, rfl⟩
theorem dX4_cancelPairs_12 : At cX4_cancelPairs 12 (.iload_n 2) 1 13 := ⟨by decide +kernel, rfl⟩
theorem dX4_cancelPairs_13 : At cX4_cancelPairs 13 (.iload_n 1) 1 14 := ⟨by decide +kernel, rfl⟩
theorem dX4_cancelPairs_14 : Br cX4_cancelPairs 14 (.if_icmp .ge) 17 34 := ⟨(20), by decide +kernel, rfl, by decide⟩
theorem dX4_cancelPairs_17 : At cX4_cancelPairs 17 (.aload_n 0) 1 18 := ⟨by decide +kernel, rfl⟩
theorem dX4_cancelPairs_18 : At cX4_cancelPairs 18 (.aload_n 0) 1 19 := ⟨by decide +kernel, rfl⟩
theorem dX4_cancelPairs_19 : At cX4_cancelPairs 19 (.getfield 15) 3 22 := ⟨by decide +kernel, rfl⟩
theorem dX4_cancelPairs_22 : At cX4_cancelPairs 22 (.iload_n 2) 1 23 := ⟨by decide +kernel, rfl⟩
theorem dX4_cancelPairs_23 : At cX4_cancelPairs 23 (.iaload) 1 24 := ⟨by decide +kernel, rfl⟩
theorem dX4_cancelPairs_24 : At cX4_cancelPairs 24 (.invokevirtual 44) 3 27 := ⟨by decide +kernel, rfl⟩
theorem dX4_cancelPairs_27 : At cX4_cancelPairs 27 (.pop) 1 28 := ⟨by decide +kernel, rfl⟩
theorem dX4_cancelPairs_28 : At cX4_cancelPairs 28 (.iinc 2 1) 3 31 := ⟨by decide +kernel, rfl⟩
theorem dX4_cancelPairs_31 : Br cX4_cancelPairs 31 .goto 34 12 := ⟨(-19), by decide +kernel, rfl, by decide⟩
theorem dX4_cancelPairs_34 : At cX4_cancelPairs 34 (.iload_n 1) 1 35 := ⟨by decide +kernel, rfl⟩
theorem dX4_cancelPairs_35 : At cX4_cancelPairs 35 (.aload_n 0) 1 36 := ⟨by decide +kernel, rfl⟩
theorem dX4_cancelPairs_36 : At cX4_cancelPairs 36 (.getfield 21) 3 39 := ⟨by decide +kernel, rfl⟩
theorem dX4_cancelPairs_39 : At cX4_cancelPairs 39 (.isub) 1 40 := ⟨by decide +kernel, rfl⟩
theorem dX4_cancelPairs_40 : At cX4_cancelPairs 40 (.iconst 2) 1 41 := ⟨by decide +kernel, rfl⟩
theorem dX4_cancelPairs_41 : At cX4_cancelPairs 41 (.idiv) 1 42 := ⟨by decide +kernel, rfl⟩
theorem dX4_cancelPairs_42 : At cX4_cancelPairs 42 (.ireturn) 1 43 := ⟨by decide +kernel, rfl⟩
theorem dX4_tighten_0 : At cX4_tighten 0 (.aload_n 0) 1 1 := ⟨by decide +kernel, rfl⟩
theorem dX4_tighten_1 : At cX4_tighten 1 (.invokevirtual 47) 3 4 := ⟨by decide +kernel, rfl⟩
theorem dX4_tighten_4 : At cX4_tighten 4 (.pop) 1 5 := ⟨by decide +kernel, rfl⟩
theorem dX4_tighten_5 : At cX4_tighten 5 (.iconst 0) 1 6 := ⟨by decide +kernel, rfl⟩
theorem dX4_tighten_6 : At cX4_tighten 6 (.istore_n 1) 1 7 := ⟨by decide +kernel, rfl⟩
theorem dX4_tighten_7 : At cX4_tighten 7 (.aload_n 0) 1 8 := ⟨by decide +kernel, rfl⟩
theorem dX4_tighten_8 : At cX4_tighten 8 (.getfield 21) 3 11 := ⟨by decide +kernel, rfl⟩
theorem dX4_tighten_11 : At cX4_tighten 11 (.iconst 1) 1 12 := ⟨by decide +kernel, rfl⟩
theorem dX4_tighten_12 : At cX4_tighten 12 (.isub) 1 13 := ⟨by decide +kernel, rfl⟩
theorem dX4_tighten_13 : At cX4_tighten 13 (.istore_n 2) 1 14 := ⟨by decide +kernel, rfl⟩
theorem dX4_tighten_14 : At cX4_tighten 14 (.iload_n 1) 1 15 := ⟨by decide +kernel, rfl⟩
theorem dX4_tighten_15 : At cX4_tighten 15 (.iload_n 2) 1 16 := ⟨by decide +kernel, rfl⟩
theorem dX4_tighten_16 : Br cX4_tighten 16 (.if_icmp .ge) 19 46 := ⟨(30), by decide +kernel, rfl, by decide⟩
theorem dX4_tighten_19 : At cX4_tighten 19 (.aload_n 0) 1 20 := ⟨by decide +kernel, rfl⟩
theorem dX4_tighten_20 : At cX4_tighten 20 (.getfield 15) 3 23 := ⟨by decide +kernel, rfl⟩
theorem dX4_tighten_23 : At cX4_tighten 23 (.iload_n 1) 1 24 := ⟨by decide +kernel, rfl⟩
theorem dX4_tighten_24 : At cX4_tighten 24 (.iaload) 1 25 := ⟨by decide +kernel, rfl⟩
theorem dX4_tighten_25 : At cX4_tighten 25 (.aload_n 0) 1 26 := ⟨by decide +kernel, rfl⟩
theorem dX4_tighten_26 : At cX4_tighten 26 (.getfield 15) 3 29 := ⟨by decide +kernel, rfl⟩
theorem dX4_tighten_29 : At cX4_tighten 29 (.iload_n 2) 1 30 := ⟨by decide +kernel, rfl⟩
theorem dX4_tighten_30 : At cX4_tighten 30 (.iaload) 1 31 := ⟨by decide +kernel, rfl⟩
theorem dX4_tighten_31 : At cX4_tighten 31 (.invokestatic 25) 3 34 := ⟨by decide +kernel, rfl⟩
theorem dX4_tighten_34 : Br cX4_tighten 34 (.if_icmp .ne) 37 46 := ⟨(12), by decide +kernel, rfl, by decide⟩
theorem dX4_tighten_37 : At cX4_tighten 37 (.iinc 1 1) 3 40 := ⟨by decide +kernel, rfl⟩
theorem dX4_tighten_40 : At cX4_tighten 40 (.iinc 2 (-1)) 3 43 := ⟨by decide +kernel, rfl⟩
theorem dX4_tighten_43 : Br cX4_tighten 43 .goto 46 14 := ⟨(-29), by decide +kernel, rfl, by decide⟩
theorem dX4_tighten_46 : At cX4_tighten 46 (.aload_n 0) 1 47 := ⟨by decide +kernel, rfl⟩
theorem dX4_tighten_47 : At cX4_tighten 47 (.iconst 0) 1 48 := ⟨by decide +kernel, rfl⟩
theorem dX4_tighten_48 : At cX4_tighten 48 (.putfield 21) 3 51 := ⟨by decide +kernel, rfl⟩
theorem dX4_tighten_51 : At cX4_tighten 51 (.iload_n 1) 1 52 := ⟨by decide +kernel, rfl⟩
theorem dX4_tighten_52 : At cX4_tighten 52 (.istore_n 3) 1 53 := ⟨by decide +kernel, rfl⟩
theorem dX4_tighten_53 : At cX4_tighten 53 (.iload_n 3) 1 54 := ⟨by decide +kernel, rfl⟩
theorem dX4_tighten_54 : At cX4_tighten 54 (.iload_n 2) 1 55 := ⟨by decide +kernel, rfl⟩
theorem dX4_tighten_55 : Br cX4_tighten 55 (.if_icmp .gt) 58 75 := ⟨(20), by decide +kernel, rfl, by decide⟩
theorem dX4_tighten_58 : At cX4_tighten 58 (.aload_n 0) 1 59 := ⟨by decide +kernel, rfl⟩
theorem dX4_tighten_59 : At cX4_tighten 59 (.aload_n 0) 1 60 := ⟨by decide +kernel, rfl⟩
theorem dX4_tighten_60 : At cX4_tighten 60 (.getfield 15) 3 63 := ⟨by decide +kernel, rfl⟩
theorem dX4_tighten_63 : At cX4_tighten 63 (.iload_n 3) 1 64 := ⟨by decide +kernel, rfl⟩
theorem dX4_tighten_64 : At cX4_tighten 64 (.iaload) 1 65 := ⟨by decide +kernel, rfl⟩
theorem dX4_tighten_65 : At cX4_tighten 65 (.invokevirtual 29) 3 68 := ⟨by decide +kernel, rfl⟩
theorem dX4_tighten_68 : At cX4_tighten 68 (.pop) 1 69 := ⟨by decide +kernel, rfl⟩
theorem dX4_tighten_69 : At cX4_tighten 69 (.iinc 3 1) 3 72 := ⟨by decide +kernel, rfl⟩
theorem dX4_tighten_72 : Br cX4_tighten 72 .goto 75 53 := ⟨(-19), by decide +kernel, rfl, by decide⟩
theorem dX4_tighten_75 : At cX4_tighten 75 (.return_) 1 76 := ⟨by decide +kernel, rfl⟩
theorem dX4_atRound_0 : At cX4_atRound 0 (.aload_n 0) 1 1 := ⟨by decide +kernel, rfl⟩
theorem dX4_atRound_1 : At cX4_atRound 1 (.iload_n 1) 1 2 := ⟨by decide +kernel, rfl⟩
theorem dX4_atRound_2 : At cX4_atRound 2 (.aload_n 0) 1 3 := ⟨by decide +kernel, rfl⟩
theorem dX4_atRound_3 : At cX4_atRound 3 (.getfield 21) 3 6 := ⟨by decide +kernel, rfl⟩
theorem dX4_atRound_6 : Br cX4_atRound 6 (.if_icmp .ge) 9 13 := ⟨(7), by decide +kernel, rfl, by decide⟩
theorem dX4_atRound_9 : At cX4_atRound 9 (.iload_n 1) 1 10 := ⟨by decide +kernel, rfl⟩
theorem dX4_atRound_10 : Br cX4_atRound 10 .goto 13 19 := ⟨(9), by decide +kernel, rfl, by decide⟩
theorem dX4_atRound_13 : At cX4_atRound 13 (.iload_n 1) 1 14 := ⟨by decide +kernel, rfl⟩
theorem dX4_atRound_14 : At cX4_atRound 14 (.aload_n 0) 1 15 := ⟨by decide +kernel, rfl⟩
theorem dX4_atRound_15 : At cX4_atRound 15 (.getfield 21) 3 18 := ⟨by decide +kernel, rfl⟩
theorem dX4_atRound_18 : At cX4_atRound 18 (.isub) 1 19 := ⟨by decide +kernel, rfl⟩
theorem dX4_atRound_19 : At cX4_atRound 19 (.invokevirtual 37) 3 22 := ⟨by decide +kernel, rfl⟩
theorem dX4_atRound_22 : At cX4_atRound 22 (.ireturn) 1 23 := ⟨by decide +kernel, rfl⟩
theorem dX4_leastStart_0 : At cX4_leastStart 0 (.iconst 0) 1 1 := ⟨by decide +kernel, rfl⟩
theorem dX4_leastStart_1 : At cX4_leastStart 1 (.istore_n 1) 1 2 := ⟨by decide +kernel, rfl⟩
theorem dX4_leastStart_2 : At cX4_leastStart 2 (.iconst 1) 1 3 := ⟨by decide +kernel, rfl⟩
theorem dX4_leastStart_3 : At cX4_leastStart 3 (.istore_n 2) 1 4 := ⟨by decide +kernel, rfl⟩
theorem dX4_leastStart_4 : At cX4_leastStart 4 (.iload_n 2) 1 5 := ⟨by decide +kernel, rfl⟩
theorem dX4_leastStart_5 : At cX4_leastStart 5 (.aload_n 0) 1 6 := ⟨by decide +kernel, rfl⟩
theorem dX4_leastStart_6 : At cX4_leastStart 6 (.getfield 21) 3 9 := ⟨by decide +kernel, rfl⟩
theorem dX4_leastStart_9 : Br cX4_leastStart 9 (.if_icmp .ge) 12 29 := ⟨(20), by decide +kernel, rfl, by decide⟩
theorem dX4_leastStart_12 : At cX4_leastStart 12 (.aload_n 0) 1 13 := ⟨by decide +kernel, rfl⟩
theorem dX4_leastStart_13 : At cX4_leastStart 13 (.iload_n 2) 1 14 := ⟨by decide +kernel, rfl⟩
theorem dX4_leastStart_14 : At cX4_leastStart 14 (.iload_n 1) 1 15 := ⟨by decide +kernel, rfl⟩
theorem dX4_leastStart_15 : At cX4_leastStart 15 (.invokevirtual 51) 3 18 := ⟨by decide +kernel, rfl⟩
theorem dX4_leastStart_18 : Br cX4_leastStart 18 (.ifCond .eq) 21 23 := ⟨(5), by decide +kernel, rfl, by decide⟩
theorem dX4_leastStart_21 : At cX4_leastStart 21 (.iload_n 2) 1 22 := ⟨by decide +kernel, rfl⟩
theorem dX4_leastStart_22 : At cX4_leastStart 22 (.istore_n 1) 1 23 := ⟨by decide +kernel, rfl⟩
theorem dX4_leastStart_23 : At cX4_leastStart 23 (.iinc 2 1) 3 26 := ⟨by decide +kernel, rfl⟩
theorem dX4_leastStart_26 : Br cX4_leastStart 26 .goto 29 4 := ⟨(-22), by decide +kernel, rfl, by decide⟩
theorem dX4_leastStart_29 : At cX4_leastStart 29 (.iload_n 1) 1 30 := ⟨by decide +kernel, rfl⟩
theorem dX4_leastStart_30 : At cX4_leastStart 30 (.ireturn) 1 31 := ⟨by decide +kernel, rfl⟩
theorem dX4_isLessFrom_0 : At cX4_isLessFrom 0 (.iconst 0) 1 1 := ⟨by decide +kernel, rfl⟩
theorem dX4_isLessFrom_1 : At cX4_isLessFrom 1 (.istore_n 3) 1 2 := ⟨by decide +kernel, rfl⟩
theorem dX4_isLessFrom_2 : At cX4_isLessFrom 2 (.iload_n 3) 1 3 := ⟨by decide +kernel, rfl⟩
theorem dX4_isLessFrom_3 : At cX4_isLessFrom 3 (.aload_n 0) 1 4 := ⟨by decide +kernel, rfl⟩
theorem dX4_isLessFrom_4 : At cX4_isLessFrom 4 (.getfield 21) 3 7 := ⟨by decide +kernel, rfl⟩
theorem dX4_isLessFrom_7 : Br cX4_isLessFrom 7 (.if_icmp .ge) 10 54 := ⟨(47), by decide +kernel, rfl, by decide⟩
theorem dX4_isLessFrom_10 : At cX4_isLessFrom 10 (.aload_n 0) 1 11 := ⟨by decide +kernel, rfl⟩
theorem dX4_isLessFrom_11 : At cX4_isLessFrom 11 (.iload_n 1) 1 12 := ⟨by decide +kernel, rfl⟩
theorem dX4_isLessFrom_12 : At cX4_isLessFrom 12 (.iload_n 3) 1 13 := ⟨by decide +kernel, rfl⟩
theorem dX4_isLessFrom_13 : At cX4_isLessFrom 13 (.iadd) 1 14 := ⟨by decide +kernel, rfl⟩
theorem dX4_isLessFrom_14 : At cX4_isLessFrom 14 (.invokevirtual 55) 3 17 := ⟨by decide +kernel, rfl⟩
theorem dX4_isLessFrom_17 : At cX4_isLessFrom 17 (.istore 4) 2 19 := ⟨by decide +kernel, rfl⟩
theorem dX4_isLessFrom_19 : At cX4_isLessFrom 19 (.aload_n 0) 1 20 := ⟨by decide +kernel, rfl⟩
theorem dX4_isLessFrom_20 : At cX4_isLessFrom 20 (.iload_n 2) 1 21 := ⟨by decide +kernel, rfl⟩
theorem dX4_isLessFrom_21 : At cX4_isLessFrom 21 (.iload_n 3) 1 22 := ⟨by decide +kernel, rfl⟩
theorem dX4_isLessFrom_22 : At cX4_isLessFrom 22 (.iadd) 1 23 := ⟨by decide +kernel, rfl⟩
theorem dX4_isLessFrom_23 : At cX4_isLessFrom 23 (.invokevirtual 55) 3 26 := ⟨by decide +kernel, rfl⟩
theorem dX4_isLessFrom_26 : At cX4_isLessFrom 26 (.istore 5) 2 28 := ⟨by decide +kernel, rfl⟩
theorem dX4_isLessFrom_28 : At cX4_isLessFrom 28 (.iload 4) 2 30 := ⟨by decide +kernel, rfl⟩
theorem dX4_isLessFrom_30 : At cX4_isLessFrom 30 (.iload 5) 2 32 := ⟨by decide +kernel, rfl⟩
theorem dX4_isLessFrom_32 : Br cX4_isLessFrom 32 (.if_icmp .eq) 35 48 := ⟨(16), by decide +kernel, rfl, by decide⟩
theorem dX4_isLessFrom_35 : At cX4_isLessFrom 35 (.iload 4) 2 37 := ⟨by decide +kernel, rfl⟩
theorem dX4_isLessFrom_37 : At cX4_isLessFrom 37 (.iload 5) 2 39 := ⟨by decide +kernel, rfl⟩
theorem dX4_isLessFrom_39 : Br cX4_isLessFrom 39 (.if_icmp .ge) 42 46 := ⟨(7), by decide +kernel, rfl, by decide⟩
theorem dX4_isLessFrom_42 : At cX4_isLessFrom 42 (.iconst 1) 1 43 := ⟨by decide +kernel, rfl⟩
theorem dX4_isLessFrom_43 : Br cX4_isLessFrom 43 .goto 46 47 := ⟨(4), by decide +kernel, rfl, by decide⟩
theorem dX4_isLessFrom_46 : At cX4_isLessFrom 46 (.iconst 0) 1 47 := ⟨by decide +kernel, rfl⟩
theorem dX4_isLessFrom_47 : At cX4_isLessFrom 47 (.ireturn) 1 48 := ⟨by decide +kernel, rfl⟩
theorem dX4_isLessFrom_48 : At cX4_isLessFrom 48 (.iinc 3 1) 3 51 := ⟨by decide +kernel, rfl⟩
theorem dX4_isLessFrom_51 : Br cX4_isLessFrom 51 .goto 54 2 := ⟨(-49), by decide +kernel, rfl, by decide⟩
theorem dX4_isLessFrom_54 : At cX4_isLessFrom 54 (.iconst 0) 1 55 := ⟨by decide +kernel, rfl⟩
theorem dX4_isLessFrom_55 : At cX4_isLessFrom 55 (.ireturn) 1 56 := ⟨by decide +kernel, rfl⟩
theorem dX4_copyFromStart_0 : At cX4_copyFromStart 0 (.aload_n 0) 1 1 := ⟨by decide +kernel, rfl⟩
theorem dX4_copyFromStart_1 : At cX4_copyFromStart 1 (.iconst 0) 1 2 := ⟨by decide +kernel, rfl⟩
theorem dX4_copyFromStart_2 : At cX4_copyFromStart 2 (.putfield 21) 3 5 := ⟨by decide +kernel, rfl⟩
theorem dX4_copyFromStart_5 : At cX4_copyFromStart 5 (.iconst 0) 1 6 := ⟨by decide +kernel, rfl⟩
theorem dX4_copyFromStart_6 : At cX4_copyFromStart 6 (.istore_n 3) 1 7 := ⟨by decide +kernel, rfl⟩
theorem dX4_copyFromStart_7 : At cX4_copyFromStart 7 (.iload_n 3) 1 8 := ⟨by decide +kernel, rfl⟩
theorem dX4_copyFromStart_8 : At cX4_copyFromStart 8 (.aload_n 1) 1 9 := ⟨by decide +kernel, rfl⟩
theorem dX4_copyFromStart_9 : At cX4_copyFromStart 9 (.getfield 21) 3 12 := ⟨by decide +kernel, rfl⟩
theorem dX4_copyFromStart_12 : Br cX4_copyFromStart 12 (.if_icmp .ge) 15 33 := ⟨(21), by decide +kernel, rfl, by decide⟩
theorem dX4_copyFromStart_15 : At cX4_copyFromStart 15 (.aload_n 0) 1 16 := ⟨by decide +kernel, rfl⟩
theorem dX4_copyFromStart_16 : At cX4_copyFromStart 16 (.aload_n 1) 1 17 := ⟨by decide +kernel, rfl⟩
theorem dX4_copyFromStart_17 : At cX4_copyFromStart 17 (.iload_n 2) 1 18 := ⟨by decide +kernel, rfl⟩
theorem dX4_copyFromStart_18 : At cX4_copyFromStart 18 (.iload_n 3) 1 19 := ⟨by decide +kernel, rfl⟩
theorem dX4_copyFromStart_19 : At cX4_copyFromStart 19 (.iadd) 1 20 := ⟨by decide +kernel, rfl⟩
theorem dX4_copyFromStart_20 : At cX4_copyFromStart 20 (.invokevirtual 55) 3 23 := ⟨by decide +kernel, rfl⟩
theorem dX4_copyFromStart_23 : At cX4_copyFromStart 23 (.invokevirtual 29) 3 26 := ⟨by decide +kernel, rfl⟩
theorem dX4_copyFromStart_26 : At cX4_copyFromStart 26 (.pop) 1 27 := ⟨by decide +kernel, rfl⟩
theorem dX4_copyFromStart_27 : At cX4_copyFromStart 27 (.iinc 3 1) 3 30 := ⟨by decide +kernel, rfl⟩
theorem dX4_copyFromStart_30 : Br cX4_copyFromStart 30 .goto 33 7 := ⟨(-23), by decide +kernel, rfl, by decide⟩
theorem dX4_copyFromStart_33 : At cX4_copyFromStart 33 (.return_) 1 34 := ⟨by decide +kernel, rfl⟩
theorem dX4_power_0 : At cX4_power 0 (.iconst 1) 1 1 := ⟨by decide +kernel, rfl⟩
theorem dX4_power_1 : At cX4_power 1 (.istore_n 1) 1 2 := ⟨by decide +kernel, rfl⟩
theorem dX4_power_2 : At cX4_power 2 (.iload_n 1) 1 3 := ⟨by decide +kernel, rfl⟩
theorem dX4_power_3 : At cX4_power 3 (.aload_n 0) 1 4 := ⟨by decide +kernel, rfl⟩
theorem dX4_power_4 : At cX4_power 4 (.getfield 21) 3 7 := ⟨by decide +kernel, rfl⟩
theorem dX4_power_7 : Br cX4_power 7 (.if_icmp .gt) 10 40 := ⟨(33), by decide +kernel, rfl, by decide⟩
theorem dX4_power_10 : At cX4_power 10 (.aload_n 0) 1 11 := ⟨by decide +kernel, rfl⟩
theorem dX4_power_11 : At cX4_power 11 (.getfield 21) 3 14 := ⟨by decide +kernel, rfl⟩
theorem dX4_power_14 : At cX4_power 14 (.iload_n 1) 1 15 := ⟨by decide +kernel, rfl⟩
theorem dX4_power_15 : At cX4_power 15 (.irem) 1 16 := ⟨by decide +kernel, rfl⟩
theorem dX4_power_16 : Br cX4_power 16 (.ifCond .ne) 19 34 := ⟨(18), by decide +kernel, rfl, by decide⟩
theorem dX4_power_19 : At cX4_power 19 (.aload_n 0) 1 20 := ⟨by decide +kernel, rfl⟩
theorem dX4_power_20 : At cX4_power 20 (.iload_n 1) 1 21 := ⟨by decide +kernel, rfl⟩
theorem dX4_power_21 : At cX4_power 21 (.invokevirtual 58) 3 24 := ⟨by decide +kernel, rfl⟩
theorem dX4_power_24 : Br cX4_power 24 (.ifCond .eq) 27 34 := ⟨(10), by decide +kernel, rfl, by decide⟩
theorem dX4_power_27 : At cX4_power 27 (.aload_n 0) 1 28 := ⟨by decide +kernel, rfl⟩
theorem dX4_power_28 : At cX4_power 28 (.getfield 21) 3 31 := ⟨by decide +kernel, rfl⟩
theorem dX4_power_31 : At cX4_power 31 (.iload_n 1) 1 32 := ⟨by decide +kernel, rfl⟩
theorem dX4_power_32 : At cX4_power 32 (.idiv) 1 33 := ⟨by decide +kernel, rfl⟩
theorem dX4_power_33 : At cX4_power 33 (.ireturn) 1 34 := ⟨by decide +kernel, rfl⟩
theorem dX4_power_34 : At cX4_power 34 (.iinc 1 1) 3 37 := ⟨by decide +kernel, rfl⟩
theorem dX4_power_37 : Br cX4_power 37 .goto 40 2 := ⟨(-35), by decide +kernel, rfl, by decide⟩
theorem dX4_power_40 : At cX4_power 40 (.iconst 0) 1 41 := ⟨by decide +kernel, rfl⟩
theorem dX4_power_41 : At cX4_power 41 (.ireturn) 1 42 := ⟨by decide +kernel, rfl⟩
theorem dX4_repeatsAfter_0 : At cX4_repeatsAfter 0 (.iload_n 1) 1 1 := ⟨by decide +kernel, rfl⟩
theorem dX4_repeatsAfter_1 : At cX4_repeatsAfter 1 (.istore_n 2) 1 2 := ⟨by decide +kernel, rfl⟩
theorem dX4_repeatsAfter_2 : At cX4_repeatsAfter 2 (.iload_n 2) 1 3 := ⟨by decide +kernel, rfl⟩
theorem dX4_repeatsAfter_3 : At cX4_repeatsAfter 3 (.aload_n 0) 1 4 := ⟨by decide +kernel, rfl⟩
theorem dX4_repeatsAfter_4 : At cX4_repeatsAfter 4 (.getfield 21) 3 7 := ⟨by decide +kernel, rfl⟩
theorem dX4_repeatsAfter_7 : Br cX4_repeatsAfter 7 (.if_icmp .ge) 10 33 := ⟨(26), by decide +kernel, rfl, by decide⟩
theorem dX4_repeatsAfter_10 : At cX4_repeatsAfter 10 (.aload_n 0) 1 11 := ⟨by decide +kernel, rfl⟩
theorem dX4_repeatsAfter_11 : At cX4_repeatsAfter 11 (.iload_n 2) 1 12 := ⟨by decide +kernel, rfl⟩
theorem dX4_repeatsAfter_12 : At cX4_repeatsAfter 12 (.invokevirtual 37) 3 15 := ⟨by decide +kernel, rfl⟩
theorem dX4_repeatsAfter_15 : At cX4_repeatsAfter 15 (.aload_n 0) 1 16 := ⟨by decide +kernel, rfl⟩
theorem dX4_repeatsAfter_16 : At cX4_repeatsAfter 16 (.iload_n 2) 1 17 := ⟨by decide +kernel, rfl⟩
theorem dX4_repeatsAfter_17 : At cX4_repeatsAfter 17 (.iload_n 1) 1 18 := ⟨by decide +kernel, rfl⟩
theorem dX4_repeatsAfter_18 : At cX4_repeatsAfter 18 (.isub) 1 19 := ⟨by decide +kernel, rfl⟩
theorem dX4_repeatsAfter_19 : At cX4_repeatsAfter 19 (.invokevirtual 37) 3 22 := ⟨by decide +kernel, rfl⟩
theorem dX4_repeatsAfter_22 : Br cX4_repeatsAfter 22 (.if_icmp .eq) 25 27 := ⟨(5), by decide +kernel, rfl, by decide⟩
theorem dX4_repeatsAfter_25 : At cX4_repeatsAfter 25 (.iconst 0) 1 26 := ⟨by decide +kernel, rfl⟩
theorem dX4_repeatsAfter_26 : At cX4_repeatsAfter 26 (.ireturn) 1 27 := ⟨by decide +kernel, rfl⟩
theorem dX4_repeatsAfter_27 : At cX4_repeatsAfter 27 (.iinc 2 1) 3 30 := ⟨by decide +kernel, rfl⟩
theorem dX4_repeatsAfter_30 : Br cX4_repeatsAfter 30 .goto 33 2 := ⟨(-28), by decide +kernel, rfl, by decide⟩
theorem dX4_repeatsAfter_33 : At cX4_repeatsAfter 33 (.iconst 1) 1 34 := ⟨by decide +kernel, rfl⟩
theorem dX4_repeatsAfter_34 : At cX4_repeatsAfter 34 (.ireturn) 1 35 := ⟨by decide +kernel, rfl⟩
theorem dX4_posts_0 : At cX4_posts 0 (.iconst 0) 1 1 := ⟨by decide +kernel, rfl⟩
theorem dX4_posts_1 : At cX4_posts 1 (.istore_n 1) 1 2 := ⟨by decide +kernel, rfl⟩
theorem dX4_posts_2 : At cX4_posts 2 (.iconst 0) 1 3 := ⟨by decide +kernel, rfl⟩
theorem dX4_posts_3 : At cX4_posts 3 (.istore_n 2) 1 4 := ⟨by decide +kernel, rfl⟩
theorem dX4_posts_4 : At cX4_posts 4 (.iload_n 2) 1 5 := ⟨by decide +kernel, rfl⟩
theorem dX4_posts_5 : At cX4_posts 5 (.aload_n 0) 1 6 := ⟨by decide +kernel, rfl⟩
theorem dX4_posts_6 : At cX4_posts 6 (.getfield 21) 3 9 := ⟨by decide +kernel, rfl⟩
theorem dX4_posts_9 : Br cX4_posts 9 (.if_icmp .ge) 12 32 := ⟨(23), by decide +kernel, rfl, by decide⟩
theorem dX4_posts_12 : At cX4_posts 12 (.iload_n 1) 1 13 := ⟨by decide +kernel, rfl⟩
theorem dX4_posts_13 : At cX4_posts 13 (.iconst 1) 1 14 := ⟨by decide +kernel, rfl⟩
theorem dX4_posts_14 : At cX4_posts 14 (.aload_n 0) 1 15 := ⟨by decide +kernel, rfl⟩
theorem dX4_posts_15 : At cX4_posts 15 (.getfield 15) 3 18 := ⟨by decide +kernel, rfl⟩
theorem dX4_posts_18 : At cX4_posts 18 (.iload_n 2) 1 19 := ⟨by decide +kernel, rfl⟩
theorem dX4_posts_19 : At cX4_posts 19 (.iaload) 1 20 := ⟨by decide +kernel, rfl⟩
theorem dX4_posts_20 : At cX4_posts 20 (.invokestatic 61) 3 23 := ⟨by decide +kernel, rfl⟩
theorem dX4_posts_23 : At cX4_posts 23 (.ishl) 1 24 := ⟨by decide +kernel, rfl⟩
theorem dX4_posts_24 : At cX4_posts 24 (.ior) 1 25 := ⟨by decide +kernel, rfl⟩
theorem dX4_posts_25 : At cX4_posts 25 (.istore_n 1) 1 26 := ⟨by decide +kernel, rfl⟩
theorem dX4_posts_26 : At cX4_posts 26 (.iinc 2 1) 3 29 := ⟨by decide +kernel, rfl⟩
theorem dX4_posts_29 : Br cX4_posts 29 .goto 32 4 := ⟨(-25), by decide +kernel, rfl, by decide⟩
theorem dX4_posts_32 : At cX4_posts 32 (.iload_n 1) 1 33 := ⟨by decide +kernel, rfl⟩
theorem dX4_posts_33 : At cX4_posts 33 (.ireturn) 1 34 := ⟨by decide +kernel, rfl⟩
theorem dX4_firstPair_0 : At cX4_firstPair 0 (.iconst 0) 1 1 := ⟨by decide +kernel, rfl⟩
theorem dX4_firstPair_1 : At cX4_firstPair 1 (.istore_n 1) 1 2 := ⟨by decide +kernel, rfl⟩
theorem dX4_firstPair_2 : At cX4_firstPair 2 (.iload_n 1) 1 3 := ⟨by decide +kernel, rfl⟩
theorem dX4_firstPair_3 : At cX4_firstPair 3 (.iconst 1) 1 4 := ⟨by decide +kernel, rfl⟩
theorem dX4_firstPair_4 : At cX4_firstPair 4 (.iadd) 1 5 := ⟨by decide +kernel, rfl⟩
theorem dX4_firstPair_5 : At cX4_firstPair 5 (.aload_n 0) 1 6 := ⟨by decide +kernel, rfl⟩
theorem dX4_firstPair_6 : At cX4_firstPair 6 (.getfield 21) 3 9 := ⟨by decide +kernel, rfl⟩
theorem dX4_firstPair_9 : Br cX4_firstPair 9 (.if_icmp .ge) 12 40 := ⟨(31), by decide +kernel, rfl, by decide⟩
theorem dX4_firstPair_12 : At cX4_firstPair 12 (.aload_n 0) 1 13 := ⟨by decide +kernel, rfl⟩
theorem dX4_firstPair_13 : At cX4_firstPair 13 (.getfield 15) 3 16 := ⟨by decide +kernel, rfl⟩
theorem dX4_firstPair_16 : At cX4_firstPair 16 (.iload_n 1) 1 17 := ⟨by decide +kernel, rfl⟩
theorem dX4_firstPair_17 : At cX4_firstPair 17 (.iaload) 1 18 := ⟨by decide +kernel, rfl⟩
theorem dX4_firstPair_18 : At cX4_firstPair 18 (.aload_n 0) 1 19 := ⟨by decide +kernel, rfl⟩
theorem dX4_firstPair_19 : At cX4_firstPair 19 (.getfield 15) 3 22 := ⟨by decide +kernel, rfl⟩
theorem dX4_firstPair_22 : At cX4_firstPair 22 (.iload_n 1) 1 23 := ⟨by decide +kernel, rfl⟩
theorem dX4_firstPair_23 : At cX4_firstPair 23 (.iconst 1) 1 24 := ⟨by decide +kernel, rfl⟩
theorem dX4_firstPair_24 : At cX4_firstPair 24 (.iadd) 1 25 := ⟨by decide +kernel, rfl⟩
theorem dX4_firstPair_25 : At cX4_firstPair 25 (.iaload) 1 26 := ⟨by decide +kernel, rfl⟩
theorem dX4_firstPair_26 : At cX4_firstPair 26 (.invokestatic 25) 3 29 := ⟨by decide +kernel, rfl⟩
theorem dX4_firstPair_29 : Br cX4_firstPair 29 (.if_icmp .ne) 32 34 := ⟨(5), by decide +kernel, rfl, by decide⟩
theorem dX4_firstPair_32 : At cX4_firstPair 32 (.iload_n 1) 1 33 := ⟨by decide +kernel, rfl⟩
theorem dX4_firstPair_33 : At cX4_firstPair 33 (.ireturn) 1 34 := ⟨by decide +kernel, rfl⟩
theorem dX4_firstPair_34 : At cX4_firstPair 34 (.iinc 1 1) 3 37 := ⟨by decide +kernel, rfl⟩
theorem dX4_firstPair_37 : Br cX4_firstPair 37 .goto 40 2 := ⟨(-35), by decide +kernel, rfl, by decide⟩
theorem dX4_firstPair_40 : At cX4_firstPair 40 (.bipush (-6)) 2 42 := ⟨by decide +kernel, rfl⟩
theorem dX4_firstPair_42 : At cX4_firstPair 42 (.ireturn) 1 43 := ⟨by decide +kernel, rfl⟩
theorem dX4_windings_0 : At cX4_windings 0 (.iconst 0) 1 1 := ⟨by decide +kernel, rfl⟩
theorem dX4_windings_1 : At cX4_windings 1 (.istore_n 2) 1 2 := ⟨by decide +kernel, rfl⟩
theorem dX4_windings_2 : At cX4_windings 2 (.iconst 0) 1 3 := ⟨by decide +kernel, rfl⟩
theorem dX4_windings_3 : At cX4_windings 3 (.istore_n 3) 1 4 := ⟨by decide +kernel, rfl⟩
theorem dX4_windings_4 : At cX4_windings 4 (.iload_n 3) 1 5 := ⟨by decide +kernel, rfl⟩
theorem dX4_windings_5 : At cX4_windings 5 (.aload_n 0) 1 6 := ⟨by decide +kernel, rfl⟩
theorem dX4_windings_6 : At cX4_windings 6 (.getfield 21) 3 9 := ⟨by decide +kernel, rfl⟩
theorem dX4_windings_9 : Br cX4_windings 9 (.if_icmp .ge) 12 50 := ⟨(41), by decide +kernel, rfl, by decide⟩
theorem dX4_windings_12 : At cX4_windings 12 (.aload_n 0) 1 13 := ⟨by decide +kernel, rfl⟩
theorem dX4_windings_13 : At cX4_windings 13 (.getfield 15) 3 16 := ⟨by decide +kernel, rfl⟩
theorem dX4_windings_16 : At cX4_windings 16 (.iload_n 3) 1 17 := ⟨by decide +kernel, rfl⟩
theorem dX4_windings_17 : At cX4_windings 17 (.iaload) 1 18 := ⟨by decide +kernel, rfl⟩
theorem dX4_windings_18 : At cX4_windings 18 (.iload_n 1) 1 19 := ⟨by decide +kernel, rfl⟩
theorem dX4_windings_19 : Br cX4_windings 19 (.if_icmp .ne) 22 28 := ⟨(9), by decide +kernel, rfl, by decide⟩
theorem dX4_windings_22 : At cX4_windings 22 (.iinc 2 1) 3 25 := ⟨by decide +kernel, rfl⟩
theorem dX4_windings_25 : Br cX4_windings 25 .goto 28 44 := ⟨(19), by decide +kernel, rfl, by decide⟩
theorem dX4_windings_28 : At cX4_windings 28 (.aload_n 0) 1 29 := ⟨by decide +kernel, rfl⟩
theorem dX4_windings_29 : At cX4_windings 29 (.getfield 15) 3 32 := ⟨by decide +kernel, rfl⟩
theorem dX4_windings_32 : At cX4_windings 32 (.iload_n 3) 1 33 := ⟨by decide +kernel, rfl⟩
theorem dX4_windings_33 : At cX4_windings 33 (.iaload) 1 34 := ⟨by decide +kernel, rfl⟩
theorem dX4_windings_34 : At cX4_windings 34 (.iload_n 1) 1 35 := ⟨by decide +kernel, rfl⟩
theorem dX4_windings_35 : At cX4_windings 35 (.invokestatic 25) 3 38 := ⟨by decide +kernel, rfl⟩
theorem dX4_windings_38 : Br cX4_windings 38 (.if_icmp .ne) 41 44 := ⟨(6), by decide +kernel, rfl, by decide⟩
theorem dX4_windings_41 : At cX4_windings 41 (.iinc 2 (-1)) 3 44 := ⟨by decide +kernel, rfl⟩
theorem dX4_windings_44 : At cX4_windings 44 (.iinc 3 1) 3 47 := ⟨by decide +kernel, rfl⟩
theorem dX4_windings_47 : Br cX4_windings 47 .goto 50 4 := ⟨(-43), by decide +kernel, rfl, by decide⟩
theorem dX4_windings_50 : At cX4_windings 50 (.iload_n 2) 1 51 := ⟨by decide +kernel, rfl⟩
theorem dX4_windings_51 : At cX4_windings 51 (.ireturn) 1 52 := ⟨by decide +kernel, rfl⟩
theorem dX4_isSameAs_0 : At cX4_isSameAs 0 (.aload_n 0) 1 1 := ⟨by decide +kernel, rfl⟩
theorem dX4_isSameAs_1 : At cX4_isSameAs 1 (.getfield 21) 3 4 := ⟨by decide +kernel, rfl⟩
theorem dX4_isSameAs_4 : At cX4_isSameAs 4 (.aload_n 1) 1 5 := ⟨by decide +kernel, rfl⟩
theorem dX4_isSameAs_5 : At cX4_isSameAs 5 (.getfield 21) 3 8 := ⟨by decide +kernel, rfl⟩
theorem dX4_isSameAs_8 : Br cX4_isSameAs 8 (.if_icmp .eq) 11 13 := ⟨(5), by decide +kernel, rfl, by decide⟩
theorem dX4_isSameAs_11 : At cX4_isSameAs 11 (.iconst 0) 1 12 := ⟨by decide +kernel, rfl⟩
theorem dX4_isSameAs_12 : At cX4_isSameAs 12 (.ireturn) 1 13 := ⟨by decide +kernel, rfl⟩
theorem dX4_isSameAs_13 : At cX4_isSameAs 13 (.iconst 0) 1 14 := ⟨by decide +kernel, rfl⟩
theorem dX4_isSameAs_14 : At cX4_isSameAs 14 (.istore_n 2) 1 15 := ⟨by decide +kernel, rfl⟩
theorem dX4_isSameAs_15 : At cX4_isSameAs 15 (.iload_n 2) 1 16 := ⟨by decide +kernel, rfl⟩
theorem dX4_isSameAs_16 : At cX4_isSameAs 16 (.aload_n 0) 1 17 := ⟨by decide +kernel, rfl⟩
theorem dX4_isSameAs_17 : At cX4_isSameAs 17 (.getfield 21) 3 20 := ⟨by decide +kernel, rfl⟩
theorem dX4_isSameAs_20 : Br cX4_isSameAs 20 (.if_icmp .ge) 23 44 := ⟨(24), by decide +kernel, rfl, by decide⟩
theorem dX4_isSameAs_23 : At cX4_isSameAs 23 (.aload_n 0) 1 24 := ⟨by decide +kernel, rfl⟩
theorem dX4_isSameAs_24 : At cX4_isSameAs 24 (.iload_n 2) 1 25 := ⟨by decide +kernel, rfl⟩
theorem dX4_isSameAs_25 : At cX4_isSameAs 25 (.invokevirtual 37) 3 28 := ⟨by decide +kernel, rfl⟩
theorem dX4_isSameAs_28 : At cX4_isSameAs 28 (.aload_n 1) 1 29 := ⟨by decide +kernel, rfl⟩
theorem dX4_isSameAs_29 : At cX4_isSameAs 29 (.iload_n 2) 1 30 := ⟨by decide +kernel, rfl⟩
theorem dX4_isSameAs_30 : At cX4_isSameAs 30 (.invokevirtual 37) 3 33 := ⟨by decide +kernel, rfl⟩
theorem dX4_isSameAs_33 : Br cX4_isSameAs 33 (.if_icmp .eq) 36 38 := ⟨(5), by decide +kernel, rfl, by decide⟩
theorem dX4_isSameAs_36 : At cX4_isSameAs 36 (.iconst 0) 1 37 := ⟨by decide +kernel, rfl⟩
theorem dX4_isSameAs_37 : At cX4_isSameAs 37 (.ireturn) 1 38 := ⟨by decide +kernel, rfl⟩
theorem dX4_isSameAs_38 : At cX4_isSameAs 38 (.iinc 2 1) 3 41 := ⟨by decide +kernel, rfl⟩
theorem dX4_isSameAs_41 : Br cX4_isSameAs 41 .goto 44 15 := ⟨(-26), by decide +kernel, rfl, by decide⟩
theorem dX4_isSameAs_44 : At cX4_isSameAs 44 (.iconst 1) 1 45 := ⟨by decide +kernel, rfl⟩
theorem dX4_isSameAs_45 : At cX4_isSameAs 45 (.ireturn) 1 46 := ⟨by decide +kernel, rfl⟩
theorem dX5_init_0 : At cX5_init 0 (.aload_n 0) 1 1 := ⟨by decide +kernel, rfl⟩
theorem dX5_init_1 : At cX5_init 1 (.invokespecial 3) 3 4 := ⟨by decide +kernel, rfl⟩
theorem dX5_init_4 : At cX5_init 4 (.aload_n 0) 1 5 := ⟨by decide +kernel, rfl⟩
theorem dX5_init_5 : At cX5_init 5 (.new 9) 3 8 := ⟨by decide +kernel, rfl⟩
theorem dX5_init_8 : At cX5_init 8 (.dup) 1 9 := ⟨by decide +kernel, rfl⟩
theorem dX5_init_9 : At cX5_init 9 (.invokespecial 11) 3 12 := ⟨by decide +kernel, rfl⟩
theorem dX5_init_12 : At cX5_init 12 (.putfield 12) 3 15 := ⟨by decide +kernel, rfl⟩
theorem dX5_init_15 : At cX5_init 15 (.aload_n 0) 1 16 := ⟨by decide +kernel, rfl⟩
theorem dX5_init_16 : At cX5_init 16 (.new 16) 3 19 := ⟨by decide +kernel, rfl⟩
theorem dX5_init_19 : At cX5_init 19 (.dup) 1 20 := ⟨by decide +kernel, rfl⟩
theorem dX5_init_20 : At cX5_init 20 (.invokespecial 18) 3 23 := ⟨by decide +kernel, rfl⟩
theorem dX5_init_23 : At cX5_init 23 (.putfield 19) 3 26 := ⟨by decide +kernel, rfl⟩
theorem dX5_init_26 : At cX5_init 26 (.aload_n 0) 1 27 := ⟨by decide +kernel, rfl⟩
theorem dX5_init_27 : At cX5_init 27 (.iconst 2) 1 28 := ⟨by decide +kernel, rfl⟩
theorem dX5_init_28 : At cX5_init 28 (.anewarray 9) 3 31 := ⟨by decide +kernel, rfl⟩
theorem dX5_init_31 : At cX5_init 31 (.putfield 23) 3 34 := ⟨by decide +kernel, rfl⟩
theorem dX5_init_34 : At cX5_init 34 (.iconst 0) 1 35 := ⟨by decide +kernel, rfl⟩
theorem dX5_init_35 : At cX5_init 35 (.istore_n 1) 1 36 := ⟨by decide +kernel, rfl⟩
theorem dX5_init_36 : At cX5_init 36 (.iload_n 1) 1 37 := ⟨by decide +kernel, rfl⟩
theorem dX5_init_37 : At cX5_init 37 (.iconst 2) 1 38 := ⟨by decide +kernel, rfl⟩
theorem dX5_init_38 : Br cX5_init 38 (.if_icmp .ge) 41 60 := ⟨(22), by decide +kernel, rfl, by decide⟩
theorem dX5_init_41 : At cX5_init 41 (.aload_n 0) 1 42 := ⟨by decide +kernel, rfl⟩
theorem dX5_init_42 : At cX5_init 42 (.getfield 23) 3 45 := ⟨by decide +kernel, rfl⟩
theorem dX5_init_45 : At cX5_init 45 (.iload_n 1) 1 46 := ⟨by decide +kernel, rfl⟩
theorem dX5_init_46 : At cX5_init 46 (.new 9) 3 49 := ⟨by decide +kernel, rfl⟩
theorem dX5_init_49 : At cX5_init 49 (.dup) 1 50 := ⟨by decide +kernel, rfl⟩
theorem dX5_init_50 : At cX5_init 50 (.invokespecial 11) 3 53 := ⟨by decide +kernel, rfl⟩
theorem dX5_init_53 : At cX5_init 53 (.aastore) 1 54 := ⟨by decide +kernel, rfl⟩
theorem dX5_init_54 : At cX5_init 54 (.iinc 1 1) 3 57 := ⟨by decide +kernel, rfl⟩
theorem dX5_init_57 : Br cX5_init 57 .goto 60 36 := ⟨(-21), by decide +kernel, rfl, by decide⟩
theorem dX5_init_60 : At cX5_init 60 (.aload_n 0) 1 61 := ⟨by decide +kernel, rfl⟩
theorem dX5_init_61 : At cX5_init 61 (.iconst 2) 1 62 := ⟨by decide +kernel, rfl⟩
theorem dX5_init_62 : At cX5_init 62 (.newarray .boolean) 2 64 := ⟨by decide +kernel, rfl⟩
theorem dX5_init_64 : At cX5_init 64 (.putfield 27) 3 67 := ⟨by decide +kernel, rfl⟩
theorem dX5_init_67 : At cX5_init 67 (.aload_n 0) 1 68 := ⟨by decide +kernel, rfl⟩
theorem dX5_init_68 : At cX5_init 68 (.new 31) 3 71 := ⟨by decide +kernel, rfl⟩
theorem dX5_init_71 : At cX5_init 71 (.dup) 1 72 := ⟨by decide +kernel, rfl⟩
theorem dX5_init_72 : At cX5_init 72 (.invokespecial 33) 3 75 := ⟨by decide +kernel, rfl⟩
theorem dX5_init_75 : At cX5_init 75 (.putfield 34) 3 78 := ⟨by decide +kernel, rfl⟩
theorem dX5_init_78 : At cX5_init 78 (.aload_n 0) 1 79 := ⟨by decide +kernel, rfl⟩
theorem dX5_init_79 : At cX5_init 79 (.new 38) 3 82 := ⟨by decide +kernel, rfl⟩
theorem dX5_init_82 : At cX5_init 82 (.dup) 1 83 := ⟨by decide +kernel, rfl⟩
theorem dX5_init_83 : At cX5_init 83 (.invokespecial 40) 3 86 := ⟨by decide +kernel, rfl⟩
theorem dX5_init_86 : At cX5_init 86 (.putfield 41) 3 89 := ⟨by decide +kernel, rfl⟩
theorem dX5_init_89 : At cX5_init 89 (.aload_n 0) 1 90 := ⟨by decide +kernel, rfl⟩
theorem dX5_init_90 : At cX5_init 90 (.new 45) 3 93 := ⟨by decide +kernel, rfl⟩
theorem dX5_init_93 : At cX5_init 93 (.dup) 1 94 := ⟨by decide +kernel, rfl⟩
theorem dX5_init_94 : At cX5_init 94 (.sipush 480) 3 97 := ⟨by decide +kernel, rfl⟩
theorem dX5_init_97 : At cX5_init 97 (.invokespecial 47) 3 100 := ⟨by decide +kernel, rfl⟩
theorem dX5_init_100 : At cX5_init 100 (.putfield 50) 3 103 := ⟨by decide +kernel, rfl⟩
theorem dX5_init_103 : At cX5_init 103 (.aload_n 0) 1 104 := ⟨by decide +kernel, rfl⟩
theorem dX5_init_104 : At cX5_init 104 (.new 45) 3 107 := ⟨by decide +kernel, rfl⟩
theorem dX5_init_107 : At cX5_init 107 (.dup) 1 108 := ⟨by decide +kernel, rfl⟩
theorem dX5_init_108 : At cX5_init 108 (.sipush 480) 3 111 := ⟨by decide +kernel, rfl⟩
theorem dX5_init_111 : At cX5_init 111 (.invokespecial 47) 3 114 := ⟨by decide +kernel, rfl⟩
theorem dX5_init_114 : At cX5_init 114 (.putfield 54) 3 117 := ⟨by decide +kernel, rfl⟩
theorem dX5_init_117 : At cX5_init 117 (.aload_n 0) 1 118 := ⟨by decide +kernel, rfl⟩
theorem dX5_init_118 : At cX5_init 118 (.new 45) 3 121 := ⟨by decide +kernel, rfl⟩
theorem dX5_init_121 : At cX5_init 121 (.dup) 1 122 := ⟨by decide +kernel, rfl⟩
theorem dX5_init_122 : At cX5_init 122 (.sipush 480) 3 125 := ⟨by decide +kernel, rfl⟩
theorem dX5_init_125 : At cX5_init 125 (.invokespecial 47) 3 128 := ⟨by decide +kernel, rfl⟩
theorem dX5_init_128 : At cX5_init 128 (.putfield 57) 3 131 := ⟨by decide +kernel, rfl⟩
theorem dX5_init_131 : At cX5_init 131 (.return_) 1 132 := ⟨by decide +kernel, rfl⟩
theorem dX5_width_0 : At cX5_width 0 (.iload_n 1) 1 1 := ⟨by decide +kernel, rfl⟩
theorem dX5_width_1 : At cX5_width 1 (.invokestatic 60) 3 4 := ⟨by decide +kernel, rfl⟩
theorem dX5_width_4 : Br cX5_width 4 (.ifCond .ne) 7 9 := ⟨(5), by decide +kernel, rfl, by decide⟩
theorem dX5_width_7 : At cX5_width 7 (.iconst (-1)) 1 8 := ⟨by decide +kernel, rfl⟩
theorem dX5_width_8 : At cX5_width 8 (.ireturn) 1 9 := ⟨by decide +kernel, rfl⟩
theorem dX5_width_9 : At cX5_width 9 (.iload_n 2) 1 10 := ⟨by decide +kernel, rfl⟩
theorem dX5_width_10 : At cX5_width 10 (.iconst 1) 1 11 := ⟨by decide +kernel, rfl⟩
theorem dX5_width_11 : Br cX5_width 11 (.if_icmp .lt) 14 20 := ⟨(9), by decide +kernel, rfl, by decide⟩
theorem dX5_width_14 : At cX5_width 14 (.iload_n 2) 1 15 := ⟨by decide +kernel, rfl⟩
theorem dX5_width_15 : At cX5_width 15 (.bipush 99) 2 17 := ⟨by decide +kernel, rfl⟩
theorem dX5_width_17 : Br cX5_width 17 (.if_icmp .le) 20 23 := ⟨(6), by decide +kernel, rfl, by decide⟩
theorem dX5_width_20 : At cX5_width 20 (.bipush (-2)) 2 22 := ⟨by decide +kernel, rfl⟩
theorem dX5_width_22 : At cX5_width 22 (.ireturn) 1 23 := ⟨by decide +kernel, rfl⟩
theorem dX5_width_23 : At cX5_width 23 (.aload_n 0) 1 24 := ⟨by decide +kernel, rfl⟩
theorem dX5_width_24 : At cX5_width 24 (.getfield 19) 3 27 := ⟨by decide +kernel, rfl⟩
theorem dX5_width_27 : At cX5_width 27 (.aload_n 0) 1 28 := ⟨by decide +kernel, rfl⟩
theorem dX5_width_28 : At cX5_width 28 (.getfield 12) 3 31 := ⟨by decide +kernel, rfl⟩
theorem dX5_width_31 : At cX5_width 31 (.invokevirtual 64) 3 34 := ⟨by decide +kernel, rfl⟩
theorem dX5_width_34 : At cX5_width 34 (.aload_n 0) 1 35 := ⟨by decide +kernel, rfl⟩
theorem dX5_width_35 : At cX5_width 35 (.getfield 12) 3 38 := ⟨by decide +kernel, rfl⟩
theorem dX5_width_38 : At cX5_width 38 (.getfield 68) 3 41 := ⟨by decide +kernel, rfl⟩
theorem dX5_width_41 : At cX5_width 41 (.iload_n 1) 1 42 := ⟨by decide +kernel, rfl⟩
theorem dX5_width_42 : At cX5_width 42 (.iaload) 1 43 := ⟨by decide +kernel, rfl⟩
theorem dX5_width_43 : At cX5_width 43 (.istore_n 3) 1 44 := ⟨by decide +kernel, rfl⟩
theorem dX5_width_44 : At cX5_width 44 (.aload_n 0) 1 45 := ⟨by decide +kernel, rfl⟩
theorem dX5_width_45 : At cX5_width 45 (.getfield 12) 3 48 := ⟨by decide +kernel, rfl⟩
theorem dX5_width_48 : At cX5_width 48 (.getfield 68) 3 51 := ⟨by decide +kernel, rfl⟩
theorem dX5_width_51 : At cX5_width 51 (.iload_n 1) 1 52 := ⟨by decide +kernel, rfl⟩
theorem dX5_width_52 : At cX5_width 52 (.iload_n 2) 1 53 := ⟨by decide +kernel, rfl⟩
theorem dX5_width_53 : At cX5_width 53 (.iastore) 1 54 := ⟨by decide +kernel, rfl⟩
theorem dX5_width_54 : At cX5_width 54 (.iload_n 3) 1 55 := ⟨by decide +kernel, rfl⟩
theorem dX5_width_55 : At cX5_width 55 (.ireturn) 1 56 := ⟨by decide +kernel, rfl⟩
theorem dX5_cross_0 : At cX5_cross 0 (.iload_n 1) 1 1 := ⟨by decide +kernel, rfl⟩
theorem dX5_cross_1 : At cX5_cross 1 (.invokestatic 72) 3 4 := ⟨by decide +kernel, rfl⟩
theorem dX5_cross_4 : Br cX5_cross 4 (.ifCond .ne) 7 9 := ⟨(5), by decide +kernel, rfl, by decide⟩
theorem dX5_cross_7 : At cX5_cross 7 (.iconst (-1)) 1 8 := ⟨by decide +kernel, rfl⟩
theorem dX5_cross_8 : At cX5_cross 8 (.ireturn) 1 9 := ⟨by decide +kernel, rfl⟩
theorem dX5_cross_9 : At cX5_cross 9 (.iload_n 2) 1 10 := ⟨by decide +kernel, rfl⟩
theorem dX5_cross_10 : Br cX5_cross 10 (.ifCond .lt) 13 19 := ⟨(9), by decide +kernel, rfl, by decide⟩
theorem dX5_cross_13 : At cX5_cross 13 (.iload_n 2) 1 14 := ⟨by decide +kernel, rfl⟩
theorem dX5_cross_14 : At cX5_cross 14 (.bipush 12) 2 16 := ⟨by decide +kernel, rfl⟩
theorem dX5_cross_16 : Br cX5_cross 16 (.if_icmp .lt) 19 22 := ⟨(6), by decide +kernel, rfl, by decide⟩
theorem dX5_cross_19 : At cX5_cross 19 (.bipush (-2)) 2 21 := ⟨by decide +kernel, rfl⟩
theorem dX5_cross_21 : At cX5_cross 21 (.ireturn) 1 22 := ⟨by decide +kernel, rfl⟩
theorem dX5_cross_22 : At cX5_cross 22 (.aload_n 0) 1 23 := ⟨by decide +kernel, rfl⟩
theorem dX5_cross_23 : At cX5_cross 23 (.getfield 12) 3 26 := ⟨by decide +kernel, rfl⟩
theorem dX5_cross_26 : At cX5_cross 26 (.getfield 75) 3 29 := ⟨by decide +kernel, rfl⟩
theorem dX5_cross_29 : At cX5_cross 29 (.iload_n 1) 1 30 := ⟨by decide +kernel, rfl⟩
theorem dX5_cross_30 : At cX5_cross 30 (.aaload) 1 31 := ⟨by decide +kernel, rfl⟩
theorem dX5_cross_31 : At cX5_cross 31 (.astore_n 3) 1 32 := ⟨by decide +kernel, rfl⟩
theorem dX5_cross_32 : At cX5_cross 32 (.aload_n 3) 1 33 := ⟨by decide +kernel, rfl⟩
theorem dX5_cross_33 : At cX5_cross 33 (.getfield 79) 3 36 := ⟨by decide +kernel, rfl⟩
theorem dX5_cross_36 : At cX5_cross 36 (.bipush 120) 2 38 := ⟨by decide +kernel, rfl⟩
theorem dX5_cross_38 : Br cX5_cross 38 (.if_icmp .lt) 41 44 := ⟨(6), by decide +kernel, rfl, by decide⟩
theorem dX5_cross_41 : At cX5_cross 41 (.bipush (-4)) 2 43 := ⟨by decide +kernel, rfl⟩
theorem dX5_cross_43 : At cX5_cross 43 (.ireturn) 1 44 := ⟨by decide +kernel, rfl⟩
theorem dX5_cross_44 : At cX5_cross 44 (.aload_n 0) 1 45 := ⟨by decide +kernel, rfl⟩
theorem dX5_cross_45 : At cX5_cross 45 (.getfield 19) 3 48 := ⟨by decide +kernel, rfl⟩
theorem dX5_cross_48 : At cX5_cross 48 (.aload_n 0) 1 49 := ⟨by decide +kernel, rfl⟩
theorem dX5_cross_49 : At cX5_cross 49 (.getfield 12) 3 52 := ⟨by decide +kernel, rfl⟩
theorem dX5_cross_52 : At cX5_cross 52 (.invokevirtual 64) 3 55 := ⟨by decide +kernel, rfl⟩
theorem dX5_cross_55 : At cX5_cross 55 (.aload_n 3) 1 56 := ⟨by decide +kernel, rfl⟩
theorem dX5_cross_56 : At cX5_cross 56 (.iload_n 2) 1 57 := ⟨by decide +kernel, rfl⟩
theorem dX5_cross_57 : At cX5_cross 57 (.invokevirtual 83) 3 60 := ⟨by decide +kernel, rfl⟩
theorem dX5_cross_60 : At cX5_cross 60 (.pop) 1 61 := ⟨by decide +kernel, rfl⟩
theorem dX5_cross_61 : At cX5_cross 61 (.aload_n 3) 1 62 := ⟨by decide +kernel, rfl⟩
theorem dX5_cross_62 : At cX5_cross 62 (.getfield 79) 3 65 := ⟨by decide +kernel, rfl⟩
theorem dX5_cross_65 : At cX5_cross 65 (.ireturn) 1 66 := ⟨by decide +kernel, rfl⟩
theorem dX5_back_0 : At cX5_back 0 (.iload_n 1) 1 1 := ⟨by decide +kernel, rfl⟩
theorem dX5_back_1 : At cX5_back 1 (.invokestatic 72) 3 4 := ⟨by decide +kernel, rfl⟩
theorem dX5_back_4 : Br cX5_back 4 (.ifCond .ne) 7 9 := ⟨(5), by decide +kernel, rfl, by decide⟩
theorem dX5_back_7 : At cX5_back 7 (.iconst (-1)) 1 8 := ⟨by decide +kernel, rfl⟩
theorem dX5_back_8 : At cX5_back 8 (.ireturn) 1 9 := ⟨by decide +kernel, rfl⟩
theorem dX5_back_9 : At cX5_back 9 (.iload_n 2) 1 10 := ⟨by decide +kernel, rfl⟩
theorem dX5_back_10 : At cX5_back 10 (.iconst 1) 1 11 := ⟨by decide +kernel, rfl⟩
theorem dX5_back_11 : Br cX5_back 11 (.if_icmp .lt) 14 20 := ⟨(9), by decide +kernel, rfl, by decide⟩
theorem dX5_back_14 : At cX5_back 14 (.iload_n 2) 1 15 := ⟨by decide +kernel, rfl⟩
theorem dX5_back_15 : At cX5_back 15 (.bipush 120) 2 17 := ⟨by decide +kernel, rfl⟩
theorem dX5_back_17 : Br cX5_back 17 (.if_icmp .le) 20 23 := ⟨(6), by decide +kernel, rfl, by decide⟩
theorem dX5_back_20 : At cX5_back 20 (.bipush (-2)) 2 22 := ⟨by decide +kernel, rfl⟩
theorem dX5_back_22 : At cX5_back 22 (.ireturn) 1 23 := ⟨by decide +kernel, rfl⟩
theorem dX5_back_23 : At cX5_back 23 (.aload_n 0) 1 24 := ⟨by decide +kernel, rfl⟩
theorem dX5_back_24 : At cX5_back 24 (.getfield 12) 3 27 := ⟨by decide +kernel, rfl⟩
theorem dX5_back_27 : At cX5_back 27 (.getfield 75) 3 30 := ⟨by decide +kernel, rfl⟩
theorem dX5_back_30 : At cX5_back 30 (.iload_n 1) 1 31 := ⟨by decide +kernel, rfl⟩
theorem dX5_back_31 : At cX5_back 31 (.aaload) 1 32 := ⟨by decide +kernel, rfl⟩
theorem dX5_back_32 : At cX5_back 32 (.astore_n 3) 1 33 := ⟨by decide +kernel, rfl⟩
theorem dX5_back_33 : At cX5_back 33 (.iload_n 2) 1 34 := ⟨by decide +kernel, rfl⟩
theorem dX5_back_34 : At cX5_back 34 (.aload_n 3) 1 35 := ⟨by decide +kernel, rfl⟩
theorem dX5_back_35 : At cX5_back 35 (.getfield 79) 3 38 := ⟨by decide +kernel, rfl⟩
theorem dX5_back_38 : Br cX5_back 38 (.if_icmp .le) 41 44 := ⟨(6), by decide +kernel, rfl, by decide⟩
theorem dX5_back_41 : At cX5_back 41 (.bipush (-5)) 2 43 := ⟨by decide +kernel, rfl⟩
theorem dX5_back_43 : At cX5_back 43 (.ireturn) 1 44 := ⟨by decide +kernel, rfl⟩
theorem dX5_back_44 : At cX5_back 44 (.aload_n 0) 1 45 := ⟨by decide +kernel, rfl⟩
theorem dX5_back_45 : At cX5_back 45 (.getfield 19) 3 48 := ⟨by decide +kernel, rfl⟩
theorem dX5_back_48 : At cX5_back 48 (.aload_n 0) 1 49 := ⟨by decide +kernel, rfl⟩
theorem dX5_back_49 : At cX5_back 49 (.getfield 12) 3 52 := ⟨by decide +kernel, rfl⟩
theorem dX5_back_52 : At cX5_back 52 (.invokevirtual 64) 3 55 := ⟨by decide +kernel, rfl⟩
theorem dX5_back_55 : At cX5_back 55 (.aload_n 3) 1 56 := ⟨by decide +kernel, rfl⟩
theorem dX5_back_56 : At cX5_back 56 (.iload_n 2) 1 57 := ⟨by decide +kernel, rfl⟩
theorem dX5_back_57 : At cX5_back 57 (.invokevirtual 86) 3 60 := ⟨by decide +kernel, rfl⟩
theorem dX5_back_60 : At cX5_back 60 (.aload_n 3) 1 61 := ⟨by decide +kernel, rfl⟩
theorem dX5_back_61 : At cX5_back 61 (.getfield 79) 3 64 := ⟨by decide +kernel, rfl⟩
theorem dX5_back_64 : At cX5_back 64 (.ireturn) 1 65 := ⟨by decide +kernel, rfl⟩
theorem dX5_pull_0 : At cX5_pull 0 (.iload_n 1) 1 1 := ⟨by decide +kernel, rfl⟩
theorem dX5_pull_1 : At cX5_pull 1 (.invokestatic 72) 3 4 := ⟨by decide +kernel, rfl⟩
theorem dX5_pull_4 : Br cX5_pull 4 (.ifCond .ne) 7 9 := ⟨(5), by decide +kernel, rfl, by decide⟩
theorem dX5_pull_7 : At cX5_pull 7 (.iconst (-1)) 1 8 := ⟨by decide +kernel, rfl⟩
theorem dX5_pull_8 : At cX5_pull 8 (.ireturn) 1 9 := ⟨by decide +kernel, rfl⟩
theorem dX5_pull_9 : At cX5_pull 9 (.aload_n 0) 1 10 := ⟨by decide +kernel, rfl⟩
theorem dX5_pull_10 : At cX5_pull 10 (.getfield 19) 3 13 := ⟨by decide +kernel, rfl⟩
theorem dX5_pull_13 : At cX5_pull 13 (.aload_n 0) 1 14 := ⟨by decide +kernel, rfl⟩
theorem dX5_pull_14 : At cX5_pull 14 (.getfield 12) 3 17 := ⟨by decide +kernel, rfl⟩
theorem dX5_pull_17 : At cX5_pull 17 (.invokevirtual 64) 3 20 := ⟨by decide +kernel, rfl⟩
theorem dX5_pull_20 : At cX5_pull 20 (.aload_n 0) 1 21 := ⟨by decide +kernel, rfl⟩
theorem dX5_pull_21 : At cX5_pull 21 (.getfield 12) 3 24 := ⟨by decide +kernel, rfl⟩
theorem dX5_pull_24 : At cX5_pull 24 (.getfield 75) 3 27 := ⟨by decide +kernel, rfl⟩
theorem dX5_pull_27 : At cX5_pull 27 (.iload_n 1) 1 28 := ⟨by decide +kernel, rfl⟩
theorem dX5_pull_28 : At cX5_pull 28 (.aaload) 1 29 := ⟨by decide +kernel, rfl⟩
theorem dX5_pull_29 : At cX5_pull 29 (.invokevirtual 89) 3 32 := ⟨by decide +kernel, rfl⟩
theorem dX5_pull_32 : At cX5_pull 32 (.ireturn) 1 33 := ⟨by decide +kernel, rfl⟩
theorem dX5_join_0 : At cX5_join 0 (.iload_n 1) 1 1 := ⟨by decide +kernel, rfl⟩
theorem dX5_join_1 : At cX5_join 1 (.invokestatic 72) 3 4 := ⟨by decide +kernel, rfl⟩
theorem dX5_join_4 : Br cX5_join 4 (.ifCond .eq) 7 14 := ⟨(10), by decide +kernel, rfl, by decide⟩
theorem dX5_join_7 : At cX5_join 7 (.iload_n 2) 1 8 := ⟨by decide +kernel, rfl⟩
theorem dX5_join_8 : At cX5_join 8 (.invokestatic 72) 3 11 := ⟨by decide +kernel, rfl⟩
theorem dX5_join_11 : Br cX5_join 11 (.ifCond .ne) 14 16 := ⟨(5), by decide +kernel, rfl, by decide⟩
theorem dX5_join_14 : At cX5_join 14 (.iconst (-1)) 1 15 := ⟨by decide +kernel, rfl⟩
theorem dX5_join_15 : At cX5_join 15 (.ireturn) 1 16 := ⟨by decide +kernel, rfl⟩
theorem dX5_join_16 : At cX5_join 16 (.aload_n 0) 1 17 := ⟨by decide +kernel, rfl⟩
theorem dX5_join_17 : At cX5_join 17 (.getfield 12) 3 20 := ⟨by decide +kernel, rfl⟩
theorem dX5_join_20 : At cX5_join 20 (.getfield 75) 3 23 := ⟨by decide +kernel, rfl⟩
theorem dX5_join_23 : At cX5_join 23 (.iload_n 1) 1 24 := ⟨by decide +kernel, rfl⟩
theorem dX5_join_24 : At cX5_join 24 (.aaload) 1 25 := ⟨by decide +kernel, rfl⟩
theorem dX5_join_25 : At cX5_join 25 (.astore_n 3) 1 26 := ⟨by decide +kernel, rfl⟩
theorem dX5_join_26 : At cX5_join 26 (.aload_n 3) 1 27 := ⟨by decide +kernel, rfl⟩
theorem dX5_join_27 : At cX5_join 27 (.getfield 79) 3 30 := ⟨by decide +kernel, rfl⟩
theorem dX5_join_30 : At cX5_join 30 (.aload_n 0) 1 31 := ⟨by decide +kernel, rfl⟩
theorem dX5_join_31 : At cX5_join 31 (.getfield 12) 3 34 := ⟨by decide +kernel, rfl⟩
theorem dX5_join_34 : At cX5_join 34 (.getfield 75) 3 37 := ⟨by decide +kernel, rfl⟩
theorem dX5_join_37 : At cX5_join 37 (.iload_n 2) 1 38 := ⟨by decide +kernel, rfl⟩
theorem dX5_join_38 : At cX5_join 38 (.aaload) 1 39 := ⟨by decide +kernel, rfl⟩
theorem dX5_join_39 : At cX5_join 39 (.getfield 79) 3 42 := ⟨by decide +kernel, rfl⟩
theorem dX5_join_42 : At cX5_join 42 (.iadd) 1 43 := ⟨by decide +kernel, rfl⟩
theorem dX5_join_43 : At cX5_join 43 (.bipush 120) 2 45 := ⟨by decide +kernel, rfl⟩
theorem dX5_join_45 : Br cX5_join 45 (.if_icmp .le) 48 51 := ⟨(6), by decide +kernel, rfl, by decide⟩
theorem dX5_join_48 : At cX5_join 48 (.bipush (-4)) 2 50 := ⟨by decide +kernel, rfl⟩
theorem dX5_join_50 : At cX5_join 50 (.ireturn) 1 51 := ⟨by decide +kernel, rfl⟩
theorem dX5_join_51 : At cX5_join 51 (.aload_n 0) 1 52 := ⟨by decide +kernel, rfl⟩
theorem dX5_join_52 : At cX5_join 52 (.getfield 19) 3 55 := ⟨by decide +kernel, rfl⟩
theorem dX5_join_55 : At cX5_join 55 (.aload_n 0) 1 56 := ⟨by decide +kernel, rfl⟩
theorem dX5_join_56 : At cX5_join 56 (.getfield 12) 3 59 := ⟨by decide +kernel, rfl⟩
theorem dX5_join_59 : At cX5_join 59 (.invokevirtual 64) 3 62 := ⟨by decide +kernel, rfl⟩
theorem dX5_join_62 : At cX5_join 62 (.aload_n 3) 1 63 := ⟨by decide +kernel, rfl⟩
theorem dX5_join_63 : At cX5_join 63 (.aload_n 0) 1 64 := ⟨by decide +kernel, rfl⟩
theorem dX5_join_64 : At cX5_join 64 (.getfield 12) 3 67 := ⟨by decide +kernel, rfl⟩
theorem dX5_join_67 : At cX5_join 67 (.getfield 75) 3 70 := ⟨by decide +kernel, rfl⟩
theorem dX5_join_70 : At cX5_join 70 (.iload_n 2) 1 71 := ⟨by decide +kernel, rfl⟩
theorem dX5_join_71 : At cX5_join 71 (.aaload) 1 72 := ⟨by decide +kernel, rfl⟩
theorem dX5_join_72 : At cX5_join 72 (.invokevirtual 93) 3 75 := ⟨by decide +kernel, rfl⟩
theorem dX5_join_75 : At cX5_join 75 (.aload_n 3) 1 76 := ⟨by decide +kernel, rfl⟩
theorem dX5_join_76 : At cX5_join 76 (.getfield 79) 3 79 := ⟨by decide +kernel, rfl⟩
theorem dX5_join_79 : At cX5_join 79 (.ireturn) 1 80 := ⟨by decide +kernel, rfl⟩
theorem dX5_turn_0 : At cX5_turn 0 (.iload_n 1) 1 1 := ⟨by decide +kernel, rfl⟩
theorem dX5_turn_1 : At cX5_turn 1 (.invokestatic 72) 3 4 := ⟨by decide +kernel, rfl⟩
theorem dX5_turn_4 : Br cX5_turn 4 (.ifCond .ne) 7 9 := ⟨(5), by decide +kernel, rfl, by decide⟩
theorem dX5_turn_7 : At cX5_turn 7 (.iconst (-1)) 1 8 := ⟨by decide +kernel, rfl⟩
theorem dX5_turn_8 : At cX5_turn 8 (.ireturn) 1 9 := ⟨by decide +kernel, rfl⟩
theorem dX5_turn_9 : At cX5_turn 9 (.aload_n 0) 1 10 := ⟨by decide +kernel, rfl⟩
theorem dX5_turn_10 : At cX5_turn 10 (.getfield 19) 3 13 := ⟨by decide +kernel, rfl⟩
theorem dX5_turn_13 : At cX5_turn 13 (.aload_n 0) 1 14 := ⟨by decide +kernel, rfl⟩
theorem dX5_turn_14 : At cX5_turn 14 (.getfield 12) 3 17 := ⟨by decide +kernel, rfl⟩
theorem dX5_turn_17 : At cX5_turn 17 (.invokevirtual 64) 3 20 := ⟨by decide +kernel, rfl⟩
theorem dX5_turn_20 : At cX5_turn 20 (.aload_n 0) 1 21 := ⟨by decide +kernel, rfl⟩
theorem dX5_turn_21 : At cX5_turn 21 (.getfield 12) 3 24 := ⟨by decide +kernel, rfl⟩
theorem dX5_turn_24 : At cX5_turn 24 (.getfield 75) 3 27 := ⟨by decide +kernel, rfl⟩
theorem dX5_turn_27 : At cX5_turn 27 (.iload_n 1) 1 28 := ⟨by decide +kernel, rfl⟩
theorem dX5_turn_28 : At cX5_turn 28 (.aaload) 1 29 := ⟨by decide +kernel, rfl⟩
theorem dX5_turn_29 : At cX5_turn 29 (.astore_n 2) 1 30 := ⟨by decide +kernel, rfl⟩
theorem dX5_turn_30 : At cX5_turn 30 (.aload_n 2) 1 31 := ⟨by decide +kernel, rfl⟩
theorem dX5_turn_31 : At cX5_turn 31 (.iconst 0) 1 32 := ⟨by decide +kernel, rfl⟩
theorem dX5_turn_32 : At cX5_turn 32 (.invokevirtual 97) 3 35 := ⟨by decide +kernel, rfl⟩
theorem dX5_turn_35 : At cX5_turn 35 (.aload_n 2) 1 36 := ⟨by decide +kernel, rfl⟩
theorem dX5_turn_36 : At cX5_turn 36 (.getfield 79) 3 39 := ⟨by decide +kernel, rfl⟩
theorem dX5_turn_39 : At cX5_turn 39 (.ireturn) 1 40 := ⟨by decide +kernel, rfl⟩
theorem dX5_weave_0 : At cX5_weave 0 (.iload_n 1) 1 1 := ⟨by decide +kernel, rfl⟩
theorem dX5_weave_1 : At cX5_weave 1 (.invokestatic 72) 3 4 := ⟨by decide +kernel, rfl⟩
theorem dX5_weave_4 : Br cX5_weave 4 (.ifCond .eq) 7 19 := ⟨(15), by decide +kernel, rfl, by decide⟩
theorem dX5_weave_7 : At cX5_weave 7 (.iload_n 2) 1 8 := ⟨by decide +kernel, rfl⟩
theorem dX5_weave_8 : At cX5_weave 8 (.invokestatic 72) 3 11 := ⟨by decide +kernel, rfl⟩
theorem dX5_weave_11 : Br cX5_weave 11 (.ifCond .eq) 14 19 := ⟨(8), by decide +kernel, rfl, by decide⟩
theorem dX5_weave_14 : At cX5_weave 14 (.iload_n 1) 1 15 := ⟨by decide +kernel, rfl⟩
theorem dX5_weave_15 : At cX5_weave 15 (.iload_n 2) 1 16 := ⟨by decide +kernel, rfl⟩
theorem dX5_weave_16 : Br cX5_weave 16 (.if_icmp .ne) 19 21 := ⟨(5), by decide +kernel, rfl, by decide⟩
theorem dX5_weave_19 : At cX5_weave 19 (.iconst (-1)) 1 20 := ⟨by decide +kernel, rfl⟩
theorem dX5_weave_20 : At cX5_weave 20 (.ireturn) 1 21 := ⟨by decide +kernel, rfl⟩
theorem dX5_weave_21 : At cX5_weave 21 (.aload_n 0) 1 22 := ⟨by decide +kernel, rfl⟩
theorem dX5_weave_22 : At cX5_weave 22 (.getfield 12) 3 25 := ⟨by decide +kernel, rfl⟩
theorem dX5_weave_25 : At cX5_weave 25 (.getfield 75) 3 28 := ⟨by decide +kernel, rfl⟩
theorem dX5_weave_28 : At cX5_weave 28 (.iload_n 1) 1 29 := ⟨by decide +kernel, rfl⟩
theorem dX5_weave_29 : At cX5_weave 29 (.aaload) 1 30 := ⟨by decide +kernel, rfl⟩
theorem dX5_weave_30 : At cX5_weave 30 (.astore_n 3) 1 31 := ⟨by decide +kernel, rfl⟩
theorem dX5_weave_31 : At cX5_weave 31 (.aload_n 0) 1 32 := ⟨by decide +kernel, rfl⟩
theorem dX5_weave_32 : At cX5_weave 32 (.getfield 50) 3 35 := ⟨by decide +kernel, rfl⟩
theorem dX5_weave_35 : At cX5_weave 35 (.invokevirtual 100) 3 38 := ⟨by decide +kernel, rfl⟩
theorem dX5_weave_38 : At cX5_weave 38 (.aload_n 0) 1 39 := ⟨by decide +kernel, rfl⟩
theorem dX5_weave_39 : At cX5_weave 39 (.getfield 50) 3 42 := ⟨by decide +kernel, rfl⟩
theorem dX5_weave_42 : At cX5_weave 42 (.aload_n 3) 1 43 := ⟨by decide +kernel, rfl⟩
theorem dX5_weave_43 : At cX5_weave 43 (.invokevirtual 93) 3 46 := ⟨by decide +kernel, rfl⟩
theorem dX5_weave_46 : At cX5_weave 46 (.aload_n 0) 1 47 := ⟨by decide +kernel, rfl⟩
theorem dX5_weave_47 : At cX5_weave 47 (.getfield 50) 3 50 := ⟨by decide +kernel, rfl⟩
theorem dX5_weave_50 : At cX5_weave 50 (.aload_n 0) 1 51 := ⟨by decide +kernel, rfl⟩
theorem dX5_weave_51 : At cX5_weave 51 (.getfield 12) 3 54 := ⟨by decide +kernel, rfl⟩
theorem dX5_weave_54 : At cX5_weave 54 (.getfield 75) 3 57 := ⟨by decide +kernel, rfl⟩
theorem dX5_weave_57 : At cX5_weave 57 (.iload_n 2) 1 58 := ⟨by decide +kernel, rfl⟩
theorem dX5_weave_58 : At cX5_weave 58 (.aaload) 1 59 := ⟨by decide +kernel, rfl⟩
theorem dX5_weave_59 : At cX5_weave 59 (.invokevirtual 93) 3 62 := ⟨by decide +kernel, rfl⟩
theorem dX5_weave_62 : At cX5_weave 62 (.aload_n 0) 1 63 := ⟨by decide +kernel, rfl⟩
theorem dX5_weave_63 : At cX5_weave 63 (.getfield 50) 3 66 := ⟨by decide +kernel, rfl⟩
theorem dX5_weave_66 : At cX5_weave 66 (.aload_n 3) 1 67 := ⟨by decide +kernel, rfl⟩
theorem dX5_weave_67 : At cX5_weave 67 (.invokevirtual 103) 3 70 := ⟨by decide +kernel, rfl⟩
theorem dX5_weave_70 : At cX5_weave 70 (.aload_n 0) 1 71 := ⟨by decide +kernel, rfl⟩
theorem dX5_weave_71 : At cX5_weave 71 (.getfield 50) 3 74 := ⟨by decide +kernel, rfl⟩
theorem dX5_weave_74 : At cX5_weave 74 (.aload_n 0) 1 75 := ⟨by decide +kernel, rfl⟩
theorem dX5_weave_75 : At cX5_weave 75 (.getfield 12) 3 78 := ⟨by decide +kernel, rfl⟩
theorem dX5_weave_78 : At cX5_weave 78 (.getfield 75) 3 81 := ⟨by decide +kernel, rfl⟩
theorem dX5_weave_81 : At cX5_weave 81 (.iload_n 2) 1 82 := ⟨by decide +kernel, rfl⟩
theorem dX5_weave_82 : At cX5_weave 82 (.aaload) 1 83 := ⟨by decide +kernel, rfl⟩
theorem dX5_weave_83 : At cX5_weave 83 (.invokevirtual 103) 3 86 := ⟨by decide +kernel, rfl⟩
theorem dX5_weave_86 : At cX5_weave 86 (.aload_n 0) 1 87 := ⟨by decide +kernel, rfl⟩
theorem dX5_weave_87 : At cX5_weave 87 (.getfield 50) 3 90 := ⟨by decide +kernel, rfl⟩
theorem dX5_weave_90 : At cX5_weave 90 (.invokevirtual 89) 3 93 := ⟨by decide +kernel, rfl⟩
theorem dX5_weave_93 : At cX5_weave 93 (.pop) 1 94 := ⟨by decide +kernel, rfl⟩
theorem dX5_weave_94 : At cX5_weave 94 (.aload_n 0) 1 95 := ⟨by decide +kernel, rfl⟩
theorem dX5_weave_95 : At cX5_weave 95 (.getfield 50) 3 98 := ⟨by decide +kernel, rfl⟩
theorem dX5_weave_98 : At cX5_weave 98 (.getfield 79) 3 101 := ⟨by decide +kernel, rfl⟩
theorem dX5_weave_101 : At cX5_weave 101 (.bipush 120) 2 103 := ⟨by decide +kernel, rfl⟩
theorem dX5_weave_103 : Br cX5_weave 103 (.if_icmp .le) 106 109 := ⟨(6), by decide +kernel, rfl, by decide⟩
theorem dX5_weave_106 : At cX5_weave 106 (.bipush (-4)) 2 108 := ⟨by decide +kernel, rfl⟩
theorem dX5_weave_108 : At cX5_weave 108 (.ireturn) 1 109 := ⟨by decide +kernel, rfl⟩
theorem dX5_weave_109 : At cX5_weave 109 (.aload_n 0) 1 110 := ⟨by decide +kernel, rfl⟩
theorem dX5_weave_110 : At cX5_weave 110 (.getfield 19) 3 113 := ⟨by decide +kernel, rfl⟩
theorem dX5_weave_113 : At cX5_weave 113 (.aload_n 0) 1 114 := ⟨by decide +kernel, rfl⟩
theorem dX5_weave_114 : At cX5_weave 114 (.getfield 12) 3 117 := ⟨by decide +kernel, rfl⟩
theorem dX5_weave_117 : At cX5_weave 117 (.invokevirtual 64) 3 120 := ⟨by decide +kernel, rfl⟩
theorem dX5_weave_120 : At cX5_weave 120 (.aload_n 3) 1 121 := ⟨by decide +kernel, rfl⟩
theorem dX5_weave_121 : At cX5_weave 121 (.aload_n 0) 1 122 := ⟨by decide +kernel, rfl⟩
theorem dX5_weave_122 : At cX5_weave 122 (.getfield 50) 3 125 := ⟨by decide +kernel, rfl⟩
theorem dX5_weave_125 : At cX5_weave 125 (.invokevirtual 106) 3 128 := ⟨by decide +kernel, rfl⟩
theorem dX5_weave_128 : At cX5_weave 128 (.aload_n 3) 1 129 := ⟨by decide +kernel, rfl⟩
theorem dX5_weave_129 : At cX5_weave 129 (.getfield 79) 3 132 := ⟨by decide +kernel, rfl⟩
theorem dX5_weave_132 : At cX5_weave 132 (.ireturn) 1 133 := ⟨by decide +kernel, rfl⟩
theorem dX5_swap_0 : At cX5_swap 0 (.iload_n 1) 1 1 := ⟨by decide +kernel, rfl⟩
theorem dX5_swap_1 : At cX5_swap 1 (.invokestatic 109) 3 4 := ⟨by decide +kernel, rfl⟩
theorem dX5_swap_4 : Br cX5_swap 4 (.ifCond .ne) 7 9 := ⟨(5), by decide +kernel, rfl, by decide⟩
theorem dX5_swap_7 : At cX5_swap 7 (.iconst (-1)) 1 8 := ⟨by decide +kernel, rfl⟩
theorem dX5_swap_8 : At cX5_swap 8 (.ireturn) 1 9 := ⟨by decide +kernel, rfl⟩
theorem dX5_swap_9 : At cX5_swap 9 (.iload_n 2) 1 10 := ⟨by decide +kernel, rfl⟩
theorem dX5_swap_10 : At cX5_swap 10 (.invokestatic 112) 3 13 := ⟨by decide +kernel, rfl⟩
theorem dX5_swap_13 : Br cX5_swap 13 (.ifCond .ne) 16 19 := ⟨(6), by decide +kernel, rfl, by decide⟩
theorem dX5_swap_16 : At cX5_swap 16 (.bipush (-2)) 2 18 := ⟨by decide +kernel, rfl⟩
theorem dX5_swap_18 : At cX5_swap 18 (.ireturn) 1 19 := ⟨by decide +kernel, rfl⟩
theorem dX5_swap_19 : At cX5_swap 19 (.iconst 0) 1 20 := ⟨by decide +kernel, rfl⟩
theorem dX5_swap_20 : At cX5_swap 20 (.istore_n 3) 1 21 := ⟨by decide +kernel, rfl⟩
theorem dX5_swap_21 : At cX5_swap 21 (.iload_n 3) 1 22 := ⟨by decide +kernel, rfl⟩
theorem dX5_swap_22 : At cX5_swap 22 (.iconst 4) 1 23 := ⟨by decide +kernel, rfl⟩
theorem dX5_swap_23 : Br cX5_swap 23 (.if_icmp .ge) 26 62 := ⟨(39), by decide +kernel, rfl, by decide⟩
theorem dX5_swap_26 : At cX5_swap 26 (.aload_n 0) 1 27 := ⟨by decide +kernel, rfl⟩
theorem dX5_swap_27 : At cX5_swap 27 (.aload_n 0) 1 28 := ⟨by decide +kernel, rfl⟩
theorem dX5_swap_28 : At cX5_swap 28 (.getfield 12) 3 31 := ⟨by decide +kernel, rfl⟩
theorem dX5_swap_31 : At cX5_swap 31 (.getfield 75) 3 34 := ⟨by decide +kernel, rfl⟩
theorem dX5_swap_34 : At cX5_swap 34 (.iload_n 3) 1 35 := ⟨by decide +kernel, rfl⟩
theorem dX5_swap_35 : At cX5_swap 35 (.aaload) 1 36 := ⟨by decide +kernel, rfl⟩
theorem dX5_swap_36 : At cX5_swap 36 (.iload_n 1) 1 37 := ⟨by decide +kernel, rfl⟩
theorem dX5_swap_37 : At cX5_swap 37 (.iload_n 2) 1 38 := ⟨by decide +kernel, rfl⟩
theorem dX5_swap_38 : At cX5_swap 38 (.invokevirtual 115) 3 41 := ⟨by decide +kernel, rfl⟩
theorem dX5_swap_41 : At cX5_swap 41 (.aload_n 0) 1 42 := ⟨by decide +kernel, rfl⟩
theorem dX5_swap_42 : At cX5_swap 42 (.getfield 50) 3 45 := ⟨by decide +kernel, rfl⟩
theorem dX5_swap_45 : At cX5_swap 45 (.getfield 79) 3 48 := ⟨by decide +kernel, rfl⟩
theorem dX5_swap_48 : At cX5_swap 48 (.bipush 120) 2 50 := ⟨by decide +kernel, rfl⟩
theorem dX5_swap_50 : Br cX5_swap 50 (.if_icmp .le) 53 56 := ⟨(6), by decide +kernel, rfl, by decide⟩
theorem dX5_swap_53 : At cX5_swap 53 (.bipush (-4)) 2 55 := ⟨by decide +kernel, rfl⟩
theorem dX5_swap_55 : At cX5_swap 55 (.ireturn) 1 56 := ⟨by decide +kernel, rfl⟩
theorem dX5_swap_56 : At cX5_swap 56 (.iinc 3 1) 3 59 := ⟨by decide +kernel, rfl⟩
theorem dX5_swap_59 : Br cX5_swap 59 .goto 62 21 := ⟨(-38), by decide +kernel, rfl, by decide⟩
theorem dX5_swap_62 : At cX5_swap 62 (.aload_n 0) 1 63 := ⟨by decide +kernel, rfl⟩
theorem dX5_swap_63 : At cX5_swap 63 (.getfield 19) 3 66 := ⟨by decide +kernel, rfl⟩
theorem dX5_swap_66 : At cX5_swap 66 (.aload_n 0) 1 67 := ⟨by decide +kernel, rfl⟩
theorem dX5_swap_67 : At cX5_swap 67 (.getfield 12) 3 70 := ⟨by decide +kernel, rfl⟩
theorem dX5_swap_70 : At cX5_swap 70 (.invokevirtual 64) 3 73 := ⟨by decide +kernel, rfl⟩
theorem dX5_swap_73 : At cX5_swap 73 (.iconst 0) 1 74 := ⟨by decide +kernel, rfl⟩
theorem dX5_swap_74 : At cX5_swap 74 (.istore_n 3) 1 75 := ⟨by decide +kernel, rfl⟩
theorem dX5_swap_75 : At cX5_swap 75 (.iload_n 3) 1 76 := ⟨by decide +kernel, rfl⟩
theorem dX5_swap_76 : At cX5_swap 76 (.iconst 4) 1 77 := ⟨by decide +kernel, rfl⟩
theorem dX5_swap_77 : Br cX5_swap 77 (.if_icmp .ge) 80 117 := ⟨(40), by decide +kernel, rfl, by decide⟩
theorem dX5_swap_80 : At cX5_swap 80 (.aload_n 0) 1 81 := ⟨by decide +kernel, rfl⟩
theorem dX5_swap_81 : At cX5_swap 81 (.aload_n 0) 1 82 := ⟨by decide +kernel, rfl⟩
theorem dX5_swap_82 : At cX5_swap 82 (.getfield 12) 3 85 := ⟨by decide +kernel, rfl⟩
theorem dX5_swap_85 : At cX5_swap 85 (.getfield 75) 3 88 := ⟨by decide +kernel, rfl⟩
theorem dX5_swap_88 : At cX5_swap 88 (.iload_n 3) 1 89 := ⟨by decide +kernel, rfl⟩
theorem dX5_swap_89 : At cX5_swap 89 (.aaload) 1 90 := ⟨by decide +kernel, rfl⟩
theorem dX5_swap_90 : At cX5_swap 90 (.iload_n 1) 1 91 := ⟨by decide +kernel, rfl⟩
theorem dX5_swap_91 : At cX5_swap 91 (.iload_n 2) 1 92 := ⟨by decide +kernel, rfl⟩
theorem dX5_swap_92 : At cX5_swap 92 (.invokevirtual 115) 3 95 := ⟨by decide +kernel, rfl⟩
theorem dX5_swap_95 : At cX5_swap 95 (.aload_n 0) 1 96 := ⟨by decide +kernel, rfl⟩
theorem dX5_swap_96 : At cX5_swap 96 (.getfield 12) 3 99 := ⟨by decide +kernel, rfl⟩
theorem dX5_swap_99 : At cX5_swap 99 (.getfield 75) 3 102 := ⟨by decide +kernel, rfl⟩
theorem dX5_swap_102 : At cX5_swap 102 (.iload_n 3) 1 103 := ⟨by decide +kernel, rfl⟩
theorem dX5_swap_103 : At cX5_swap 103 (.aaload) 1 104 := ⟨by decide +kernel, rfl⟩
theorem dX5_swap_104 : At cX5_swap 104 (.aload_n 0) 1 105 := ⟨by decide +kernel, rfl⟩
theorem dX5_swap_105 : At cX5_swap 105 (.getfield 50) 3 108 := ⟨by decide +kernel, rfl⟩
theorem dX5_swap_108 : At cX5_swap 108 (.invokevirtual 106) 3 111 := ⟨by decide +kernel, rfl⟩
theorem dX5_swap_111 : At cX5_swap 111 (.iinc 3 1) 3 114 := ⟨by decide +kernel, rfl⟩
theorem dX5_swap_114 : Br cX5_swap 114 .goto 117 75 := ⟨(-39), by decide +kernel, rfl, by decide⟩
theorem dX5_swap_117 : At cX5_swap 117 (.aload_n 0) 1 118 := ⟨by decide +kernel, rfl⟩
theorem dX5_swap_118 : At cX5_swap 118 (.getfield 12) 3 121 := ⟨by decide +kernel, rfl⟩
theorem dX5_swap_121 : At cX5_swap 121 (.invokevirtual 119) 3 124 := ⟨by decide +kernel, rfl⟩
theorem dX5_swap_124 : At cX5_swap 124 (.ireturn) 1 125 := ⟨by decide +kernel, rfl⟩
theorem dX5_put_0 : At cX5_put 0 (.lload_n 1) 1 1 := ⟨by decide +kernel, rfl⟩
theorem dX5_put_1 : At cX5_put 1 (.invokestatic 122) 3 4 := ⟨by decide +kernel, rfl⟩
theorem dX5_put_4 : At cX5_put 4 (.istore_n 3) 1 5 := ⟨by decide +kernel, rfl⟩
theorem dX5_put_5 : At cX5_put 5 (.iload_n 3) 1 6 := ⟨by decide +kernel, rfl⟩
theorem dX5_put_6 : Br cX5_put 6 (.ifCond .ne) 9 12 := ⟨(6), by decide +kernel, rfl, by decide⟩
theorem dX5_put_9 : At cX5_put 9 (.bipush (-2)) 2 11 := ⟨by decide +kernel, rfl⟩
theorem dX5_put_11 : At cX5_put 11 (.ireturn) 1 12 := ⟨by decide +kernel, rfl⟩
theorem dX5_put_12 : At cX5_put 12 (.aload_n 0) 1 13 := ⟨by decide +kernel, rfl⟩
theorem dX5_put_13 : At cX5_put 13 (.getfield 34) 3 16 := ⟨by decide +kernel, rfl⟩
theorem dX5_put_16 : At cX5_put 16 (.getfield 126) 3 19 := ⟨by decide +kernel, rfl⟩
theorem dX5_put_19 : At cX5_put 19 (.iload_n 3) 1 20 := ⟨by decide +kernel, rfl⟩
theorem dX5_put_20 : At cX5_put 20 (.iadd) 1 21 := ⟨by decide +kernel, rfl⟩
theorem dX5_put_21 : At cX5_put 21 (.bipush 60) 2 23 := ⟨by decide +kernel, rfl⟩
theorem dX5_put_23 : Br cX5_put 23 (.if_icmp .le) 26 29 := ⟨(6), by decide +kernel, rfl, by decide⟩
theorem dX5_put_26 : At cX5_put 26 (.bipush (-4)) 2 28 := ⟨by decide +kernel, rfl⟩
theorem dX5_put_28 : At cX5_put 28 (.ireturn) 1 29 := ⟨by decide +kernel, rfl⟩
theorem dX5_put_29 : At cX5_put 29 (.aload_n 0) 1 30 := ⟨by decide +kernel, rfl⟩
theorem dX5_put_30 : At cX5_put 30 (.getfield 34) 3 33 := ⟨by decide +kernel, rfl⟩
theorem dX5_put_33 : At cX5_put 33 (.lload_n 1) 1 34 := ⟨by decide +kernel, rfl⟩
theorem dX5_put_34 : At cX5_put 34 (.iload_n 3) 1 35 := ⟨by decide +kernel, rfl⟩
theorem dX5_put_35 : At cX5_put 35 (.invokevirtual 127) 3 38 := ⟨by decide +kernel, rfl⟩
theorem dX5_put_38 : At cX5_put 38 (.aload_n 0) 1 39 := ⟨by decide +kernel, rfl⟩
theorem dX5_put_39 : At cX5_put 39 (.getfield 34) 3 42 := ⟨by decide +kernel, rfl⟩
theorem dX5_put_42 : At cX5_put 42 (.getfield 126) 3 45 := ⟨by decide +kernel, rfl⟩
theorem dX5_put_45 : At cX5_put 45 (.ireturn) 1 46 := ⟨by decide +kernel, rfl⟩
theorem dX5_wipe_0 : At cX5_wipe 0 (.aload_n 0) 1 1 := ⟨by decide +kernel, rfl⟩
theorem dX5_wipe_1 : At cX5_wipe 1 (.getfield 34) 3 4 := ⟨by decide +kernel, rfl⟩
theorem dX5_wipe_4 : At cX5_wipe 4 (.getfield 126) 3 7 := ⟨by decide +kernel, rfl⟩
theorem dX5_wipe_7 : At cX5_wipe 7 (.istore_n 1) 1 8 := ⟨by decide +kernel, rfl⟩
theorem dX5_wipe_8 : At cX5_wipe 8 (.aload_n 0) 1 9 := ⟨by decide +kernel, rfl⟩
theorem dX5_wipe_9 : At cX5_wipe 9 (.getfield 34) 3 12 := ⟨by decide +kernel, rfl⟩
theorem dX5_wipe_12 : At cX5_wipe 12 (.invokevirtual 131) 3 15 := ⟨by decide +kernel, rfl⟩
theorem dX5_wipe_15 : At cX5_wipe 15 (.iload_n 1) 1 16 := ⟨by decide +kernel, rfl⟩
theorem dX5_wipe_16 : At cX5_wipe 16 (.ireturn) 1 17 := ⟨by decide +kernel, rfl⟩
theorem dX5_fault_0 : At cX5_fault 0 (.aload_n 0) 1 1 := ⟨by decide +kernel, rfl⟩
theorem dX5_fault_1 : At cX5_fault 1 (.getfield 34) 3 4 := ⟨by decide +kernel, rfl⟩
theorem dX5_fault_4 : At cX5_fault 4 (.invokevirtual 132) 3 7 := ⟨by decide +kernel, rfl⟩
theorem dX5_fault_7 : At cX5_fault 7 (.ireturn) 1 8 := ⟨by decide +kernel, rfl⟩
theorem dX5_load_0 : At cX5_load 0 (.iload_n 1) 1 1 := ⟨by decide +kernel, rfl⟩
theorem dX5_load_1 : At cX5_load 1 (.invokestatic 72) 3 4 := ⟨by decide +kernel, rfl⟩
theorem dX5_load_4 : Br cX5_load 4 (.ifCond .ne) 7 9 := ⟨(5), by decide +kernel, rfl, by decide⟩
theorem dX5_load_7 : At cX5_load 7 (.iconst (-1)) 1 8 := ⟨by decide +kernel, rfl⟩
theorem dX5_load_8 : At cX5_load 8 (.ireturn) 1 9 := ⟨by decide +kernel, rfl⟩
theorem dX5_load_9 : At cX5_load 9 (.aload_n 0) 1 10 := ⟨by decide +kernel, rfl⟩
theorem dX5_load_10 : At cX5_load 10 (.getfield 34) 3 13 := ⟨by decide +kernel, rfl⟩
theorem dX5_load_13 : At cX5_load 13 (.invokevirtual 132) 3 16 := ⟨by decide +kernel, rfl⟩
theorem dX5_load_16 : At cX5_load 16 (.bipush (-6)) 2 18 := ⟨by decide +kernel, rfl⟩
theorem dX5_load_18 : Br cX5_load 18 (.if_icmp .eq) 21 24 := ⟨(6), by decide +kernel, rfl, by decide⟩
theorem dX5_load_21 : At cX5_load 21 (.bipush (-3)) 2 23 := ⟨by decide +kernel, rfl⟩
theorem dX5_load_23 : At cX5_load 23 (.ireturn) 1 24 := ⟨by decide +kernel, rfl⟩
theorem dX5_load_24 : At cX5_load 24 (.aload_n 0) 1 25 := ⟨by decide +kernel, rfl⟩
theorem dX5_load_25 : At cX5_load 25 (.getfield 34) 3 28 := ⟨by decide +kernel, rfl⟩
theorem dX5_load_28 : At cX5_load 28 (.aload_n 0) 1 29 := ⟨by decide +kernel, rfl⟩
theorem dX5_load_29 : At cX5_load 29 (.getfield 50) 3 32 := ⟨by decide +kernel, rfl⟩
theorem dX5_load_32 : At cX5_load 32 (.invokevirtual 135) 3 35 := ⟨by decide +kernel, rfl⟩
theorem dX5_load_35 : Br cX5_load 35 (.ifCond .eq) 38 50 := ⟨(15), by decide +kernel, rfl, by decide⟩
theorem dX5_load_38 : At cX5_load 38 (.aload_n 0) 1 39 := ⟨by decide +kernel, rfl⟩
theorem dX5_load_39 : At cX5_load 39 (.getfield 50) 3 42 := ⟨by decide +kernel, rfl⟩
theorem dX5_load_42 : At cX5_load 42 (.getfield 79) 3 45 := ⟨by decide +kernel, rfl⟩
theorem dX5_load_45 : At cX5_load 45 (.bipush 120) 2 47 := ⟨by decide +kernel, rfl⟩
theorem dX5_load_47 : Br cX5_load 47 (.if_icmp .le) 50 53 := ⟨(6), by decide +kernel, rfl, by decide⟩
theorem dX5_load_50 : At cX5_load 50 (.bipush (-4)) 2 52 := ⟨by decide +kernel, rfl⟩
theorem dX5_load_52 : At cX5_load 52 (.ireturn) 1 53 := ⟨by decide +kernel, rfl⟩
theorem dX5_load_53 : At cX5_load 53 (.aload_n 0) 1 54 := ⟨by decide +kernel, rfl⟩
theorem dX5_load_54 : At cX5_load 54 (.getfield 19) 3 57 := ⟨by decide +kernel, rfl⟩
theorem dX5_load_57 : At cX5_load 57 (.aload_n 0) 1 58 := ⟨by decide +kernel, rfl⟩
theorem dX5_load_58 : At cX5_load 58 (.getfield 12) 3 61 := ⟨by decide +kernel, rfl⟩
theorem dX5_load_61 : At cX5_load 61 (.invokevirtual 64) 3 64 := ⟨by decide +kernel, rfl⟩
theorem dX5_load_64 : At cX5_load 64 (.aload_n 0) 1 65 := ⟨by decide +kernel, rfl⟩
theorem dX5_load_65 : At cX5_load 65 (.getfield 12) 3 68 := ⟨by decide +kernel, rfl⟩
theorem dX5_load_68 : At cX5_load 68 (.getfield 75) 3 71 := ⟨by decide +kernel, rfl⟩
theorem dX5_load_71 : At cX5_load 71 (.iload_n 1) 1 72 := ⟨by decide +kernel, rfl⟩
theorem dX5_load_72 : At cX5_load 72 (.aaload) 1 73 := ⟨by decide +kernel, rfl⟩
theorem dX5_load_73 : At cX5_load 73 (.aload_n 0) 1 74 := ⟨by decide +kernel, rfl⟩
theorem dX5_load_74 : At cX5_load 74 (.getfield 50) 3 77 := ⟨by decide +kernel, rfl⟩
theorem dX5_load_77 : At cX5_load 77 (.invokevirtual 106) 3 80 := ⟨by decide +kernel, rfl⟩
theorem dX5_load_80 : At cX5_load 80 (.aload_n 0) 1 81 := ⟨by decide +kernel, rfl⟩
theorem dX5_load_81 : At cX5_load 81 (.getfield 34) 3 84 := ⟨by decide +kernel, rfl⟩
theorem dX5_load_84 : At cX5_load 84 (.invokevirtual 131) 3 87 := ⟨by decide +kernel, rfl⟩
theorem dX5_load_87 : At cX5_load 87 (.aload_n 0) 1 88 := ⟨by decide +kernel, rfl⟩
theorem dX5_load_88 : At cX5_load 88 (.getfield 12) 3 91 := ⟨by decide +kernel, rfl⟩
theorem dX5_load_91 : At cX5_load 91 (.getfield 75) 3 94 := ⟨by decide +kernel, rfl⟩
theorem dX5_load_94 : At cX5_load 94 (.iload_n 1) 1 95 := ⟨by decide +kernel, rfl⟩
theorem dX5_load_95 : At cX5_load 95 (.aaload) 1 96 := ⟨by decide +kernel, rfl⟩
theorem dX5_load_96 : At cX5_load 96 (.getfield 79) 3 99 := ⟨by decide +kernel, rfl⟩
theorem dX5_load_99 : At cX5_load 99 (.ireturn) 1 100 := ⟨by decide +kernel, rfl⟩
theorem dX5_crossing_0 : At cX5_crossing 0 (.iload_n 1) 1 1 := ⟨by decide +kernel, rfl⟩
theorem dX5_crossing_1 : At cX5_crossing 1 (.invokestatic 72) 3 4 := ⟨by decide +kernel, rfl⟩
theorem dX5_crossing_4 : Br cX5_crossing 4 (.ifCond .ne) 7 9 := ⟨(5), by decide +kernel, rfl, by decide⟩
theorem dX5_crossing_7 : At cX5_crossing 7 (.iconst (-1)) 1 8 := ⟨by decide +kernel, rfl⟩
theorem dX5_crossing_8 : At cX5_crossing 8 (.ireturn) 1 9 := ⟨by decide +kernel, rfl⟩
theorem dX5_crossing_9 : At cX5_crossing 9 (.aload_n 0) 1 10 := ⟨by decide +kernel, rfl⟩
theorem dX5_crossing_10 : At cX5_crossing 10 (.getfield 12) 3 13 := ⟨by decide +kernel, rfl⟩
theorem dX5_crossing_13 : At cX5_crossing 13 (.getfield 75) 3 16 := ⟨by decide +kernel, rfl⟩
theorem dX5_crossing_16 : At cX5_crossing 16 (.iload_n 1) 1 17 := ⟨by decide +kernel, rfl⟩
theorem dX5_crossing_17 : At cX5_crossing 17 (.aaload) 1 18 := ⟨by decide +kernel, rfl⟩
theorem dX5_crossing_18 : At cX5_crossing 18 (.iload_n 2) 1 19 := ⟨by decide +kernel, rfl⟩
theorem dX5_crossing_19 : At cX5_crossing 19 (.invokestatic 139) 3 22 := ⟨by decide +kernel, rfl⟩
theorem dX5_crossing_22 : At cX5_crossing 22 (.ireturn) 1 23 := ⟨by decide +kernel, rfl⟩
theorem dX5_ofRope_0 : At cX5_ofRope 0 (.iload_n 1) 1 1 := ⟨by decide +kernel, rfl⟩
theorem dX5_ofRope_1 : At cX5_ofRope 1 (.invokestatic 72) 3 4 := ⟨by decide +kernel, rfl⟩
theorem dX5_ofRope_4 : Br cX5_ofRope 4 (.ifCond .ne) 7 9 := ⟨(5), by decide +kernel, rfl, by decide⟩
theorem dX5_ofRope_7 : At cX5_ofRope 7 (.iconst (-1)) 1 8 := ⟨by decide +kernel, rfl⟩
theorem dX5_ofRope_8 : At cX5_ofRope 8 (.ireturn) 1 9 := ⟨by decide +kernel, rfl⟩
theorem dX5_ofRope_9 : At cX5_ofRope 9 (.aload_n 0) 1 10 := ⟨by decide +kernel, rfl⟩
theorem dX5_ofRope_10 : At cX5_ofRope 10 (.getfield 12) 3 13 := ⟨by decide +kernel, rfl⟩
theorem dX5_ofRope_13 : At cX5_ofRope 13 (.getfield 75) 3 16 := ⟨by decide +kernel, rfl⟩
theorem dX5_ofRope_16 : At cX5_ofRope 16 (.iload_n 1) 1 17 := ⟨by decide +kernel, rfl⟩
theorem dX5_ofRope_17 : At cX5_ofRope 17 (.aaload) 1 18 := ⟨by decide +kernel, rfl⟩
theorem dX5_ofRope_18 : At cX5_ofRope 18 (.astore_n 3) 1 19 := ⟨by decide +kernel, rfl⟩
theorem dX5_ofRope_19 : At cX5_ofRope 19 (.iload_n 2) 1 20 := ⟨by decide +kernel, rfl⟩
theorem dX5_ofRope_20 : decode cX5_ofRope 20 = .ok (.tableswitch 150 0 8 #[52, 57, 66, 79, 96, 109, 122, 135, 140], 52) := by decide +kernel
theorem dX5_ofRope_72 : At cX5_ofRope 72 (.aload_n 3) 1 73 := ⟨by decide +kernel, rfl⟩
theorem dX5_ofRope_73 : At cX5_ofRope 73 (.getfield 79) 3 76 := ⟨by decide +kernel, rfl⟩
theorem dX5_ofRope_76 : At cX5_ofRope 76 (.ireturn) 1 77 := ⟨by decide +kernel, rfl⟩
theorem dX5_ofRope_77 : At cX5_ofRope 77 (.aload_n 0) 1 78 := ⟨by decide +kernel, rfl⟩
theorem dX5_ofRope_78 : At cX5_ofRope 78 (.getfield 12) 3 81 := ⟨by decide +kernel, rfl⟩
theorem dX5_ofRope_81 : At cX5_ofRope 81 (.aload_n 3) 1 82 := ⟨by decide +kernel, rfl⟩
theorem dX5_ofRope_82 : At cX5_ofRope 82 (.invokevirtual 143) 3 85 := ⟨by decide +kernel, rfl⟩
theorem dX5_ofRope_85 : At cX5_ofRope 85 (.ireturn) 1 86 := ⟨by decide +kernel, rfl⟩
theorem dX5_ofRope_86 : At cX5_ofRope 86 (.aload_n 0) 1 87 := ⟨by decide +kernel, rfl⟩
theorem dX5_ofRope_87 : At cX5_ofRope 87 (.aload_n 3) 1 88 := ⟨by decide +kernel, rfl⟩
theorem dX5_ofRope_88 : At cX5_ofRope 88 (.invokevirtual 147) 3 91 := ⟨by decide +kernel, rfl⟩
theorem dX5_ofRope_91 : At cX5_ofRope 91 (.aload_n 0) 1 92 := ⟨by decide +kernel, rfl⟩
theorem dX5_ofRope_92 : At cX5_ofRope 92 (.getfield 50) 3 95 := ⟨by decide +kernel, rfl⟩
theorem dX5_ofRope_95 : At cX5_ofRope 95 (.getfield 79) 3 98 := ⟨by decide +kernel, rfl⟩
theorem dX5_ofRope_98 : At cX5_ofRope 98 (.ireturn) 1 99 := ⟨by decide +kernel, rfl⟩
theorem dX5_ofRope_99 : At cX5_ofRope 99 (.aload_n 0) 1 100 := ⟨by decide +kernel, rfl⟩
theorem dX5_ofRope_100 : At cX5_ofRope 100 (.aload_n 3) 1 101 := ⟨by decide +kernel, rfl⟩
theorem dX5_ofRope_101 : At cX5_ofRope 101 (.invokevirtual 147) 3 104 := ⟨by decide +kernel, rfl⟩
theorem dX5_ofRope_104 : At cX5_ofRope 104 (.aload_n 0) 1 105 := ⟨by decide +kernel, rfl⟩
theorem dX5_ofRope_105 : At cX5_ofRope 105 (.getfield 12) 3 108 := ⟨by decide +kernel, rfl⟩
theorem dX5_ofRope_108 : At cX5_ofRope 108 (.aload_n 0) 1 109 := ⟨by decide +kernel, rfl⟩
theorem dX5_ofRope_109 : At cX5_ofRope 109 (.getfield 50) 3 112 := ⟨by decide +kernel, rfl⟩
theorem dX5_ofRope_112 : At cX5_ofRope 112 (.invokevirtual 143) 3 115 := ⟨by decide +kernel, rfl⟩
theorem dX5_ofRope_115 : At cX5_ofRope 115 (.ireturn) 1 116 := ⟨by decide +kernel, rfl⟩
theorem dX5_ofRope_116 : At cX5_ofRope 116 (.aload_n 0) 1 117 := ⟨by decide +kernel, rfl⟩
theorem dX5_ofRope_117 : At cX5_ofRope 117 (.aload_n 3) 1 118 := ⟨by decide +kernel, rfl⟩
theorem dX5_ofRope_118 : At cX5_ofRope 118 (.invokevirtual 150) 3 121 := ⟨by decide +kernel, rfl⟩
theorem dX5_ofRope_121 : At cX5_ofRope 121 (.aload_n 0) 1 122 := ⟨by decide +kernel, rfl⟩
theorem dX5_ofRope_122 : At cX5_ofRope 122 (.getfield 57) 3 125 := ⟨by decide +kernel, rfl⟩
theorem dX5_ofRope_125 : At cX5_ofRope 125 (.getfield 79) 3 128 := ⟨by decide +kernel, rfl⟩
theorem dX5_ofRope_128 : At cX5_ofRope 128 (.ireturn) 1 129 := ⟨by decide +kernel, rfl⟩
theorem dX5_ofRope_129 : At cX5_ofRope 129 (.aload_n 0) 1 130 := ⟨by decide +kernel, rfl⟩
theorem dX5_ofRope_130 : At cX5_ofRope 130 (.aload_n 3) 1 131 := ⟨by decide +kernel, rfl⟩
theorem dX5_ofRope_131 : At cX5_ofRope 131 (.invokevirtual 150) 3 134 := ⟨by decide +kernel, rfl⟩
theorem dX5_ofRope_134 : At cX5_ofRope 134 (.aload_n 0) 1 135 := ⟨by decide +kernel, rfl⟩
theorem dX5_ofRope_135 : At cX5_ofRope 135 (.getfield 57) 3 138 := ⟨by decide +kernel, rfl⟩
theorem dX5_ofRope_138 : At cX5_ofRope 138 (.invokevirtual 153) 3 141 := ⟨by decide +kernel, rfl⟩
theorem dX5_ofRope_141 : At cX5_ofRope 141 (.ireturn) 1 142 := ⟨by decide +kernel, rfl⟩
theorem dX5_ofRope_142 : At cX5_ofRope 142 (.aload_n 0) 1 143 := ⟨by decide +kernel, rfl⟩
theorem dX5_ofRope_143 : At cX5_ofRope 143 (.aload_n 3) 1 144 := ⟨by decide +kernel, rfl⟩
theorem dX5_ofRope_144 : At cX5_ofRope 144 (.invokevirtual 150) 3 147 := ⟨by decide +kernel, rfl⟩
theorem dX5_ofRope_147 : At cX5_ofRope 147 (.aload_n 0) 1 148 := ⟨by decide +kernel, rfl⟩
theorem dX5_ofRope_148 : At cX5_ofRope 148 (.getfield 57) 3 151 := ⟨by decide +kernel, rfl⟩
theorem dX5_ofRope_151 : At cX5_ofRope 151 (.invokevirtual 156) 3 154 := ⟨by decide +kernel, rfl⟩
theorem dX5_ofRope_154 : At cX5_ofRope 154 (.ireturn) 1 155 := ⟨by decide +kernel, rfl⟩
theorem dX5_ofRope_155 : At cX5_ofRope 155 (.aload_n 3) 1 156 := ⟨by decide +kernel, rfl⟩
theorem dX5_ofRope_156 : At cX5_ofRope 156 (.invokevirtual 159) 3 159 := ⟨by decide +kernel, rfl⟩
theorem dX5_ofRope_159 : At cX5_ofRope 159 (.ireturn) 1 160 := ⟨by decide +kernel, rfl⟩
theorem dX5_ofRope_160 : At cX5_ofRope 160 (.aload_n 0) 1 161 := ⟨by decide +kernel, rfl⟩
theorem dX5_ofRope_161 : At cX5_ofRope 161 (.aload_n 3) 1 162 := ⟨by decide +kernel, rfl⟩
theorem dX5_ofRope_162 : At cX5_ofRope 162 (.iconst 0) 1 163 := ⟨by decide +kernel, rfl⟩
theorem dX5_ofRope_163 : At cX5_ofRope 163 (.invokevirtual 162) 3 166 := ⟨by decide +kernel, rfl⟩
theorem dX5_ofRope_166 : At cX5_ofRope 166 (.invokestatic 166) 3 169 := ⟨by decide +kernel, rfl⟩
theorem dX5_ofRope_169 : At cX5_ofRope 169 (.ireturn) 1 170 := ⟨by decide +kernel, rfl⟩
theorem dX5_ofRope_170 : At cX5_ofRope 170 (.bipush (-2)) 2 172 := ⟨by decide +kernel, rfl⟩
theorem dX5_ofRope_172 : At cX5_ofRope 172 (.ireturn) 1 173 := ⟨by decide +kernel, rfl⟩
theorem dX5_winds_0 : At cX5_winds 0 (.iload_n 1) 1 1 := ⟨by decide +kernel, rfl⟩
theorem dX5_winds_1 : At cX5_winds 1 (.invokestatic 72) 3 4 := ⟨by decide +kernel, rfl⟩
theorem dX5_winds_4 : Br cX5_winds 4 (.ifCond .eq) 7 14 := ⟨(10), by decide +kernel, rfl, by decide⟩
theorem dX5_winds_7 : At cX5_winds 7 (.iload_n 2) 1 8 := ⟨by decide +kernel, rfl⟩
theorem dX5_winds_8 : At cX5_winds 8 (.invokestatic 60) 3 11 := ⟨by decide +kernel, rfl⟩
theorem dX5_winds_11 : Br cX5_winds 11 (.ifCond .ne) 14 16 := ⟨(5), by decide +kernel, rfl, by decide⟩
theorem dX5_winds_14 : At cX5_winds 14 (.iconst (-1)) 1 15 := ⟨by decide +kernel, rfl⟩
theorem dX5_winds_15 : At cX5_winds 15 (.ireturn) 1 16 := ⟨by decide +kernel, rfl⟩
theorem dX5_winds_16 : At cX5_winds 16 (.sipush 1000) 3 19 := ⟨by decide +kernel, rfl⟩
theorem dX5_winds_19 : At cX5_winds 19 (.aload_n 0) 1 20 := ⟨by decide +kernel, rfl⟩
theorem dX5_winds_20 : At cX5_winds 20 (.getfield 12) 3 23 := ⟨by decide +kernel, rfl⟩
theorem dX5_winds_23 : At cX5_winds 23 (.getfield 75) 3 26 := ⟨by decide +kernel, rfl⟩
theorem dX5_winds_26 : At cX5_winds 26 (.iload_n 1) 1 27 := ⟨by decide +kernel, rfl⟩
theorem dX5_winds_27 : At cX5_winds 27 (.aaload) 1 28 := ⟨by decide +kernel, rfl⟩
theorem dX5_winds_28 : At cX5_winds 28 (.iload_n 2) 1 29 := ⟨by decide +kernel, rfl⟩
theorem dX5_winds_29 : At cX5_winds 29 (.invokevirtual 170) 3 32 := ⟨by decide +kernel, rfl⟩
theorem dX5_winds_32 : At cX5_winds 32 (.iadd) 1 33 := ⟨by decide +kernel, rfl⟩
theorem dX5_winds_33 : At cX5_winds 33 (.ireturn) 1 34 := ⟨by decide +kernel, rfl⟩
theorem dX5_least_0 : At cX5_least 0 (.iload_n 1) 1 1 := ⟨by decide +kernel, rfl⟩
theorem dX5_least_1 : At cX5_least 1 (.invokestatic 72) 3 4 := ⟨by decide +kernel, rfl⟩
theorem dX5_least_4 : Br cX5_least 4 (.ifCond .ne) 7 9 := ⟨(5), by decide +kernel, rfl, by decide⟩
theorem dX5_least_7 : At cX5_least 7 (.iconst (-1)) 1 8 := ⟨by decide +kernel, rfl⟩
theorem dX5_least_8 : At cX5_least 8 (.ireturn) 1 9 := ⟨by decide +kernel, rfl⟩
theorem dX5_least_9 : At cX5_least 9 (.aload_n 0) 1 10 := ⟨by decide +kernel, rfl⟩
theorem dX5_least_10 : At cX5_least 10 (.aload_n 0) 1 11 := ⟨by decide +kernel, rfl⟩
theorem dX5_least_11 : At cX5_least 11 (.getfield 12) 3 14 := ⟨by decide +kernel, rfl⟩
theorem dX5_least_14 : At cX5_least 14 (.getfield 75) 3 17 := ⟨by decide +kernel, rfl⟩
theorem dX5_least_17 : At cX5_least 17 (.iload_n 1) 1 18 := ⟨by decide +kernel, rfl⟩
theorem dX5_least_18 : At cX5_least 18 (.aaload) 1 19 := ⟨by decide +kernel, rfl⟩
theorem dX5_least_19 : At cX5_least 19 (.aload_n 0) 1 20 := ⟨by decide +kernel, rfl⟩
theorem dX5_least_20 : At cX5_least 20 (.getfield 50) 3 23 := ⟨by decide +kernel, rfl⟩
theorem dX5_least_23 : At cX5_least 23 (.invokevirtual 174) 3 26 := ⟨by decide +kernel, rfl⟩
theorem dX5_least_26 : At cX5_least 26 (.aload_n 0) 1 27 := ⟨by decide +kernel, rfl⟩
theorem dX5_least_27 : At cX5_least 27 (.getfield 50) 3 30 := ⟨by decide +kernel, rfl⟩
theorem dX5_least_30 : At cX5_least 30 (.iload_n 2) 1 31 := ⟨by decide +kernel, rfl⟩
theorem dX5_least_31 : At cX5_least 31 (.invokestatic 139) 3 34 := ⟨by decide +kernel, rfl⟩
theorem dX5_least_34 : At cX5_least 34 (.ireturn) 1 35 := ⟨by decide +kernel, rfl⟩
theorem dX5_count_0 : At cX5_count 0 (.iload_n 1) 1 1 := ⟨by decide +kernel, rfl⟩
theorem dX5_count_1 : At cX5_count 1 (.invokestatic 60) 3 4 := ⟨by decide +kernel, rfl⟩
theorem dX5_count_4 : Br cX5_count 4 (.ifCond .eq) 7 17 := ⟨(13), by decide +kernel, rfl, by decide⟩
theorem dX5_count_7 : At cX5_count 7 (.aload_n 0) 1 8 := ⟨by decide +kernel, rfl⟩
theorem dX5_count_8 : At cX5_count 8 (.getfield 12) 3 11 := ⟨by decide +kernel, rfl⟩
theorem dX5_count_11 : At cX5_count 11 (.getfield 68) 3 14 := ⟨by decide +kernel, rfl⟩
theorem dX5_count_14 : At cX5_count 14 (.iload_n 1) 1 15 := ⟨by decide +kernel, rfl⟩
theorem dX5_count_15 : At cX5_count 15 (.iaload) 1 16 := ⟨by decide +kernel, rfl⟩
theorem dX5_count_16 : At cX5_count 16 (.ireturn) 1 17 := ⟨by decide +kernel, rfl⟩
theorem dX5_count_17 : At cX5_count 17 (.iload_n 1) 1 18 := ⟨by decide +kernel, rfl⟩
theorem dX5_count_18 : decode cX5_count 18 = .ok (.tableswitch 50 6 8 #[26, 34, 42], 26) := by decide +kernel
theorem dX5_count_44 : At cX5_count 44 (.aload_n 0) 1 45 := ⟨by decide +kernel, rfl⟩
theorem dX5_count_45 : At cX5_count 45 (.getfield 12) 3 48 := ⟨by decide +kernel, rfl⟩
theorem dX5_count_48 : At cX5_count 48 (.invokevirtual 119) 3 51 := ⟨by decide +kernel, rfl⟩
theorem dX5_count_51 : At cX5_count 51 (.ireturn) 1 52 := ⟨by decide +kernel, rfl⟩
theorem dX5_count_52 : At cX5_count 52 (.aload_n 0) 1 53 := ⟨by decide +kernel, rfl⟩
theorem dX5_count_53 : At cX5_count 53 (.getfield 34) 3 56 := ⟨by decide +kernel, rfl⟩
theorem dX5_count_56 : At cX5_count 56 (.getfield 126) 3 59 := ⟨by decide +kernel, rfl⟩
theorem dX5_count_59 : At cX5_count 59 (.ireturn) 1 60 := ⟨by decide +kernel, rfl⟩
theorem dX5_count_60 : At cX5_count 60 (.aload_n 0) 1 61 := ⟨by decide +kernel, rfl⟩
theorem dX5_count_61 : At cX5_count 61 (.getfield 19) 3 64 := ⟨by decide +kernel, rfl⟩
theorem dX5_count_64 : At cX5_count 64 (.getfield 178) 3 67 := ⟨by decide +kernel, rfl⟩
theorem dX5_count_67 : At cX5_count 67 (.ireturn) 1 68 := ⟨by decide +kernel, rfl⟩
theorem dX5_count_68 : At cX5_count 68 (.bipush (-2)) 2 70 := ⟨by decide +kernel, rfl⟩
theorem dX5_count_70 : At cX5_count 70 (.ireturn) 1 71 := ⟨by decide +kernel, rfl⟩
theorem dX5_falls_0 : At cX5_falls 0 (.iload_n 1) 1 1 := ⟨by decide +kernel, rfl⟩
theorem dX5_falls_1 : At cX5_falls 1 (.invokestatic 72) 3 4 := ⟨by decide +kernel, rfl⟩
theorem dX5_falls_4 : Br cX5_falls 4 (.ifCond .eq) 7 17 := ⟨(13), by decide +kernel, rfl, by decide⟩
theorem dX5_falls_7 : At cX5_falls 7 (.iload_n 2) 1 8 := ⟨by decide +kernel, rfl⟩
theorem dX5_falls_8 : Br cX5_falls 8 (.ifCond .lt) 11 17 := ⟨(9), by decide +kernel, rfl, by decide⟩
theorem dX5_falls_11 : At cX5_falls 11 (.iload_n 2) 1 12 := ⟨by decide +kernel, rfl⟩
theorem dX5_falls_12 : At cX5_falls 12 (.bipush 64) 2 14 := ⟨by decide +kernel, rfl⟩
theorem dX5_falls_14 : Br cX5_falls 14 (.if_icmp .lt) 17 19 := ⟨(5), by decide +kernel, rfl, by decide⟩
theorem dX5_falls_17 : At cX5_falls 17 (.iconst (-1)) 1 18 := ⟨by decide +kernel, rfl⟩
theorem dX5_falls_18 : At cX5_falls 18 (.ireturn) 1 19 := ⟨by decide +kernel, rfl⟩
theorem dX5_falls_19 : At cX5_falls 19 (.aload_n 0) 1 20 := ⟨by decide +kernel, rfl⟩
theorem dX5_falls_20 : At cX5_falls 20 (.aload_n 0) 1 21 := ⟨by decide +kernel, rfl⟩
theorem dX5_falls_21 : At cX5_falls 21 (.getfield 12) 3 24 := ⟨by decide +kernel, rfl⟩
theorem dX5_falls_24 : At cX5_falls 24 (.getfield 75) 3 27 := ⟨by decide +kernel, rfl⟩
theorem dX5_falls_27 : At cX5_falls 27 (.iload_n 1) 1 28 := ⟨by decide +kernel, rfl⟩
theorem dX5_falls_28 : At cX5_falls 28 (.aaload) 1 29 := ⟨by decide +kernel, rfl⟩
theorem dX5_falls_29 : At cX5_falls 29 (.iload_n 2) 1 30 := ⟨by decide +kernel, rfl⟩
theorem dX5_falls_30 : At cX5_falls 30 (.invokevirtual 162) 3 33 := ⟨by decide +kernel, rfl⟩
theorem dX5_falls_33 : At cX5_falls 33 (.invokestatic 166) 3 36 := ⟨by decide +kernel, rfl⟩
theorem dX5_falls_36 : At cX5_falls 36 (.ireturn) 1 37 := ⟨by decide +kernel, rfl⟩
theorem dX5_felling_0 : At cX5_felling 0 (.iload_n 1) 1 1 := ⟨by decide +kernel, rfl⟩
theorem dX5_felling_1 : At cX5_felling 1 (.invokestatic 72) 3 4 := ⟨by decide +kernel, rfl⟩
theorem dX5_felling_4 : Br cX5_felling 4 (.ifCond .ne) 7 9 := ⟨(5), by decide +kernel, rfl, by decide⟩
theorem dX5_felling_7 : At cX5_felling 7 (.iconst (-1)) 1 8 := ⟨by decide +kernel, rfl⟩
theorem dX5_felling_8 : At cX5_felling 8 (.ireturn) 1 9 := ⟨by decide +kernel, rfl⟩
theorem dX5_felling_9 : At cX5_felling 9 (.iload_n 2) 1 10 := ⟨by decide +kernel, rfl⟩
theorem dX5_felling_10 : Br cX5_felling 10 (.ifCond .lt) 13 18 := ⟨(8), by decide +kernel, rfl, by decide⟩
theorem dX5_felling_13 : At cX5_felling 13 (.iload_n 2) 1 14 := ⟨by decide +kernel, rfl⟩
theorem dX5_felling_14 : At cX5_felling 14 (.iconst 1) 1 15 := ⟨by decide +kernel, rfl⟩
theorem dX5_felling_15 : Br cX5_felling 15 (.if_icmp .le) 18 21 := ⟨(6), by decide +kernel, rfl, by decide⟩
theorem dX5_felling_18 : At cX5_felling 18 (.bipush (-2)) 2 20 := ⟨by decide +kernel, rfl⟩
theorem dX5_felling_20 : At cX5_felling 20 (.ireturn) 1 21 := ⟨by decide +kernel, rfl⟩
theorem dX5_felling_21 : At cX5_felling 21 (.lconst 0) 1 22 := ⟨by decide +kernel, rfl⟩
theorem dX5_felling_22 : At cX5_felling 22 (.lstore_n 3) 1 23 := ⟨by decide +kernel, rfl⟩
theorem dX5_felling_23 : At cX5_felling 23 (.iconst 0) 1 24 := ⟨by decide +kernel, rfl⟩
theorem dX5_felling_24 : At cX5_felling 24 (.istore 5) 2 26 := ⟨by decide +kernel, rfl⟩
theorem dX5_felling_26 : At cX5_felling 26 (.bipush 63) 2 28 := ⟨by decide +kernel, rfl⟩
theorem dX5_felling_28 : At cX5_felling 28 (.istore 6) 2 30 := ⟨by decide +kernel, rfl⟩
theorem dX5_felling_30 : At cX5_felling 30 (.iconst 0) 1 31 := ⟨by decide +kernel, rfl⟩
theorem dX5_felling_31 : At cX5_felling 31 (.istore 7) 2 33 := ⟨by decide +kernel, rfl⟩
theorem dX5_felling_33 : At cX5_felling 33 (.iload 7) 2 35 := ⟨by decide +kernel, rfl⟩
theorem dX5_felling_35 : At cX5_felling 35 (.bipush 64) 2 37 := ⟨by decide +kernel, rfl⟩
theorem dX5_felling_37 : Br cX5_felling 37 (.if_icmp .ge) 40 115 := ⟨(78), by decide +kernel, rfl, by decide⟩
theorem dX5_felling_40 : At cX5_felling 40 (.lload_n 3) 1 41 := ⟨by decide +kernel, rfl⟩
theorem dX5_felling_41 : At cX5_felling 41 (.iload 7) 2 43 := ⟨by decide +kernel, rfl⟩
theorem dX5_felling_43 : At cX5_felling 43 (.invokestatic 181) 3 46 := ⟨by decide +kernel, rfl⟩
theorem dX5_felling_46 : Br cX5_felling 46 (.ifCond .eq) 49 59 := ⟨(13), by decide +kernel, rfl, by decide⟩
theorem dX5_felling_49 : At cX5_felling 49 (.lload_n 3) 1 50 := ⟨by decide +kernel, rfl⟩
theorem dX5_felling_50 : At cX5_felling 50 (.lconst 1) 1 51 := ⟨by decide +kernel, rfl⟩
theorem dX5_felling_51 : At cX5_felling 51 (.iload 7) 2 53 := ⟨by decide +kernel, rfl⟩
theorem dX5_felling_53 : At cX5_felling 53 (.lshl) 1 54 := ⟨by decide +kernel, rfl⟩
theorem dX5_felling_54 : At cX5_felling 54 (.lor) 1 55 := ⟨by decide +kernel, rfl⟩
theorem dX5_felling_55 : At cX5_felling 55 (.lstore_n 3) 1 56 := ⟨by decide +kernel, rfl⟩
theorem dX5_felling_56 : Br cX5_felling 56 .goto 59 109 := ⟨(53), by decide +kernel, rfl, by decide⟩
theorem dX5_felling_59 : At cX5_felling 59 (.aload_n 0) 1 60 := ⟨by decide +kernel, rfl⟩
theorem dX5_felling_60 : At cX5_felling 60 (.aload_n 0) 1 61 := ⟨by decide +kernel, rfl⟩
theorem dX5_felling_61 : At cX5_felling 61 (.getfield 12) 3 64 := ⟨by decide +kernel, rfl⟩
theorem dX5_felling_64 : At cX5_felling 64 (.getfield 75) 3 67 := ⟨by decide +kernel, rfl⟩
theorem dX5_felling_67 : At cX5_felling 67 (.iload_n 1) 1 68 := ⟨by decide +kernel, rfl⟩
theorem dX5_felling_68 : At cX5_felling 68 (.aaload) 1 69 := ⟨by decide +kernel, rfl⟩
theorem dX5_felling_69 : At cX5_felling 69 (.iload 7) 2 71 := ⟨by decide +kernel, rfl⟩
theorem dX5_felling_71 : At cX5_felling 71 (.invokevirtual 162) 3 74 := ⟨by decide +kernel, rfl⟩
theorem dX5_felling_74 : Br cX5_felling 74 (.ifCond .eq) 77 109 := ⟨(35), by decide +kernel, rfl, by decide⟩
theorem dX5_felling_77 : At cX5_felling 77 (.lload_n 3) 1 78 := ⟨by decide +kernel, rfl⟩
theorem dX5_felling_78 : At cX5_felling 78 (.lconst 1) 1 79 := ⟨by decide +kernel, rfl⟩
theorem dX5_felling_79 : At cX5_felling 79 (.iload 7) 2 81 := ⟨by decide +kernel, rfl⟩
theorem dX5_felling_81 : At cX5_felling 81 (.lshl) 1 82 := ⟨by decide +kernel, rfl⟩
theorem dX5_felling_82 : At cX5_felling 82 (.lor) 1 83 := ⟨by decide +kernel, rfl⟩
theorem dX5_felling_83 : At cX5_felling 83 (.lstore_n 3) 1 84 := ⟨by decide +kernel, rfl⟩
theorem dX5_felling_84 : At cX5_felling 84 (.iinc 5 1) 3 87 := ⟨by decide +kernel, rfl⟩
theorem dX5_felling_87 : At cX5_felling 87 (.iload 7) 2 89 := ⟨by decide +kernel, rfl⟩
theorem dX5_felling_89 : At cX5_felling 89 (.invokestatic 185) 3 92 := ⟨by decide +kernel, rfl⟩
theorem dX5_felling_92 : At cX5_felling 92 (.iload 6) 2 94 := ⟨by decide +kernel, rfl⟩
theorem dX5_felling_94 : At cX5_felling 94 (.invokestatic 185) 3 97 := ⟨by decide +kernel, rfl⟩
theorem dX5_felling_97 : Br cX5_felling 97 (.if_icmp .ge) 100 105 := ⟨(8), by decide +kernel, rfl, by decide⟩
theorem dX5_felling_100 : At cX5_felling 100 (.iload 7) 2 102 := ⟨by decide +kernel, rfl⟩
theorem dX5_felling_102 : Br cX5_felling 102 .goto 105 107 := ⟨(5), by decide +kernel, rfl, by decide⟩
theorem dX5_felling_105 : At cX5_felling 105 (.iload 6) 2 107 := ⟨by decide +kernel, rfl⟩
theorem dX5_felling_107 : At cX5_felling 107 (.istore 6) 2 109 := ⟨by decide +kernel, rfl⟩
theorem dX5_felling_109 : At cX5_felling 109 (.iinc 7 1) 3 112 := ⟨by decide +kernel, rfl⟩
theorem dX5_felling_112 : Br cX5_felling 112 .goto 115 33 := ⟨(-79), by decide +kernel, rfl, by decide⟩
theorem dX5_felling_115 : At cX5_felling 115 (.iload_n 2) 1 116 := ⟨by decide +kernel, rfl⟩
theorem dX5_felling_116 : Br cX5_felling 116 (.ifCond .ne) 119 124 := ⟨(8), by decide +kernel, rfl, by decide⟩
theorem dX5_felling_119 : At cX5_felling 119 (.iload 5) 2 121 := ⟨by decide +kernel, rfl⟩
theorem dX5_felling_121 : Br cX5_felling 121 .goto 124 126 := ⟨(5), by decide +kernel, rfl, by decide⟩
theorem dX5_felling_124 : At cX5_felling 124 (.iload 6) 2 126 := ⟨by decide +kernel, rfl⟩
theorem dX5_felling_126 : At cX5_felling 126 (.ireturn) 1 127 := ⟨by decide +kernel, rfl⟩
theorem dX5_both_0 : At cX5_both 0 (.iload_n 1) 1 1 := ⟨by decide +kernel, rfl⟩
theorem dX5_both_1 : At cX5_both 1 (.invokestatic 72) 3 4 := ⟨by decide +kernel, rfl⟩
theorem dX5_both_4 : Br cX5_both 4 (.ifCond .eq) 7 14 := ⟨(10), by decide +kernel, rfl, by decide⟩
theorem dX5_both_7 : At cX5_both 7 (.iload_n 2) 1 8 := ⟨by decide +kernel, rfl⟩
theorem dX5_both_8 : At cX5_both 8 (.invokestatic 72) 3 11 := ⟨by decide +kernel, rfl⟩
theorem dX5_both_11 : Br cX5_both 11 (.ifCond .ne) 14 16 := ⟨(5), by decide +kernel, rfl, by decide⟩
theorem dX5_both_14 : At cX5_both 14 (.iconst (-1)) 1 15 := ⟨by decide +kernel, rfl⟩
theorem dX5_both_15 : At cX5_both 15 (.ireturn) 1 16 := ⟨by decide +kernel, rfl⟩
theorem dX5_both_16 : At cX5_both 16 (.aload_n 0) 1 17 := ⟨by decide +kernel, rfl⟩
theorem dX5_both_17 : At cX5_both 17 (.getfield 12) 3 20 := ⟨by decide +kernel, rfl⟩
theorem dX5_both_20 : At cX5_both 20 (.getfield 75) 3 23 := ⟨by decide +kernel, rfl⟩
theorem dX5_both_23 : At cX5_both 23 (.iload_n 1) 1 24 := ⟨by decide +kernel, rfl⟩
theorem dX5_both_24 : At cX5_both 24 (.aaload) 1 25 := ⟨by decide +kernel, rfl⟩
theorem dX5_both_25 : At cX5_both 25 (.astore 4) 2 27 := ⟨by decide +kernel, rfl⟩
theorem dX5_both_27 : At cX5_both 27 (.aload_n 0) 1 28 := ⟨by decide +kernel, rfl⟩
theorem dX5_both_28 : At cX5_both 28 (.getfield 12) 3 31 := ⟨by decide +kernel, rfl⟩
theorem dX5_both_31 : At cX5_both 31 (.getfield 75) 3 34 := ⟨by decide +kernel, rfl⟩
theorem dX5_both_34 : At cX5_both 34 (.iload_n 2) 1 35 := ⟨by decide +kernel, rfl⟩
theorem dX5_both_35 : At cX5_both 35 (.aaload) 1 36 := ⟨by decide +kernel, rfl⟩
theorem dX5_both_36 : At cX5_both 36 (.astore 5) 2 38 := ⟨by decide +kernel, rfl⟩
theorem dX5_both_38 : At cX5_both 38 (.iload_n 3) 1 39 := ⟨by decide +kernel, rfl⟩
theorem dX5_both_39 : decode cX5_both 39 = .ok (.tableswitch 95 0 3 #[29, 41, 71, 83], 29) := by decide +kernel
theorem dX5_both_68 : At cX5_both 68 (.aload_n 0) 1 69 := ⟨by decide +kernel, rfl⟩
theorem dX5_both_69 : At cX5_both 69 (.aload 4) 2 71 := ⟨by decide +kernel, rfl⟩
theorem dX5_both_71 : At cX5_both 71 (.aload 5) 2 73 := ⟨by decide +kernel, rfl⟩
theorem dX5_both_73 : At cX5_both 73 (.invokevirtual 190) 3 76 := ⟨by decide +kernel, rfl⟩
theorem dX5_both_76 : At cX5_both 76 (.invokestatic 166) 3 79 := ⟨by decide +kernel, rfl⟩
theorem dX5_both_79 : At cX5_both 79 (.ireturn) 1 80 := ⟨by decide +kernel, rfl⟩
theorem dX5_both_80 : At cX5_both 80 (.aload_n 0) 1 81 := ⟨by decide +kernel, rfl⟩
theorem dX5_both_81 : At cX5_both 81 (.getfield 54) 3 84 := ⟨by decide +kernel, rfl⟩
theorem dX5_both_84 : At cX5_both 84 (.invokevirtual 100) 3 87 := ⟨by decide +kernel, rfl⟩
theorem dX5_both_87 : At cX5_both 87 (.aload_n 0) 1 88 := ⟨by decide +kernel, rfl⟩
theorem dX5_both_88 : At cX5_both 88 (.getfield 54) 3 91 := ⟨by decide +kernel, rfl⟩
theorem dX5_both_91 : At cX5_both 91 (.aload 5) 2 93 := ⟨by decide +kernel, rfl⟩
theorem dX5_both_93 : At cX5_both 93 (.invokevirtual 103) 3 96 := ⟨by decide +kernel, rfl⟩
theorem dX5_both_96 : At cX5_both 96 (.aload_n 0) 1 97 := ⟨by decide +kernel, rfl⟩
theorem dX5_both_97 : At cX5_both 97 (.aload 4) 2 99 := ⟨by decide +kernel, rfl⟩
theorem dX5_both_99 : At cX5_both 99 (.aload_n 0) 1 100 := ⟨by decide +kernel, rfl⟩
theorem dX5_both_100 : At cX5_both 100 (.getfield 54) 3 103 := ⟨by decide +kernel, rfl⟩
theorem dX5_both_103 : At cX5_both 103 (.invokevirtual 190) 3 106 := ⟨by decide +kernel, rfl⟩
theorem dX5_both_106 : At cX5_both 106 (.invokestatic 166) 3 109 := ⟨by decide +kernel, rfl⟩
theorem dX5_both_109 : At cX5_both 109 (.ireturn) 1 110 := ⟨by decide +kernel, rfl⟩
theorem dX5_both_110 : At cX5_both 110 (.aload_n 0) 1 111 := ⟨by decide +kernel, rfl⟩
theorem dX5_both_111 : At cX5_both 111 (.aload 4) 2 113 := ⟨by decide +kernel, rfl⟩
theorem dX5_both_113 : At cX5_both 113 (.aload 5) 2 115 := ⟨by decide +kernel, rfl⟩
theorem dX5_both_115 : At cX5_both 115 (.invokevirtual 194) 3 118 := ⟨by decide +kernel, rfl⟩
theorem dX5_both_118 : At cX5_both 118 (.invokestatic 166) 3 121 := ⟨by decide +kernel, rfl⟩
theorem dX5_both_121 : At cX5_both 121 (.ireturn) 1 122 := ⟨by decide +kernel, rfl⟩
theorem dX5_both_122 : At cX5_both 122 (.aload_n 0) 1 123 := ⟨by decide +kernel, rfl⟩
theorem dX5_both_123 : At cX5_both 123 (.aload 4) 2 125 := ⟨by decide +kernel, rfl⟩
theorem dX5_both_125 : At cX5_both 125 (.aload 5) 2 127 := ⟨by decide +kernel, rfl⟩
theorem dX5_both_127 : At cX5_both 127 (.invokevirtual 197) 3 130 := ⟨by decide +kernel, rfl⟩
theorem dX5_both_130 : At cX5_both 130 (.invokestatic 166) 3 133 := ⟨by decide +kernel, rfl⟩
theorem dX5_both_133 : At cX5_both 133 (.ireturn) 1 134 := ⟨by decide +kernel, rfl⟩
theorem dX5_both_134 : At cX5_both 134 (.bipush (-2)) 2 136 := ⟨by decide +kernel, rfl⟩
theorem dX5_both_136 : At cX5_both 136 (.ireturn) 1 137 := ⟨by decide +kernel, rfl⟩
theorem dX5_cuts_0 : At cX5_cuts 0 (.iload_n 1) 1 1 := ⟨by decide +kernel, rfl⟩
theorem dX5_cuts_1 : At cX5_cuts 1 (.invokestatic 72) 3 4 := ⟨by decide +kernel, rfl⟩
theorem dX5_cuts_4 : Br cX5_cuts 4 (.ifCond .ne) 7 9 := ⟨(5), by decide +kernel, rfl, by decide⟩
theorem dX5_cuts_7 : At cX5_cuts 7 (.iconst (-1)) 1 8 := ⟨by decide +kernel, rfl⟩
theorem dX5_cuts_8 : At cX5_cuts 8 (.ireturn) 1 9 := ⟨by decide +kernel, rfl⟩
theorem dX5_cuts_9 : At cX5_cuts 9 (.aload_n 0) 1 10 := ⟨by decide +kernel, rfl⟩
theorem dX5_cuts_10 : At cX5_cuts 10 (.aload_n 0) 1 11 := ⟨by decide +kernel, rfl⟩
theorem dX5_cuts_11 : At cX5_cuts 11 (.getfield 12) 3 14 := ⟨by decide +kernel, rfl⟩
theorem dX5_cuts_14 : At cX5_cuts 14 (.getfield 75) 3 17 := ⟨by decide +kernel, rfl⟩
theorem dX5_cuts_17 : At cX5_cuts 17 (.iload_n 1) 1 18 := ⟨by decide +kernel, rfl⟩
theorem dX5_cuts_18 : At cX5_cuts 18 (.aaload) 1 19 := ⟨by decide +kernel, rfl⟩
theorem dX5_cuts_19 : At cX5_cuts 19 (.invokevirtual 147) 3 22 := ⟨by decide +kernel, rfl⟩
theorem dX5_cuts_22 : At cX5_cuts 22 (.aload_n 0) 1 23 := ⟨by decide +kernel, rfl⟩
theorem dX5_cuts_23 : At cX5_cuts 23 (.getfield 41) 3 26 := ⟨by decide +kernel, rfl⟩
theorem dX5_cuts_26 : At cX5_cuts 26 (.aload_n 0) 1 27 := ⟨by decide +kernel, rfl⟩
theorem dX5_cuts_27 : At cX5_cuts 27 (.getfield 50) 3 30 := ⟨by decide +kernel, rfl⟩
theorem dX5_cuts_30 : At cX5_cuts 30 (.invokevirtual 200) 3 33 := ⟨by decide +kernel, rfl⟩
theorem dX5_cuts_33 : At cX5_cuts 33 (.ireturn) 1 34 := ⟨by decide +kernel, rfl⟩
theorem dX5_ifSwapped_0 : At cX5_ifSwapped 0 (.iload_n 1) 1 1 := ⟨by decide +kernel, rfl⟩
theorem dX5_ifSwapped_1 : At cX5_ifSwapped 1 (.invokestatic 109) 3 4 := ⟨by decide +kernel, rfl⟩
theorem dX5_ifSwapped_4 : Br cX5_ifSwapped 4 (.ifCond .ne) 7 9 := ⟨(5), by decide +kernel, rfl, by decide⟩
theorem dX5_ifSwapped_7 : At cX5_ifSwapped 7 (.iconst (-1)) 1 8 := ⟨by decide +kernel, rfl⟩
theorem dX5_ifSwapped_8 : At cX5_ifSwapped 8 (.ireturn) 1 9 := ⟨by decide +kernel, rfl⟩
theorem dX5_ifSwapped_9 : At cX5_ifSwapped 9 (.iload_n 2) 1 10 := ⟨by decide +kernel, rfl⟩
theorem dX5_ifSwapped_10 : At cX5_ifSwapped 10 (.invokestatic 112) 3 13 := ⟨by decide +kernel, rfl⟩
theorem dX5_ifSwapped_13 : Br cX5_ifSwapped 13 (.ifCond .ne) 16 19 := ⟨(6), by decide +kernel, rfl, by decide⟩
theorem dX5_ifSwapped_16 : At cX5_ifSwapped 16 (.bipush (-2)) 2 18 := ⟨by decide +kernel, rfl⟩
theorem dX5_ifSwapped_18 : At cX5_ifSwapped 18 (.ireturn) 1 19 := ⟨by decide +kernel, rfl⟩
theorem dX5_ifSwapped_19 : At cX5_ifSwapped 19 (.aload_n 0) 1 20 := ⟨by decide +kernel, rfl⟩
theorem dX5_ifSwapped_20 : At cX5_ifSwapped 20 (.iload_n 1) 1 21 := ⟨by decide +kernel, rfl⟩
theorem dX5_ifSwapped_21 : At cX5_ifSwapped 21 (.iload_n 2) 1 22 := ⟨by decide +kernel, rfl⟩
theorem dX5_ifSwapped_22 : At cX5_ifSwapped 22 (.invokevirtual 203) 3 25 := ⟨by decide +kernel, rfl⟩
theorem dX5_ifSwapped_25 : At cX5_ifSwapped 25 (.ireturn) 1 26 := ⟨by decide +kernel, rfl⟩
theorem dX5_bestSwap_0 : At cX5_bestSwap 0 (.iload_n 1) 1 1 := ⟨by decide +kernel, rfl⟩
theorem dX5_bestSwap_1 : Br cX5_bestSwap 1 (.ifCond .lt) 4 9 := ⟨(8), by decide +kernel, rfl, by decide⟩
theorem dX5_bestSwap_4 : At cX5_bestSwap 4 (.iload_n 1) 1 5 := ⟨by decide +kernel, rfl⟩
theorem dX5_bestSwap_5 : At cX5_bestSwap 5 (.iconst 2) 1 6 := ⟨by decide +kernel, rfl⟩
theorem dX5_bestSwap_6 : Br cX5_bestSwap 6 (.if_icmp .le) 9 12 := ⟨(6), by decide +kernel, rfl, by decide⟩
theorem dX5_bestSwap_9 : At cX5_bestSwap 9 (.bipush (-2)) 2 11 := ⟨by decide +kernel, rfl⟩
theorem dX5_bestSwap_11 : At cX5_bestSwap 11 (.ireturn) 1 12 := ⟨by decide +kernel, rfl⟩
theorem dX5_bestSwap_12 : At cX5_bestSwap 12 (.iconst 0) 1 13 := ⟨by decide +kernel, rfl⟩
theorem dX5_bestSwap_13 : At cX5_bestSwap 13 (.istore_n 2) 1 14 := ⟨by decide +kernel, rfl⟩
theorem dX5_bestSwap_14 : At cX5_bestSwap 14 (.iconst 0) 1 15 := ⟨by decide +kernel, rfl⟩
theorem dX5_bestSwap_15 : At cX5_bestSwap 15 (.istore_n 3) 1 16 := ⟨by decide +kernel, rfl⟩
theorem dX5_bestSwap_16 : At cX5_bestSwap 16 (.aload_n 0) 1 17 := ⟨by decide +kernel, rfl⟩
theorem dX5_bestSwap_17 : At cX5_bestSwap 17 (.iconst 0) 1 18 := ⟨by decide +kernel, rfl⟩
theorem dX5_bestSwap_18 : At cX5_bestSwap 18 (.iconst 0) 1 19 := ⟨by decide +kernel, rfl⟩
theorem dX5_bestSwap_19 : At cX5_bestSwap 19 (.invokevirtual 203) 3 22 := ⟨by decide +kernel, rfl⟩
theorem dX5_bestSwap_22 : At cX5_bestSwap 22 (.istore 4) 2 24 := ⟨by decide +kernel, rfl⟩
theorem dX5_bestSwap_24 : At cX5_bestSwap 24 (.iconst 0) 1 25 := ⟨by decide +kernel, rfl⟩
theorem dX5_bestSwap_25 : At cX5_bestSwap 25 (.istore 5) 2 27 := ⟨by decide +kernel, rfl⟩
theorem dX5_bestSwap_27 : At cX5_bestSwap 27 (.iload 5) 2 29 := ⟨by decide +kernel, rfl⟩
theorem dX5_bestSwap_29 : At cX5_bestSwap 29 (.iconst 5) 1 30 := ⟨by decide +kernel, rfl⟩
theorem dX5_bestSwap_30 : Br cX5_bestSwap 30 (.if_icmp .ge) 33 81 := ⟨(51), by decide +kernel, rfl, by decide⟩
theorem dX5_bestSwap_33 : At cX5_bestSwap 33 (.iconst 0) 1 34 := ⟨by decide +kernel, rfl⟩
theorem dX5_bestSwap_34 : At cX5_bestSwap 34 (.istore 6) 2 36 := ⟨by decide +kernel, rfl⟩
theorem dX5_bestSwap_36 : At cX5_bestSwap 36 (.iload 6) 2 38 := ⟨by decide +kernel, rfl⟩
theorem dX5_bestSwap_38 : At cX5_bestSwap 38 (.iconst 1) 1 39 := ⟨by decide +kernel, rfl⟩
theorem dX5_bestSwap_39 : Br cX5_bestSwap 39 (.if_icmp .gt) 42 75 := ⟨(36), by decide +kernel, rfl, by decide⟩
theorem dX5_bestSwap_42 : At cX5_bestSwap 42 (.aload_n 0) 1 43 := ⟨by decide +kernel, rfl⟩
theorem dX5_bestSwap_43 : At cX5_bestSwap 43 (.iload 5) 2 45 := ⟨by decide +kernel, rfl⟩
theorem dX5_bestSwap_45 : At cX5_bestSwap 45 (.iload 6) 2 47 := ⟨by decide +kernel, rfl⟩
theorem dX5_bestSwap_47 : At cX5_bestSwap 47 (.invokevirtual 203) 3 50 := ⟨by decide +kernel, rfl⟩
theorem dX5_bestSwap_50 : At cX5_bestSwap 50 (.istore 7) 2 52 := ⟨by decide +kernel, rfl⟩
theorem dX5_bestSwap_52 : At cX5_bestSwap 52 (.iload 7) 2 54 := ⟨by decide +kernel, rfl⟩
theorem dX5_bestSwap_54 : At cX5_bestSwap 54 (.iload 4) 2 56 := ⟨by decide +kernel, rfl⟩
theorem dX5_bestSwap_56 : Br cX5_bestSwap 56 (.if_icmp .ge) 59 69 := ⟨(13), by decide +kernel, rfl, by decide⟩
theorem dX5_bestSwap_59 : At cX5_bestSwap 59 (.iload 5) 2 61 := ⟨by decide +kernel, rfl⟩
theorem dX5_bestSwap_61 : At cX5_bestSwap 61 (.istore_n 2) 1 62 := ⟨by decide +kernel, rfl⟩
theorem dX5_bestSwap_62 : At cX5_bestSwap 62 (.iload 6) 2 64 := ⟨by decide +kernel, rfl⟩
theorem dX5_bestSwap_64 : At cX5_bestSwap 64 (.istore_n 3) 1 65 := ⟨by decide +kernel, rfl⟩
theorem dX5_bestSwap_65 : At cX5_bestSwap 65 (.iload 7) 2 67 := ⟨by decide +kernel, rfl⟩
theorem dX5_bestSwap_67 : At cX5_bestSwap 67 (.istore 4) 2 69 := ⟨by decide +kernel, rfl⟩
theorem dX5_bestSwap_69 : At cX5_bestSwap 69 (.iinc 6 1) 3 72 := ⟨by decide +kernel, rfl⟩
theorem dX5_bestSwap_72 : Br cX5_bestSwap 72 .goto 75 36 := ⟨(-36), by decide +kernel, rfl, by decide⟩
theorem dX5_bestSwap_75 : At cX5_bestSwap 75 (.iinc 5 1) 3 78 := ⟨by decide +kernel, rfl⟩
theorem dX5_bestSwap_78 : Br cX5_bestSwap 78 .goto 81 27 := ⟨(-51), by decide +kernel, rfl, by decide⟩
theorem dX5_bestSwap_81 : At cX5_bestSwap 81 (.iload_n 1) 1 82 := ⟨by decide +kernel, rfl⟩
theorem dX5_bestSwap_82 : Br cX5_bestSwap 82 (.ifCond .ne) 85 87 := ⟨(5), by decide +kernel, rfl, by decide⟩
theorem dX5_bestSwap_85 : At cX5_bestSwap 85 (.iload_n 2) 1 86 := ⟨by decide +kernel, rfl⟩
theorem dX5_bestSwap_86 : At cX5_bestSwap 86 (.ireturn) 1 87 := ⟨by decide +kernel, rfl⟩
theorem dX5_bestSwap_87 : At cX5_bestSwap 87 (.iload_n 1) 1 88 := ⟨by decide +kernel, rfl⟩
theorem dX5_bestSwap_88 : At cX5_bestSwap 88 (.iconst 1) 1 89 := ⟨by decide +kernel, rfl⟩
theorem dX5_bestSwap_89 : Br cX5_bestSwap 89 (.if_icmp .ne) 92 96 := ⟨(7), by decide +kernel, rfl, by decide⟩
theorem dX5_bestSwap_92 : At cX5_bestSwap 92 (.iload_n 3) 1 93 := ⟨by decide +kernel, rfl⟩
theorem dX5_bestSwap_93 : Br cX5_bestSwap 93 .goto 96 98 := ⟨(5), by decide +kernel, rfl, by decide⟩
theorem dX5_bestSwap_96 : At cX5_bestSwap 96 (.iload 4) 2 98 := ⟨by decide +kernel, rfl⟩
theorem dX5_bestSwap_98 : At cX5_bestSwap 98 (.ireturn) 1 99 := ⟨by decide +kernel, rfl⟩
theorem dX5_undo_0 : At cX5_undo 0 (.aload_n 0) 1 1 := ⟨by decide +kernel, rfl⟩
theorem dX5_undo_1 : At cX5_undo 1 (.getfield 19) 3 4 := ⟨by decide +kernel, rfl⟩
theorem dX5_undo_4 : At cX5_undo 4 (.getfield 178) 3 7 := ⟨by decide +kernel, rfl⟩
theorem dX5_undo_7 : Br cX5_undo 7 (.ifCond .ne) 10 13 := ⟨(6), by decide +kernel, rfl, by decide⟩
theorem dX5_undo_10 : At cX5_undo 10 (.bipush (-5)) 2 12 := ⟨by decide +kernel, rfl⟩
theorem dX5_undo_12 : At cX5_undo 12 (.ireturn) 1 13 := ⟨by decide +kernel, rfl⟩
theorem dX5_undo_13 : At cX5_undo 13 (.aload_n 0) 1 14 := ⟨by decide +kernel, rfl⟩
theorem dX5_undo_14 : At cX5_undo 14 (.getfield 19) 3 17 := ⟨by decide +kernel, rfl⟩
theorem dX5_undo_17 : At cX5_undo 17 (.aload_n 0) 1 18 := ⟨by decide +kernel, rfl⟩
theorem dX5_undo_18 : At cX5_undo 18 (.getfield 12) 3 21 := ⟨by decide +kernel, rfl⟩
theorem dX5_undo_21 : At cX5_undo 21 (.invokevirtual 207) 3 24 := ⟨by decide +kernel, rfl⟩
theorem dX5_undo_24 : At cX5_undo 24 (.aload_n 0) 1 25 := ⟨by decide +kernel, rfl⟩
theorem dX5_undo_25 : At cX5_undo 25 (.getfield 19) 3 28 := ⟨by decide +kernel, rfl⟩
theorem dX5_undo_28 : At cX5_undo 28 (.getfield 178) 3 31 := ⟨by decide +kernel, rfl⟩
theorem dX5_undo_31 : At cX5_undo 31 (.ireturn) 1 32 := ⟨by decide +kernel, rfl⟩
theorem dX5_save_0 : At cX5_save 0 (.iload_n 1) 1 1 := ⟨by decide +kernel, rfl⟩
theorem dX5_save_1 : At cX5_save 1 (.invokestatic 210) 3 4 := ⟨by decide +kernel, rfl⟩
theorem dX5_save_4 : Br cX5_save 4 (.ifCond .ne) 7 10 := ⟨(6), by decide +kernel, rfl, by decide⟩
theorem dX5_save_7 : At cX5_save 7 (.bipush (-2)) 2 9 := ⟨by decide +kernel, rfl⟩
theorem dX5_save_9 : At cX5_save 9 (.ireturn) 1 10 := ⟨by decide +kernel, rfl⟩
theorem dX5_save_10 : At cX5_save 10 (.aload_n 0) 1 11 := ⟨by decide +kernel, rfl⟩
theorem dX5_save_11 : At cX5_save 11 (.getfield 23) 3 14 := ⟨by decide +kernel, rfl⟩
theorem dX5_save_14 : At cX5_save 14 (.iload_n 1) 1 15 := ⟨by decide +kernel, rfl⟩
theorem dX5_save_15 : At cX5_save 15 (.aaload) 1 16 := ⟨by decide +kernel, rfl⟩
theorem dX5_save_16 : At cX5_save 16 (.aload_n 0) 1 17 := ⟨by decide +kernel, rfl⟩
theorem dX5_save_17 : At cX5_save 17 (.getfield 12) 3 20 := ⟨by decide +kernel, rfl⟩
theorem dX5_save_20 : At cX5_save 20 (.invokevirtual 213) 3 23 := ⟨by decide +kernel, rfl⟩
theorem dX5_save_23 : At cX5_save 23 (.aload_n 0) 1 24 := ⟨by decide +kernel, rfl⟩
theorem dX5_save_24 : At cX5_save 24 (.getfield 27) 3 27 := ⟨by decide +kernel, rfl⟩
theorem dX5_save_27 : At cX5_save 27 (.iload_n 1) 1 28 := ⟨by decide +kernel, rfl⟩
theorem dX5_save_28 : At cX5_save 28 (.iconst 1) 1 29 := ⟨by decide +kernel, rfl⟩
theorem dX5_save_29 : At cX5_save 29 (.bastore) 1 30 := ⟨by decide +kernel, rfl⟩
theorem dX5_save_30 : At cX5_save 30 (.aload_n 0) 1 31 := ⟨by decide +kernel, rfl⟩
theorem dX5_save_31 : At cX5_save 31 (.getfield 12) 3 34 := ⟨by decide +kernel, rfl⟩
theorem dX5_save_34 : At cX5_save 34 (.invokevirtual 119) 3 37 := ⟨by decide +kernel, rfl⟩
theorem dX5_save_37 : At cX5_save 37 (.ireturn) 1 38 := ⟨by decide +kernel, rfl⟩
theorem dX5_restore_0 : At cX5_restore 0 (.iload_n 1) 1 1 := ⟨by decide +kernel, rfl⟩
theorem dX5_restore_1 : At cX5_restore 1 (.invokestatic 210) 3 4 := ⟨by decide +kernel, rfl⟩
theorem dX5_restore_4 : Br cX5_restore 4 (.ifCond .ne) 7 10 := ⟨(6), by decide +kernel, rfl, by decide⟩
theorem dX5_restore_7 : At cX5_restore 7 (.bipush (-2)) 2 9 := ⟨by decide +kernel, rfl⟩
theorem dX5_restore_9 : At cX5_restore 9 (.ireturn) 1 10 := ⟨by decide +kernel, rfl⟩
theorem dX5_restore_10 : At cX5_restore 10 (.aload_n 0) 1 11 := ⟨by decide +kernel, rfl⟩
theorem dX5_restore_11 : At cX5_restore 11 (.getfield 27) 3 14 := ⟨by decide +kernel, rfl⟩
theorem dX5_restore_14 : At cX5_restore 14 (.iload_n 1) 1 15 := ⟨by decide +kernel, rfl⟩
theorem dX5_restore_15 : At cX5_restore 15 (.baload) 1 16 := ⟨by decide +kernel, rfl⟩
theorem dX5_restore_16 : Br cX5_restore 16 (.ifCond .ne) 19 22 := ⟨(6), by decide +kernel, rfl, by decide⟩
theorem dX5_restore_19 : At cX5_restore 19 (.bipush (-5)) 2 21 := ⟨by decide +kernel, rfl⟩
theorem dX5_restore_21 : At cX5_restore 21 (.ireturn) 1 22 := ⟨by decide +kernel, rfl⟩
theorem dX5_restore_22 : At cX5_restore 22 (.aload_n 0) 1 23 := ⟨by decide +kernel, rfl⟩
theorem dX5_restore_23 : At cX5_restore 23 (.getfield 19) 3 26 := ⟨by decide +kernel, rfl⟩
theorem dX5_restore_26 : At cX5_restore 26 (.aload_n 0) 1 27 := ⟨by decide +kernel, rfl⟩
theorem dX5_restore_27 : At cX5_restore 27 (.getfield 12) 3 30 := ⟨by decide +kernel, rfl⟩
theorem dX5_restore_30 : At cX5_restore 30 (.invokevirtual 64) 3 33 := ⟨by decide +kernel, rfl⟩
theorem dX5_restore_33 : At cX5_restore 33 (.aload_n 0) 1 34 := ⟨by decide +kernel, rfl⟩
theorem dX5_restore_34 : At cX5_restore 34 (.getfield 12) 3 37 := ⟨by decide +kernel, rfl⟩
theorem dX5_restore_37 : At cX5_restore 37 (.aload_n 0) 1 38 := ⟨by decide +kernel, rfl⟩
theorem dX5_restore_38 : At cX5_restore 38 (.getfield 23) 3 41 := ⟨by decide +kernel, rfl⟩
theorem dX5_restore_41 : At cX5_restore 41 (.iload_n 1) 1 42 := ⟨by decide +kernel, rfl⟩
theorem dX5_restore_42 : At cX5_restore 42 (.aaload) 1 43 := ⟨by decide +kernel, rfl⟩
theorem dX5_restore_43 : At cX5_restore 43 (.invokevirtual 213) 3 46 := ⟨by decide +kernel, rfl⟩
theorem dX5_restore_46 : At cX5_restore 46 (.aload_n 0) 1 47 := ⟨by decide +kernel, rfl⟩
theorem dX5_restore_47 : At cX5_restore 47 (.getfield 12) 3 50 := ⟨by decide +kernel, rfl⟩
theorem dX5_restore_50 : At cX5_restore 50 (.invokevirtual 119) 3 53 := ⟨by decide +kernel, rfl⟩
theorem dX5_restore_53 : At cX5_restore 53 (.ireturn) 1 54 := ⟨by decide +kernel, rfl⟩
theorem dX5_isPost_0 : At cX5_isPost 0 (.iload_n 0) 1 1 := ⟨by decide +kernel, rfl⟩
theorem dX5_isPost_1 : Br cX5_isPost 1 (.ifCond .lt) 4 14 := ⟨(13), by decide +kernel, rfl, by decide⟩
theorem dX5_isPost_4 : At cX5_isPost 4 (.iload_n 0) 1 5 := ⟨by decide +kernel, rfl⟩
theorem dX5_isPost_5 : At cX5_isPost 5 (.bipush 6) 2 7 := ⟨by decide +kernel, rfl⟩
theorem dX5_isPost_7 : Br cX5_isPost 7 (.if_icmp .ge) 10 14 := ⟨(7), by decide +kernel, rfl, by decide⟩
theorem dX5_isPost_10 : At cX5_isPost 10 (.iconst 1) 1 11 := ⟨by decide +kernel, rfl⟩
theorem dX5_isPost_11 : Br cX5_isPost 11 .goto 14 15 := ⟨(4), by decide +kernel, rfl, by decide⟩
theorem dX5_isPost_14 : At cX5_isPost 14 (.iconst 0) 1 15 := ⟨by decide +kernel, rfl⟩
theorem dX5_isPost_15 : At cX5_isPost 15 (.ireturn) 1 16 := ⟨by decide +kernel, rfl⟩
theorem dX5_isRope_0 : At cX5_isRope 0 (.iload_n 0) 1 1 := ⟨by decide +kernel, rfl⟩
theorem dX5_isRope_1 : Br cX5_isRope 1 (.ifCond .lt) 4 13 := ⟨(12), by decide +kernel, rfl, by decide⟩
theorem dX5_isRope_4 : At cX5_isRope 4 (.iload_n 0) 1 5 := ⟨by decide +kernel, rfl⟩
theorem dX5_isRope_5 : At cX5_isRope 5 (.iconst 4) 1 6 := ⟨by decide +kernel, rfl⟩
theorem dX5_isRope_6 : Br cX5_isRope 6 (.if_icmp .ge) 9 13 := ⟨(7), by decide +kernel, rfl, by decide⟩
theorem dX5_isRope_9 : At cX5_isRope 9 (.iconst 1) 1 10 := ⟨by decide +kernel, rfl⟩
theorem dX5_isRope_10 : Br cX5_isRope 10 .goto 13 14 := ⟨(4), by decide +kernel, rfl, by decide⟩
theorem dX5_isRope_13 : At cX5_isRope 13 (.iconst 0) 1 14 := ⟨by decide +kernel, rfl⟩
theorem dX5_isRope_14 : At cX5_isRope 14 (.ireturn) 1 15 := ⟨by decide +kernel, rfl⟩
theorem dX5_isSwap_0 : At cX5_isSwap 0 (.iload_n 0) 1 1 := ⟨by decide +kernel, rfl⟩
theorem dX5_isSwap_1 : Br cX5_isSwap 1 (.ifCond .lt) 4 13 := ⟨(12), by decide +kernel, rfl, by decide⟩
theorem dX5_isSwap_4 : At cX5_isSwap 4 (.iload_n 0) 1 5 := ⟨by decide +kernel, rfl⟩
theorem dX5_isSwap_5 : At cX5_isSwap 5 (.iconst 5) 1 6 := ⟨by decide +kernel, rfl⟩
theorem dX5_isSwap_6 : Br cX5_isSwap 6 (.if_icmp .ge) 9 13 := ⟨(7), by decide +kernel, rfl, by decide⟩
theorem dX5_isSwap_9 : At cX5_isSwap 9 (.iconst 1) 1 10 := ⟨by decide +kernel, rfl⟩
theorem dX5_isSwap_10 : Br cX5_isSwap 10 .goto 13 14 := ⟨(4), by decide +kernel, rfl, by decide⟩
theorem dX5_isSwap_13 : At cX5_isSwap 13 (.iconst 0) 1 14 := ⟨by decide +kernel, rfl⟩
theorem dX5_isSwap_14 : At cX5_isSwap 14 (.ireturn) 1 15 := ⟨by decide +kernel, rfl⟩
theorem dX5_isBack_0 : At cX5_isBack 0 (.iload_n 0) 1 1 := ⟨by decide +kernel, rfl⟩
theorem dX5_isBack_1 : Br cX5_isBack 1 (.ifCond .eq) 4 9 := ⟨(8), by decide +kernel, rfl, by decide⟩
theorem dX5_isBack_4 : At cX5_isBack 4 (.iload_n 0) 1 5 := ⟨by decide +kernel, rfl⟩
theorem dX5_isBack_5 : At cX5_isBack 5 (.iconst 1) 1 6 := ⟨by decide +kernel, rfl⟩
theorem dX5_isBack_6 : Br cX5_isBack 6 (.if_icmp .ne) 9 13 := ⟨(7), by decide +kernel, rfl, by decide⟩
theorem dX5_isBack_9 : At cX5_isBack 9 (.iconst 1) 1 10 := ⟨by decide +kernel, rfl⟩
theorem dX5_isBack_10 : Br cX5_isBack 10 .goto 13 14 := ⟨(4), by decide +kernel, rfl, by decide⟩
theorem dX5_isBack_13 : At cX5_isBack 13 (.iconst 0) 1 14 := ⟨by decide +kernel, rfl⟩
theorem dX5_isBack_14 : At cX5_isBack 14 (.ireturn) 1 15 := ⟨by decide +kernel, rfl⟩
theorem dX5_isSlot_0 : At cX5_isSlot 0 (.iload_n 0) 1 1 := ⟨by decide +kernel, rfl⟩
theorem dX5_isSlot_1 : Br cX5_isSlot 1 (.ifCond .lt) 4 13 := ⟨(12), by decide +kernel, rfl, by decide⟩
theorem dX5_isSlot_4 : At cX5_isSlot 4 (.iload_n 0) 1 5 := ⟨by decide +kernel, rfl⟩
theorem dX5_isSlot_5 : At cX5_isSlot 5 (.iconst 2) 1 6 := ⟨by decide +kernel, rfl⟩
theorem dX5_isSlot_6 : Br cX5_isSlot 6 (.if_icmp .ge) 9 13 := ⟨(7), by decide +kernel, rfl, by decide⟩
theorem dX5_isSlot_9 : At cX5_isSlot 9 (.iconst 1) 1 10 := ⟨by decide +kernel, rfl⟩
theorem dX5_isSlot_10 : Br cX5_isSlot 10 .goto 13 14 := ⟨(4), by decide +kernel, rfl, by decide⟩
theorem dX5_isSlot_13 : At cX5_isSlot 13 (.iconst 0) 1 14 := ⟨by decide +kernel, rfl⟩
theorem dX5_isSlot_14 : At cX5_isSlot 14 (.ireturn) 1 15 := ⟨by decide +kernel, rfl⟩
theorem dX5_postOf_0 : At cX5_postOf 0 (.iload_n 0) 1 1 := ⟨by decide +kernel, rfl⟩
theorem dX5_postOf_1 : At cX5_postOf 1 (.bipush 6) 2 3 := ⟨by decide +kernel, rfl⟩
theorem dX5_postOf_3 : Br cX5_postOf 3 (.if_icmp .ge) 6 10 := ⟨(7), by decide +kernel, rfl, by decide⟩
theorem dX5_postOf_6 : At cX5_postOf 6 (.iload_n 0) 1 7 := ⟨by decide +kernel, rfl⟩
theorem dX5_postOf_7 : Br cX5_postOf 7 .goto 10 14 := ⟨(7), by decide +kernel, rfl, by decide⟩
theorem dX5_postOf_10 : At cX5_postOf 10 (.iload_n 0) 1 11 := ⟨by decide +kernel, rfl⟩
theorem dX5_postOf_11 : At cX5_postOf 11 (.bipush 6) 2 13 := ⟨by decide +kernel, rfl⟩
theorem dX5_postOf_13 : At cX5_postOf 13 (.isub) 1 14 := ⟨by decide +kernel, rfl⟩
theorem dX5_postOf_14 : At cX5_postOf 14 (.ireturn) 1 15 := ⟨by decide +kernel, rfl⟩
theorem dX5_opposite_0 : At cX5_opposite 0 (.iload_n 0) 1 1 := ⟨by decide +kernel, rfl⟩
theorem dX5_opposite_1 : At cX5_opposite 1 (.bipush 6) 2 3 := ⟨by decide +kernel, rfl⟩
theorem dX5_opposite_3 : Br cX5_opposite 3 (.if_icmp .ge) 6 13 := ⟨(10), by decide +kernel, rfl, by decide⟩
theorem dX5_opposite_6 : At cX5_opposite 6 (.iload_n 0) 1 7 := ⟨by decide +kernel, rfl⟩
theorem dX5_opposite_7 : At cX5_opposite 7 (.bipush 6) 2 9 := ⟨by decide +kernel, rfl⟩
theorem dX5_opposite_9 : At cX5_opposite 9 (.iadd) 1 10 := ⟨by decide +kernel, rfl⟩
theorem dX5_opposite_10 : Br cX5_opposite 10 .goto 13 17 := ⟨(7), by decide +kernel, rfl, by decide⟩
theorem dX5_opposite_13 : At cX5_opposite 13 (.iload_n 0) 1 14 := ⟨by decide +kernel, rfl⟩
theorem dX5_opposite_14 : At cX5_opposite 14 (.bipush 6) 2 16 := ⟨by decide +kernel, rfl⟩
theorem dX5_opposite_16 : At cX5_opposite 16 (.isub) 1 17 := ⟨by decide +kernel, rfl⟩
theorem dX5_opposite_17 : At cX5_opposite 17 (.ireturn) 1 18 := ⟨by decide +kernel, rfl⟩
theorem dX5_oneIf_0 : At cX5_oneIf 0 (.iload_n 0) 1 1 := ⟨by decide +kernel, rfl⟩
theorem dX5_oneIf_1 : Br cX5_oneIf 1 (.ifCond .eq) 4 8 := ⟨(7), by decide +kernel, rfl, by decide⟩
theorem dX5_oneIf_4 : At cX5_oneIf 4 (.iconst 1) 1 5 := ⟨by decide +kernel, rfl⟩
theorem dX5_oneIf_5 : Br cX5_oneIf 5 .goto 8 9 := ⟨(4), by decide +kernel, rfl, by decide⟩
theorem dX5_oneIf_8 : At cX5_oneIf 8 (.iconst 0) 1 9 := ⟨by decide +kernel, rfl⟩
theorem dX5_oneIf_9 : At cX5_oneIf 9 (.ireturn) 1 10 := ⟨by decide +kernel, rfl⟩
theorem dX5_crossingOrNoSuch_0 : At cX5_crossingOrNoSuch 0 (.aload_n 0) 1 1 := ⟨by decide +kernel, rfl⟩
theorem dX5_crossingOrNoSuch_1 : At cX5_crossingOrNoSuch 1 (.iload_n 1) 1 2 := ⟨by decide +kernel, rfl⟩
theorem dX5_crossingOrNoSuch_2 : At cX5_crossingOrNoSuch 2 (.invokevirtual 215) 3 5 := ⟨by decide +kernel, rfl⟩
theorem dX5_crossingOrNoSuch_5 : At cX5_crossingOrNoSuch 5 (.istore_n 2) 1 6 := ⟨by decide +kernel, rfl⟩
theorem dX5_crossingOrNoSuch_6 : At cX5_crossingOrNoSuch 6 (.iload_n 2) 1 7 := ⟨by decide +kernel, rfl⟩
theorem dX5_crossingOrNoSuch_7 : At cX5_crossingOrNoSuch 7 (.iconst (-1)) 1 8 := ⟨by decide +kernel, rfl⟩
theorem dX5_crossingOrNoSuch_8 : Br cX5_crossingOrNoSuch 8 (.if_icmp .ne) 11 15 := ⟨(7), by decide +kernel, rfl, by decide⟩
theorem dX5_crossingOrNoSuch_11 : At cX5_crossingOrNoSuch 11 (.iconst (-1)) 1 12 := ⟨by decide +kernel, rfl⟩
theorem dX5_crossingOrNoSuch_12 : Br cX5_crossingOrNoSuch 12 .goto 15 16 := ⟨(4), by decide +kernel, rfl, by decide⟩
theorem dX5_crossingOrNoSuch_15 : At cX5_crossingOrNoSuch 15 (.iload_n 2) 1 16 := ⟨by decide +kernel, rfl⟩
theorem dX5_crossingOrNoSuch_16 : At cX5_crossingOrNoSuch 16 (.ireturn) 1 17 := ⟨by decide +kernel, rfl⟩
theorem dX5_layPulled_0 : At cX5_layPulled 0 (.aload_n 0) 1 1 := ⟨by decide +kernel, rfl⟩
theorem dX5_layPulled_1 : At cX5_layPulled 1 (.getfield 50) 3 4 := ⟨by decide +kernel, rfl⟩
theorem dX5_layPulled_4 : At cX5_layPulled 4 (.aload_n 1) 1 5 := ⟨by decide +kernel, rfl⟩
theorem dX5_layPulled_5 : At cX5_layPulled 5 (.invokevirtual 106) 3 8 := ⟨by decide +kernel, rfl⟩
theorem dX5_layPulled_8 : At cX5_layPulled 8 (.aload_n 0) 1 9 := ⟨by decide +kernel, rfl⟩
theorem dX5_layPulled_9 : At cX5_layPulled 9 (.getfield 50) 3 12 := ⟨by decide +kernel, rfl⟩
theorem dX5_layPulled_12 : At cX5_layPulled 12 (.invokevirtual 89) 3 15 := ⟨by decide +kernel, rfl⟩
theorem dX5_layPulled_15 : At cX5_layPulled 15 (.pop) 1 16 := ⟨by decide +kernel, rfl⟩
theorem dX5_layPulled_16 : At cX5_layPulled 16 (.return_) 1 17 := ⟨by decide +kernel, rfl⟩
theorem dX5_layLoop_0 : At cX5_layLoop 0 (.aload_n 0) 1 1 := ⟨by decide +kernel, rfl⟩
theorem dX5_layLoop_1 : At cX5_layLoop 1 (.getfield 57) 3 4 := ⟨by decide +kernel, rfl⟩
theorem dX5_layLoop_4 : At cX5_layLoop 4 (.aload_n 1) 1 5 := ⟨by decide +kernel, rfl⟩
theorem dX5_layLoop_5 : At cX5_layLoop 5 (.invokevirtual 106) 3 8 := ⟨by decide +kernel, rfl⟩
theorem dX5_layLoop_8 : At cX5_layLoop 8 (.aload_n 0) 1 9 := ⟨by decide +kernel, rfl⟩
theorem dX5_layLoop_9 : At cX5_layLoop 9 (.getfield 57) 3 12 := ⟨by decide +kernel, rfl⟩
theorem dX5_layLoop_12 : At cX5_layLoop 12 (.invokevirtual 218) 3 15 := ⟨by decide +kernel, rfl⟩
theorem dX5_layLoop_15 : At cX5_layLoop 15 (.return_) 1 16 := ⟨by decide +kernel, rfl⟩
theorem dX5_layLeast_0 : At cX5_layLeast 0 (.aload_n 0) 1 1 := ⟨by decide +kernel, rfl⟩
theorem dX5_layLeast_1 : At cX5_layLeast 1 (.getfield 57) 3 4 := ⟨by decide +kernel, rfl⟩
theorem dX5_layLeast_4 : At cX5_layLeast 4 (.aload_n 1) 1 5 := ⟨by decide +kernel, rfl⟩
theorem dX5_layLeast_5 : At cX5_layLeast 5 (.invokevirtual 106) 3 8 := ⟨by decide +kernel, rfl⟩
theorem dX5_layLeast_8 : At cX5_layLeast 8 (.aload_n 0) 1 9 := ⟨by decide +kernel, rfl⟩
theorem dX5_layLeast_9 : At cX5_layLeast 9 (.getfield 57) 3 12 := ⟨by decide +kernel, rfl⟩
theorem dX5_layLeast_12 : At cX5_layLeast 12 (.invokevirtual 218) 3 15 := ⟨by decide +kernel, rfl⟩
theorem dX5_layLeast_15 : At cX5_layLeast 15 (.aload_n 2) 1 16 := ⟨by decide +kernel, rfl⟩
theorem dX5_layLeast_16 : At cX5_layLeast 16 (.aload_n 0) 1 17 := ⟨by decide +kernel, rfl⟩
theorem dX5_layLeast_17 : At cX5_layLeast 17 (.getfield 57) 3 20 := ⟨by decide +kernel, rfl⟩
theorem dX5_layLeast_20 : At cX5_layLeast 20 (.aload_n 0) 1 21 := ⟨by decide +kernel, rfl⟩
theorem dX5_layLeast_21 : At cX5_layLeast 21 (.getfield 57) 3 24 := ⟨by decide +kernel, rfl⟩
theorem dX5_layLeast_24 : At cX5_layLeast 24 (.invokevirtual 221) 3 27 := ⟨by decide +kernel, rfl⟩
theorem dX5_layLeast_27 : At cX5_layLeast 27 (.invokevirtual 224) 3 30 := ⟨by decide +kernel, rfl⟩
theorem dX5_layLeast_30 : At cX5_layLeast 30 (.return_) 1 31 := ⟨by decide +kernel, rfl⟩
theorem dX5_laySwapped_0 : At cX5_laySwapped 0 (.aload_n 0) 1 1 := ⟨by decide +kernel, rfl⟩
theorem dX5_laySwapped_1 : At cX5_laySwapped 1 (.getfield 50) 3 4 := ⟨by decide +kernel, rfl⟩
theorem dX5_laySwapped_4 : At cX5_laySwapped 4 (.invokevirtual 100) 3 7 := ⟨by decide +kernel, rfl⟩
theorem dX5_laySwapped_7 : At cX5_laySwapped 7 (.iconst 0) 1 8 := ⟨by decide +kernel, rfl⟩
theorem dX5_laySwapped_8 : At cX5_laySwapped 8 (.istore 4) 2 10 := ⟨by decide +kernel, rfl⟩
theorem dX5_laySwapped_10 : At cX5_laySwapped 10 (.iload 4) 2 12 := ⟨by decide +kernel, rfl⟩
theorem dX5_laySwapped_12 : At cX5_laySwapped 12 (.aload_n 1) 1 13 := ⟨by decide +kernel, rfl⟩
theorem dX5_laySwapped_13 : At cX5_laySwapped 13 (.getfield 79) 3 16 := ⟨by decide +kernel, rfl⟩
theorem dX5_laySwapped_16 : Br cX5_laySwapped 16 (.if_icmp .ge) 19 37 := ⟨(21), by decide +kernel, rfl, by decide⟩
theorem dX5_laySwapped_19 : At cX5_laySwapped 19 (.aload_n 0) 1 20 := ⟨by decide +kernel, rfl⟩
theorem dX5_laySwapped_20 : At cX5_laySwapped 20 (.aload_n 1) 1 21 := ⟨by decide +kernel, rfl⟩
theorem dX5_laySwapped_21 : At cX5_laySwapped 21 (.iload 4) 2 23 := ⟨by decide +kernel, rfl⟩
theorem dX5_laySwapped_23 : At cX5_laySwapped 23 (.invokevirtual 215) 3 26 := ⟨by decide +kernel, rfl⟩
theorem dX5_laySwapped_26 : At cX5_laySwapped 26 (.iload_n 2) 1 27 := ⟨by decide +kernel, rfl⟩
theorem dX5_laySwapped_27 : At cX5_laySwapped 27 (.iload_n 3) 1 28 := ⟨by decide +kernel, rfl⟩
theorem dX5_laySwapped_28 : At cX5_laySwapped 28 (.invokevirtual 228) 3 31 := ⟨by decide +kernel, rfl⟩
theorem dX5_laySwapped_31 : At cX5_laySwapped 31 (.iinc 4 1) 3 34 := ⟨by decide +kernel, rfl⟩
theorem dX5_laySwapped_34 : Br cX5_laySwapped 34 .goto 37 10 := ⟨(-24), by decide +kernel, rfl, by decide⟩
theorem dX5_laySwapped_37 : At cX5_laySwapped 37 (.return_) 1 38 := ⟨by decide +kernel, rfl⟩
theorem dX5_addSwapped_0 : At cX5_addSwapped 0 (.iload_n 2) 1 1 := ⟨by decide +kernel, rfl⟩
theorem dX5_addSwapped_1 : At cX5_addSwapped 1 (.iload_n 3) 1 2 := ⟨by decide +kernel, rfl⟩
theorem dX5_addSwapped_2 : At cX5_addSwapped 2 (.iadd) 1 3 := ⟨by decide +kernel, rfl⟩
theorem dX5_addSwapped_3 : At cX5_addSwapped 3 (.istore 4) 2 5 := ⟨by decide +kernel, rfl⟩
theorem dX5_addSwapped_5 : At cX5_addSwapped 5 (.iload_n 2) 1 6 := ⟨by decide +kernel, rfl⟩
theorem dX5_addSwapped_6 : At cX5_addSwapped 6 (.iconst 1) 1 7 := ⟨by decide +kernel, rfl⟩
theorem dX5_addSwapped_7 : At cX5_addSwapped 7 (.iadd) 1 8 := ⟨by decide +kernel, rfl⟩
theorem dX5_addSwapped_8 : At cX5_addSwapped 8 (.iload_n 3) 1 9 := ⟨by decide +kernel, rfl⟩
theorem dX5_addSwapped_9 : At cX5_addSwapped 9 (.isub) 1 10 := ⟨by decide +kernel, rfl⟩
theorem dX5_addSwapped_10 : At cX5_addSwapped 10 (.istore 5) 2 12 := ⟨by decide +kernel, rfl⟩
theorem dX5_addSwapped_12 : At cX5_addSwapped 12 (.iload_n 1) 1 13 := ⟨by decide +kernel, rfl⟩
theorem dX5_addSwapped_13 : At cX5_addSwapped 13 (.invokestatic 232) 3 16 := ⟨by decide +kernel, rfl⟩
theorem dX5_addSwapped_16 : At cX5_addSwapped 16 (.istore 6) 2 18 := ⟨by decide +kernel, rfl⟩
theorem dX5_addSwapped_18 : At cX5_addSwapped 18 (.iload_n 1) 1 19 := ⟨by decide +kernel, rfl⟩
theorem dX5_addSwapped_19 : At cX5_addSwapped 19 (.iload 6) 2 21 := ⟨by decide +kernel, rfl⟩
theorem dX5_addSwapped_21 : At cX5_addSwapped 21 (.isub) 1 22 := ⟨by decide +kernel, rfl⟩
theorem dX5_addSwapped_22 : At cX5_addSwapped 22 (.istore 7) 2 24 := ⟨by decide +kernel, rfl⟩
theorem dX5_addSwapped_24 : At cX5_addSwapped 24 (.iload 6) 2 26 := ⟨by decide +kernel, rfl⟩
theorem dX5_addSwapped_26 : At cX5_addSwapped 26 (.iload 4) 2 28 := ⟨by decide +kernel, rfl⟩
theorem dX5_addSwapped_28 : Br cX5_addSwapped 28 (.if_icmp .ne) 31 86 := ⟨(58), by decide +kernel, rfl, by decide⟩
theorem dX5_addSwapped_31 : At cX5_addSwapped 31 (.iload_n 3) 1 32 := ⟨by decide +kernel, rfl⟩
theorem dX5_addSwapped_32 : Br cX5_addSwapped 32 (.ifCond .ne) 35 40 := ⟨(8), by decide +kernel, rfl, by decide⟩
theorem dX5_addSwapped_35 : At cX5_addSwapped 35 (.iload 4) 2 37 := ⟨by decide +kernel, rfl⟩
theorem dX5_addSwapped_37 : Br cX5_addSwapped 37 .goto 40 45 := ⟨(8), by decide +kernel, rfl, by decide⟩
theorem dX5_addSwapped_40 : At cX5_addSwapped 40 (.iload 4) 2 42 := ⟨by decide +kernel, rfl⟩
theorem dX5_addSwapped_42 : At cX5_addSwapped 42 (.invokestatic 235) 3 45 := ⟨by decide +kernel, rfl⟩
theorem dX5_addSwapped_45 : At cX5_addSwapped 45 (.istore 8) 2 47 := ⟨by decide +kernel, rfl⟩
theorem dX5_addSwapped_47 : At cX5_addSwapped 47 (.aload_n 0) 1 48 := ⟨by decide +kernel, rfl⟩
theorem dX5_addSwapped_48 : At cX5_addSwapped 48 (.getfield 50) 3 51 := ⟨by decide +kernel, rfl⟩
theorem dX5_addSwapped_51 : At cX5_addSwapped 51 (.iload 8) 2 53 := ⟨by decide +kernel, rfl⟩
theorem dX5_addSwapped_53 : At cX5_addSwapped 53 (.invokevirtual 238) 3 56 := ⟨by decide +kernel, rfl⟩
theorem dX5_addSwapped_56 : At cX5_addSwapped 56 (.pop) 1 57 := ⟨by decide +kernel, rfl⟩
theorem dX5_addSwapped_57 : At cX5_addSwapped 57 (.aload_n 0) 1 58 := ⟨by decide +kernel, rfl⟩
theorem dX5_addSwapped_58 : At cX5_addSwapped 58 (.getfield 50) 3 61 := ⟨by decide +kernel, rfl⟩
theorem dX5_addSwapped_61 : At cX5_addSwapped 61 (.iload 5) 2 63 := ⟨by decide +kernel, rfl⟩
theorem dX5_addSwapped_63 : At cX5_addSwapped 63 (.iload 7) 2 65 := ⟨by decide +kernel, rfl⟩
theorem dX5_addSwapped_65 : At cX5_addSwapped 65 (.iadd) 1 66 := ⟨by decide +kernel, rfl⟩
theorem dX5_addSwapped_66 : At cX5_addSwapped 66 (.invokevirtual 238) 3 69 := ⟨by decide +kernel, rfl⟩
theorem dX5_addSwapped_69 : At cX5_addSwapped 69 (.pop) 1 70 := ⟨by decide +kernel, rfl⟩
theorem dX5_addSwapped_70 : At cX5_addSwapped 70 (.aload_n 0) 1 71 := ⟨by decide +kernel, rfl⟩
theorem dX5_addSwapped_71 : At cX5_addSwapped 71 (.getfield 50) 3 74 := ⟨by decide +kernel, rfl⟩
theorem dX5_addSwapped_74 : At cX5_addSwapped 74 (.iload 8) 2 76 := ⟨by decide +kernel, rfl⟩
theorem dX5_addSwapped_76 : At cX5_addSwapped 76 (.invokestatic 235) 3 79 := ⟨by decide +kernel, rfl⟩
theorem dX5_addSwapped_79 : At cX5_addSwapped 79 (.invokevirtual 238) 3 82 := ⟨by decide +kernel, rfl⟩
theorem dX5_addSwapped_82 : At cX5_addSwapped 82 (.pop) 1 83 := ⟨by decide +kernel, rfl⟩
theorem dX5_addSwapped_83 : Br cX5_addSwapped 83 .goto 86 118 := ⟨(35), by decide +kernel, rfl, by decide⟩
theorem dX5_addSwapped_86 : At cX5_addSwapped 86 (.iload 6) 2 88 := ⟨by decide +kernel, rfl⟩
theorem dX5_addSwapped_88 : At cX5_addSwapped 88 (.iload 5) 2 90 := ⟨by decide +kernel, rfl⟩
theorem dX5_addSwapped_90 : Br cX5_addSwapped 90 (.if_icmp .ne) 93 109 := ⟨(19), by decide +kernel, rfl, by decide⟩
theorem dX5_addSwapped_93 : At cX5_addSwapped 93 (.aload_n 0) 1 94 := ⟨by decide +kernel, rfl⟩
theorem dX5_addSwapped_94 : At cX5_addSwapped 94 (.getfield 50) 3 97 := ⟨by decide +kernel, rfl⟩
theorem dX5_addSwapped_97 : At cX5_addSwapped 97 (.iload 4) 2 99 := ⟨by decide +kernel, rfl⟩
theorem dX5_addSwapped_99 : At cX5_addSwapped 99 (.iload 7) 2 101 := ⟨by decide +kernel, rfl⟩
theorem dX5_addSwapped_101 : At cX5_addSwapped 101 (.iadd) 1 102 := ⟨by decide +kernel, rfl⟩
theorem dX5_addSwapped_102 : At cX5_addSwapped 102 (.invokevirtual 238) 3 105 := ⟨by decide +kernel, rfl⟩
theorem dX5_addSwapped_105 : At cX5_addSwapped 105 (.pop) 1 106 := ⟨by decide +kernel, rfl⟩
theorem dX5_addSwapped_106 : Br cX5_addSwapped 106 .goto 109 118 := ⟨(12), by decide +kernel, rfl, by decide⟩
theorem dX5_addSwapped_109 : At cX5_addSwapped 109 (.aload_n 0) 1 110 := ⟨by decide +kernel, rfl⟩
theorem dX5_addSwapped_110 : At cX5_addSwapped 110 (.getfield 50) 3 113 := ⟨by decide +kernel, rfl⟩
theorem dX5_addSwapped_113 : At cX5_addSwapped 113 (.iload_n 1) 1 114 := ⟨by decide +kernel, rfl⟩
theorem dX5_addSwapped_114 : At cX5_addSwapped 114 (.invokevirtual 238) 3 117 := ⟨by decide +kernel, rfl⟩
theorem dX5_addSwapped_117 : At cX5_addSwapped 117 (.pop) 1 118 := ⟨by decide +kernel, rfl⟩
theorem dX5_addSwapped_118 : At cX5_addSwapped 118 (.return_) 1 119 := ⟨by decide +kernel, rfl⟩
theorem dX5_crossingsIfSwapped_0 : At cX5_crossingsIfSwapped 0 (.iconst 0) 1 1 := ⟨by decide +kernel, rfl⟩
theorem dX5_crossingsIfSwapped_1 : At cX5_crossingsIfSwapped 1 (.istore_n 3) 1 2 := ⟨by decide +kernel, rfl⟩
theorem dX5_crossingsIfSwapped_2 : At cX5_crossingsIfSwapped 2 (.iconst 0) 1 3 := ⟨by decide +kernel, rfl⟩
theorem dX5_crossingsIfSwapped_3 : At cX5_crossingsIfSwapped 3 (.istore 4) 2 5 := ⟨by decide +kernel, rfl⟩
theorem dX5_crossingsIfSwapped_5 : At cX5_crossingsIfSwapped 5 (.iload 4) 2 7 := ⟨by decide +kernel, rfl⟩
theorem dX5_crossingsIfSwapped_7 : At cX5_crossingsIfSwapped 7 (.iconst 4) 1 8 := ⟨by decide +kernel, rfl⟩
theorem dX5_crossingsIfSwapped_8 : Br cX5_crossingsIfSwapped 8 (.if_icmp .ge) 11 43 := ⟨(35), by decide +kernel, rfl, by decide⟩
theorem dX5_crossingsIfSwapped_11 : At cX5_crossingsIfSwapped 11 (.aload_n 0) 1 12 := ⟨by decide +kernel, rfl⟩
theorem dX5_crossingsIfSwapped_12 : At cX5_crossingsIfSwapped 12 (.aload_n 0) 1 13 := ⟨by decide +kernel, rfl⟩
theorem dX5_crossingsIfSwapped_13 : At cX5_crossingsIfSwapped 13 (.getfield 12) 3 16 := ⟨by decide +kernel, rfl⟩
theorem dX5_crossingsIfSwapped_16 : At cX5_crossingsIfSwapped 16 (.getfield 75) 3 19 := ⟨by decide +kernel, rfl⟩
theorem dX5_crossingsIfSwapped_19 : At cX5_crossingsIfSwapped 19 (.iload 4) 2 21 := ⟨by decide +kernel, rfl⟩
theorem dX5_crossingsIfSwapped_21 : At cX5_crossingsIfSwapped 21 (.aaload) 1 22 := ⟨by decide +kernel, rfl⟩
theorem dX5_crossingsIfSwapped_22 : At cX5_crossingsIfSwapped 22 (.iload_n 1) 1 23 := ⟨by decide +kernel, rfl⟩
theorem dX5_crossingsIfSwapped_23 : At cX5_crossingsIfSwapped 23 (.iload_n 2) 1 24 := ⟨by decide +kernel, rfl⟩
theorem dX5_crossingsIfSwapped_24 : At cX5_crossingsIfSwapped 24 (.invokevirtual 115) 3 27 := ⟨by decide +kernel, rfl⟩
theorem dX5_crossingsIfSwapped_27 : At cX5_crossingsIfSwapped 27 (.iload_n 3) 1 28 := ⟨by decide +kernel, rfl⟩
theorem dX5_crossingsIfSwapped_28 : At cX5_crossingsIfSwapped 28 (.aload_n 0) 1 29 := ⟨by decide +kernel, rfl⟩
theorem dX5_crossingsIfSwapped_29 : At cX5_crossingsIfSwapped 29 (.getfield 50) 3 32 := ⟨by decide +kernel, rfl⟩
theorem dX5_crossingsIfSwapped_32 : At cX5_crossingsIfSwapped 32 (.getfield 79) 3 35 := ⟨by decide +kernel, rfl⟩
theorem dX5_crossingsIfSwapped_35 : At cX5_crossingsIfSwapped 35 (.iadd) 1 36 := ⟨by decide +kernel, rfl⟩
theorem dX5_crossingsIfSwapped_36 : At cX5_crossingsIfSwapped 36 (.istore_n 3) 1 37 := ⟨by decide +kernel, rfl⟩
theorem dX5_crossingsIfSwapped_37 : At cX5_crossingsIfSwapped 37 (.iinc 4 1) 3 40 := ⟨by decide +kernel, rfl⟩
theorem dX5_crossingsIfSwapped_40 : Br cX5_crossingsIfSwapped 40 .goto 43 5 := ⟨(-35), by decide +kernel, rfl, by decide⟩
theorem dX5_crossingsIfSwapped_43 : At cX5_crossingsIfSwapped 43 (.iload_n 3) 1 44 := ⟨by decide +kernel, rfl⟩
theorem dX5_crossingsIfSwapped_44 : At cX5_crossingsIfSwapped 44 (.ireturn) 1 45 := ⟨by decide +kernel, rfl⟩
theorem dX5_fallsWithout_0 : At cX5_fallsWithout 0 (.aload_n 0) 1 1 := ⟨by decide +kernel, rfl⟩
theorem dX5_fallsWithout_1 : At cX5_fallsWithout 1 (.getfield 50) 3 4 := ⟨by decide +kernel, rfl⟩
theorem dX5_fallsWithout_4 : At cX5_fallsWithout 4 (.invokevirtual 100) 3 7 := ⟨by decide +kernel, rfl⟩
theorem dX5_fallsWithout_7 : At cX5_fallsWithout 7 (.iconst 0) 1 8 := ⟨by decide +kernel, rfl⟩
theorem dX5_fallsWithout_8 : At cX5_fallsWithout 8 (.istore_n 3) 1 9 := ⟨by decide +kernel, rfl⟩
theorem dX5_fallsWithout_9 : At cX5_fallsWithout 9 (.iload_n 3) 1 10 := ⟨by decide +kernel, rfl⟩
theorem dX5_fallsWithout_10 : At cX5_fallsWithout 10 (.aload_n 1) 1 11 := ⟨by decide +kernel, rfl⟩
theorem dX5_fallsWithout_11 : At cX5_fallsWithout 11 (.getfield 79) 3 14 := ⟨by decide +kernel, rfl⟩
theorem dX5_fallsWithout_14 : Br cX5_fallsWithout 14 (.if_icmp .ge) 17 52 := ⟨(38), by decide +kernel, rfl, by decide⟩
theorem dX5_fallsWithout_17 : At cX5_fallsWithout 17 (.aload_n 1) 1 18 := ⟨by decide +kernel, rfl⟩
theorem dX5_fallsWithout_18 : At cX5_fallsWithout 18 (.iload_n 3) 1 19 := ⟨by decide +kernel, rfl⟩
theorem dX5_fallsWithout_19 : At cX5_fallsWithout 19 (.invokevirtual 215) 3 22 := ⟨by decide +kernel, rfl⟩
theorem dX5_fallsWithout_22 : At cX5_fallsWithout 22 (.istore 4) 2 24 := ⟨by decide +kernel, rfl⟩
theorem dX5_fallsWithout_24 : At cX5_fallsWithout 24 (.iload_n 2) 1 25 := ⟨by decide +kernel, rfl⟩
theorem dX5_fallsWithout_25 : At cX5_fallsWithout 25 (.iload 4) 2 27 := ⟨by decide +kernel, rfl⟩
theorem dX5_fallsWithout_27 : At cX5_fallsWithout 27 (.invokestatic 232) 3 30 := ⟨by decide +kernel, rfl⟩
theorem dX5_fallsWithout_30 : At cX5_fallsWithout 30 (.ishr) 1 31 := ⟨by decide +kernel, rfl⟩
theorem dX5_fallsWithout_31 : At cX5_fallsWithout 31 (.iconst 1) 1 32 := ⟨by decide +kernel, rfl⟩
theorem dX5_fallsWithout_32 : At cX5_fallsWithout 32 (.iand) 1 33 := ⟨by decide +kernel, rfl⟩
theorem dX5_fallsWithout_33 : Br cX5_fallsWithout 33 (.ifCond .ne) 36 46 := ⟨(13), by decide +kernel, rfl, by decide⟩
theorem dX5_fallsWithout_36 : At cX5_fallsWithout 36 (.aload_n 0) 1 37 := ⟨by decide +kernel, rfl⟩
theorem dX5_fallsWithout_37 : At cX5_fallsWithout 37 (.getfield 50) 3 40 := ⟨by decide +kernel, rfl⟩
theorem dX5_fallsWithout_40 : At cX5_fallsWithout 40 (.iload 4) 2 42 := ⟨by decide +kernel, rfl⟩
theorem dX5_fallsWithout_42 : At cX5_fallsWithout 42 (.invokevirtual 238) 3 45 := ⟨by decide +kernel, rfl⟩
theorem dX5_fallsWithout_45 : At cX5_fallsWithout 45 (.pop) 1 46 := ⟨by decide +kernel, rfl⟩
theorem dX5_fallsWithout_46 : At cX5_fallsWithout 46 (.iinc 3 1) 3 49 := ⟨by decide +kernel, rfl⟩
theorem dX5_fallsWithout_49 : Br cX5_fallsWithout 49 .goto 52 9 := ⟨(-40), by decide +kernel, rfl, by decide⟩
theorem dX5_fallsWithout_52 : At cX5_fallsWithout 52 (.aload_n 0) 1 53 := ⟨by decide +kernel, rfl⟩
theorem dX5_fallsWithout_53 : At cX5_fallsWithout 53 (.getfield 50) 3 56 := ⟨by decide +kernel, rfl⟩
theorem dX5_fallsWithout_56 : At cX5_fallsWithout 56 (.getfield 79) 3 59 := ⟨by decide +kernel, rfl⟩
theorem dX5_fallsWithout_59 : Br cX5_fallsWithout 59 (.ifCond .ne) 62 66 := ⟨(7), by decide +kernel, rfl, by decide⟩
theorem dX5_fallsWithout_62 : At cX5_fallsWithout 62 (.iconst 1) 1 63 := ⟨by decide +kernel, rfl⟩
theorem dX5_fallsWithout_63 : Br cX5_fallsWithout 63 .goto 66 67 := ⟨(4), by decide +kernel, rfl, by decide⟩
theorem dX5_fallsWithout_66 : At cX5_fallsWithout 66 (.iconst 0) 1 67 := ⟨by decide +kernel, rfl⟩
theorem dX5_fallsWithout_67 : At cX5_fallsWithout 67 (.ireturn) 1 68 := ⟨by decide +kernel, rfl⟩
theorem dX5_holdsFallingPart_0 : At cX5_holdsFallingPart 0 (.iconst 0) 1 1 := ⟨by decide +kernel, rfl⟩
theorem dX5_holdsFallingPart_1 : At cX5_holdsFallingPart 1 (.istore_n 3) 1 2 := ⟨by decide +kernel, rfl⟩
theorem dX5_holdsFallingPart_2 : At cX5_holdsFallingPart 2 (.iload_n 3) 1 3 := ⟨by decide +kernel, rfl⟩
theorem dX5_holdsFallingPart_3 : At cX5_holdsFallingPart 3 (.bipush 6) 2 5 := ⟨by decide +kernel, rfl⟩
theorem dX5_holdsFallingPart_5 : Br cX5_holdsFallingPart 5 (.if_icmp .ge) 8 51 := ⟨(46), by decide +kernel, rfl, by decide⟩
theorem dX5_holdsFallingPart_8 : At cX5_holdsFallingPart 8 (.iload_n 2) 1 9 := ⟨by decide +kernel, rfl⟩
theorem dX5_holdsFallingPart_9 : At cX5_holdsFallingPart 9 (.iload_n 3) 1 10 := ⟨by decide +kernel, rfl⟩
theorem dX5_holdsFallingPart_10 : At cX5_holdsFallingPart 10 (.ishr) 1 11 := ⟨by decide +kernel, rfl⟩
theorem dX5_holdsFallingPart_11 : At cX5_holdsFallingPart 11 (.iconst 1) 1 12 := ⟨by decide +kernel, rfl⟩
theorem dX5_holdsFallingPart_12 : At cX5_holdsFallingPart 12 (.iand) 1 13 := ⟨by decide +kernel, rfl⟩
theorem dX5_holdsFallingPart_13 : At cX5_holdsFallingPart 13 (.iconst 1) 1 14 := ⟨by decide +kernel, rfl⟩
theorem dX5_holdsFallingPart_14 : Br cX5_holdsFallingPart 14 (.if_icmp .ne) 17 21 := ⟨(7), by decide +kernel, rfl, by decide⟩
theorem dX5_holdsFallingPart_17 : At cX5_holdsFallingPart 17 (.iconst 1) 1 18 := ⟨by decide +kernel, rfl⟩
theorem dX5_holdsFallingPart_18 : Br cX5_holdsFallingPart 18 .goto 21 22 := ⟨(4), by decide +kernel, rfl, by decide⟩
theorem dX5_holdsFallingPart_21 : At cX5_holdsFallingPart 21 (.iconst 0) 1 22 := ⟨by decide +kernel, rfl⟩
theorem dX5_holdsFallingPart_22 : At cX5_holdsFallingPart 22 (.istore 4) 2 24 := ⟨by decide +kernel, rfl⟩
theorem dX5_holdsFallingPart_24 : At cX5_holdsFallingPart 24 (.iload 4) 2 26 := ⟨by decide +kernel, rfl⟩
theorem dX5_holdsFallingPart_26 : Br cX5_holdsFallingPart 26 (.ifCond .eq) 29 45 := ⟨(19), by decide +kernel, rfl, by decide⟩
theorem dX5_holdsFallingPart_29 : At cX5_holdsFallingPart 29 (.lload_n 0) 1 30 := ⟨by decide +kernel, rfl⟩
theorem dX5_holdsFallingPart_30 : At cX5_holdsFallingPart 30 (.iload_n 2) 1 31 := ⟨by decide +kernel, rfl⟩
theorem dX5_holdsFallingPart_31 : At cX5_holdsFallingPart 31 (.iconst 1) 1 32 := ⟨by decide +kernel, rfl⟩
theorem dX5_holdsFallingPart_32 : At cX5_holdsFallingPart 32 (.iload_n 3) 1 33 := ⟨by decide +kernel, rfl⟩
theorem dX5_holdsFallingPart_33 : At cX5_holdsFallingPart 33 (.ishl) 1 34 := ⟨by decide +kernel, rfl⟩
theorem dX5_holdsFallingPart_34 : At cX5_holdsFallingPart 34 (.isub) 1 35 := ⟨by decide +kernel, rfl⟩
theorem dX5_holdsFallingPart_35 : At cX5_holdsFallingPart 35 (.lshr) 1 36 := ⟨by decide +kernel, rfl⟩
theorem dX5_holdsFallingPart_36 : At cX5_holdsFallingPart 36 (.lconst 1) 1 37 := ⟨by decide +kernel, rfl⟩
theorem dX5_holdsFallingPart_37 : At cX5_holdsFallingPart 37 (.land) 1 38 := ⟨by decide +kernel, rfl⟩
theorem dX5_holdsFallingPart_38 : At cX5_holdsFallingPart 38 (.lconst 1) 1 39 := ⟨by decide +kernel, rfl⟩
theorem dX5_holdsFallingPart_39 : At cX5_holdsFallingPart 39 (.lcmp) 1 40 := ⟨by decide +kernel, rfl⟩
theorem dX5_holdsFallingPart_40 : Br cX5_holdsFallingPart 40 (.ifCond .ne) 43 45 := ⟨(5), by decide +kernel, rfl, by decide⟩
theorem dX5_holdsFallingPart_43 : At cX5_holdsFallingPart 43 (.iconst 1) 1 44 := ⟨by decide +kernel, rfl⟩
theorem dX5_holdsFallingPart_44 : At cX5_holdsFallingPart 44 (.ireturn) 1 45 := ⟨by decide +kernel, rfl⟩
theorem dX5_holdsFallingPart_45 : At cX5_holdsFallingPart 45 (.iinc 3 1) 3 48 := ⟨by decide +kernel, rfl⟩
theorem dX5_holdsFallingPart_48 : Br cX5_holdsFallingPart 48 .goto 51 2 := ⟨(-46), by decide +kernel, rfl, by decide⟩
theorem dX5_holdsFallingPart_51 : At cX5_holdsFallingPart 51 (.iconst 0) 1 52 := ⟨by decide +kernel, rfl⟩
theorem dX5_holdsFallingPart_52 : At cX5_holdsFallingPart 52 (.ireturn) 1 53 := ⟨by decide +kernel, rfl⟩
theorem dX5_areAlike_0 : At cX5_areAlike 0 (.aload_n 0) 1 1 := ⟨by decide +kernel, rfl⟩
theorem dX5_areAlike_1 : At cX5_areAlike 1 (.aload_n 2) 1 2 := ⟨by decide +kernel, rfl⟩
theorem dX5_areAlike_2 : At cX5_areAlike 2 (.aload_n 0) 1 3 := ⟨by decide +kernel, rfl⟩
theorem dX5_areAlike_3 : At cX5_areAlike 3 (.getfield 54) 3 6 := ⟨by decide +kernel, rfl⟩
theorem dX5_areAlike_6 : At cX5_areAlike 6 (.invokevirtual 174) 3 9 := ⟨by decide +kernel, rfl⟩
theorem dX5_areAlike_9 : At cX5_areAlike 9 (.aload_n 0) 1 10 := ⟨by decide +kernel, rfl⟩
theorem dX5_areAlike_10 : At cX5_areAlike 10 (.aload_n 1) 1 11 := ⟨by decide +kernel, rfl⟩
theorem dX5_areAlike_11 : At cX5_areAlike 11 (.aload_n 0) 1 12 := ⟨by decide +kernel, rfl⟩
theorem dX5_areAlike_12 : At cX5_areAlike 12 (.getfield 50) 3 15 := ⟨by decide +kernel, rfl⟩
theorem dX5_areAlike_15 : At cX5_areAlike 15 (.invokevirtual 174) 3 18 := ⟨by decide +kernel, rfl⟩
theorem dX5_areAlike_18 : At cX5_areAlike 18 (.aload_n 0) 1 19 := ⟨by decide +kernel, rfl⟩
theorem dX5_areAlike_19 : At cX5_areAlike 19 (.getfield 50) 3 22 := ⟨by decide +kernel, rfl⟩
theorem dX5_areAlike_22 : At cX5_areAlike 22 (.aload_n 0) 1 23 := ⟨by decide +kernel, rfl⟩
theorem dX5_areAlike_23 : At cX5_areAlike 23 (.getfield 54) 3 26 := ⟨by decide +kernel, rfl⟩
theorem dX5_areAlike_26 : At cX5_areAlike 26 (.invokevirtual 241) 3 29 := ⟨by decide +kernel, rfl⟩
theorem dX5_areAlike_29 : At cX5_areAlike 29 (.ireturn) 1 30 := ⟨by decide +kernel, rfl⟩
theorem dX5_doCommute_0 : At cX5_doCommute 0 (.aload_n 0) 1 1 := ⟨by decide +kernel, rfl⟩
theorem dX5_doCommute_1 : At cX5_doCommute 1 (.getfield 50) 3 4 := ⟨by decide +kernel, rfl⟩
theorem dX5_doCommute_4 : At cX5_doCommute 4 (.aload_n 1) 1 5 := ⟨by decide +kernel, rfl⟩
theorem dX5_doCommute_5 : At cX5_doCommute 5 (.invokevirtual 106) 3 8 := ⟨by decide +kernel, rfl⟩
theorem dX5_doCommute_8 : At cX5_doCommute 8 (.aload_n 0) 1 9 := ⟨by decide +kernel, rfl⟩
theorem dX5_doCommute_9 : At cX5_doCommute 9 (.getfield 50) 3 12 := ⟨by decide +kernel, rfl⟩
theorem dX5_doCommute_12 : At cX5_doCommute 12 (.aload_n 2) 1 13 := ⟨by decide +kernel, rfl⟩
theorem dX5_doCommute_13 : At cX5_doCommute 13 (.invokevirtual 93) 3 16 := ⟨by decide +kernel, rfl⟩
theorem dX5_doCommute_16 : At cX5_doCommute 16 (.aload_n 0) 1 17 := ⟨by decide +kernel, rfl⟩
theorem dX5_doCommute_17 : At cX5_doCommute 17 (.getfield 50) 3 20 := ⟨by decide +kernel, rfl⟩
theorem dX5_doCommute_20 : At cX5_doCommute 20 (.invokevirtual 89) 3 23 := ⟨by decide +kernel, rfl⟩
theorem dX5_doCommute_23 : At cX5_doCommute 23 (.pop) 1 24 := ⟨by decide +kernel, rfl⟩
theorem dX5_doCommute_24 : At cX5_doCommute 24 (.aload_n 0) 1 25 := ⟨by decide +kernel, rfl⟩
theorem dX5_doCommute_25 : At cX5_doCommute 25 (.getfield 54) 3 28 := ⟨by decide +kernel, rfl⟩
theorem dX5_doCommute_28 : At cX5_doCommute 28 (.aload_n 2) 1 29 := ⟨by decide +kernel, rfl⟩
theorem dX5_doCommute_29 : At cX5_doCommute 29 (.invokevirtual 106) 3 32 := ⟨by decide +kernel, rfl⟩
theorem dX5_doCommute_32 : At cX5_doCommute 32 (.aload_n 0) 1 33 := ⟨by decide +kernel, rfl⟩
theorem dX5_doCommute_33 : At cX5_doCommute 33 (.getfield 54) 3 36 := ⟨by decide +kernel, rfl⟩
theorem dX5_doCommute_36 : At cX5_doCommute 36 (.aload_n 1) 1 37 := ⟨by decide +kernel, rfl⟩
theorem dX5_doCommute_37 : At cX5_doCommute 37 (.invokevirtual 93) 3 40 := ⟨by decide +kernel, rfl⟩
theorem dX5_doCommute_40 : At cX5_doCommute 40 (.aload_n 0) 1 41 := ⟨by decide +kernel, rfl⟩
theorem dX5_doCommute_41 : At cX5_doCommute 41 (.getfield 54) 3 44 := ⟨by decide +kernel, rfl⟩
theorem dX5_doCommute_44 : At cX5_doCommute 44 (.invokevirtual 89) 3 47 := ⟨by decide +kernel, rfl⟩
theorem dX5_doCommute_47 : At cX5_doCommute 47 (.pop) 1 48 := ⟨by decide +kernel, rfl⟩
theorem dX5_doCommute_48 : At cX5_doCommute 48 (.aload_n 0) 1 49 := ⟨by decide +kernel, rfl⟩
theorem dX5_doCommute_49 : At cX5_doCommute 49 (.getfield 50) 3 52 := ⟨by decide +kernel, rfl⟩
theorem dX5_doCommute_52 : At cX5_doCommute 52 (.aload_n 0) 1 53 := ⟨by decide +kernel, rfl⟩
theorem dX5_doCommute_53 : At cX5_doCommute 53 (.getfield 54) 3 56 := ⟨by decide +kernel, rfl⟩
theorem dX5_doCommute_56 : At cX5_doCommute 56 (.invokevirtual 241) 3 59 := ⟨by decide +kernel, rfl⟩
theorem dX5_doCommute_59 : At cX5_doCommute 59 (.ireturn) 1 60 := ⟨by decide +kernel, rfl⟩
theorem dX5_arePulledTheSame_0 : At cX5_arePulledTheSame 0 (.aload_n 0) 1 1 := ⟨by decide +kernel, rfl⟩
theorem dX5_arePulledTheSame_1 : At cX5_arePulledTheSame 1 (.aload_n 1) 1 2 := ⟨by decide +kernel, rfl⟩
theorem dX5_arePulledTheSame_2 : At cX5_arePulledTheSame 2 (.invokevirtual 147) 3 5 := ⟨by decide +kernel, rfl⟩
theorem dX5_arePulledTheSame_5 : At cX5_arePulledTheSame 5 (.aload_n 0) 1 6 := ⟨by decide +kernel, rfl⟩
theorem dX5_arePulledTheSame_6 : At cX5_arePulledTheSame 6 (.getfield 54) 3 9 := ⟨by decide +kernel, rfl⟩
theorem dX5_arePulledTheSame_9 : At cX5_arePulledTheSame 9 (.aload_n 2) 1 10 := ⟨by decide +kernel, rfl⟩
theorem dX5_arePulledTheSame_10 : At cX5_arePulledTheSame 10 (.invokevirtual 106) 3 13 := ⟨by decide +kernel, rfl⟩
theorem dX5_arePulledTheSame_13 : At cX5_arePulledTheSame 13 (.aload_n 0) 1 14 := ⟨by decide +kernel, rfl⟩
theorem dX5_arePulledTheSame_14 : At cX5_arePulledTheSame 14 (.getfield 54) 3 17 := ⟨by decide +kernel, rfl⟩
theorem dX5_arePulledTheSame_17 : At cX5_arePulledTheSame 17 (.invokevirtual 89) 3 20 := ⟨by decide +kernel, rfl⟩
theorem dX5_arePulledTheSame_20 : At cX5_arePulledTheSame 20 (.pop) 1 21 := ⟨by decide +kernel, rfl⟩
theorem dX5_arePulledTheSame_21 : At cX5_arePulledTheSame 21 (.aload_n 0) 1 22 := ⟨by decide +kernel, rfl⟩
theorem dX5_arePulledTheSame_22 : At cX5_arePulledTheSame 22 (.getfield 50) 3 25 := ⟨by decide +kernel, rfl⟩
theorem dX5_arePulledTheSame_25 : At cX5_arePulledTheSame 25 (.aload_n 0) 1 26 := ⟨by decide +kernel, rfl⟩
theorem dX5_arePulledTheSame_26 : At cX5_arePulledTheSame 26 (.getfield 54) 3 29 := ⟨by decide +kernel, rfl⟩
theorem dX5_arePulledTheSame_29 : At cX5_arePulledTheSame 29 (.invokevirtual 241) 3 32 := ⟨by decide +kernel, rfl⟩
theorem dX5_arePulledTheSame_32 : At cX5_arePulledTheSame 32 (.ireturn) 1 33 := ⟨by decide +kernel, rfl⟩
theorem dX6_init_0 : At cX6_init 0 (.aload_n 0) 1 1 := ⟨by decide +kernel, rfl⟩
theorem dX6_init_1 : At cX6_init 1 (.invokespecial 1) 3 4 := ⟨by decide +kernel, rfl⟩
theorem dX6_init_4 : At cX6_init 4 (.aload_n 0) 1 5 := ⟨by decide +kernel, rfl⟩
theorem dX6_init_5 : At cX6_init 5 (.sipush 490) 3 8 := ⟨by decide +kernel, rfl⟩
theorem dX6_init_8 : At cX6_init 8 (.newarray .int) 2 10 := ⟨by decide +kernel, rfl⟩
theorem dX6_init_10 : At cX6_init 10 (.putfield 7) 3 13 := ⟨by decide +kernel, rfl⟩
theorem dX6_init_13 : At cX6_init 13 (.aload_n 0) 1 14 := ⟨by decide +kernel, rfl⟩
theorem dX6_init_14 : At cX6_init 14 (.sipush 2940) 3 17 := ⟨by decide +kernel, rfl⟩
theorem dX6_init_17 : At cX6_init 17 (.newarray .int) 2 19 := ⟨by decide +kernel, rfl⟩
theorem dX6_init_19 : At cX6_init 19 (.putfield 13) 3 22 := ⟨by decide +kernel, rfl⟩
theorem dX6_init_22 : At cX6_init 22 (.aload_n 0) 1 23 := ⟨by decide +kernel, rfl⟩
theorem dX6_init_23 : At cX6_init 23 (.sipush 980) 3 26 := ⟨by decide +kernel, rfl⟩
theorem dX6_init_26 : At cX6_init 26 (.newarray .int) 2 28 := ⟨by decide +kernel, rfl⟩
theorem dX6_init_28 : At cX6_init 28 (.putfield 16) 3 31 := ⟨by decide +kernel, rfl⟩
theorem dX6_init_31 : At cX6_init 31 (.aload_n 0) 1 32 := ⟨by decide +kernel, rfl⟩
theorem dX6_init_32 : At cX6_init 32 (.iconst 2) 1 33 := ⟨by decide +kernel, rfl⟩
theorem dX6_init_33 : At cX6_init 33 (.newarray .boolean) 2 35 := ⟨by decide +kernel, rfl⟩
theorem dX6_init_35 : At cX6_init 35 (.putfield 19) 3 38 := ⟨by decide +kernel, rfl⟩
theorem dX6_init_38 : At cX6_init 38 (.aload_n 0) 1 39 := ⟨by decide +kernel, rfl⟩
theorem dX6_init_39 : At cX6_init 39 (.bipush 60) 2 41 := ⟨by decide +kernel, rfl⟩
theorem dX6_init_41 : At cX6_init 41 (.newarray .int) 2 43 := ⟨by decide +kernel, rfl⟩
theorem dX6_init_43 : At cX6_init 43 (.putfield 23) 3 46 := ⟨by decide +kernel, rfl⟩
theorem dX6_init_46 : At cX6_init 46 (.aload_n 0) 1 47 := ⟨by decide +kernel, rfl⟩
theorem dX6_init_47 : At cX6_init 47 (.sipush 1000) 3 50 := ⟨by decide +kernel, rfl⟩
theorem dX6_init_50 : At cX6_init 50 (.newarray .int) 2 52 := ⟨by decide +kernel, rfl⟩
theorem dX6_init_52 : At cX6_init 52 (.putfield 26) 3 55 := ⟨by decide +kernel, rfl⟩
theorem dX6_init_55 : At cX6_init 55 (.aload_n 0) 1 56 := ⟨by decide +kernel, rfl⟩
theorem dX6_init_56 : At cX6_init 56 (.bipush 120) 2 58 := ⟨by decide +kernel, rfl⟩
theorem dX6_init_58 : At cX6_init 58 (.newarray .int) 2 60 := ⟨by decide +kernel, rfl⟩
theorem dX6_init_60 : At cX6_init 60 (.putfield 29) 3 63 := ⟨by decide +kernel, rfl⟩
theorem dX6_init_63 : At cX6_init 63 (.aload_n 0) 1 64 := ⟨by decide +kernel, rfl⟩
theorem dX6_init_64 : At cX6_init 64 (.bipush 120) 2 66 := ⟨by decide +kernel, rfl⟩
theorem dX6_init_66 : At cX6_init 66 (.newarray .int) 2 68 := ⟨by decide +kernel, rfl⟩
theorem dX6_init_68 : At cX6_init 68 (.putfield 32) 3 71 := ⟨by decide +kernel, rfl⟩
theorem dX6_init_71 : At cX6_init 71 (.aload_n 0) 1 72 := ⟨by decide +kernel, rfl⟩
theorem dX6_init_72 : At cX6_init 72 (.sipush 1000) 3 75 := ⟨by decide +kernel, rfl⟩
theorem dX6_init_75 : At cX6_init 75 (.newarray .int) 2 77 := ⟨by decide +kernel, rfl⟩
theorem dX6_init_77 : At cX6_init 77 (.putfield 35) 3 80 := ⟨by decide +kernel, rfl⟩
theorem dX6_init_80 : At cX6_init 80 (.aload_n 0) 1 81 := ⟨by decide +kernel, rfl⟩
theorem dX6_init_81 : At cX6_init 81 (.iconst 4) 1 82 := ⟨by decide +kernel, rfl⟩
theorem dX6_init_82 : At cX6_init 82 (.newarray .int) 2 84 := ⟨by decide +kernel, rfl⟩
theorem dX6_init_84 : At cX6_init 84 (.putfield 38) 3 87 := ⟨by decide +kernel, rfl⟩
theorem dX6_init_87 : At cX6_init 87 (.aload_n 0) 1 88 := ⟨by decide +kernel, rfl⟩
theorem dX6_init_88 : At cX6_init 88 (.iconst 4) 1 89 := ⟨by decide +kernel, rfl⟩
theorem dX6_init_89 : At cX6_init 89 (.newarray .int) 2 91 := ⟨by decide +kernel, rfl⟩
theorem dX6_init_91 : At cX6_init 91 (.putfield 41) 3 94 := ⟨by decide +kernel, rfl⟩
theorem dX6_init_94 : At cX6_init 94 (.aload_n 0) 1 95 := ⟨by decide +kernel, rfl⟩
theorem dX6_init_95 : At cX6_init 95 (.iconst 4) 1 96 := ⟨by decide +kernel, rfl⟩
theorem dX6_init_96 : At cX6_init 96 (.newarray .int) 2 98 := ⟨by decide +kernel, rfl⟩
theorem dX6_init_98 : At cX6_init 98 (.putfield 44) 3 101 := ⟨by decide +kernel, rfl⟩
theorem dX6_init_101 : At cX6_init 101 (.aload_n 0) 1 102 := ⟨by decide +kernel, rfl⟩
theorem dX6_init_102 : At cX6_init 102 (.sipush 14641) 3 105 := ⟨by decide +kernel, rfl⟩
theorem dX6_init_105 : At cX6_init 105 (.newarray .int) 2 107 := ⟨by decide +kernel, rfl⟩
theorem dX6_init_107 : At cX6_init 107 (.putfield 47) 3 110 := ⟨by decide +kernel, rfl⟩
theorem dX6_init_110 : At cX6_init 110 (.iconst 0) 1 111 := ⟨by decide +kernel, rfl⟩
theorem dX6_init_111 : At cX6_init 111 (.istore_n 1) 1 112 := ⟨by decide +kernel, rfl⟩
theorem dX6_init_112 : At cX6_init 112 (.iload_n 1) 1 113 := ⟨by decide +kernel, rfl⟩
theorem dX6_init_113 : At cX6_init 113 (.bipush 6) 2 115 := ⟨by decide +kernel, rfl⟩
theorem dX6_init_115 : Br cX6_init 115 (.if_icmp .ge) 118 131 := ⟨(16), by decide +kernel, rfl, by decide⟩
theorem dX6_init_118 : At cX6_init 118 (.aload_n 0) 1 119 := ⟨by decide +kernel, rfl⟩
theorem dX6_init_119 : At cX6_init 119 (.getfield 7) 3 122 := ⟨by decide +kernel, rfl⟩
theorem dX6_init_122 : At cX6_init 122 (.iload_n 1) 1 123 := ⟨by decide +kernel, rfl⟩
theorem dX6_init_123 : At cX6_init 123 (.iconst 1) 1 124 := ⟨by decide +kernel, rfl⟩
theorem dX6_init_124 : At cX6_init 124 (.iastore) 1 125 := ⟨by decide +kernel, rfl⟩
theorem dX6_init_125 : At cX6_init 125 (.iinc 1 1) 3 128 := ⟨by decide +kernel, rfl⟩
theorem dX6_init_128 : Br cX6_init 128 .goto 131 112 := ⟨(-16), by decide +kernel, rfl, by decide⟩
theorem dX6_init_131 : At cX6_init 131 (.return_) 1 132 := ⟨by decide +kernel, rfl⟩
theorem dX6_in_0 : At cX6_in 0 (.iload_n 0) 1 1 := ⟨by decide +kernel, rfl⟩
theorem dX6_in_1 : At cX6_in 1 (.iload_n 1) 1 2 := ⟨by decide +kernel, rfl⟩
theorem dX6_in_2 : Br cX6_in 2 (.if_icmp .lt) 5 14 := ⟨(12), by decide +kernel, rfl, by decide⟩
theorem dX6_in_5 : At cX6_in 5 (.iload_n 0) 1 6 := ⟨by decide +kernel, rfl⟩
theorem dX6_in_6 : At cX6_in 6 (.iload_n 2) 1 7 := ⟨by decide +kernel, rfl⟩
theorem dX6_in_7 : Br cX6_in 7 (.if_icmp .gt) 10 14 := ⟨(7), by decide +kernel, rfl, by decide⟩
theorem dX6_in_10 : At cX6_in 10 (.iconst 1) 1 11 := ⟨by decide +kernel, rfl⟩
theorem dX6_in_11 : Br cX6_in 11 .goto 14 15 := ⟨(4), by decide +kernel, rfl, by decide⟩
theorem dX6_in_14 : At cX6_in 14 (.iconst 0) 1 15 := ⟨by decide +kernel, rfl⟩
theorem dX6_in_15 : At cX6_in 15 (.ireturn) 1 16 := ⟨by decide +kernel, rfl⟩
theorem dX6_record_0 : At cX6_record 0 (.aload_n 0) 1 1 := ⟨by decide +kernel, rfl⟩
theorem dX6_record_1 : At cX6_record 1 (.getfield 50) 3 4 := ⟨by decide +kernel, rfl⟩
theorem dX6_record_4 : At cX6_record 4 (.bipush 6) 2 6 := ⟨by decide +kernel, rfl⟩
theorem dX6_record_6 : Br cX6_record 6 (.if_icmp .ne) 9 45 := ⟨(39), by decide +kernel, rfl, by decide⟩
theorem dX6_record_9 : At cX6_record 9 (.iconst 0) 1 10 := ⟨by decide +kernel, rfl⟩
theorem dX6_record_10 : At cX6_record 10 (.istore_n 1) 1 11 := ⟨by decide +kernel, rfl⟩
theorem dX6_record_11 : At cX6_record 11 (.iload_n 1) 1 12 := ⟨by decide +kernel, rfl⟩
theorem dX6_record_12 : At cX6_record 12 (.sipush 2450) 3 15 := ⟨by decide +kernel, rfl⟩
theorem dX6_record_15 : Br cX6_record 15 (.if_icmp .ge) 18 40 := ⟨(25), by decide +kernel, rfl, by decide⟩
theorem dX6_record_18 : At cX6_record 18 (.aload_n 0) 1 19 := ⟨by decide +kernel, rfl⟩
theorem dX6_record_19 : At cX6_record 19 (.getfield 13) 3 22 := ⟨by decide +kernel, rfl⟩
theorem dX6_record_22 : At cX6_record 22 (.iload_n 1) 1 23 := ⟨by decide +kernel, rfl⟩
theorem dX6_record_23 : At cX6_record 23 (.aload_n 0) 1 24 := ⟨by decide +kernel, rfl⟩
theorem dX6_record_24 : At cX6_record 24 (.getfield 13) 3 27 := ⟨by decide +kernel, rfl⟩
theorem dX6_record_27 : At cX6_record 27 (.iload_n 1) 1 28 := ⟨by decide +kernel, rfl⟩
theorem dX6_record_28 : At cX6_record 28 (.sipush 490) 3 31 := ⟨by decide +kernel, rfl⟩
theorem dX6_record_31 : At cX6_record 31 (.iadd) 1 32 := ⟨by decide +kernel, rfl⟩
theorem dX6_record_32 : At cX6_record 32 (.iaload) 1 33 := ⟨by decide +kernel, rfl⟩
theorem dX6_record_33 : At cX6_record 33 (.iastore) 1 34 := ⟨by decide +kernel, rfl⟩
theorem dX6_record_34 : At cX6_record 34 (.iinc 1 1) 3 37 := ⟨by decide +kernel, rfl⟩
theorem dX6_record_37 : Br cX6_record 37 .goto 40 11 := ⟨(-26), by decide +kernel, rfl, by decide⟩
theorem dX6_record_40 : At cX6_record 40 (.aload_n 0) 1 41 := ⟨by decide +kernel, rfl⟩
theorem dX6_record_41 : At cX6_record 41 (.iconst 5) 1 42 := ⟨by decide +kernel, rfl⟩
theorem dX6_record_42 : At cX6_record 42 (.putfield 50) 3 45 := ⟨by decide +kernel, rfl⟩
theorem dX6_record_45 : At cX6_record 45 (.iconst 0) 1 46 := ⟨by decide +kernel, rfl⟩
theorem dX6_record_46 : At cX6_record 46 (.istore_n 1) 1 47 := ⟨by decide +kernel, rfl⟩
theorem dX6_record_47 : At cX6_record 47 (.iload_n 1) 1 48 := ⟨by decide +kernel, rfl⟩
theorem dX6_record_48 : At cX6_record 48 (.sipush 490) 3 51 := ⟨by decide +kernel, rfl⟩
theorem dX6_record_51 : Br cX6_record 51 (.if_icmp .ge) 54 81 := ⟨(30), by decide +kernel, rfl, by decide⟩
theorem dX6_record_54 : At cX6_record 54 (.aload_n 0) 1 55 := ⟨by decide +kernel, rfl⟩
theorem dX6_record_55 : At cX6_record 55 (.getfield 13) 3 58 := ⟨by decide +kernel, rfl⟩
theorem dX6_record_58 : At cX6_record 58 (.aload_n 0) 1 59 := ⟨by decide +kernel, rfl⟩
theorem dX6_record_59 : At cX6_record 59 (.getfield 50) 3 62 := ⟨by decide +kernel, rfl⟩
theorem dX6_record_62 : At cX6_record 62 (.sipush 490) 3 65 := ⟨by decide +kernel, rfl⟩
theorem dX6_record_65 : At cX6_record 65 (.imul) 1 66 := ⟨by decide +kernel, rfl⟩
theorem dX6_record_66 : At cX6_record 66 (.iload_n 1) 1 67 := ⟨by decide +kernel, rfl⟩
theorem dX6_record_67 : At cX6_record 67 (.iadd) 1 68 := ⟨by decide +kernel, rfl⟩
theorem dX6_record_68 : At cX6_record 68 (.aload_n 0) 1 69 := ⟨by decide +kernel, rfl⟩
theorem dX6_record_69 : At cX6_record 69 (.getfield 7) 3 72 := ⟨by decide +kernel, rfl⟩
theorem dX6_record_72 : At cX6_record 72 (.iload_n 1) 1 73 := ⟨by decide +kernel, rfl⟩
theorem dX6_record_73 : At cX6_record 73 (.iaload) 1 74 := ⟨by decide +kernel, rfl⟩
theorem dX6_record_74 : At cX6_record 74 (.iastore) 1 75 := ⟨by decide +kernel, rfl⟩
theorem dX6_record_75 : At cX6_record 75 (.iinc 1 1) 3 78 := ⟨by decide +kernel, rfl⟩
theorem dX6_record_78 : Br cX6_record 78 .goto 81 47 := ⟨(-31), by decide +kernel, rfl, by decide⟩
theorem dX6_record_81 : At cX6_record 81 (.aload_n 0) 1 82 := ⟨by decide +kernel, rfl⟩
theorem dX6_record_82 : At cX6_record 82 (.dup) 1 83 := ⟨by decide +kernel, rfl⟩
theorem dX6_record_83 : At cX6_record 83 (.getfield 50) 3 86 := ⟨by decide +kernel, rfl⟩
theorem dX6_record_86 : At cX6_record 86 (.iconst 1) 1 87 := ⟨by decide +kernel, rfl⟩
theorem dX6_record_87 : At cX6_record 87 (.iadd) 1 88 := ⟨by decide +kernel, rfl⟩
theorem dX6_record_88 : At cX6_record 88 (.putfield 50) 3 91 := ⟨by decide +kernel, rfl⟩
theorem dX6_record_91 : At cX6_record 91 (.return_) 1 92 := ⟨by decide +kernel, rfl⟩
theorem dX6_cancel_0 : At cX6_cancel 0 (.iload_n 0) 1 1 := ⟨by decide +kernel, rfl⟩
theorem dX6_cancel_1 : At cX6_cancel 1 (.bipush 6) 2 3 := ⟨by decide +kernel, rfl⟩
theorem dX6_cancel_3 : At cX6_cancel 3 (.irem) 1 4 := ⟨by decide +kernel, rfl⟩
theorem dX6_cancel_4 : At cX6_cancel 4 (.iload_n 1) 1 5 := ⟨by decide +kernel, rfl⟩
theorem dX6_cancel_5 : At cX6_cancel 5 (.bipush 6) 2 7 := ⟨by decide +kernel, rfl⟩
theorem dX6_cancel_7 : At cX6_cancel 7 (.irem) 1 8 := ⟨by decide +kernel, rfl⟩
theorem dX6_cancel_8 : Br cX6_cancel 8 (.if_icmp .ne) 11 20 := ⟨(12), by decide +kernel, rfl, by decide⟩
theorem dX6_cancel_11 : At cX6_cancel 11 (.iload_n 0) 1 12 := ⟨by decide +kernel, rfl⟩
theorem dX6_cancel_12 : At cX6_cancel 12 (.iload_n 1) 1 13 := ⟨by decide +kernel, rfl⟩
theorem dX6_cancel_13 : Br cX6_cancel 13 (.if_icmp .eq) 16 20 := ⟨(7), by decide +kernel, rfl, by decide⟩
theorem dX6_cancel_16 : At cX6_cancel 16 (.iconst 1) 1 17 := ⟨by decide +kernel, rfl⟩
theorem dX6_cancel_17 : Br cX6_cancel 17 .goto 20 21 := ⟨(4), by decide +kernel, rfl, by decide⟩
theorem dX6_cancel_20 : At cX6_cancel 20 (.iconst 0) 1 21 := ⟨by decide +kernel, rfl⟩
theorem dX6_cancel_21 : At cX6_cancel 21 (.ireturn) 1 22 := ⟨by decide +kernel, rfl⟩
theorem dX6_otherSide_0 : At cX6_otherSide 0 (.iload_n 0) 1 1 := ⟨by decide +kernel, rfl⟩
theorem dX6_otherSide_1 : At cX6_otherSide 1 (.bipush 6) 2 3 := ⟨by decide +kernel, rfl⟩
theorem dX6_otherSide_3 : At cX6_otherSide 3 (.iadd) 1 4 := ⟨by decide +kernel, rfl⟩
theorem dX6_otherSide_4 : At cX6_otherSide 4 (.bipush 12) 2 6 := ⟨by decide +kernel, rfl⟩
theorem dX6_otherSide_6 : At cX6_otherSide 6 (.irem) 1 7 := ⟨by decide +kernel, rfl⟩
theorem dX6_otherSide_7 : At cX6_otherSide 7 (.ireturn) 1 8 := ⟨by decide +kernel, rfl⟩
theorem dX6_push_0 : At cX6_push 0 (.aload_n 0) 1 1 := ⟨by decide +kernel, rfl⟩
theorem dX6_push_1 : At cX6_push 1 (.getfield 54) 3 4 := ⟨by decide +kernel, rfl⟩
theorem dX6_push_4 : Br cX6_push 4 (.ifCond .le) 7 38 := ⟨(34), by decide +kernel, rfl, by decide⟩
theorem dX6_push_7 : At cX6_push 7 (.aload_n 0) 1 8 := ⟨by decide +kernel, rfl⟩
theorem dX6_push_8 : At cX6_push 8 (.getfield 26) 3 11 := ⟨by decide +kernel, rfl⟩
theorem dX6_push_11 : At cX6_push 11 (.aload_n 0) 1 12 := ⟨by decide +kernel, rfl⟩
theorem dX6_push_12 : At cX6_push 12 (.getfield 54) 3 15 := ⟨by decide +kernel, rfl⟩
theorem dX6_push_15 : At cX6_push 15 (.iconst 1) 1 16 := ⟨by decide +kernel, rfl⟩
theorem dX6_push_16 : At cX6_push 16 (.isub) 1 17 := ⟨by decide +kernel, rfl⟩
theorem dX6_push_17 : At cX6_push 17 (.iaload) 1 18 := ⟨by decide +kernel, rfl⟩
theorem dX6_push_18 : At cX6_push 18 (.iload_n 1) 1 19 := ⟨by decide +kernel, rfl⟩
theorem dX6_push_19 : At cX6_push 19 (.invokestatic 57) 3 22 := ⟨by decide +kernel, rfl⟩
theorem dX6_push_22 : Br cX6_push 22 (.ifCond .eq) 25 38 := ⟨(16), by decide +kernel, rfl, by decide⟩
theorem dX6_push_25 : At cX6_push 25 (.aload_n 0) 1 26 := ⟨by decide +kernel, rfl⟩
theorem dX6_push_26 : At cX6_push 26 (.dup) 1 27 := ⟨by decide +kernel, rfl⟩
theorem dX6_push_27 : At cX6_push 27 (.getfield 54) 3 30 := ⟨by decide +kernel, rfl⟩
theorem dX6_push_30 : At cX6_push 30 (.iconst 1) 1 31 := ⟨by decide +kernel, rfl⟩
theorem dX6_push_31 : At cX6_push 31 (.isub) 1 32 := ⟨by decide +kernel, rfl⟩
theorem dX6_push_32 : At cX6_push 32 (.putfield 54) 3 35 := ⟨by decide +kernel, rfl⟩
theorem dX6_push_35 : Br cX6_push 35 .goto 38 58 := ⟨(23), by decide +kernel, rfl, by decide⟩
theorem dX6_push_38 : At cX6_push 38 (.aload_n 0) 1 39 := ⟨by decide +kernel, rfl⟩
theorem dX6_push_39 : At cX6_push 39 (.getfield 26) 3 42 := ⟨by decide +kernel, rfl⟩
theorem dX6_push_42 : At cX6_push 42 (.aload_n 0) 1 43 := ⟨by decide +kernel, rfl⟩
theorem dX6_push_43 : At cX6_push 43 (.getfield 54) 3 46 := ⟨by decide +kernel, rfl⟩
theorem dX6_push_46 : At cX6_push 46 (.iload_n 1) 1 47 := ⟨by decide +kernel, rfl⟩
theorem dX6_push_47 : At cX6_push 47 (.iastore) 1 48 := ⟨by decide +kernel, rfl⟩
theorem dX6_push_48 : At cX6_push 48 (.aload_n 0) 1 49 := ⟨by decide +kernel, rfl⟩
theorem dX6_push_49 : At cX6_push 49 (.dup) 1 50 := ⟨by decide +kernel, rfl⟩
theorem dX6_push_50 : At cX6_push 50 (.getfield 54) 3 53 := ⟨by decide +kernel, rfl⟩
theorem dX6_push_53 : At cX6_push 53 (.iconst 1) 1 54 := ⟨by decide +kernel, rfl⟩
theorem dX6_push_54 : At cX6_push 54 (.iadd) 1 55 := ⟨by decide +kernel, rfl⟩
theorem dX6_push_55 : At cX6_push 55 (.putfield 54) 3 58 := ⟨by decide +kernel, rfl⟩
theorem dX6_push_58 : At cX6_push 58 (.return_) 1 59 := ⟨by decide +kernel, rfl⟩
theorem dX6_isRope_0 : At cX6_isRope 0 (.iload_n 0) 1 1 := ⟨by decide +kernel, rfl⟩
theorem dX6_isRope_1 : At cX6_isRope 1 (.iconst 0) 1 2 := ⟨by decide +kernel, rfl⟩
theorem dX6_isRope_2 : At cX6_isRope 2 (.iconst 3) 1 3 := ⟨by decide +kernel, rfl⟩
theorem dX6_isRope_3 : At cX6_isRope 3 (.invokestatic 61) 3 6 := ⟨by decide +kernel, rfl⟩
theorem dX6_isRope_6 : At cX6_isRope 6 (.ireturn) 1 7 := ⟨by decide +kernel, rfl⟩
theorem dX6_many_0 : At cX6_many 0 (.aload_n 0) 1 1 := ⟨by decide +kernel, rfl⟩
theorem dX6_many_1 : At cX6_many 1 (.getfield 7) 3 4 := ⟨by decide +kernel, rfl⟩
theorem dX6_many_4 : At cX6_many 4 (.bipush 6) 2 6 := ⟨by decide +kernel, rfl⟩
theorem dX6_many_6 : At cX6_many 6 (.iload_n 1) 1 7 := ⟨by decide +kernel, rfl⟩
theorem dX6_many_7 : At cX6_many 7 (.iadd) 1 8 := ⟨by decide +kernel, rfl⟩
theorem dX6_many_8 : At cX6_many 8 (.iaload) 1 9 := ⟨by decide +kernel, rfl⟩
theorem dX6_many_9 : At cX6_many 9 (.ireturn) 1 10 := ⟨by decide +kernel, rfl⟩
theorem dX6_at_0 : At cX6_at 0 (.aload_n 0) 1 1 := ⟨by decide +kernel, rfl⟩
theorem dX6_at_1 : At cX6_at 1 (.getfield 7) 3 4 := ⟨by decide +kernel, rfl⟩
theorem dX6_at_4 : At cX6_at 4 (.bipush 10) 2 6 := ⟨by decide +kernel, rfl⟩
theorem dX6_at_6 : At cX6_at 6 (.bipush 120) 2 8 := ⟨by decide +kernel, rfl⟩
theorem dX6_at_8 : At cX6_at 8 (.iload_n 1) 1 9 := ⟨by decide +kernel, rfl⟩
theorem dX6_at_9 : At cX6_at 9 (.imul) 1 10 := ⟨by decide +kernel, rfl⟩
theorem dX6_at_10 : At cX6_at 10 (.iadd) 1 11 := ⟨by decide +kernel, rfl⟩
theorem dX6_at_11 : At cX6_at 11 (.iload_n 2) 1 12 := ⟨by decide +kernel, rfl⟩
theorem dX6_at_12 : At cX6_at 12 (.iadd) 1 13 := ⟨by decide +kernel, rfl⟩
theorem dX6_at_13 : At cX6_at 13 (.iaload) 1 14 := ⟨by decide +kernel, rfl⟩
theorem dX6_at_14 : At cX6_at 14 (.ireturn) 1 15 := ⟨by decide +kernel, rfl⟩
theorem dX6_pushRope_0 : At cX6_pushRope 0 (.iconst 0) 1 1 := ⟨by decide +kernel, rfl⟩
theorem dX6_pushRope_1 : At cX6_pushRope 1 (.istore_n 3) 1 2 := ⟨by decide +kernel, rfl⟩
theorem dX6_pushRope_2 : At cX6_pushRope 2 (.iload_n 3) 1 3 := ⟨by decide +kernel, rfl⟩
theorem dX6_pushRope_3 : At cX6_pushRope 3 (.aload_n 0) 1 4 := ⟨by decide +kernel, rfl⟩
theorem dX6_pushRope_4 : At cX6_pushRope 4 (.iload_n 1) 1 5 := ⟨by decide +kernel, rfl⟩
theorem dX6_pushRope_5 : At cX6_pushRope 5 (.invokevirtual 65) 3 8 := ⟨by decide +kernel, rfl⟩
theorem dX6_pushRope_8 : Br cX6_pushRope 8 (.if_icmp .ge) 11 51 := ⟨(43), by decide +kernel, rfl, by decide⟩
theorem dX6_pushRope_11 : At cX6_pushRope 11 (.aload_n 0) 1 12 := ⟨by decide +kernel, rfl⟩
theorem dX6_pushRope_12 : At cX6_pushRope 12 (.iload_n 2) 1 13 := ⟨by decide +kernel, rfl⟩
theorem dX6_pushRope_13 : Br cX6_pushRope 13 (.ifCond .eq) 16 36 := ⟨(23), by decide +kernel, rfl, by decide⟩
theorem dX6_pushRope_16 : At cX6_pushRope 16 (.aload_n 0) 1 17 := ⟨by decide +kernel, rfl⟩
theorem dX6_pushRope_17 : At cX6_pushRope 17 (.iload_n 1) 1 18 := ⟨by decide +kernel, rfl⟩
theorem dX6_pushRope_18 : At cX6_pushRope 18 (.aload_n 0) 1 19 := ⟨by decide +kernel, rfl⟩
theorem dX6_pushRope_19 : At cX6_pushRope 19 (.iload_n 1) 1 20 := ⟨by decide +kernel, rfl⟩
theorem dX6_pushRope_20 : At cX6_pushRope 20 (.invokevirtual 65) 3 23 := ⟨by decide +kernel, rfl⟩
theorem dX6_pushRope_23 : At cX6_pushRope 23 (.iconst 1) 1 24 := ⟨by decide +kernel, rfl⟩
theorem dX6_pushRope_24 : At cX6_pushRope 24 (.isub) 1 25 := ⟨by decide +kernel, rfl⟩
theorem dX6_pushRope_25 : At cX6_pushRope 25 (.iload_n 3) 1 26 := ⟨by decide +kernel, rfl⟩
theorem dX6_pushRope_26 : At cX6_pushRope 26 (.isub) 1 27 := ⟨by decide +kernel, rfl⟩
theorem dX6_pushRope_27 : At cX6_pushRope 27 (.invokevirtual 69) 3 30 := ⟨by decide +kernel, rfl⟩
theorem dX6_pushRope_30 : At cX6_pushRope 30 (.invokestatic 73) 3 33 := ⟨by decide +kernel, rfl⟩
theorem dX6_pushRope_33 : Br cX6_pushRope 33 .goto 36 42 := ⟨(9), by decide +kernel, rfl, by decide⟩
theorem dX6_pushRope_36 : At cX6_pushRope 36 (.aload_n 0) 1 37 := ⟨by decide +kernel, rfl⟩
theorem dX6_pushRope_37 : At cX6_pushRope 37 (.iload_n 1) 1 38 := ⟨by decide +kernel, rfl⟩
theorem dX6_pushRope_38 : At cX6_pushRope 38 (.iload_n 3) 1 39 := ⟨by decide +kernel, rfl⟩
theorem dX6_pushRope_39 : At cX6_pushRope 39 (.invokevirtual 69) 3 42 := ⟨by decide +kernel, rfl⟩
theorem dX6_pushRope_42 : At cX6_pushRope 42 (.invokevirtual 76) 3 45 := ⟨by decide +kernel, rfl⟩
theorem dX6_pushRope_45 : At cX6_pushRope 45 (.iinc 3 1) 3 48 := ⟨by decide +kernel, rfl⟩
theorem dX6_pushRope_48 : Br cX6_pushRope 48 .goto 51 2 := ⟨(-46), by decide +kernel, rfl, by decide⟩
theorem dX6_pushRope_51 : At cX6_pushRope 51 (.return_) 1 52 := ⟨by decide +kernel, rfl⟩
theorem dX6_layPulled_0 : At cX6_layPulled 0 (.aload_n 0) 1 1 := ⟨by decide +kernel, rfl⟩
theorem dX6_layPulled_1 : At cX6_layPulled 1 (.iconst 0) 1 2 := ⟨by decide +kernel, rfl⟩
theorem dX6_layPulled_2 : At cX6_layPulled 2 (.putfield 54) 3 5 := ⟨by decide +kernel, rfl⟩
theorem dX6_layPulled_5 : At cX6_layPulled 5 (.aload_n 0) 1 6 := ⟨by decide +kernel, rfl⟩
theorem dX6_layPulled_6 : At cX6_layPulled 6 (.iload_n 1) 1 7 := ⟨by decide +kernel, rfl⟩
theorem dX6_layPulled_7 : At cX6_layPulled 7 (.iload_n 2) 1 8 := ⟨by decide +kernel, rfl⟩
theorem dX6_layPulled_8 : At cX6_layPulled 8 (.invokevirtual 80) 3 11 := ⟨by decide +kernel, rfl⟩
theorem dX6_layPulled_11 : At cX6_layPulled 11 (.return_) 1 12 := ⟨by decide +kernel, rfl⟩
theorem dX6_take_0 : At cX6_take 0 (.iconst 0) 1 1 := ⟨by decide +kernel, rfl⟩
theorem dX6_take_1 : At cX6_take 1 (.istore_n 2) 1 2 := ⟨by decide +kernel, rfl⟩
theorem dX6_take_2 : At cX6_take 2 (.iload_n 2) 1 3 := ⟨by decide +kernel, rfl⟩
theorem dX6_take_3 : At cX6_take 3 (.aload_n 0) 1 4 := ⟨by decide +kernel, rfl⟩
theorem dX6_take_4 : At cX6_take 4 (.getfield 54) 3 7 := ⟨by decide +kernel, rfl⟩
theorem dX6_take_7 : Br cX6_take 7 (.if_icmp .ge) 10 36 := ⟨(29), by decide +kernel, rfl, by decide⟩
theorem dX6_take_10 : At cX6_take 10 (.aload_n 0) 1 11 := ⟨by decide +kernel, rfl⟩
theorem dX6_take_11 : At cX6_take 11 (.getfield 7) 3 14 := ⟨by decide +kernel, rfl⟩
theorem dX6_take_14 : At cX6_take 14 (.bipush 10) 2 16 := ⟨by decide +kernel, rfl⟩
theorem dX6_take_16 : At cX6_take 16 (.bipush 120) 2 18 := ⟨by decide +kernel, rfl⟩
theorem dX6_take_18 : At cX6_take 18 (.iload_n 1) 1 19 := ⟨by decide +kernel, rfl⟩
theorem dX6_take_19 : At cX6_take 19 (.imul) 1 20 := ⟨by decide +kernel, rfl⟩
theorem dX6_take_20 : At cX6_take 20 (.iadd) 1 21 := ⟨by decide +kernel, rfl⟩
theorem dX6_take_21 : At cX6_take 21 (.iload_n 2) 1 22 := ⟨by decide +kernel, rfl⟩
theorem dX6_take_22 : At cX6_take 22 (.iadd) 1 23 := ⟨by decide +kernel, rfl⟩
theorem dX6_take_23 : At cX6_take 23 (.aload_n 0) 1 24 := ⟨by decide +kernel, rfl⟩
theorem dX6_take_24 : At cX6_take 24 (.getfield 26) 3 27 := ⟨by decide +kernel, rfl⟩
theorem dX6_take_27 : At cX6_take 27 (.iload_n 2) 1 28 := ⟨by decide +kernel, rfl⟩
theorem dX6_take_28 : At cX6_take 28 (.iaload) 1 29 := ⟨by decide +kernel, rfl⟩
theorem dX6_take_29 : At cX6_take 29 (.iastore) 1 30 := ⟨by decide +kernel, rfl⟩
theorem dX6_take_30 : At cX6_take 30 (.iinc 2 1) 3 33 := ⟨by decide +kernel, rfl⟩
theorem dX6_take_33 : Br cX6_take 33 .goto 36 2 := ⟨(-31), by decide +kernel, rfl, by decide⟩
theorem dX6_take_36 : At cX6_take 36 (.aload_n 0) 1 37 := ⟨by decide +kernel, rfl⟩
theorem dX6_take_37 : At cX6_take 37 (.getfield 7) 3 40 := ⟨by decide +kernel, rfl⟩
theorem dX6_take_40 : At cX6_take 40 (.bipush 6) 2 42 := ⟨by decide +kernel, rfl⟩
theorem dX6_take_42 : At cX6_take 42 (.iload_n 1) 1 43 := ⟨by decide +kernel, rfl⟩
theorem dX6_take_43 : At cX6_take 43 (.iadd) 1 44 := ⟨by decide +kernel, rfl⟩
theorem dX6_take_44 : At cX6_take 44 (.aload_n 0) 1 45 := ⟨by decide +kernel, rfl⟩
theorem dX6_take_45 : At cX6_take 45 (.getfield 54) 3 48 := ⟨by decide +kernel, rfl⟩
theorem dX6_take_48 : At cX6_take 48 (.iastore) 1 49 := ⟨by decide +kernel, rfl⟩
theorem dX6_take_49 : At cX6_take 49 (.return_) 1 50 := ⟨by decide +kernel, rfl⟩
theorem dX6_tighten_0 : At cX6_tighten 0 (.iconst 0) 1 1 := ⟨by decide +kernel, rfl⟩
theorem dX6_tighten_1 : At cX6_tighten 1 (.istore_n 1) 1 2 := ⟨by decide +kernel, rfl⟩
theorem dX6_tighten_2 : At cX6_tighten 2 (.aload_n 0) 1 3 := ⟨by decide +kernel, rfl⟩
theorem dX6_tighten_3 : At cX6_tighten 3 (.getfield 54) 3 6 := ⟨by decide +kernel, rfl⟩
theorem dX6_tighten_6 : At cX6_tighten 6 (.iload_n 1) 1 7 := ⟨by decide +kernel, rfl⟩
theorem dX6_tighten_7 : At cX6_tighten 7 (.isub) 1 8 := ⟨by decide +kernel, rfl⟩
theorem dX6_tighten_8 : At cX6_tighten 8 (.iconst 1) 1 9 := ⟨by decide +kernel, rfl⟩
theorem dX6_tighten_9 : Br cX6_tighten 9 (.if_icmp .le) 12 51 := ⟨(42), by decide +kernel, rfl, by decide⟩
theorem dX6_tighten_12 : At cX6_tighten 12 (.aload_n 0) 1 13 := ⟨by decide +kernel, rfl⟩
theorem dX6_tighten_13 : At cX6_tighten 13 (.getfield 26) 3 16 := ⟨by decide +kernel, rfl⟩
theorem dX6_tighten_16 : At cX6_tighten 16 (.iload_n 1) 1 17 := ⟨by decide +kernel, rfl⟩
theorem dX6_tighten_17 : At cX6_tighten 17 (.iaload) 1 18 := ⟨by decide +kernel, rfl⟩
theorem dX6_tighten_18 : At cX6_tighten 18 (.aload_n 0) 1 19 := ⟨by decide +kernel, rfl⟩
theorem dX6_tighten_19 : At cX6_tighten 19 (.getfield 26) 3 22 := ⟨by decide +kernel, rfl⟩
theorem dX6_tighten_22 : At cX6_tighten 22 (.aload_n 0) 1 23 := ⟨by decide +kernel, rfl⟩
theorem dX6_tighten_23 : At cX6_tighten 23 (.getfield 54) 3 26 := ⟨by decide +kernel, rfl⟩
theorem dX6_tighten_26 : At cX6_tighten 26 (.iconst 1) 1 27 := ⟨by decide +kernel, rfl⟩
theorem dX6_tighten_27 : At cX6_tighten 27 (.isub) 1 28 := ⟨by decide +kernel, rfl⟩
theorem dX6_tighten_28 : At cX6_tighten 28 (.iaload) 1 29 := ⟨by decide +kernel, rfl⟩
theorem dX6_tighten_29 : At cX6_tighten 29 (.invokestatic 57) 3 32 := ⟨by decide +kernel, rfl⟩
theorem dX6_tighten_32 : Br cX6_tighten 32 (.ifCond .eq) 35 51 := ⟨(19), by decide +kernel, rfl, by decide⟩
theorem dX6_tighten_35 : At cX6_tighten 35 (.iinc 1 1) 3 38 := ⟨by decide +kernel, rfl⟩
theorem dX6_tighten_38 : At cX6_tighten 38 (.aload_n 0) 1 39 := ⟨by decide +kernel, rfl⟩
theorem dX6_tighten_39 : At cX6_tighten 39 (.dup) 1 40 := ⟨by decide +kernel, rfl⟩
theorem dX6_tighten_40 : At cX6_tighten 40 (.getfield 54) 3 43 := ⟨by decide +kernel, rfl⟩
theorem dX6_tighten_43 : At cX6_tighten 43 (.iconst 1) 1 44 := ⟨by decide +kernel, rfl⟩
theorem dX6_tighten_44 : At cX6_tighten 44 (.isub) 1 45 := ⟨by decide +kernel, rfl⟩
theorem dX6_tighten_45 : At cX6_tighten 45 (.putfield 54) 3 48 := ⟨by decide +kernel, rfl⟩
theorem dX6_tighten_48 : Br cX6_tighten 48 .goto 51 2 := ⟨(-46), by decide +kernel, rfl, by decide⟩
theorem dX6_tighten_51 : At cX6_tighten 51 (.iload_n 1) 1 52 := ⟨by decide +kernel, rfl⟩
theorem dX6_tighten_52 : At cX6_tighten 52 (.istore_n 2) 1 53 := ⟨by decide +kernel, rfl⟩
theorem dX6_tighten_53 : At cX6_tighten 53 (.iload_n 2) 1 54 := ⟨by decide +kernel, rfl⟩
theorem dX6_tighten_54 : At cX6_tighten 54 (.aload_n 0) 1 55 := ⟨by decide +kernel, rfl⟩
theorem dX6_tighten_55 : At cX6_tighten 55 (.getfield 54) 3 58 := ⟨by decide +kernel, rfl⟩
theorem dX6_tighten_58 : Br cX6_tighten 58 (.if_icmp .ge) 61 81 := ⟨(23), by decide +kernel, rfl, by decide⟩
theorem dX6_tighten_61 : At cX6_tighten 61 (.aload_n 0) 1 62 := ⟨by decide +kernel, rfl⟩
theorem dX6_tighten_62 : At cX6_tighten 62 (.getfield 26) 3 65 := ⟨by decide +kernel, rfl⟩
theorem dX6_tighten_65 : At cX6_tighten 65 (.iload_n 2) 1 66 := ⟨by decide +kernel, rfl⟩
theorem dX6_tighten_66 : At cX6_tighten 66 (.iload_n 1) 1 67 := ⟨by decide +kernel, rfl⟩
theorem dX6_tighten_67 : At cX6_tighten 67 (.isub) 1 68 := ⟨by decide +kernel, rfl⟩
theorem dX6_tighten_68 : At cX6_tighten 68 (.aload_n 0) 1 69 := ⟨by decide +kernel, rfl⟩
theorem dX6_tighten_69 : At cX6_tighten 69 (.getfield 26) 3 72 := ⟨by decide +kernel, rfl⟩
theorem dX6_tighten_72 : At cX6_tighten 72 (.iload_n 2) 1 73 := ⟨by decide +kernel, rfl⟩
theorem dX6_tighten_73 : At cX6_tighten 73 (.iaload) 1 74 := ⟨by decide +kernel, rfl⟩
theorem dX6_tighten_74 : At cX6_tighten 74 (.iastore) 1 75 := ⟨by decide +kernel, rfl⟩
theorem dX6_tighten_75 : At cX6_tighten 75 (.iinc 2 1) 3 78 := ⟨by decide +kernel, rfl⟩
theorem dX6_tighten_78 : Br cX6_tighten 78 .goto 81 53 := ⟨(-25), by decide +kernel, rfl, by decide⟩
theorem dX6_tighten_81 : At cX6_tighten 81 (.aload_n 0) 1 82 := ⟨by decide +kernel, rfl⟩
theorem dX6_tighten_82 : At cX6_tighten 82 (.dup) 1 83 := ⟨by decide +kernel, rfl⟩
theorem dX6_tighten_83 : At cX6_tighten 83 (.getfield 54) 3 86 := ⟨by decide +kernel, rfl⟩
theorem dX6_tighten_86 : At cX6_tighten 86 (.iload_n 1) 1 87 := ⟨by decide +kernel, rfl⟩
theorem dX6_tighten_87 : At cX6_tighten 87 (.isub) 1 88 := ⟨by decide +kernel, rfl⟩
theorem dX6_tighten_88 : At cX6_tighten 88 (.putfield 54) 3 91 := ⟨by decide +kernel, rfl⟩
theorem dX6_tighten_91 : At cX6_tighten 91 (.return_) 1 92 := ⟨by decide +kernel, rfl⟩
theorem dX6_isLess_0 : At cX6_isLess 0 (.iconst 0) 1 1 := ⟨by decide +kernel, rfl⟩
theorem dX6_isLess_1 : At cX6_isLess 1 (.istore_n 3) 1 2 := ⟨by decide +kernel, rfl⟩
theorem dX6_isLess_2 : At cX6_isLess 2 (.iload_n 3) 1 3 := ⟨by decide +kernel, rfl⟩
theorem dX6_isLess_3 : At cX6_isLess 3 (.aload_n 0) 1 4 := ⟨by decide +kernel, rfl⟩
theorem dX6_isLess_4 : At cX6_isLess 4 (.getfield 54) 3 7 := ⟨by decide +kernel, rfl⟩
theorem dX6_isLess_7 : Br cX6_isLess 7 (.if_icmp .ge) 10 66 := ⟨(59), by decide +kernel, rfl, by decide⟩
theorem dX6_isLess_10 : At cX6_isLess 10 (.aload_n 0) 1 11 := ⟨by decide +kernel, rfl⟩
theorem dX6_isLess_11 : At cX6_isLess 11 (.getfield 26) 3 14 := ⟨by decide +kernel, rfl⟩
theorem dX6_isLess_14 : At cX6_isLess 14 (.iload_n 1) 1 15 := ⟨by decide +kernel, rfl⟩
theorem dX6_isLess_15 : At cX6_isLess 15 (.iload_n 3) 1 16 := ⟨by decide +kernel, rfl⟩
theorem dX6_isLess_16 : At cX6_isLess 16 (.iadd) 1 17 := ⟨by decide +kernel, rfl⟩
theorem dX6_isLess_17 : At cX6_isLess 17 (.aload_n 0) 1 18 := ⟨by decide +kernel, rfl⟩
theorem dX6_isLess_18 : At cX6_isLess 18 (.getfield 54) 3 21 := ⟨by decide +kernel, rfl⟩
theorem dX6_isLess_21 : At cX6_isLess 21 (.irem) 1 22 := ⟨by decide +kernel, rfl⟩
theorem dX6_isLess_22 : At cX6_isLess 22 (.iaload) 1 23 := ⟨by decide +kernel, rfl⟩
theorem dX6_isLess_23 : At cX6_isLess 23 (.istore 4) 2 25 := ⟨by decide +kernel, rfl⟩
theorem dX6_isLess_25 : At cX6_isLess 25 (.aload_n 0) 1 26 := ⟨by decide +kernel, rfl⟩
theorem dX6_isLess_26 : At cX6_isLess 26 (.getfield 26) 3 29 := ⟨by decide +kernel, rfl⟩
theorem dX6_isLess_29 : At cX6_isLess 29 (.iload_n 2) 1 30 := ⟨by decide +kernel, rfl⟩
theorem dX6_isLess_30 : At cX6_isLess 30 (.iload_n 3) 1 31 := ⟨by decide +kernel, rfl⟩
theorem dX6_isLess_31 : At cX6_isLess 31 (.iadd) 1 32 := ⟨by decide +kernel, rfl⟩
theorem dX6_isLess_32 : At cX6_isLess 32 (.aload_n 0) 1 33 := ⟨by decide +kernel, rfl⟩
theorem dX6_isLess_33 : At cX6_isLess 33 (.getfield 54) 3 36 := ⟨by decide +kernel, rfl⟩
theorem dX6_isLess_36 : At cX6_isLess 36 (.irem) 1 37 := ⟨by decide +kernel, rfl⟩
theorem dX6_isLess_37 : At cX6_isLess 37 (.iaload) 1 38 := ⟨by decide +kernel, rfl⟩
theorem dX6_isLess_38 : At cX6_isLess 38 (.istore 5) 2 40 := ⟨by decide +kernel, rfl⟩
theorem dX6_isLess_40 : At cX6_isLess 40 (.iload 4) 2 42 := ⟨by decide +kernel, rfl⟩
theorem dX6_isLess_42 : At cX6_isLess 42 (.iload 5) 2 44 := ⟨by decide +kernel, rfl⟩
theorem dX6_isLess_44 : Br cX6_isLess 44 (.if_icmp .eq) 47 60 := ⟨(16), by decide +kernel, rfl, by decide⟩
theorem dX6_isLess_47 : At cX6_isLess 47 (.iload 4) 2 49 := ⟨by decide +kernel, rfl⟩
theorem dX6_isLess_49 : At cX6_isLess 49 (.iload 5) 2 51 := ⟨by decide +kernel, rfl⟩
theorem dX6_isLess_51 : Br cX6_isLess 51 (.if_icmp .ge) 54 58 := ⟨(7), by decide +kernel, rfl, by decide⟩
theorem dX6_isLess_54 : At cX6_isLess 54 (.iconst 1) 1 55 := ⟨by decide +kernel, rfl⟩
theorem dX6_isLess_55 : Br cX6_isLess 55 .goto 58 59 := ⟨(4), by decide +kernel, rfl, by decide⟩
theorem dX6_isLess_58 : At cX6_isLess 58 (.iconst 0) 1 59 := ⟨by decide +kernel, rfl⟩
theorem dX6_isLess_59 : At cX6_isLess 59 (.ireturn) 1 60 := ⟨by decide +kernel, rfl⟩
theorem dX6_isLess_60 : At cX6_isLess 60 (.iinc 3 1) 3 63 := ⟨by decide +kernel, rfl⟩
theorem dX6_isLess_63 : Br cX6_isLess 63 .goto 66 2 := ⟨(-61), by decide +kernel, rfl, by decide⟩
theorem dX6_isLess_66 : At cX6_isLess 66 (.iconst 0) 1 67 := ⟨by decide +kernel, rfl⟩
theorem dX6_isLess_67 : At cX6_isLess 67 (.ireturn) 1 68 := ⟨by decide +kernel, rfl⟩
theorem dX6_layForm_0 : At cX6_layForm 0 (.aload_n 0) 1 1 := ⟨by decide +kernel, rfl⟩
theorem dX6_layForm_1 : At cX6_layForm 1 (.iload_n 1) 1 2 := ⟨by decide +kernel, rfl⟩
theorem dX6_layForm_2 : At cX6_layForm 2 (.iload_n 2) 1 3 := ⟨by decide +kernel, rfl⟩
theorem dX6_layForm_3 : At cX6_layForm 3 (.invokevirtual 84) 3 6 := ⟨by decide +kernel, rfl⟩
theorem dX6_layForm_6 : At cX6_layForm 6 (.aload_n 0) 1 7 := ⟨by decide +kernel, rfl⟩
theorem dX6_layForm_7 : At cX6_layForm 7 (.invokevirtual 87) 3 10 := ⟨by decide +kernel, rfl⟩
theorem dX6_layForm_10 : At cX6_layForm 10 (.iconst 0) 1 11 := ⟨by decide +kernel, rfl⟩
theorem dX6_layForm_11 : At cX6_layForm 11 (.istore_n 3) 1 12 := ⟨by decide +kernel, rfl⟩
theorem dX6_layForm_12 : At cX6_layForm 12 (.iconst 1) 1 13 := ⟨by decide +kernel, rfl⟩
theorem dX6_layForm_13 : At cX6_layForm 13 (.istore 4) 2 15 := ⟨by decide +kernel, rfl⟩
theorem dX6_layForm_15 : At cX6_layForm 15 (.iload 4) 2 17 := ⟨by decide +kernel, rfl⟩
theorem dX6_layForm_17 : At cX6_layForm 17 (.aload_n 0) 1 18 := ⟨by decide +kernel, rfl⟩
theorem dX6_layForm_18 : At cX6_layForm 18 (.getfield 54) 3 21 := ⟨by decide +kernel, rfl⟩
theorem dX6_layForm_21 : Br cX6_layForm 21 (.if_icmp .ge) 24 47 := ⟨(26), by decide +kernel, rfl, by decide⟩
theorem dX6_layForm_24 : At cX6_layForm 24 (.aload_n 0) 1 25 := ⟨by decide +kernel, rfl⟩
theorem dX6_layForm_25 : At cX6_layForm 25 (.iload 4) 2 27 := ⟨by decide +kernel, rfl⟩
theorem dX6_layForm_27 : At cX6_layForm 27 (.iload_n 3) 1 28 := ⟨by decide +kernel, rfl⟩
theorem dX6_layForm_28 : At cX6_layForm 28 (.invokevirtual 90) 3 31 := ⟨by decide +kernel, rfl⟩
theorem dX6_layForm_31 : Br cX6_layForm 31 (.ifCond .eq) 34 39 := ⟨(8), by decide +kernel, rfl, by decide⟩
theorem dX6_layForm_34 : At cX6_layForm 34 (.iload 4) 2 36 := ⟨by decide +kernel, rfl⟩
theorem dX6_layForm_36 : Br cX6_layForm 36 .goto 39 40 := ⟨(4), by decide +kernel, rfl, by decide⟩
theorem dX6_layForm_39 : At cX6_layForm 39 (.iload_n 3) 1 40 := ⟨by decide +kernel, rfl⟩
theorem dX6_layForm_40 : At cX6_layForm 40 (.istore_n 3) 1 41 := ⟨by decide +kernel, rfl⟩
theorem dX6_layForm_41 : At cX6_layForm 41 (.iinc 4 1) 3 44 := ⟨by decide +kernel, rfl⟩
theorem dX6_layForm_44 : Br cX6_layForm 44 .goto 47 15 := ⟨(-29), by decide +kernel, rfl, by decide⟩
theorem dX6_layForm_47 : At cX6_layForm 47 (.iconst 0) 1 48 := ⟨by decide +kernel, rfl⟩
theorem dX6_layForm_48 : At cX6_layForm 48 (.istore 4) 2 50 := ⟨by decide +kernel, rfl⟩
theorem dX6_layForm_50 : At cX6_layForm 50 (.iload 4) 2 52 := ⟨by decide +kernel, rfl⟩
theorem dX6_layForm_52 : At cX6_layForm 52 (.aload_n 0) 1 53 := ⟨by decide +kernel, rfl⟩
theorem dX6_layForm_53 : At cX6_layForm 53 (.getfield 54) 3 56 := ⟨by decide +kernel, rfl⟩
theorem dX6_layForm_56 : Br cX6_layForm 56 (.if_icmp .ge) 59 86 := ⟨(30), by decide +kernel, rfl, by decide⟩
theorem dX6_layForm_59 : At cX6_layForm 59 (.aload_n 0) 1 60 := ⟨by decide +kernel, rfl⟩
theorem dX6_layForm_60 : At cX6_layForm 60 (.getfield 29) 3 63 := ⟨by decide +kernel, rfl⟩
theorem dX6_layForm_63 : At cX6_layForm 63 (.iload 4) 2 65 := ⟨by decide +kernel, rfl⟩
theorem dX6_layForm_65 : At cX6_layForm 65 (.aload_n 0) 1 66 := ⟨by decide +kernel, rfl⟩
theorem dX6_layForm_66 : At cX6_layForm 66 (.getfield 26) 3 69 := ⟨by decide +kernel, rfl⟩
theorem dX6_layForm_69 : At cX6_layForm 69 (.iload_n 3) 1 70 := ⟨by decide +kernel, rfl⟩
theorem dX6_layForm_70 : At cX6_layForm 70 (.iload 4) 2 72 := ⟨by decide +kernel, rfl⟩
theorem dX6_layForm_72 : At cX6_layForm 72 (.iadd) 1 73 := ⟨by decide +kernel, rfl⟩
theorem dX6_layForm_73 : At cX6_layForm 73 (.aload_n 0) 1 74 := ⟨by decide +kernel, rfl⟩
theorem dX6_layForm_74 : At cX6_layForm 74 (.getfield 54) 3 77 := ⟨by decide +kernel, rfl⟩
theorem dX6_layForm_77 : At cX6_layForm 77 (.irem) 1 78 := ⟨by decide +kernel, rfl⟩
theorem dX6_layForm_78 : At cX6_layForm 78 (.iaload) 1 79 := ⟨by decide +kernel, rfl⟩
theorem dX6_layForm_79 : At cX6_layForm 79 (.iastore) 1 80 := ⟨by decide +kernel, rfl⟩
theorem dX6_layForm_80 : At cX6_layForm 80 (.iinc 4 1) 3 83 := ⟨by decide +kernel, rfl⟩
theorem dX6_layForm_83 : Br cX6_layForm 83 .goto 86 50 := ⟨(-33), by decide +kernel, rfl, by decide⟩
theorem dX6_layForm_86 : At cX6_layForm 86 (.aload_n 0) 1 87 := ⟨by decide +kernel, rfl⟩
theorem dX6_layForm_87 : At cX6_layForm 87 (.aload_n 0) 1 88 := ⟨by decide +kernel, rfl⟩
theorem dX6_layForm_88 : At cX6_layForm 88 (.getfield 54) 3 91 := ⟨by decide +kernel, rfl⟩
theorem dX6_layForm_91 : At cX6_layForm 91 (.putfield 93) 3 94 := ⟨by decide +kernel, rfl⟩
theorem dX6_layForm_94 : At cX6_layForm 94 (.return_) 1 95 := ⟨by decide +kernel, rfl⟩
theorem dX6_keepForm_0 : At cX6_keepForm 0 (.iconst 0) 1 1 := ⟨by decide +kernel, rfl⟩
theorem dX6_keepForm_1 : At cX6_keepForm 1 (.istore_n 1) 1 2 := ⟨by decide +kernel, rfl⟩
theorem dX6_keepForm_2 : At cX6_keepForm 2 (.iload_n 1) 1 3 := ⟨by decide +kernel, rfl⟩
theorem dX6_keepForm_3 : At cX6_keepForm 3 (.aload_n 0) 1 4 := ⟨by decide +kernel, rfl⟩
theorem dX6_keepForm_4 : At cX6_keepForm 4 (.getfield 93) 3 7 := ⟨by decide +kernel, rfl⟩
theorem dX6_keepForm_7 : Br cX6_keepForm 7 (.if_icmp .ge) 10 28 := ⟨(21), by decide +kernel, rfl, by decide⟩
theorem dX6_keepForm_10 : At cX6_keepForm 10 (.aload_n 0) 1 11 := ⟨by decide +kernel, rfl⟩
theorem dX6_keepForm_11 : At cX6_keepForm 11 (.getfield 32) 3 14 := ⟨by decide +kernel, rfl⟩
theorem dX6_keepForm_14 : At cX6_keepForm 14 (.iload_n 1) 1 15 := ⟨by decide +kernel, rfl⟩
theorem dX6_keepForm_15 : At cX6_keepForm 15 (.aload_n 0) 1 16 := ⟨by decide +kernel, rfl⟩
theorem dX6_keepForm_16 : At cX6_keepForm 16 (.getfield 29) 3 19 := ⟨by decide +kernel, rfl⟩
theorem dX6_keepForm_19 : At cX6_keepForm 19 (.iload_n 1) 1 20 := ⟨by decide +kernel, rfl⟩
theorem dX6_keepForm_20 : At cX6_keepForm 20 (.iaload) 1 21 := ⟨by decide +kernel, rfl⟩
theorem dX6_keepForm_21 : At cX6_keepForm 21 (.iastore) 1 22 := ⟨by decide +kernel, rfl⟩
theorem dX6_keepForm_22 : At cX6_keepForm 22 (.iinc 1 1) 3 25 := ⟨by decide +kernel, rfl⟩
theorem dX6_keepForm_25 : Br cX6_keepForm 25 .goto 28 2 := ⟨(-23), by decide +kernel, rfl, by decide⟩
theorem dX6_keepForm_28 : At cX6_keepForm 28 (.aload_n 0) 1 29 := ⟨by decide +kernel, rfl⟩
theorem dX6_keepForm_29 : At cX6_keepForm 29 (.aload_n 0) 1 30 := ⟨by decide +kernel, rfl⟩
theorem dX6_keepForm_30 : At cX6_keepForm 30 (.getfield 93) 3 33 := ⟨by decide +kernel, rfl⟩
theorem dX6_keepForm_33 : At cX6_keepForm 33 (.putfield 96) 3 36 := ⟨by decide +kernel, rfl⟩
theorem dX6_keepForm_36 : At cX6_keepForm 36 (.return_) 1 37 := ⟨by decide +kernel, rfl⟩
theorem dX6_areFormsAlike_0 : At cX6_areFormsAlike 0 (.aload_n 0) 1 1 := ⟨by decide +kernel, rfl⟩
theorem dX6_areFormsAlike_1 : At cX6_areFormsAlike 1 (.getfield 93) 3 4 := ⟨by decide +kernel, rfl⟩
theorem dX6_areFormsAlike_4 : At cX6_areFormsAlike 4 (.aload_n 0) 1 5 := ⟨by decide +kernel, rfl⟩
theorem dX6_areFormsAlike_5 : At cX6_areFormsAlike 5 (.getfield 96) 3 8 := ⟨by decide +kernel, rfl⟩
theorem dX6_areFormsAlike_8 : Br cX6_areFormsAlike 8 (.if_icmp .ne) 11 15 := ⟨(7), by decide +kernel, rfl, by decide⟩
theorem dX6_areFormsAlike_11 : At cX6_areFormsAlike 11 (.iconst 1) 1 12 := ⟨by decide +kernel, rfl⟩
theorem dX6_areFormsAlike_12 : Br cX6_areFormsAlike 12 .goto 15 16 := ⟨(4), by decide +kernel, rfl, by decide⟩
theorem dX6_areFormsAlike_15 : At cX6_areFormsAlike 15 (.iconst 0) 1 16 := ⟨by decide +kernel, rfl⟩
theorem dX6_areFormsAlike_16 : At cX6_areFormsAlike 16 (.istore_n 1) 1 17 := ⟨by decide +kernel, rfl⟩
theorem dX6_areFormsAlike_17 : At cX6_areFormsAlike 17 (.iconst 0) 1 18 := ⟨by decide +kernel, rfl⟩
theorem dX6_areFormsAlike_18 : At cX6_areFormsAlike 18 (.istore_n 2) 1 19 := ⟨by decide +kernel, rfl⟩
theorem dX6_areFormsAlike_19 : At cX6_areFormsAlike 19 (.iload_n 2) 1 20 := ⟨by decide +kernel, rfl⟩
theorem dX6_areFormsAlike_20 : At cX6_areFormsAlike 20 (.aload_n 0) 1 21 := ⟨by decide +kernel, rfl⟩
theorem dX6_areFormsAlike_21 : At cX6_areFormsAlike 21 (.getfield 93) 3 24 := ⟨by decide +kernel, rfl⟩
theorem dX6_areFormsAlike_24 : Br cX6_areFormsAlike 24 (.if_icmp .ge) 27 58 := ⟨(34), by decide +kernel, rfl, by decide⟩
theorem dX6_areFormsAlike_27 : At cX6_areFormsAlike 27 (.iload_n 1) 1 28 := ⟨by decide +kernel, rfl⟩
theorem dX6_areFormsAlike_28 : Br cX6_areFormsAlike 28 (.ifCond .eq) 31 58 := ⟨(30), by decide +kernel, rfl, by decide⟩
theorem dX6_areFormsAlike_31 : At cX6_areFormsAlike 31 (.aload_n 0) 1 32 := ⟨by decide +kernel, rfl⟩
theorem dX6_areFormsAlike_32 : At cX6_areFormsAlike 32 (.getfield 29) 3 35 := ⟨by decide +kernel, rfl⟩
theorem dX6_areFormsAlike_35 : At cX6_areFormsAlike 35 (.iload_n 2) 1 36 := ⟨by decide +kernel, rfl⟩
theorem dX6_areFormsAlike_36 : At cX6_areFormsAlike 36 (.iaload) 1 37 := ⟨by decide +kernel, rfl⟩
theorem dX6_areFormsAlike_37 : At cX6_areFormsAlike 37 (.aload_n 0) 1 38 := ⟨by decide +kernel, rfl⟩
theorem dX6_areFormsAlike_38 : At cX6_areFormsAlike 38 (.getfield 32) 3 41 := ⟨by decide +kernel, rfl⟩
theorem dX6_areFormsAlike_41 : At cX6_areFormsAlike 41 (.iload_n 2) 1 42 := ⟨by decide +kernel, rfl⟩
theorem dX6_areFormsAlike_42 : At cX6_areFormsAlike 42 (.iaload) 1 43 := ⟨by decide +kernel, rfl⟩
theorem dX6_areFormsAlike_43 : Br cX6_areFormsAlike 43 (.if_icmp .ne) 46 50 := ⟨(7), by decide +kernel, rfl, by decide⟩
theorem dX6_areFormsAlike_46 : At cX6_areFormsAlike 46 (.iconst 1) 1 47 := ⟨by decide +kernel, rfl⟩
theorem dX6_areFormsAlike_47 : Br cX6_areFormsAlike 47 .goto 50 51 := ⟨(4), by decide +kernel, rfl, by decide⟩
theorem dX6_areFormsAlike_50 : At cX6_areFormsAlike 50 (.iconst 0) 1 51 := ⟨by decide +kernel, rfl⟩
theorem dX6_areFormsAlike_51 : At cX6_areFormsAlike 51 (.istore_n 1) 1 52 := ⟨by decide +kernel, rfl⟩
theorem dX6_areFormsAlike_52 : At cX6_areFormsAlike 52 (.iinc 2 1) 3 55 := ⟨by decide +kernel, rfl⟩
theorem dX6_areFormsAlike_55 : Br cX6_areFormsAlike 55 .goto 58 19 := ⟨(-36), by decide +kernel, rfl, by decide⟩
theorem dX6_areFormsAlike_58 : At cX6_areFormsAlike 58 (.iload_n 1) 1 59 := ⟨by decide +kernel, rfl⟩
theorem dX6_areFormsAlike_59 : At cX6_areFormsAlike 59 (.ireturn) 1 60 := ⟨by decide +kernel, rfl⟩
theorem dX6_power_0 : At cX6_power 0 (.iconst 1) 1 1 := ⟨by decide +kernel, rfl⟩
theorem dX6_power_1 : At cX6_power 1 (.istore_n 1) 1 2 := ⟨by decide +kernel, rfl⟩
theorem dX6_power_2 : At cX6_power 2 (.iload_n 1) 1 3 := ⟨by decide +kernel, rfl⟩
theorem dX6_power_3 : At cX6_power 3 (.aload_n 0) 1 4 := ⟨by decide +kernel, rfl⟩
theorem dX6_power_4 : At cX6_power 4 (.getfield 93) 3 7 := ⟨by decide +kernel, rfl⟩
theorem dX6_power_7 : Br cX6_power 7 (.if_icmp .gt) 10 85 := ⟨(78), by decide +kernel, rfl, by decide⟩
theorem dX6_power_10 : At cX6_power 10 (.aload_n 0) 1 11 := ⟨by decide +kernel, rfl⟩
theorem dX6_power_11 : At cX6_power 11 (.getfield 93) 3 14 := ⟨by decide +kernel, rfl⟩
theorem dX6_power_14 : At cX6_power 14 (.iload_n 1) 1 15 := ⟨by decide +kernel, rfl⟩
theorem dX6_power_15 : At cX6_power 15 (.irem) 1 16 := ⟨by decide +kernel, rfl⟩
theorem dX6_power_16 : Br cX6_power 16 (.ifCond .ne) 19 23 := ⟨(7), by decide +kernel, rfl, by decide⟩
theorem dX6_power_19 : At cX6_power 19 (.iconst 1) 1 20 := ⟨by decide +kernel, rfl⟩
theorem dX6_power_20 : Br cX6_power 20 .goto 23 24 := ⟨(4), by decide +kernel, rfl, by decide⟩
theorem dX6_power_23 : At cX6_power 23 (.iconst 0) 1 24 := ⟨by decide +kernel, rfl⟩
theorem dX6_power_24 : At cX6_power 24 (.istore_n 2) 1 25 := ⟨by decide +kernel, rfl⟩
theorem dX6_power_25 : At cX6_power 25 (.iload_n 1) 1 26 := ⟨by decide +kernel, rfl⟩
theorem dX6_power_26 : At cX6_power 26 (.istore_n 3) 1 27 := ⟨by decide +kernel, rfl⟩
theorem dX6_power_27 : At cX6_power 27 (.iload_n 3) 1 28 := ⟨by decide +kernel, rfl⟩
theorem dX6_power_28 : At cX6_power 28 (.aload_n 0) 1 29 := ⟨by decide +kernel, rfl⟩
theorem dX6_power_29 : At cX6_power 29 (.getfield 93) 3 32 := ⟨by decide +kernel, rfl⟩
theorem dX6_power_32 : Br cX6_power 32 (.if_icmp .ge) 35 68 := ⟨(36), by decide +kernel, rfl, by decide⟩
theorem dX6_power_35 : At cX6_power 35 (.iload_n 2) 1 36 := ⟨by decide +kernel, rfl⟩
theorem dX6_power_36 : Br cX6_power 36 (.ifCond .eq) 39 68 := ⟨(32), by decide +kernel, rfl, by decide⟩
theorem dX6_power_39 : At cX6_power 39 (.aload_n 0) 1 40 := ⟨by decide +kernel, rfl⟩
theorem dX6_power_40 : At cX6_power 40 (.getfield 29) 3 43 := ⟨by decide +kernel, rfl⟩
theorem dX6_power_43 : At cX6_power 43 (.iload_n 3) 1 44 := ⟨by decide +kernel, rfl⟩
theorem dX6_power_44 : At cX6_power 44 (.iaload) 1 45 := ⟨by decide +kernel, rfl⟩
theorem dX6_power_45 : At cX6_power 45 (.aload_n 0) 1 46 := ⟨by decide +kernel, rfl⟩
theorem dX6_power_46 : At cX6_power 46 (.getfield 29) 3 49 := ⟨by decide +kernel, rfl⟩
theorem dX6_power_49 : At cX6_power 49 (.iload_n 3) 1 50 := ⟨by decide +kernel, rfl⟩
theorem dX6_power_50 : At cX6_power 50 (.iload_n 1) 1 51 := ⟨by decide +kernel, rfl⟩
theorem dX6_power_51 : At cX6_power 51 (.isub) 1 52 := ⟨by decide +kernel, rfl⟩
theorem dX6_power_52 : At cX6_power 52 (.iaload) 1 53 := ⟨by decide +kernel, rfl⟩
theorem dX6_power_53 : Br cX6_power 53 (.if_icmp .ne) 56 60 := ⟨(7), by decide +kernel, rfl, by decide⟩
theorem dX6_power_56 : At cX6_power 56 (.iconst 1) 1 57 := ⟨by decide +kernel, rfl⟩
theorem dX6_power_57 : Br cX6_power 57 .goto 60 61 := ⟨(4), by decide +kernel, rfl, by decide⟩
theorem dX6_power_60 : At cX6_power 60 (.iconst 0) 1 61 := ⟨by decide +kernel, rfl⟩
theorem dX6_power_61 : At cX6_power 61 (.istore_n 2) 1 62 := ⟨by decide +kernel, rfl⟩
theorem dX6_power_62 : At cX6_power 62 (.iinc 3 1) 3 65 := ⟨by decide +kernel, rfl⟩
theorem dX6_power_65 : Br cX6_power 65 .goto 68 27 := ⟨(-38), by decide +kernel, rfl, by decide⟩
theorem dX6_power_68 : At cX6_power 68 (.iload_n 2) 1 69 := ⟨by decide +kernel, rfl⟩
theorem dX6_power_69 : Br cX6_power 69 (.ifCond .eq) 72 79 := ⟨(10), by decide +kernel, rfl, by decide⟩
theorem dX6_power_72 : At cX6_power 72 (.aload_n 0) 1 73 := ⟨by decide +kernel, rfl⟩
theorem dX6_power_73 : At cX6_power 73 (.getfield 93) 3 76 := ⟨by decide +kernel, rfl⟩
theorem dX6_power_76 : At cX6_power 76 (.iload_n 1) 1 77 := ⟨by decide +kernel, rfl⟩
theorem dX6_power_77 : At cX6_power 77 (.idiv) 1 78 := ⟨by decide +kernel, rfl⟩
theorem dX6_power_78 : At cX6_power 78 (.ireturn) 1 79 := ⟨by decide +kernel, rfl⟩
theorem dX6_power_79 : At cX6_power 79 (.iinc 1 1) 3 82 := ⟨by decide +kernel, rfl⟩
theorem dX6_power_82 : Br cX6_power 82 .goto 85 2 := ⟨(-80), by decide +kernel, rfl, by decide⟩
theorem dX6_power_85 : At cX6_power 85 (.iconst 0) 1 86 := ⟨by decide +kernel, rfl⟩
theorem dX6_power_86 : At cX6_power 86 (.ireturn) 1 87 := ⟨by decide +kernel, rfl⟩
theorem dX6_width_0 : At cX6_width 0 (.iload_n 1) 1 1 := ⟨by decide +kernel, rfl⟩
theorem dX6_width_1 : At cX6_width 1 (.iconst 0) 1 2 := ⟨by decide +kernel, rfl⟩
theorem dX6_width_2 : At cX6_width 2 (.iconst 5) 1 3 := ⟨by decide +kernel, rfl⟩
theorem dX6_width_3 : At cX6_width 3 (.invokestatic 61) 3 6 := ⟨by decide +kernel, rfl⟩
theorem dX6_width_6 : Br cX6_width 6 (.ifCond .ne) 9 11 := ⟨(5), by decide +kernel, rfl, by decide⟩
theorem dX6_width_9 : At cX6_width 9 (.iconst (-1)) 1 10 := ⟨by decide +kernel, rfl⟩
theorem dX6_width_10 : At cX6_width 10 (.ireturn) 1 11 := ⟨by decide +kernel, rfl⟩
theorem dX6_width_11 : At cX6_width 11 (.iload_n 2) 1 12 := ⟨by decide +kernel, rfl⟩
theorem dX6_width_12 : At cX6_width 12 (.iconst 1) 1 13 := ⟨by decide +kernel, rfl⟩
theorem dX6_width_13 : At cX6_width 13 (.bipush 99) 2 15 := ⟨by decide +kernel, rfl⟩
theorem dX6_width_15 : At cX6_width 15 (.invokestatic 61) 3 18 := ⟨by decide +kernel, rfl⟩
theorem dX6_width_18 : Br cX6_width 18 (.ifCond .ne) 21 24 := ⟨(6), by decide +kernel, rfl, by decide⟩
theorem dX6_width_21 : At cX6_width 21 (.bipush (-2)) 2 23 := ⟨by decide +kernel, rfl⟩
theorem dX6_width_23 : At cX6_width 23 (.ireturn) 1 24 := ⟨by decide +kernel, rfl⟩
theorem dX6_width_24 : At cX6_width 24 (.aload_n 0) 1 25 := ⟨by decide +kernel, rfl⟩
theorem dX6_width_25 : At cX6_width 25 (.invokevirtual 99) 3 28 := ⟨by decide +kernel, rfl⟩
theorem dX6_width_28 : At cX6_width 28 (.aload_n 0) 1 29 := ⟨by decide +kernel, rfl⟩
theorem dX6_width_29 : At cX6_width 29 (.getfield 7) 3 32 := ⟨by decide +kernel, rfl⟩
theorem dX6_width_32 : At cX6_width 32 (.iload_n 1) 1 33 := ⟨by decide +kernel, rfl⟩
theorem dX6_width_33 : At cX6_width 33 (.iaload) 1 34 := ⟨by decide +kernel, rfl⟩
theorem dX6_width_34 : At cX6_width 34 (.istore_n 3) 1 35 := ⟨by decide +kernel, rfl⟩
theorem dX6_width_35 : At cX6_width 35 (.aload_n 0) 1 36 := ⟨by decide +kernel, rfl⟩
theorem dX6_width_36 : At cX6_width 36 (.getfield 7) 3 39 := ⟨by decide +kernel, rfl⟩
theorem dX6_width_39 : At cX6_width 39 (.iload_n 1) 1 40 := ⟨by decide +kernel, rfl⟩
theorem dX6_width_40 : At cX6_width 40 (.iload_n 2) 1 41 := ⟨by decide +kernel, rfl⟩
theorem dX6_width_41 : At cX6_width 41 (.iastore) 1 42 := ⟨by decide +kernel, rfl⟩
theorem dX6_width_42 : At cX6_width 42 (.iload_n 3) 1 43 := ⟨by decide +kernel, rfl⟩
theorem dX6_width_43 : At cX6_width 43 (.ireturn) 1 44 := ⟨by decide +kernel, rfl⟩
theorem dX6_cross_0 : At cX6_cross 0 (.iload_n 1) 1 1 := ⟨by decide +kernel, rfl⟩
theorem dX6_cross_1 : At cX6_cross 1 (.invokestatic 102) 3 4 := ⟨by decide +kernel, rfl⟩
theorem dX6_cross_4 : Br cX6_cross 4 (.ifCond .ne) 7 9 := ⟨(5), by decide +kernel, rfl, by decide⟩
theorem dX6_cross_7 : At cX6_cross 7 (.iconst (-1)) 1 8 := ⟨by decide +kernel, rfl⟩
theorem dX6_cross_8 : At cX6_cross 8 (.ireturn) 1 9 := ⟨by decide +kernel, rfl⟩
theorem dX6_cross_9 : At cX6_cross 9 (.iload_n 2) 1 10 := ⟨by decide +kernel, rfl⟩
theorem dX6_cross_10 : At cX6_cross 10 (.iconst 0) 1 11 := ⟨by decide +kernel, rfl⟩
theorem dX6_cross_11 : At cX6_cross 11 (.bipush 11) 2 13 := ⟨by decide +kernel, rfl⟩
theorem dX6_cross_13 : At cX6_cross 13 (.invokestatic 61) 3 16 := ⟨by decide +kernel, rfl⟩
theorem dX6_cross_16 : Br cX6_cross 16 (.ifCond .ne) 19 22 := ⟨(6), by decide +kernel, rfl, by decide⟩
theorem dX6_cross_19 : At cX6_cross 19 (.bipush (-2)) 2 21 := ⟨by decide +kernel, rfl⟩
theorem dX6_cross_21 : At cX6_cross 21 (.ireturn) 1 22 := ⟨by decide +kernel, rfl⟩
theorem dX6_cross_22 : At cX6_cross 22 (.aload_n 0) 1 23 := ⟨by decide +kernel, rfl⟩
theorem dX6_cross_23 : At cX6_cross 23 (.iload_n 1) 1 24 := ⟨by decide +kernel, rfl⟩
theorem dX6_cross_24 : At cX6_cross 24 (.invokevirtual 65) 3 27 := ⟨by decide +kernel, rfl⟩
theorem dX6_cross_27 : At cX6_cross 27 (.bipush 120) 2 29 := ⟨by decide +kernel, rfl⟩
theorem dX6_cross_29 : Br cX6_cross 29 (.if_icmp .ne) 32 35 := ⟨(6), by decide +kernel, rfl, by decide⟩
theorem dX6_cross_32 : At cX6_cross 32 (.bipush (-4)) 2 34 := ⟨by decide +kernel, rfl⟩
theorem dX6_cross_34 : At cX6_cross 34 (.ireturn) 1 35 := ⟨by decide +kernel, rfl⟩
theorem dX6_cross_35 : At cX6_cross 35 (.aload_n 0) 1 36 := ⟨by decide +kernel, rfl⟩
theorem dX6_cross_36 : At cX6_cross 36 (.invokevirtual 99) 3 39 := ⟨by decide +kernel, rfl⟩
theorem dX6_cross_39 : At cX6_cross 39 (.aload_n 0) 1 40 := ⟨by decide +kernel, rfl⟩
theorem dX6_cross_40 : At cX6_cross 40 (.getfield 7) 3 43 := ⟨by decide +kernel, rfl⟩
theorem dX6_cross_43 : At cX6_cross 43 (.bipush 10) 2 45 := ⟨by decide +kernel, rfl⟩
theorem dX6_cross_45 : At cX6_cross 45 (.bipush 120) 2 47 := ⟨by decide +kernel, rfl⟩
theorem dX6_cross_47 : At cX6_cross 47 (.iload_n 1) 1 48 := ⟨by decide +kernel, rfl⟩
theorem dX6_cross_48 : At cX6_cross 48 (.imul) 1 49 := ⟨by decide +kernel, rfl⟩
theorem dX6_cross_49 : At cX6_cross 49 (.iadd) 1 50 := ⟨by decide +kernel, rfl⟩
theorem dX6_cross_50 : At cX6_cross 50 (.aload_n 0) 1 51 := ⟨by decide +kernel, rfl⟩
theorem dX6_cross_51 : At cX6_cross 51 (.iload_n 1) 1 52 := ⟨by decide +kernel, rfl⟩
theorem dX6_cross_52 : At cX6_cross 52 (.invokevirtual 65) 3 55 := ⟨by decide +kernel, rfl⟩
theorem dX6_cross_55 : At cX6_cross 55 (.iadd) 1 56 := ⟨by decide +kernel, rfl⟩
theorem dX6_cross_56 : At cX6_cross 56 (.iload_n 2) 1 57 := ⟨by decide +kernel, rfl⟩
theorem dX6_cross_57 : At cX6_cross 57 (.iastore) 1 58 := ⟨by decide +kernel, rfl⟩
theorem dX6_cross_58 : At cX6_cross 58 (.aload_n 0) 1 59 := ⟨by decide +kernel, rfl⟩
theorem dX6_cross_59 : At cX6_cross 59 (.getfield 7) 3 62 := ⟨by decide +kernel, rfl⟩
theorem dX6_cross_62 : At cX6_cross 62 (.bipush 6) 2 64 := ⟨by decide +kernel, rfl⟩
theorem dX6_cross_64 : At cX6_cross 64 (.iload_n 1) 1 65 := ⟨by decide +kernel, rfl⟩
theorem dX6_cross_65 : At cX6_cross 65 (.iadd) 1 66 := ⟨by decide +kernel, rfl⟩
theorem dX6_cross_66 : At cX6_cross 66 (.dup2) 1 67 := ⟨by decide +kernel, rfl⟩
theorem dX6_cross_67 : At cX6_cross 67 (.iaload) 1 68 := ⟨by decide +kernel, rfl⟩
theorem dX6_cross_68 : At cX6_cross 68 (.iconst 1) 1 69 := ⟨by decide +kernel, rfl⟩
theorem dX6_cross_69 : At cX6_cross 69 (.iadd) 1 70 := ⟨by decide +kernel, rfl⟩
theorem dX6_cross_70 : At cX6_cross 70 (.iastore) 1 71 := ⟨by decide +kernel, rfl⟩
theorem dX6_cross_71 : At cX6_cross 71 (.aload_n 0) 1 72 := ⟨by decide +kernel, rfl⟩
theorem dX6_cross_72 : At cX6_cross 72 (.iload_n 1) 1 73 := ⟨by decide +kernel, rfl⟩
theorem dX6_cross_73 : At cX6_cross 73 (.invokevirtual 65) 3 76 := ⟨by decide +kernel, rfl⟩
theorem dX6_cross_76 : At cX6_cross 76 (.ireturn) 1 77 := ⟨by decide +kernel, rfl⟩
theorem dX6_back_0 : At cX6_back 0 (.iload_n 1) 1 1 := ⟨by decide +kernel, rfl⟩
theorem dX6_back_1 : At cX6_back 1 (.invokestatic 102) 3 4 := ⟨by decide +kernel, rfl⟩
theorem dX6_back_4 : Br cX6_back 4 (.ifCond .ne) 7 9 := ⟨(5), by decide +kernel, rfl, by decide⟩
theorem dX6_back_7 : At cX6_back 7 (.iconst (-1)) 1 8 := ⟨by decide +kernel, rfl⟩
theorem dX6_back_8 : At cX6_back 8 (.ireturn) 1 9 := ⟨by decide +kernel, rfl⟩
theorem dX6_back_9 : At cX6_back 9 (.iload_n 2) 1 10 := ⟨by decide +kernel, rfl⟩
theorem dX6_back_10 : At cX6_back 10 (.iconst 1) 1 11 := ⟨by decide +kernel, rfl⟩
theorem dX6_back_11 : At cX6_back 11 (.bipush 120) 2 13 := ⟨by decide +kernel, rfl⟩
theorem dX6_back_13 : At cX6_back 13 (.invokestatic 61) 3 16 := ⟨by decide +kernel, rfl⟩
theorem dX6_back_16 : Br cX6_back 16 (.ifCond .ne) 19 22 := ⟨(6), by decide +kernel, rfl, by decide⟩
theorem dX6_back_19 : At cX6_back 19 (.bipush (-2)) 2 21 := ⟨by decide +kernel, rfl⟩
theorem dX6_back_21 : At cX6_back 21 (.ireturn) 1 22 := ⟨by decide +kernel, rfl⟩
theorem dX6_back_22 : At cX6_back 22 (.iload_n 2) 1 23 := ⟨by decide +kernel, rfl⟩
theorem dX6_back_23 : At cX6_back 23 (.aload_n 0) 1 24 := ⟨by decide +kernel, rfl⟩
theorem dX6_back_24 : At cX6_back 24 (.iload_n 1) 1 25 := ⟨by decide +kernel, rfl⟩
theorem dX6_back_25 : At cX6_back 25 (.invokevirtual 65) 3 28 := ⟨by decide +kernel, rfl⟩
theorem dX6_back_28 : Br cX6_back 28 (.if_icmp .le) 31 34 := ⟨(6), by decide +kernel, rfl, by decide⟩
theorem dX6_back_31 : At cX6_back 31 (.bipush (-5)) 2 33 := ⟨by decide +kernel, rfl⟩
theorem dX6_back_33 : At cX6_back 33 (.ireturn) 1 34 := ⟨by decide +kernel, rfl⟩
theorem dX6_back_34 : At cX6_back 34 (.aload_n 0) 1 35 := ⟨by decide +kernel, rfl⟩
theorem dX6_back_35 : At cX6_back 35 (.invokevirtual 99) 3 38 := ⟨by decide +kernel, rfl⟩
theorem dX6_back_38 : At cX6_back 38 (.aload_n 0) 1 39 := ⟨by decide +kernel, rfl⟩
theorem dX6_back_39 : At cX6_back 39 (.getfield 7) 3 42 := ⟨by decide +kernel, rfl⟩
theorem dX6_back_42 : At cX6_back 42 (.bipush 6) 2 44 := ⟨by decide +kernel, rfl⟩
theorem dX6_back_44 : At cX6_back 44 (.iload_n 1) 1 45 := ⟨by decide +kernel, rfl⟩
theorem dX6_back_45 : At cX6_back 45 (.iadd) 1 46 := ⟨by decide +kernel, rfl⟩
theorem dX6_back_46 : At cX6_back 46 (.dup2) 1 47 := ⟨by decide +kernel, rfl⟩
theorem dX6_back_47 : At cX6_back 47 (.iaload) 1 48 := ⟨by decide +kernel, rfl⟩
theorem dX6_back_48 : At cX6_back 48 (.iload_n 2) 1 49 := ⟨by decide +kernel, rfl⟩
theorem dX6_back_49 : At cX6_back 49 (.isub) 1 50 := ⟨by decide +kernel, rfl⟩
theorem dX6_back_50 : At cX6_back 50 (.iastore) 1 51 := ⟨by decide +kernel, rfl⟩
theorem dX6_back_51 : At cX6_back 51 (.aload_n 0) 1 52 := ⟨by decide +kernel, rfl⟩
theorem dX6_back_52 : At cX6_back 52 (.iload_n 1) 1 53 := ⟨by decide +kernel, rfl⟩
theorem dX6_back_53 : At cX6_back 53 (.invokevirtual 65) 3 56 := ⟨by decide +kernel, rfl⟩
theorem dX6_back_56 : At cX6_back 56 (.ireturn) 1 57 := ⟨by decide +kernel, rfl⟩
theorem dX6_pull_0 : At cX6_pull 0 (.iload_n 1) 1 1 := ⟨by decide +kernel, rfl⟩
theorem dX6_pull_1 : At cX6_pull 1 (.invokestatic 102) 3 4 := ⟨by decide +kernel, rfl⟩
theorem dX6_pull_4 : Br cX6_pull 4 (.ifCond .ne) 7 9 := ⟨(5), by decide +kernel, rfl, by decide⟩
theorem dX6_pull_7 : At cX6_pull 7 (.iconst (-1)) 1 8 := ⟨by decide +kernel, rfl⟩
theorem dX6_pull_8 : At cX6_pull 8 (.ireturn) 1 9 := ⟨by decide +kernel, rfl⟩
theorem dX6_pull_9 : At cX6_pull 9 (.aload_n 0) 1 10 := ⟨by decide +kernel, rfl⟩
theorem dX6_pull_10 : At cX6_pull 10 (.invokevirtual 99) 3 13 := ⟨by decide +kernel, rfl⟩
theorem dX6_pull_13 : At cX6_pull 13 (.aload_n 0) 1 14 := ⟨by decide +kernel, rfl⟩
theorem dX6_pull_14 : At cX6_pull 14 (.iload_n 1) 1 15 := ⟨by decide +kernel, rfl⟩
theorem dX6_pull_15 : At cX6_pull 15 (.invokevirtual 65) 3 18 := ⟨by decide +kernel, rfl⟩
theorem dX6_pull_18 : At cX6_pull 18 (.istore_n 2) 1 19 := ⟨by decide +kernel, rfl⟩
theorem dX6_pull_19 : At cX6_pull 19 (.aload_n 0) 1 20 := ⟨by decide +kernel, rfl⟩
theorem dX6_pull_20 : At cX6_pull 20 (.iload_n 1) 1 21 := ⟨by decide +kernel, rfl⟩
theorem dX6_pull_21 : At cX6_pull 21 (.iconst 0) 1 22 := ⟨by decide +kernel, rfl⟩
theorem dX6_pull_22 : At cX6_pull 22 (.invokevirtual 84) 3 25 := ⟨by decide +kernel, rfl⟩
theorem dX6_pull_25 : At cX6_pull 25 (.aload_n 0) 1 26 := ⟨by decide +kernel, rfl⟩
theorem dX6_pull_26 : At cX6_pull 26 (.iload_n 1) 1 27 := ⟨by decide +kernel, rfl⟩
theorem dX6_pull_27 : At cX6_pull 27 (.invokevirtual 106) 3 30 := ⟨by decide +kernel, rfl⟩
theorem dX6_pull_30 : At cX6_pull 30 (.iload_n 2) 1 31 := ⟨by decide +kernel, rfl⟩
theorem dX6_pull_31 : At cX6_pull 31 (.aload_n 0) 1 32 := ⟨by decide +kernel, rfl⟩
theorem dX6_pull_32 : At cX6_pull 32 (.getfield 54) 3 35 := ⟨by decide +kernel, rfl⟩
theorem dX6_pull_35 : At cX6_pull 35 (.isub) 1 36 := ⟨by decide +kernel, rfl⟩
theorem dX6_pull_36 : At cX6_pull 36 (.iconst 2) 1 37 := ⟨by decide +kernel, rfl⟩
theorem dX6_pull_37 : At cX6_pull 37 (.idiv) 1 38 := ⟨by decide +kernel, rfl⟩
theorem dX6_pull_38 : At cX6_pull 38 (.ireturn) 1 39 := ⟨by decide +kernel, rfl⟩
theorem dX6_join_0 : At cX6_join 0 (.iload_n 1) 1 1 := ⟨by decide +kernel, rfl⟩
theorem dX6_join_1 : At cX6_join 1 (.invokestatic 102) 3 4 := ⟨by decide +kernel, rfl⟩
theorem dX6_join_4 : Br cX6_join 4 (.ifCond .eq) 7 14 := ⟨(10), by decide +kernel, rfl, by decide⟩
theorem dX6_join_7 : At cX6_join 7 (.iload_n 2) 1 8 := ⟨by decide +kernel, rfl⟩
theorem dX6_join_8 : At cX6_join 8 (.invokestatic 102) 3 11 := ⟨by decide +kernel, rfl⟩
theorem dX6_join_11 : Br cX6_join 11 (.ifCond .ne) 14 16 := ⟨(5), by decide +kernel, rfl, by decide⟩
theorem dX6_join_14 : At cX6_join 14 (.iconst (-1)) 1 15 := ⟨by decide +kernel, rfl⟩
theorem dX6_join_15 : At cX6_join 15 (.ireturn) 1 16 := ⟨by decide +kernel, rfl⟩
theorem dX6_join_16 : At cX6_join 16 (.aload_n 0) 1 17 := ⟨by decide +kernel, rfl⟩
theorem dX6_join_17 : At cX6_join 17 (.iload_n 1) 1 18 := ⟨by decide +kernel, rfl⟩
theorem dX6_join_18 : At cX6_join 18 (.invokevirtual 65) 3 21 := ⟨by decide +kernel, rfl⟩
theorem dX6_join_21 : At cX6_join 21 (.aload_n 0) 1 22 := ⟨by decide +kernel, rfl⟩
theorem dX6_join_22 : At cX6_join 22 (.iload_n 2) 1 23 := ⟨by decide +kernel, rfl⟩
theorem dX6_join_23 : At cX6_join 23 (.invokevirtual 65) 3 26 := ⟨by decide +kernel, rfl⟩
theorem dX6_join_26 : At cX6_join 26 (.iadd) 1 27 := ⟨by decide +kernel, rfl⟩
theorem dX6_join_27 : At cX6_join 27 (.bipush 120) 2 29 := ⟨by decide +kernel, rfl⟩
theorem dX6_join_29 : Br cX6_join 29 (.if_icmp .le) 32 35 := ⟨(6), by decide +kernel, rfl, by decide⟩
theorem dX6_join_32 : At cX6_join 32 (.bipush (-4)) 2 34 := ⟨by decide +kernel, rfl⟩
theorem dX6_join_34 : At cX6_join 34 (.ireturn) 1 35 := ⟨by decide +kernel, rfl⟩
theorem dX6_join_35 : At cX6_join 35 (.aload_n 0) 1 36 := ⟨by decide +kernel, rfl⟩
theorem dX6_join_36 : At cX6_join 36 (.invokevirtual 99) 3 39 := ⟨by decide +kernel, rfl⟩
theorem dX6_join_39 : At cX6_join 39 (.aload_n 0) 1 40 := ⟨by decide +kernel, rfl⟩
theorem dX6_join_40 : At cX6_join 40 (.iload_n 1) 1 41 := ⟨by decide +kernel, rfl⟩
theorem dX6_join_41 : At cX6_join 41 (.invokevirtual 65) 3 44 := ⟨by decide +kernel, rfl⟩
theorem dX6_join_44 : At cX6_join 44 (.istore_n 3) 1 45 := ⟨by decide +kernel, rfl⟩
theorem dX6_join_45 : At cX6_join 45 (.aload_n 0) 1 46 := ⟨by decide +kernel, rfl⟩
theorem dX6_join_46 : At cX6_join 46 (.iload_n 2) 1 47 := ⟨by decide +kernel, rfl⟩
theorem dX6_join_47 : At cX6_join 47 (.invokevirtual 65) 3 50 := ⟨by decide +kernel, rfl⟩
theorem dX6_join_50 : At cX6_join 50 (.istore 4) 2 52 := ⟨by decide +kernel, rfl⟩
theorem dX6_join_52 : At cX6_join 52 (.iconst 0) 1 53 := ⟨by decide +kernel, rfl⟩
theorem dX6_join_53 : At cX6_join 53 (.istore 5) 2 55 := ⟨by decide +kernel, rfl⟩
theorem dX6_join_55 : At cX6_join 55 (.iload 5) 2 57 := ⟨by decide +kernel, rfl⟩
theorem dX6_join_57 : At cX6_join 57 (.iload 4) 2 59 := ⟨by decide +kernel, rfl⟩
theorem dX6_join_59 : Br cX6_join 59 (.if_icmp .ge) 62 92 := ⟨(33), by decide +kernel, rfl, by decide⟩
theorem dX6_join_62 : At cX6_join 62 (.aload_n 0) 1 63 := ⟨by decide +kernel, rfl⟩
theorem dX6_join_63 : At cX6_join 63 (.getfield 7) 3 66 := ⟨by decide +kernel, rfl⟩
theorem dX6_join_66 : At cX6_join 66 (.bipush 10) 2 68 := ⟨by decide +kernel, rfl⟩
theorem dX6_join_68 : At cX6_join 68 (.bipush 120) 2 70 := ⟨by decide +kernel, rfl⟩
theorem dX6_join_70 : At cX6_join 70 (.iload_n 1) 1 71 := ⟨by decide +kernel, rfl⟩
theorem dX6_join_71 : At cX6_join 71 (.imul) 1 72 := ⟨by decide +kernel, rfl⟩
theorem dX6_join_72 : At cX6_join 72 (.iadd) 1 73 := ⟨by decide +kernel, rfl⟩
theorem dX6_join_73 : At cX6_join 73 (.iload_n 3) 1 74 := ⟨by decide +kernel, rfl⟩
theorem dX6_join_74 : At cX6_join 74 (.iadd) 1 75 := ⟨by decide +kernel, rfl⟩
theorem dX6_join_75 : At cX6_join 75 (.iload 5) 2 77 := ⟨by decide +kernel, rfl⟩
theorem dX6_join_77 : At cX6_join 77 (.iadd) 1 78 := ⟨by decide +kernel, rfl⟩
theorem dX6_join_78 : At cX6_join 78 (.aload_n 0) 1 79 := ⟨by decide +kernel, rfl⟩
theorem dX6_join_79 : At cX6_join 79 (.iload_n 2) 1 80 := ⟨by decide +kernel, rfl⟩
theorem dX6_join_80 : At cX6_join 80 (.iload 5) 2 82 := ⟨by decide +kernel, rfl⟩
theorem dX6_join_82 : At cX6_join 82 (.invokevirtual 69) 3 85 := ⟨by decide +kernel, rfl⟩
theorem dX6_join_85 : At cX6_join 85 (.iastore) 1 86 := ⟨by decide +kernel, rfl⟩
theorem dX6_join_86 : At cX6_join 86 (.iinc 5 1) 3 89 := ⟨by decide +kernel, rfl⟩
theorem dX6_join_89 : Br cX6_join 89 .goto 92 55 := ⟨(-34), by decide +kernel, rfl, by decide⟩
theorem dX6_join_92 : At cX6_join 92 (.aload_n 0) 1 93 := ⟨by decide +kernel, rfl⟩
theorem dX6_join_93 : At cX6_join 93 (.getfield 7) 3 96 := ⟨by decide +kernel, rfl⟩
theorem dX6_join_96 : At cX6_join 96 (.bipush 6) 2 98 := ⟨by decide +kernel, rfl⟩
theorem dX6_join_98 : At cX6_join 98 (.iload_n 1) 1 99 := ⟨by decide +kernel, rfl⟩
theorem dX6_join_99 : At cX6_join 99 (.iadd) 1 100 := ⟨by decide +kernel, rfl⟩
theorem dX6_join_100 : At cX6_join 100 (.iload_n 3) 1 101 := ⟨by decide +kernel, rfl⟩
theorem dX6_join_101 : At cX6_join 101 (.iload 4) 2 103 := ⟨by decide +kernel, rfl⟩
theorem dX6_join_103 : At cX6_join 103 (.iadd) 1 104 := ⟨by decide +kernel, rfl⟩
theorem dX6_join_104 : At cX6_join 104 (.iastore) 1 105 := ⟨by decide +kernel, rfl⟩
theorem dX6_join_105 : At cX6_join 105 (.iload_n 3) 1 106 := ⟨by decide +kernel, rfl⟩
theorem dX6_join_106 : At cX6_join 106 (.iload 4) 2 108 := ⟨by decide +kernel, rfl⟩
theorem dX6_join_108 : At cX6_join 108 (.iadd) 1 109 := ⟨by decide +kernel, rfl⟩
theorem dX6_join_109 : At cX6_join 109 (.ireturn) 1 110 := ⟨by decide +kernel, rfl⟩
theorem dX6_turn_0 : At cX6_turn 0 (.iload_n 1) 1 1 := ⟨by decide +kernel, rfl⟩
theorem dX6_turn_1 : At cX6_turn 1 (.invokestatic 102) 3 4 := ⟨by decide +kernel, rfl⟩
theorem dX6_turn_4 : Br cX6_turn 4 (.ifCond .ne) 7 9 := ⟨(5), by decide +kernel, rfl, by decide⟩
theorem dX6_turn_7 : At cX6_turn 7 (.iconst (-1)) 1 8 := ⟨by decide +kernel, rfl⟩
theorem dX6_turn_8 : At cX6_turn 8 (.ireturn) 1 9 := ⟨by decide +kernel, rfl⟩
theorem dX6_turn_9 : At cX6_turn 9 (.aload_n 0) 1 10 := ⟨by decide +kernel, rfl⟩
theorem dX6_turn_10 : At cX6_turn 10 (.invokevirtual 99) 3 13 := ⟨by decide +kernel, rfl⟩
theorem dX6_turn_13 : At cX6_turn 13 (.aload_n 0) 1 14 := ⟨by decide +kernel, rfl⟩
theorem dX6_turn_14 : At cX6_turn 14 (.aload_n 0) 1 15 := ⟨by decide +kernel, rfl⟩
theorem dX6_turn_15 : At cX6_turn 15 (.iload_n 1) 1 16 := ⟨by decide +kernel, rfl⟩
theorem dX6_turn_16 : At cX6_turn 16 (.invokevirtual 65) 3 19 := ⟨by decide +kernel, rfl⟩
theorem dX6_turn_19 : At cX6_turn 19 (.putfield 54) 3 22 := ⟨by decide +kernel, rfl⟩
theorem dX6_turn_22 : At cX6_turn 22 (.iconst 0) 1 23 := ⟨by decide +kernel, rfl⟩
theorem dX6_turn_23 : At cX6_turn 23 (.istore_n 2) 1 24 := ⟨by decide +kernel, rfl⟩
theorem dX6_turn_24 : At cX6_turn 24 (.iload_n 2) 1 25 := ⟨by decide +kernel, rfl⟩
theorem dX6_turn_25 : At cX6_turn 25 (.aload_n 0) 1 26 := ⟨by decide +kernel, rfl⟩
theorem dX6_turn_26 : At cX6_turn 26 (.getfield 54) 3 29 := ⟨by decide +kernel, rfl⟩
theorem dX6_turn_29 : Br cX6_turn 29 (.if_icmp .ge) 32 60 := ⟨(31), by decide +kernel, rfl, by decide⟩
theorem dX6_turn_32 : At cX6_turn 32 (.aload_n 0) 1 33 := ⟨by decide +kernel, rfl⟩
theorem dX6_turn_33 : At cX6_turn 33 (.getfield 26) 3 36 := ⟨by decide +kernel, rfl⟩
theorem dX6_turn_36 : At cX6_turn 36 (.iload_n 2) 1 37 := ⟨by decide +kernel, rfl⟩
theorem dX6_turn_37 : At cX6_turn 37 (.aload_n 0) 1 38 := ⟨by decide +kernel, rfl⟩
theorem dX6_turn_38 : At cX6_turn 38 (.iload_n 1) 1 39 := ⟨by decide +kernel, rfl⟩
theorem dX6_turn_39 : At cX6_turn 39 (.aload_n 0) 1 40 := ⟨by decide +kernel, rfl⟩
theorem dX6_turn_40 : At cX6_turn 40 (.getfield 54) 3 43 := ⟨by decide +kernel, rfl⟩
theorem dX6_turn_43 : At cX6_turn 43 (.iconst 1) 1 44 := ⟨by decide +kernel, rfl⟩
theorem dX6_turn_44 : At cX6_turn 44 (.isub) 1 45 := ⟨by decide +kernel, rfl⟩
theorem dX6_turn_45 : At cX6_turn 45 (.iload_n 2) 1 46 := ⟨by decide +kernel, rfl⟩
theorem dX6_turn_46 : At cX6_turn 46 (.isub) 1 47 := ⟨by decide +kernel, rfl⟩
theorem dX6_turn_47 : At cX6_turn 47 (.invokevirtual 69) 3 50 := ⟨by decide +kernel, rfl⟩
theorem dX6_turn_50 : At cX6_turn 50 (.invokestatic 73) 3 53 := ⟨by decide +kernel, rfl⟩
theorem dX6_turn_53 : At cX6_turn 53 (.iastore) 1 54 := ⟨by decide +kernel, rfl⟩
theorem dX6_turn_54 : At cX6_turn 54 (.iinc 2 1) 3 57 := ⟨by decide +kernel, rfl⟩
theorem dX6_turn_57 : Br cX6_turn 57 .goto 60 24 := ⟨(-33), by decide +kernel, rfl, by decide⟩
theorem dX6_turn_60 : At cX6_turn 60 (.aload_n 0) 1 61 := ⟨by decide +kernel, rfl⟩
theorem dX6_turn_61 : At cX6_turn 61 (.iload_n 1) 1 62 := ⟨by decide +kernel, rfl⟩
theorem dX6_turn_62 : At cX6_turn 62 (.invokevirtual 106) 3 65 := ⟨by decide +kernel, rfl⟩
theorem dX6_turn_65 : At cX6_turn 65 (.aload_n 0) 1 66 := ⟨by decide +kernel, rfl⟩
theorem dX6_turn_66 : At cX6_turn 66 (.getfield 54) 3 69 := ⟨by decide +kernel, rfl⟩
theorem dX6_turn_69 : At cX6_turn 69 (.ireturn) 1 70 := ⟨by decide +kernel, rfl⟩
theorem dX6_weave_0 : At cX6_weave 0 (.iload_n 1) 1 1 := ⟨by decide +kernel, rfl⟩
theorem dX6_weave_1 : At cX6_weave 1 (.invokestatic 102) 3 4 := ⟨by decide +kernel, rfl⟩
theorem dX6_weave_4 : Br cX6_weave 4 (.ifCond .eq) 7 19 := ⟨(15), by decide +kernel, rfl, by decide⟩
theorem dX6_weave_7 : At cX6_weave 7 (.iload_n 2) 1 8 := ⟨by decide +kernel, rfl⟩
theorem dX6_weave_8 : At cX6_weave 8 (.invokestatic 102) 3 11 := ⟨by decide +kernel, rfl⟩
theorem dX6_weave_11 : Br cX6_weave 11 (.ifCond .eq) 14 19 := ⟨(8), by decide +kernel, rfl, by decide⟩
theorem dX6_weave_14 : At cX6_weave 14 (.iload_n 1) 1 15 := ⟨by decide +kernel, rfl⟩
theorem dX6_weave_15 : At cX6_weave 15 (.iload_n 2) 1 16 := ⟨by decide +kernel, rfl⟩
theorem dX6_weave_16 : Br cX6_weave 16 (.if_icmp .ne) 19 21 := ⟨(5), by decide +kernel, rfl, by decide⟩
theorem dX6_weave_19 : At cX6_weave 19 (.iconst (-1)) 1 20 := ⟨by decide +kernel, rfl⟩
theorem dX6_weave_20 : At cX6_weave 20 (.ireturn) 1 21 := ⟨by decide +kernel, rfl⟩
theorem dX6_weave_21 : At cX6_weave 21 (.aload_n 0) 1 22 := ⟨by decide +kernel, rfl⟩
theorem dX6_weave_22 : At cX6_weave 22 (.iconst 0) 1 23 := ⟨by decide +kernel, rfl⟩
theorem dX6_weave_23 : At cX6_weave 23 (.putfield 54) 3 26 := ⟨by decide +kernel, rfl⟩
theorem dX6_weave_26 : At cX6_weave 26 (.aload_n 0) 1 27 := ⟨by decide +kernel, rfl⟩
theorem dX6_weave_27 : At cX6_weave 27 (.iload_n 1) 1 28 := ⟨by decide +kernel, rfl⟩
theorem dX6_weave_28 : At cX6_weave 28 (.iconst 0) 1 29 := ⟨by decide +kernel, rfl⟩
theorem dX6_weave_29 : At cX6_weave 29 (.invokevirtual 80) 3 32 := ⟨by decide +kernel, rfl⟩
theorem dX6_weave_32 : At cX6_weave 32 (.aload_n 0) 1 33 := ⟨by decide +kernel, rfl⟩
theorem dX6_weave_33 : At cX6_weave 33 (.iload_n 2) 1 34 := ⟨by decide +kernel, rfl⟩
theorem dX6_weave_34 : At cX6_weave 34 (.iconst 0) 1 35 := ⟨by decide +kernel, rfl⟩
theorem dX6_weave_35 : At cX6_weave 35 (.invokevirtual 80) 3 38 := ⟨by decide +kernel, rfl⟩
theorem dX6_weave_38 : At cX6_weave 38 (.aload_n 0) 1 39 := ⟨by decide +kernel, rfl⟩
theorem dX6_weave_39 : At cX6_weave 39 (.iload_n 1) 1 40 := ⟨by decide +kernel, rfl⟩
theorem dX6_weave_40 : At cX6_weave 40 (.iconst 1) 1 41 := ⟨by decide +kernel, rfl⟩
theorem dX6_weave_41 : At cX6_weave 41 (.invokevirtual 80) 3 44 := ⟨by decide +kernel, rfl⟩
theorem dX6_weave_44 : At cX6_weave 44 (.aload_n 0) 1 45 := ⟨by decide +kernel, rfl⟩
theorem dX6_weave_45 : At cX6_weave 45 (.iload_n 2) 1 46 := ⟨by decide +kernel, rfl⟩
theorem dX6_weave_46 : At cX6_weave 46 (.iconst 1) 1 47 := ⟨by decide +kernel, rfl⟩
theorem dX6_weave_47 : At cX6_weave 47 (.invokevirtual 80) 3 50 := ⟨by decide +kernel, rfl⟩
theorem dX6_weave_50 : At cX6_weave 50 (.aload_n 0) 1 51 := ⟨by decide +kernel, rfl⟩
theorem dX6_weave_51 : At cX6_weave 51 (.getfield 54) 3 54 := ⟨by decide +kernel, rfl⟩
theorem dX6_weave_54 : At cX6_weave 54 (.bipush 120) 2 56 := ⟨by decide +kernel, rfl⟩
theorem dX6_weave_56 : Br cX6_weave 56 (.if_icmp .le) 59 62 := ⟨(6), by decide +kernel, rfl, by decide⟩
theorem dX6_weave_59 : At cX6_weave 59 (.bipush (-4)) 2 61 := ⟨by decide +kernel, rfl⟩
theorem dX6_weave_61 : At cX6_weave 61 (.ireturn) 1 62 := ⟨by decide +kernel, rfl⟩
theorem dX6_weave_62 : At cX6_weave 62 (.aload_n 0) 1 63 := ⟨by decide +kernel, rfl⟩
theorem dX6_weave_63 : At cX6_weave 63 (.invokevirtual 99) 3 66 := ⟨by decide +kernel, rfl⟩
theorem dX6_weave_66 : At cX6_weave 66 (.aload_n 0) 1 67 := ⟨by decide +kernel, rfl⟩
theorem dX6_weave_67 : At cX6_weave 67 (.iload_n 1) 1 68 := ⟨by decide +kernel, rfl⟩
theorem dX6_weave_68 : At cX6_weave 68 (.invokevirtual 106) 3 71 := ⟨by decide +kernel, rfl⟩
theorem dX6_weave_71 : At cX6_weave 71 (.aload_n 0) 1 72 := ⟨by decide +kernel, rfl⟩
theorem dX6_weave_72 : At cX6_weave 72 (.getfield 54) 3 75 := ⟨by decide +kernel, rfl⟩
theorem dX6_weave_75 : At cX6_weave 75 (.ireturn) 1 76 := ⟨by decide +kernel, rfl⟩
theorem dX6_pushSwapped_0 : At cX6_pushSwapped 0 (.iload_n 1) 1 1 := ⟨by decide +kernel, rfl⟩
theorem dX6_pushSwapped_1 : At cX6_pushSwapped 1 (.bipush 6) 2 3 := ⟨by decide +kernel, rfl⟩
theorem dX6_pushSwapped_3 : At cX6_pushSwapped 3 (.idiv) 1 4 := ⟨by decide +kernel, rfl⟩
theorem dX6_pushSwapped_4 : At cX6_pushSwapped 4 (.bipush 6) 2 6 := ⟨by decide +kernel, rfl⟩
theorem dX6_pushSwapped_6 : At cX6_pushSwapped 6 (.imul) 1 7 := ⟨by decide +kernel, rfl⟩
theorem dX6_pushSwapped_7 : At cX6_pushSwapped 7 (.istore 4) 2 9 := ⟨by decide +kernel, rfl⟩
theorem dX6_pushSwapped_9 : At cX6_pushSwapped 9 (.iload_n 2) 1 10 := ⟨by decide +kernel, rfl⟩
theorem dX6_pushSwapped_10 : At cX6_pushSwapped 10 (.iload_n 3) 1 11 := ⟨by decide +kernel, rfl⟩
theorem dX6_pushSwapped_11 : At cX6_pushSwapped 11 (.iadd) 1 12 := ⟨by decide +kernel, rfl⟩
theorem dX6_pushSwapped_12 : At cX6_pushSwapped 12 (.istore 5) 2 14 := ⟨by decide +kernel, rfl⟩
theorem dX6_pushSwapped_14 : At cX6_pushSwapped 14 (.iload_n 2) 1 15 := ⟨by decide +kernel, rfl⟩
theorem dX6_pushSwapped_15 : At cX6_pushSwapped 15 (.iconst 1) 1 16 := ⟨by decide +kernel, rfl⟩
theorem dX6_pushSwapped_16 : At cX6_pushSwapped 16 (.iadd) 1 17 := ⟨by decide +kernel, rfl⟩
theorem dX6_pushSwapped_17 : At cX6_pushSwapped 17 (.iload_n 3) 1 18 := ⟨by decide +kernel, rfl⟩
theorem dX6_pushSwapped_18 : At cX6_pushSwapped 18 (.isub) 1 19 := ⟨by decide +kernel, rfl⟩
theorem dX6_pushSwapped_19 : At cX6_pushSwapped 19 (.istore 6) 2 21 := ⟨by decide +kernel, rfl⟩
theorem dX6_pushSwapped_21 : At cX6_pushSwapped 21 (.iload_n 1) 1 22 := ⟨by decide +kernel, rfl⟩
theorem dX6_pushSwapped_22 : At cX6_pushSwapped 22 (.bipush 6) 2 24 := ⟨by decide +kernel, rfl⟩
theorem dX6_pushSwapped_24 : At cX6_pushSwapped 24 (.irem) 1 25 := ⟨by decide +kernel, rfl⟩
theorem dX6_pushSwapped_25 : At cX6_pushSwapped 25 (.iload 5) 2 27 := ⟨by decide +kernel, rfl⟩
theorem dX6_pushSwapped_27 : Br cX6_pushSwapped 27 (.if_icmp .ne) 30 78 := ⟨(51), by decide +kernel, rfl, by decide⟩
theorem dX6_pushSwapped_30 : At cX6_pushSwapped 30 (.aload_n 0) 1 31 := ⟨by decide +kernel, rfl⟩
theorem dX6_pushSwapped_31 : At cX6_pushSwapped 31 (.iload_n 3) 1 32 := ⟨by decide +kernel, rfl⟩
theorem dX6_pushSwapped_32 : Br cX6_pushSwapped 32 (.ifCond .ne) 35 40 := ⟨(8), by decide +kernel, rfl, by decide⟩
theorem dX6_pushSwapped_35 : At cX6_pushSwapped 35 (.iload 5) 2 37 := ⟨by decide +kernel, rfl⟩
theorem dX6_pushSwapped_37 : Br cX6_pushSwapped 37 .goto 40 45 := ⟨(8), by decide +kernel, rfl, by decide⟩
theorem dX6_pushSwapped_40 : At cX6_pushSwapped 40 (.iload 5) 2 42 := ⟨by decide +kernel, rfl⟩
theorem dX6_pushSwapped_42 : At cX6_pushSwapped 42 (.bipush 6) 2 44 := ⟨by decide +kernel, rfl⟩
theorem dX6_pushSwapped_44 : At cX6_pushSwapped 44 (.iadd) 1 45 := ⟨by decide +kernel, rfl⟩
theorem dX6_pushSwapped_45 : At cX6_pushSwapped 45 (.invokevirtual 76) 3 48 := ⟨by decide +kernel, rfl⟩
theorem dX6_pushSwapped_48 : At cX6_pushSwapped 48 (.aload_n 0) 1 49 := ⟨by decide +kernel, rfl⟩
theorem dX6_pushSwapped_49 : At cX6_pushSwapped 49 (.iload 6) 2 51 := ⟨by decide +kernel, rfl⟩
theorem dX6_pushSwapped_51 : At cX6_pushSwapped 51 (.iload 4) 2 53 := ⟨by decide +kernel, rfl⟩
theorem dX6_pushSwapped_53 : At cX6_pushSwapped 53 (.iadd) 1 54 := ⟨by decide +kernel, rfl⟩
theorem dX6_pushSwapped_54 : At cX6_pushSwapped 54 (.invokevirtual 76) 3 57 := ⟨by decide +kernel, rfl⟩
theorem dX6_pushSwapped_57 : At cX6_pushSwapped 57 (.aload_n 0) 1 58 := ⟨by decide +kernel, rfl⟩
theorem dX6_pushSwapped_58 : At cX6_pushSwapped 58 (.iload_n 3) 1 59 := ⟨by decide +kernel, rfl⟩
theorem dX6_pushSwapped_59 : Br cX6_pushSwapped 59 (.ifCond .ne) 62 70 := ⟨(11), by decide +kernel, rfl, by decide⟩
theorem dX6_pushSwapped_62 : At cX6_pushSwapped 62 (.iload 5) 2 64 := ⟨by decide +kernel, rfl⟩
theorem dX6_pushSwapped_64 : At cX6_pushSwapped 64 (.bipush 6) 2 66 := ⟨by decide +kernel, rfl⟩
theorem dX6_pushSwapped_66 : At cX6_pushSwapped 66 (.iadd) 1 67 := ⟨by decide +kernel, rfl⟩
theorem dX6_pushSwapped_67 : Br cX6_pushSwapped 67 .goto 70 72 := ⟨(5), by decide +kernel, rfl, by decide⟩
theorem dX6_pushSwapped_70 : At cX6_pushSwapped 70 (.iload 5) 2 72 := ⟨by decide +kernel, rfl⟩
theorem dX6_pushSwapped_72 : At cX6_pushSwapped 72 (.invokevirtual 76) 3 75 := ⟨by decide +kernel, rfl⟩
theorem dX6_pushSwapped_75 : Br cX6_pushSwapped 75 .goto 78 100 := ⟨(25), by decide +kernel, rfl, by decide⟩
theorem dX6_pushSwapped_78 : At cX6_pushSwapped 78 (.aload_n 0) 1 79 := ⟨by decide +kernel, rfl⟩
theorem dX6_pushSwapped_79 : At cX6_pushSwapped 79 (.iload_n 1) 1 80 := ⟨by decide +kernel, rfl⟩
theorem dX6_pushSwapped_80 : At cX6_pushSwapped 80 (.bipush 6) 2 82 := ⟨by decide +kernel, rfl⟩
theorem dX6_pushSwapped_82 : At cX6_pushSwapped 82 (.irem) 1 83 := ⟨by decide +kernel, rfl⟩
theorem dX6_pushSwapped_83 : At cX6_pushSwapped 83 (.iload 6) 2 85 := ⟨by decide +kernel, rfl⟩
theorem dX6_pushSwapped_85 : Br cX6_pushSwapped 85 (.if_icmp .ne) 88 96 := ⟨(11), by decide +kernel, rfl, by decide⟩
theorem dX6_pushSwapped_88 : At cX6_pushSwapped 88 (.iload 5) 2 90 := ⟨by decide +kernel, rfl⟩
theorem dX6_pushSwapped_90 : At cX6_pushSwapped 90 (.iload 4) 2 92 := ⟨by decide +kernel, rfl⟩
theorem dX6_pushSwapped_92 : At cX6_pushSwapped 92 (.iadd) 1 93 := ⟨by decide +kernel, rfl⟩
theorem dX6_pushSwapped_93 : Br cX6_pushSwapped 93 .goto 96 97 := ⟨(4), by decide +kernel, rfl, by decide⟩
theorem dX6_pushSwapped_96 : At cX6_pushSwapped 96 (.iload_n 1) 1 97 := ⟨by decide +kernel, rfl⟩
theorem dX6_pushSwapped_97 : At cX6_pushSwapped 97 (.invokevirtual 76) 3 100 := ⟨by decide +kernel, rfl⟩
theorem dX6_pushSwapped_100 : At cX6_pushSwapped 100 (.return_) 1 101 := ⟨by decide +kernel, rfl⟩
theorem dX6_laySwapped_0 : At cX6_laySwapped 0 (.aload_n 0) 1 1 := ⟨by decide +kernel, rfl⟩
theorem dX6_laySwapped_1 : At cX6_laySwapped 1 (.iconst 0) 1 2 := ⟨by decide +kernel, rfl⟩
theorem dX6_laySwapped_2 : At cX6_laySwapped 2 (.putfield 54) 3 5 := ⟨by decide +kernel, rfl⟩
theorem dX6_laySwapped_5 : At cX6_laySwapped 5 (.iconst 0) 1 6 := ⟨by decide +kernel, rfl⟩
theorem dX6_laySwapped_6 : At cX6_laySwapped 6 (.istore 4) 2 8 := ⟨by decide +kernel, rfl⟩
theorem dX6_laySwapped_8 : At cX6_laySwapped 8 (.iload 4) 2 10 := ⟨by decide +kernel, rfl⟩
theorem dX6_laySwapped_10 : At cX6_laySwapped 10 (.aload_n 0) 1 11 := ⟨by decide +kernel, rfl⟩
theorem dX6_laySwapped_11 : At cX6_laySwapped 11 (.iload_n 1) 1 12 := ⟨by decide +kernel, rfl⟩
theorem dX6_laySwapped_12 : At cX6_laySwapped 12 (.invokevirtual 65) 3 15 := ⟨by decide +kernel, rfl⟩
theorem dX6_laySwapped_15 : Br cX6_laySwapped 15 (.if_icmp .ge) 18 37 := ⟨(22), by decide +kernel, rfl, by decide⟩
theorem dX6_laySwapped_18 : At cX6_laySwapped 18 (.aload_n 0) 1 19 := ⟨by decide +kernel, rfl⟩
theorem dX6_laySwapped_19 : At cX6_laySwapped 19 (.aload_n 0) 1 20 := ⟨by decide +kernel, rfl⟩
theorem dX6_laySwapped_20 : At cX6_laySwapped 20 (.iload_n 1) 1 21 := ⟨by decide +kernel, rfl⟩
theorem dX6_laySwapped_21 : At cX6_laySwapped 21 (.iload 4) 2 23 := ⟨by decide +kernel, rfl⟩
theorem dX6_laySwapped_23 : At cX6_laySwapped 23 (.invokevirtual 69) 3 26 := ⟨by decide +kernel, rfl⟩
theorem dX6_laySwapped_26 : At cX6_laySwapped 26 (.iload_n 2) 1 27 := ⟨by decide +kernel, rfl⟩
theorem dX6_laySwapped_27 : At cX6_laySwapped 27 (.iload_n 3) 1 28 := ⟨by decide +kernel, rfl⟩
theorem dX6_laySwapped_28 : At cX6_laySwapped 28 (.invokevirtual 109) 3 31 := ⟨by decide +kernel, rfl⟩
theorem dX6_laySwapped_31 : At cX6_laySwapped 31 (.iinc 4 1) 3 34 := ⟨by decide +kernel, rfl⟩
theorem dX6_laySwapped_34 : Br cX6_laySwapped 34 .goto 37 8 := ⟨(-26), by decide +kernel, rfl, by decide⟩
theorem dX6_laySwapped_37 : At cX6_laySwapped 37 (.return_) 1 38 := ⟨by decide +kernel, rfl⟩
theorem dX6_swap_0 : At cX6_swap 0 (.iload_n 1) 1 1 := ⟨by decide +kernel, rfl⟩
theorem dX6_swap_1 : At cX6_swap 1 (.iconst 0) 1 2 := ⟨by decide +kernel, rfl⟩
theorem dX6_swap_2 : At cX6_swap 2 (.iconst 4) 1 3 := ⟨by decide +kernel, rfl⟩
theorem dX6_swap_3 : At cX6_swap 3 (.invokestatic 61) 3 6 := ⟨by decide +kernel, rfl⟩
theorem dX6_swap_6 : Br cX6_swap 6 (.ifCond .ne) 9 11 := ⟨(5), by decide +kernel, rfl, by decide⟩
theorem dX6_swap_9 : At cX6_swap 9 (.iconst (-1)) 1 10 := ⟨by decide +kernel, rfl⟩
theorem dX6_swap_10 : At cX6_swap 10 (.ireturn) 1 11 := ⟨by decide +kernel, rfl⟩
theorem dX6_swap_11 : At cX6_swap 11 (.iload_n 2) 1 12 := ⟨by decide +kernel, rfl⟩
theorem dX6_swap_12 : At cX6_swap 12 (.iconst 0) 1 13 := ⟨by decide +kernel, rfl⟩
theorem dX6_swap_13 : At cX6_swap 13 (.iconst 1) 1 14 := ⟨by decide +kernel, rfl⟩
theorem dX6_swap_14 : At cX6_swap 14 (.invokestatic 61) 3 17 := ⟨by decide +kernel, rfl⟩
theorem dX6_swap_17 : Br cX6_swap 17 (.ifCond .ne) 20 23 := ⟨(6), by decide +kernel, rfl, by decide⟩
theorem dX6_swap_20 : At cX6_swap 20 (.bipush (-2)) 2 22 := ⟨by decide +kernel, rfl⟩
theorem dX6_swap_22 : At cX6_swap 22 (.ireturn) 1 23 := ⟨by decide +kernel, rfl⟩
theorem dX6_swap_23 : At cX6_swap 23 (.iconst 0) 1 24 := ⟨by decide +kernel, rfl⟩
theorem dX6_swap_24 : At cX6_swap 24 (.istore_n 3) 1 25 := ⟨by decide +kernel, rfl⟩
theorem dX6_swap_25 : At cX6_swap 25 (.iload_n 3) 1 26 := ⟨by decide +kernel, rfl⟩
theorem dX6_swap_26 : At cX6_swap 26 (.iconst 4) 1 27 := ⟨by decide +kernel, rfl⟩
theorem dX6_swap_27 : Br cX6_swap 27 (.if_icmp .ge) 30 55 := ⟨(28), by decide +kernel, rfl, by decide⟩
theorem dX6_swap_30 : At cX6_swap 30 (.aload_n 0) 1 31 := ⟨by decide +kernel, rfl⟩
theorem dX6_swap_31 : At cX6_swap 31 (.iload_n 3) 1 32 := ⟨by decide +kernel, rfl⟩
theorem dX6_swap_32 : At cX6_swap 32 (.iload_n 1) 1 33 := ⟨by decide +kernel, rfl⟩
theorem dX6_swap_33 : At cX6_swap 33 (.iload_n 2) 1 34 := ⟨by decide +kernel, rfl⟩
theorem dX6_swap_34 : At cX6_swap 34 (.invokevirtual 113) 3 37 := ⟨by decide +kernel, rfl⟩
theorem dX6_swap_37 : At cX6_swap 37 (.aload_n 0) 1 38 := ⟨by decide +kernel, rfl⟩
theorem dX6_swap_38 : At cX6_swap 38 (.getfield 54) 3 41 := ⟨by decide +kernel, rfl⟩
theorem dX6_swap_41 : At cX6_swap 41 (.bipush 120) 2 43 := ⟨by decide +kernel, rfl⟩
theorem dX6_swap_43 : Br cX6_swap 43 (.if_icmp .le) 46 49 := ⟨(6), by decide +kernel, rfl, by decide⟩
theorem dX6_swap_46 : At cX6_swap 46 (.bipush (-4)) 2 48 := ⟨by decide +kernel, rfl⟩
theorem dX6_swap_48 : At cX6_swap 48 (.ireturn) 1 49 := ⟨by decide +kernel, rfl⟩
theorem dX6_swap_49 : At cX6_swap 49 (.iinc 3 1) 3 52 := ⟨by decide +kernel, rfl⟩
theorem dX6_swap_52 : Br cX6_swap 52 .goto 55 25 := ⟨(-27), by decide +kernel, rfl, by decide⟩
theorem dX6_swap_55 : At cX6_swap 55 (.aload_n 0) 1 56 := ⟨by decide +kernel, rfl⟩
theorem dX6_swap_56 : At cX6_swap 56 (.invokevirtual 99) 3 59 := ⟨by decide +kernel, rfl⟩
theorem dX6_swap_59 : At cX6_swap 59 (.iconst 0) 1 60 := ⟨by decide +kernel, rfl⟩
theorem dX6_swap_60 : At cX6_swap 60 (.istore_n 3) 1 61 := ⟨by decide +kernel, rfl⟩
theorem dX6_swap_61 : At cX6_swap 61 (.iload_n 3) 1 62 := ⟨by decide +kernel, rfl⟩
theorem dX6_swap_62 : At cX6_swap 62 (.iconst 4) 1 63 := ⟨by decide +kernel, rfl⟩
theorem dX6_swap_63 : Br cX6_swap 63 (.if_icmp .ge) 66 84 := ⟨(21), by decide +kernel, rfl, by decide⟩
theorem dX6_swap_66 : At cX6_swap 66 (.aload_n 0) 1 67 := ⟨by decide +kernel, rfl⟩
theorem dX6_swap_67 : At cX6_swap 67 (.iload_n 3) 1 68 := ⟨by decide +kernel, rfl⟩
theorem dX6_swap_68 : At cX6_swap 68 (.iload_n 1) 1 69 := ⟨by decide +kernel, rfl⟩
theorem dX6_swap_69 : At cX6_swap 69 (.iload_n 2) 1 70 := ⟨by decide +kernel, rfl⟩
theorem dX6_swap_70 : At cX6_swap 70 (.invokevirtual 113) 3 73 := ⟨by decide +kernel, rfl⟩
theorem dX6_swap_73 : At cX6_swap 73 (.aload_n 0) 1 74 := ⟨by decide +kernel, rfl⟩
theorem dX6_swap_74 : At cX6_swap 74 (.iload_n 3) 1 75 := ⟨by decide +kernel, rfl⟩
theorem dX6_swap_75 : At cX6_swap 75 (.invokevirtual 106) 3 78 := ⟨by decide +kernel, rfl⟩
theorem dX6_swap_78 : At cX6_swap 78 (.iinc 3 1) 3 81 := ⟨by decide +kernel, rfl⟩
theorem dX6_swap_81 : Br cX6_swap 81 .goto 84 61 := ⟨(-20), by decide +kernel, rfl, by decide⟩
theorem dX6_swap_84 : At cX6_swap 84 (.aload_n 0) 1 85 := ⟨by decide +kernel, rfl⟩
theorem dX6_swap_85 : At cX6_swap 85 (.invokevirtual 116) 3 88 := ⟨by decide +kernel, rfl⟩
theorem dX6_swap_88 : At cX6_swap 88 (.ireturn) 1 89 := ⟨by decide +kernel, rfl⟩
theorem dX6_all_0 : At cX6_all 0 (.aload_n 0) 1 1 := ⟨by decide +kernel, rfl⟩
theorem dX6_all_1 : At cX6_all 1 (.iconst 0) 1 2 := ⟨by decide +kernel, rfl⟩
theorem dX6_all_2 : At cX6_all 2 (.invokevirtual 65) 3 5 := ⟨by decide +kernel, rfl⟩
theorem dX6_all_5 : At cX6_all 5 (.aload_n 0) 1 6 := ⟨by decide +kernel, rfl⟩
theorem dX6_all_6 : At cX6_all 6 (.iconst 1) 1 7 := ⟨by decide +kernel, rfl⟩
theorem dX6_all_7 : At cX6_all 7 (.invokevirtual 65) 3 10 := ⟨by decide +kernel, rfl⟩
theorem dX6_all_10 : At cX6_all 10 (.iadd) 1 11 := ⟨by decide +kernel, rfl⟩
theorem dX6_all_11 : At cX6_all 11 (.aload_n 0) 1 12 := ⟨by decide +kernel, rfl⟩
theorem dX6_all_12 : At cX6_all 12 (.iconst 2) 1 13 := ⟨by decide +kernel, rfl⟩
theorem dX6_all_13 : At cX6_all 13 (.invokevirtual 65) 3 16 := ⟨by decide +kernel, rfl⟩
theorem dX6_all_16 : At cX6_all 16 (.iadd) 1 17 := ⟨by decide +kernel, rfl⟩
theorem dX6_all_17 : At cX6_all 17 (.aload_n 0) 1 18 := ⟨by decide +kernel, rfl⟩
theorem dX6_all_18 : At cX6_all 18 (.iconst 3) 1 19 := ⟨by decide +kernel, rfl⟩
theorem dX6_all_19 : At cX6_all 19 (.invokevirtual 65) 3 22 := ⟨by decide +kernel, rfl⟩
theorem dX6_all_22 : At cX6_all 22 (.iadd) 1 23 := ⟨by decide +kernel, rfl⟩
theorem dX6_all_23 : At cX6_all 23 (.ireturn) 1 24 := ⟨by decide +kernel, rfl⟩
theorem dX6_tell_0 : At cX6_tell 0 (.aload_n 0) 1 1 := ⟨by decide +kernel, rfl⟩
theorem dX6_tell_1 : At cX6_tell 1 (.getfield 120) 3 4 := ⟨by decide +kernel, rfl⟩
theorem dX6_tell_4 : At cX6_tell 4 (.sipush 1000) 3 7 := ⟨by decide +kernel, rfl⟩
theorem dX6_tell_7 : Br cX6_tell 7 (.if_icmp .ge) 10 30 := ⟨(23), by decide +kernel, rfl, by decide⟩
theorem dX6_tell_10 : At cX6_tell 10 (.aload_n 0) 1 11 := ⟨by decide +kernel, rfl⟩
theorem dX6_tell_11 : At cX6_tell 11 (.getfield 35) 3 14 := ⟨by decide +kernel, rfl⟩
theorem dX6_tell_14 : At cX6_tell 14 (.aload_n 0) 1 15 := ⟨by decide +kernel, rfl⟩
theorem dX6_tell_15 : At cX6_tell 15 (.getfield 120) 3 18 := ⟨by decide +kernel, rfl⟩
theorem dX6_tell_18 : At cX6_tell 18 (.iload_n 1) 1 19 := ⟨by decide +kernel, rfl⟩
theorem dX6_tell_19 : At cX6_tell 19 (.iastore) 1 20 := ⟨by decide +kernel, rfl⟩
theorem dX6_tell_20 : At cX6_tell 20 (.aload_n 0) 1 21 := ⟨by decide +kernel, rfl⟩
theorem dX6_tell_21 : At cX6_tell 21 (.dup) 1 22 := ⟨by decide +kernel, rfl⟩
theorem dX6_tell_22 : At cX6_tell 22 (.getfield 120) 3 25 := ⟨by decide +kernel, rfl⟩
theorem dX6_tell_25 : At cX6_tell 25 (.iconst 1) 1 26 := ⟨by decide +kernel, rfl⟩
theorem dX6_tell_26 : At cX6_tell 26 (.iadd) 1 27 := ⟨by decide +kernel, rfl⟩
theorem dX6_tell_27 : At cX6_tell 27 (.putfield 120) 3 30 := ⟨by decide +kernel, rfl⟩
theorem dX6_tell_30 : At cX6_tell 30 (.aload_n 0) 1 31 := ⟨by decide +kernel, rfl⟩
theorem dX6_tell_31 : At cX6_tell 31 (.aload_n 0) 1 32 := ⟨by decide +kernel, rfl⟩
theorem dX6_tell_32 : At cX6_tell 32 (.getfield 123) 3 35 := ⟨by decide +kernel, rfl⟩
theorem dX6_tell_35 : Br cX6_tell 35 (.ifCond .ne) 38 47 := ⟨(12), by decide +kernel, rfl, by decide⟩
theorem dX6_tell_38 : At cX6_tell 38 (.aload_n 0) 1 39 := ⟨by decide +kernel, rfl⟩
theorem dX6_tell_39 : At cX6_tell 39 (.getfield 120) 3 42 := ⟨by decide +kernel, rfl⟩
theorem dX6_tell_42 : At cX6_tell 42 (.bipush 120) 2 44 := ⟨by decide +kernel, rfl⟩
theorem dX6_tell_44 : Br cX6_tell 44 (.if_icmp .le) 47 51 := ⟨(7), by decide +kernel, rfl, by decide⟩
theorem dX6_tell_47 : At cX6_tell 47 (.iconst 1) 1 48 := ⟨by decide +kernel, rfl⟩
theorem dX6_tell_48 : Br cX6_tell 48 .goto 51 52 := ⟨(4), by decide +kernel, rfl, by decide⟩
theorem dX6_tell_51 : At cX6_tell 51 (.iconst 0) 1 52 := ⟨by decide +kernel, rfl⟩
theorem dX6_tell_52 : At cX6_tell 52 (.putfield 123) 3 55 := ⟨by decide +kernel, rfl⟩
theorem dX6_tell_55 : At cX6_tell 55 (.return_) 1 56 := ⟨by decide +kernel, rfl⟩
theorem dX6_tellAgain_0 : At cX6_tellAgain 0 (.iconst 0) 1 1 := ⟨by decide +kernel, rfl⟩
theorem dX6_tellAgain_1 : At cX6_tellAgain 1 (.istore 4) 2 3 := ⟨by decide +kernel, rfl⟩
theorem dX6_tellAgain_3 : At cX6_tellAgain 3 (.iload 4) 2 5 := ⟨by decide +kernel, rfl⟩
theorem dX6_tellAgain_5 : At cX6_tellAgain 5 (.iload_n 2) 1 6 := ⟨by decide +kernel, rfl⟩
theorem dX6_tellAgain_6 : At cX6_tellAgain 6 (.iload_n 1) 1 7 := ⟨by decide +kernel, rfl⟩
theorem dX6_tellAgain_7 : At cX6_tellAgain 7 (.isub) 1 8 := ⟨by decide +kernel, rfl⟩
theorem dX6_tellAgain_8 : Br cX6_tellAgain 8 (.if_icmp .ge) 11 51 := ⟨(43), by decide +kernel, rfl, by decide⟩
theorem dX6_tellAgain_11 : At cX6_tellAgain 11 (.aload_n 0) 1 12 := ⟨by decide +kernel, rfl⟩
theorem dX6_tellAgain_12 : At cX6_tellAgain 12 (.iload_n 3) 1 13 := ⟨by decide +kernel, rfl⟩
theorem dX6_tellAgain_13 : Br cX6_tellAgain 13 (.ifCond .eq) 16 33 := ⟨(20), by decide +kernel, rfl, by decide⟩
theorem dX6_tellAgain_16 : At cX6_tellAgain 16 (.aload_n 0) 1 17 := ⟨by decide +kernel, rfl⟩
theorem dX6_tellAgain_17 : At cX6_tellAgain 17 (.getfield 35) 3 20 := ⟨by decide +kernel, rfl⟩
theorem dX6_tellAgain_20 : At cX6_tellAgain 20 (.iload_n 2) 1 21 := ⟨by decide +kernel, rfl⟩
theorem dX6_tellAgain_21 : At cX6_tellAgain 21 (.iconst 1) 1 22 := ⟨by decide +kernel, rfl⟩
theorem dX6_tellAgain_22 : At cX6_tellAgain 22 (.isub) 1 23 := ⟨by decide +kernel, rfl⟩
theorem dX6_tellAgain_23 : At cX6_tellAgain 23 (.iload 4) 2 25 := ⟨by decide +kernel, rfl⟩
theorem dX6_tellAgain_25 : At cX6_tellAgain 25 (.isub) 1 26 := ⟨by decide +kernel, rfl⟩
theorem dX6_tellAgain_26 : At cX6_tellAgain 26 (.iaload) 1 27 := ⟨by decide +kernel, rfl⟩
theorem dX6_tellAgain_27 : At cX6_tellAgain 27 (.invokestatic 73) 3 30 := ⟨by decide +kernel, rfl⟩
theorem dX6_tellAgain_30 : Br cX6_tellAgain 30 .goto 33 42 := ⟨(12), by decide +kernel, rfl, by decide⟩
theorem dX6_tellAgain_33 : At cX6_tellAgain 33 (.aload_n 0) 1 34 := ⟨by decide +kernel, rfl⟩
theorem dX6_tellAgain_34 : At cX6_tellAgain 34 (.getfield 35) 3 37 := ⟨by decide +kernel, rfl⟩
theorem dX6_tellAgain_37 : At cX6_tellAgain 37 (.iload_n 1) 1 38 := ⟨by decide +kernel, rfl⟩
theorem dX6_tellAgain_38 : At cX6_tellAgain 38 (.iload 4) 2 40 := ⟨by decide +kernel, rfl⟩
theorem dX6_tellAgain_40 : At cX6_tellAgain 40 (.iadd) 1 41 := ⟨by decide +kernel, rfl⟩
theorem dX6_tellAgain_41 : At cX6_tellAgain 41 (.iaload) 1 42 := ⟨by decide +kernel, rfl⟩
theorem dX6_tellAgain_42 : At cX6_tellAgain 42 (.invokevirtual 127) 3 45 := ⟨by decide +kernel, rfl⟩
theorem dX6_tellAgain_45 : At cX6_tellAgain 45 (.iinc 4 1) 3 48 := ⟨by decide +kernel, rfl⟩
theorem dX6_tellAgain_48 : Br cX6_tellAgain 48 .goto 51 3 := ⟨(-45), by decide +kernel, rfl, by decide⟩
theorem dX6_tellAgain_51 : At cX6_tellAgain 51 (.return_) 1 52 := ⟨by decide +kernel, rfl⟩
theorem dX6_turnTold_0 : At cX6_turnTold 0 (.iload_n 1) 1 1 := ⟨by decide +kernel, rfl⟩
theorem dX6_turnTold_1 : At cX6_turnTold 1 (.istore_n 2) 1 2 := ⟨by decide +kernel, rfl⟩
theorem dX6_turnTold_2 : At cX6_turnTold 2 (.aload_n 0) 1 3 := ⟨by decide +kernel, rfl⟩
theorem dX6_turnTold_3 : At cX6_turnTold 3 (.getfield 120) 3 6 := ⟨by decide +kernel, rfl⟩
theorem dX6_turnTold_6 : At cX6_turnTold 6 (.iconst 1) 1 7 := ⟨by decide +kernel, rfl⟩
theorem dX6_turnTold_7 : At cX6_turnTold 7 (.isub) 1 8 := ⟨by decide +kernel, rfl⟩
theorem dX6_turnTold_8 : At cX6_turnTold 8 (.istore_n 3) 1 9 := ⟨by decide +kernel, rfl⟩
theorem dX6_turnTold_9 : At cX6_turnTold 9 (.iload_n 2) 1 10 := ⟨by decide +kernel, rfl⟩
theorem dX6_turnTold_10 : At cX6_turnTold 10 (.iload_n 3) 1 11 := ⟨by decide +kernel, rfl⟩
theorem dX6_turnTold_11 : Br cX6_turnTold 11 (.if_icmp .gt) 14 57 := ⟨(46), by decide +kernel, rfl, by decide⟩
theorem dX6_turnTold_14 : At cX6_turnTold 14 (.aload_n 0) 1 15 := ⟨by decide +kernel, rfl⟩
theorem dX6_turnTold_15 : At cX6_turnTold 15 (.getfield 35) 3 18 := ⟨by decide +kernel, rfl⟩
theorem dX6_turnTold_18 : At cX6_turnTold 18 (.iload_n 2) 1 19 := ⟨by decide +kernel, rfl⟩
theorem dX6_turnTold_19 : At cX6_turnTold 19 (.iaload) 1 20 := ⟨by decide +kernel, rfl⟩
theorem dX6_turnTold_20 : At cX6_turnTold 20 (.istore 4) 2 22 := ⟨by decide +kernel, rfl⟩
theorem dX6_turnTold_22 : At cX6_turnTold 22 (.aload_n 0) 1 23 := ⟨by decide +kernel, rfl⟩
theorem dX6_turnTold_23 : At cX6_turnTold 23 (.getfield 35) 3 26 := ⟨by decide +kernel, rfl⟩
theorem dX6_turnTold_26 : At cX6_turnTold 26 (.iload_n 2) 1 27 := ⟨by decide +kernel, rfl⟩
theorem dX6_turnTold_27 : At cX6_turnTold 27 (.aload_n 0) 1 28 := ⟨by decide +kernel, rfl⟩
theorem dX6_turnTold_28 : At cX6_turnTold 28 (.getfield 35) 3 31 := ⟨by decide +kernel, rfl⟩
theorem dX6_turnTold_31 : At cX6_turnTold 31 (.iload_n 3) 1 32 := ⟨by decide +kernel, rfl⟩
theorem dX6_turnTold_32 : At cX6_turnTold 32 (.iaload) 1 33 := ⟨by decide +kernel, rfl⟩
theorem dX6_turnTold_33 : At cX6_turnTold 33 (.invokestatic 73) 3 36 := ⟨by decide +kernel, rfl⟩
theorem dX6_turnTold_36 : At cX6_turnTold 36 (.iastore) 1 37 := ⟨by decide +kernel, rfl⟩
theorem dX6_turnTold_37 : At cX6_turnTold 37 (.aload_n 0) 1 38 := ⟨by decide +kernel, rfl⟩
theorem dX6_turnTold_38 : At cX6_turnTold 38 (.getfield 35) 3 41 := ⟨by decide +kernel, rfl⟩
theorem dX6_turnTold_41 : At cX6_turnTold 41 (.iload_n 3) 1 42 := ⟨by decide +kernel, rfl⟩
theorem dX6_turnTold_42 : At cX6_turnTold 42 (.iload 4) 2 44 := ⟨by decide +kernel, rfl⟩
theorem dX6_turnTold_44 : At cX6_turnTold 44 (.invokestatic 73) 3 47 := ⟨by decide +kernel, rfl⟩
theorem dX6_turnTold_47 : At cX6_turnTold 47 (.iastore) 1 48 := ⟨by decide +kernel, rfl⟩
theorem dX6_turnTold_48 : At cX6_turnTold 48 (.iinc 2 1) 3 51 := ⟨by decide +kernel, rfl⟩
theorem dX6_turnTold_51 : At cX6_turnTold 51 (.iinc 3 (-1)) 3 54 := ⟨by decide +kernel, rfl⟩
theorem dX6_turnTold_54 : Br cX6_turnTold 54 .goto 57 9 := ⟨(-45), by decide +kernel, rfl, by decide⟩
theorem dX6_turnTold_57 : At cX6_turnTold 57 (.return_) 1 58 := ⟨by decide +kernel, rfl⟩
theorem dX6_repeat_0 : At cX6_repeat 0 (.aload_n 0) 1 1 := ⟨by decide +kernel, rfl⟩
theorem dX6_repeat_1 : At cX6_repeat 1 (.getfield 120) 3 4 := ⟨by decide +kernel, rfl⟩
theorem dX6_repeat_4 : At cX6_repeat 4 (.istore_n 3) 1 5 := ⟨by decide +kernel, rfl⟩
theorem dX6_repeat_5 : At cX6_repeat 5 (.iconst 1) 1 6 := ⟨by decide +kernel, rfl⟩
theorem dX6_repeat_6 : At cX6_repeat 6 (.istore 4) 2 8 := ⟨by decide +kernel, rfl⟩
theorem dX6_repeat_8 : At cX6_repeat 8 (.iload 4) 2 10 := ⟨by decide +kernel, rfl⟩
theorem dX6_repeat_10 : At cX6_repeat 10 (.iload_n 2) 1 11 := ⟨by decide +kernel, rfl⟩
theorem dX6_repeat_11 : Br cX6_repeat 11 (.if_icmp .ge) 14 27 := ⟨(16), by decide +kernel, rfl, by decide⟩
theorem dX6_repeat_14 : At cX6_repeat 14 (.aload_n 0) 1 15 := ⟨by decide +kernel, rfl⟩
theorem dX6_repeat_15 : At cX6_repeat 15 (.iload_n 1) 1 16 := ⟨by decide +kernel, rfl⟩
theorem dX6_repeat_16 : At cX6_repeat 16 (.iload_n 3) 1 17 := ⟨by decide +kernel, rfl⟩
theorem dX6_repeat_17 : At cX6_repeat 17 (.iconst 0) 1 18 := ⟨by decide +kernel, rfl⟩
theorem dX6_repeat_18 : At cX6_repeat 18 (.invokevirtual 130) 3 21 := ⟨by decide +kernel, rfl⟩
theorem dX6_repeat_21 : At cX6_repeat 21 (.iinc 4 1) 3 24 := ⟨by decide +kernel, rfl⟩
theorem dX6_repeat_24 : Br cX6_repeat 24 .goto 27 8 := ⟨(-16), by decide +kernel, rfl, by decide⟩
theorem dX6_repeat_27 : At cX6_repeat 27 (.return_) 1 28 := ⟨by decide +kernel, rfl⟩
theorem dX6_read_0 : At cX6_read 0 (.aload_n 0) 1 1 := ⟨by decide +kernel, rfl⟩
theorem dX6_read_1 : At cX6_read 1 (.iconst 0) 1 2 := ⟨by decide +kernel, rfl⟩
theorem dX6_read_2 : At cX6_read 2 (.putfield 120) 3 5 := ⟨by decide +kernel, rfl⟩
theorem dX6_read_5 : At cX6_read 5 (.aload_n 0) 1 6 := ⟨by decide +kernel, rfl⟩
theorem dX6_read_6 : At cX6_read 6 (.iconst 0) 1 7 := ⟨by decide +kernel, rfl⟩
theorem dX6_read_7 : At cX6_read 7 (.putfield 123) 3 10 := ⟨by decide +kernel, rfl⟩
theorem dX6_read_10 : At cX6_read 10 (.iconst 0) 1 11 := ⟨by decide +kernel, rfl⟩
theorem dX6_read_11 : At cX6_read 11 (.istore_n 1) 1 12 := ⟨by decide +kernel, rfl⟩
theorem dX6_read_12 : At cX6_read 12 (.iconst 0) 1 13 := ⟨by decide +kernel, rfl⟩
theorem dX6_read_13 : At cX6_read 13 (.istore_n 2) 1 14 := ⟨by decide +kernel, rfl⟩
theorem dX6_read_14 : At cX6_read 14 (.iconst 0) 1 15 := ⟨by decide +kernel, rfl⟩
theorem dX6_read_15 : At cX6_read 15 (.istore_n 3) 1 16 := ⟨by decide +kernel, rfl⟩
theorem dX6_read_16 : At cX6_read 16 (.iconst 0) 1 17 := ⟨by decide +kernel, rfl⟩
theorem dX6_read_17 : At cX6_read 17 (.istore 4) 2 19 := ⟨by decide +kernel, rfl⟩
theorem dX6_read_19 : At cX6_read 19 (.iload 4) 2 21 := ⟨by decide +kernel, rfl⟩
theorem dX6_read_21 : At cX6_read 21 (.aload_n 0) 1 22 := ⟨by decide +kernel, rfl⟩
theorem dX6_read_22 : At cX6_read 22 (.getfield 134) 3 25 := ⟨by decide +kernel, rfl⟩
theorem dX6_read_25 : Br cX6_read 25 (.if_icmp .ge) 28 359 := ⟨(334), by decide +kernel, rfl, by decide⟩
theorem dX6_read_28 : At cX6_read 28 (.aload_n 0) 1 29 := ⟨by decide +kernel, rfl⟩
theorem dX6_read_29 : At cX6_read 29 (.getfield 23) 3 32 := ⟨by decide +kernel, rfl⟩
theorem dX6_read_32 : At cX6_read 32 (.iload 4) 2 34 := ⟨by decide +kernel, rfl⟩
theorem dX6_read_34 : At cX6_read 34 (.iaload) 1 35 := ⟨by decide +kernel, rfl⟩
theorem dX6_read_35 : At cX6_read 35 (.istore 5) 2 37 := ⟨by decide +kernel, rfl⟩
theorem dX6_read_37 : At cX6_read 37 (.iload 5) 2 39 := ⟨by decide +kernel, rfl⟩
theorem dX6_read_39 : At cX6_read 39 (.bipush 97) 2 41 := ⟨by decide +kernel, rfl⟩
theorem dX6_read_41 : At cX6_read 41 (.bipush 102) 2 43 := ⟨by decide +kernel, rfl⟩
theorem dX6_read_43 : At cX6_read 43 (.invokestatic 61) 3 46 := ⟨by decide +kernel, rfl⟩
theorem dX6_read_46 : At cX6_read 46 (.istore 6) 2 48 := ⟨by decide +kernel, rfl⟩
theorem dX6_read_48 : At cX6_read 48 (.iload 5) 2 50 := ⟨by decide +kernel, rfl⟩
theorem dX6_read_50 : At cX6_read 50 (.bipush 65) 2 52 := ⟨by decide +kernel, rfl⟩
theorem dX6_read_52 : At cX6_read 52 (.bipush 70) 2 54 := ⟨by decide +kernel, rfl⟩
theorem dX6_read_54 : At cX6_read 54 (.invokestatic 61) 3 57 := ⟨by decide +kernel, rfl⟩
theorem dX6_read_57 : At cX6_read 57 (.istore 7) 2 59 := ⟨by decide +kernel, rfl⟩
theorem dX6_read_59 : At cX6_read 59 (.iload_n 1) 1 60 := ⟨by decide +kernel, rfl⟩
theorem dX6_read_60 : Br cX6_read 60 (.ifCond .ne) 63 67 := ⟨(7), by decide +kernel, rfl, by decide⟩
theorem dX6_read_63 : At cX6_read 63 (.iconst 0) 1 64 := ⟨by decide +kernel, rfl⟩
theorem dX6_read_64 : Br cX6_read 64 .goto 67 75 := ⟨(11), by decide +kernel, rfl, by decide⟩
theorem dX6_read_67 : At cX6_read 67 (.aload_n 0) 1 68 := ⟨by decide +kernel, rfl⟩
theorem dX6_read_68 : At cX6_read 68 (.getfield 38) 3 71 := ⟨by decide +kernel, rfl⟩
theorem dX6_read_71 : At cX6_read 71 (.iload_n 1) 1 72 := ⟨by decide +kernel, rfl⟩
theorem dX6_read_72 : At cX6_read 72 (.iconst 1) 1 73 := ⟨by decide +kernel, rfl⟩
theorem dX6_read_73 : At cX6_read 73 (.isub) 1 74 := ⟨by decide +kernel, rfl⟩
theorem dX6_read_74 : At cX6_read 74 (.iaload) 1 75 := ⟨by decide +kernel, rfl⟩
theorem dX6_read_75 : At cX6_read 75 (.istore 8) 2 77 := ⟨by decide +kernel, rfl⟩
theorem dX6_read_77 : At cX6_read 77 (.iload 6) 2 79 := ⟨by decide +kernel, rfl⟩
theorem dX6_read_79 : Br cX6_read 79 (.ifCond .ne) 82 87 := ⟨(8), by decide +kernel, rfl, by decide⟩
theorem dX6_read_82 : At cX6_read 82 (.iload 7) 2 84 := ⟨by decide +kernel, rfl⟩
theorem dX6_read_84 : Br cX6_read 84 (.ifCond .eq) 87 122 := ⟨(38), by decide +kernel, rfl, by decide⟩
theorem dX6_read_87 : At cX6_read 87 (.aload_n 0) 1 88 := ⟨by decide +kernel, rfl⟩
theorem dX6_read_88 : At cX6_read 88 (.getfield 120) 3 91 := ⟨by decide +kernel, rfl⟩
theorem dX6_read_91 : At cX6_read 91 (.istore_n 2) 1 92 := ⟨by decide +kernel, rfl⟩
theorem dX6_read_92 : At cX6_read 92 (.aload_n 0) 1 93 := ⟨by decide +kernel, rfl⟩
theorem dX6_read_93 : At cX6_read 93 (.iload 6) 2 95 := ⟨by decide +kernel, rfl⟩
theorem dX6_read_95 : Br cX6_read 95 (.ifCond .eq) 98 106 := ⟨(11), by decide +kernel, rfl, by decide⟩
theorem dX6_read_98 : At cX6_read 98 (.iload 5) 2 100 := ⟨by decide +kernel, rfl⟩
theorem dX6_read_100 : At cX6_read 100 (.bipush 97) 2 102 := ⟨by decide +kernel, rfl⟩
theorem dX6_read_102 : At cX6_read 102 (.isub) 1 103 := ⟨by decide +kernel, rfl⟩
theorem dX6_read_103 : Br cX6_read 103 .goto 106 114 := ⟨(11), by decide +kernel, rfl, by decide⟩
theorem dX6_read_106 : At cX6_read 106 (.iload 5) 2 108 := ⟨by decide +kernel, rfl⟩
theorem dX6_read_108 : At cX6_read 108 (.bipush 65) 2 110 := ⟨by decide +kernel, rfl⟩
theorem dX6_read_110 : At cX6_read 110 (.isub) 1 111 := ⟨by decide +kernel, rfl⟩
theorem dX6_read_111 : At cX6_read 111 (.bipush 6) 2 113 := ⟨by decide +kernel, rfl⟩
theorem dX6_read_113 : At cX6_read 113 (.iadd) 1 114 := ⟨by decide +kernel, rfl⟩
theorem dX6_read_114 : At cX6_read 114 (.invokevirtual 127) 3 117 := ⟨by decide +kernel, rfl⟩
theorem dX6_read_117 : At cX6_read 117 (.iconst 1) 1 118 := ⟨by decide +kernel, rfl⟩
theorem dX6_read_118 : At cX6_read 118 (.istore_n 3) 1 119 := ⟨by decide +kernel, rfl⟩
theorem dX6_read_119 : Br cX6_read 119 .goto 122 353 := ⟨(234), by decide +kernel, rfl, by decide⟩
theorem dX6_read_122 : At cX6_read 122 (.iload 5) 2 124 := ⟨by decide +kernel, rfl⟩
theorem dX6_read_124 : At cX6_read 124 (.bipush 40) 2 126 := ⟨by decide +kernel, rfl⟩
theorem dX6_read_126 : Br cX6_read 126 (.if_icmp .eq) 129 136 := ⟨(10), by decide +kernel, rfl, by decide⟩
theorem dX6_read_129 : At cX6_read 129 (.iload 5) 2 131 := ⟨by decide +kernel, rfl⟩
theorem dX6_read_131 : At cX6_read 131 (.bipush 91) 2 133 := ⟨by decide +kernel, rfl⟩
theorem dX6_read_133 : Br cX6_read 133 (.if_icmp .ne) 136 167 := ⟨(34), by decide +kernel, rfl, by decide⟩
theorem dX6_read_136 : At cX6_read 136 (.iload_n 1) 1 137 := ⟨by decide +kernel, rfl⟩
theorem dX6_read_137 : At cX6_read 137 (.iconst 4) 1 138 := ⟨by decide +kernel, rfl⟩
theorem dX6_read_138 : Br cX6_read 138 (.if_icmp .ge) 141 167 := ⟨(29), by decide +kernel, rfl, by decide⟩
theorem dX6_read_141 : At cX6_read 141 (.aload_n 0) 1 142 := ⟨by decide +kernel, rfl⟩
theorem dX6_read_142 : At cX6_read 142 (.getfield 38) 3 145 := ⟨by decide +kernel, rfl⟩
theorem dX6_read_145 : At cX6_read 145 (.iload_n 1) 1 146 := ⟨by decide +kernel, rfl⟩
theorem dX6_read_146 : At cX6_read 146 (.iload 5) 2 148 := ⟨by decide +kernel, rfl⟩
theorem dX6_read_148 : At cX6_read 148 (.iastore) 1 149 := ⟨by decide +kernel, rfl⟩
theorem dX6_read_149 : At cX6_read 149 (.aload_n 0) 1 150 := ⟨by decide +kernel, rfl⟩
theorem dX6_read_150 : At cX6_read 150 (.getfield 41) 3 153 := ⟨by decide +kernel, rfl⟩
theorem dX6_read_153 : At cX6_read 153 (.iload_n 1) 1 154 := ⟨by decide +kernel, rfl⟩
theorem dX6_read_154 : At cX6_read 154 (.aload_n 0) 1 155 := ⟨by decide +kernel, rfl⟩
theorem dX6_read_155 : At cX6_read 155 (.getfield 120) 3 158 := ⟨by decide +kernel, rfl⟩
theorem dX6_read_158 : At cX6_read 158 (.iastore) 1 159 := ⟨by decide +kernel, rfl⟩
theorem dX6_read_159 : At cX6_read 159 (.iinc 1 1) 3 162 := ⟨by decide +kernel, rfl⟩
theorem dX6_read_162 : At cX6_read 162 (.iconst 0) 1 163 := ⟨by decide +kernel, rfl⟩
theorem dX6_read_163 : At cX6_read 163 (.istore_n 3) 1 164 := ⟨by decide +kernel, rfl⟩
theorem dX6_read_164 : Br cX6_read 164 .goto 167 353 := ⟨(189), by decide +kernel, rfl, by decide⟩
theorem dX6_read_167 : At cX6_read 167 (.iload_n 3) 1 168 := ⟨by decide +kernel, rfl⟩
theorem dX6_read_168 : Br cX6_read 168 (.ifCond .ne) 171 174 := ⟨(6), by decide +kernel, rfl, by decide⟩
theorem dX6_read_171 : At cX6_read 171 (.iload 4) 2 173 := ⟨by decide +kernel, rfl⟩
theorem dX6_read_173 : At cX6_read 173 (.ireturn) 1 174 := ⟨by decide +kernel, rfl⟩
theorem dX6_read_174 : At cX6_read 174 (.iload 5) 2 176 := ⟨by decide +kernel, rfl⟩
theorem dX6_read_176 : At cX6_read 176 (.bipush 39) 2 178 := ⟨by decide +kernel, rfl⟩
theorem dX6_read_178 : Br cX6_read 178 (.if_icmp .ne) 181 196 := ⟨(18), by decide +kernel, rfl, by decide⟩
theorem dX6_read_181 : At cX6_read 181 (.iload_n 3) 1 182 := ⟨by decide +kernel, rfl⟩
theorem dX6_read_182 : At cX6_read 182 (.iconst 1) 1 183 := ⟨by decide +kernel, rfl⟩
theorem dX6_read_183 : Br cX6_read 183 (.if_icmp .ne) 186 196 := ⟨(13), by decide +kernel, rfl, by decide⟩
theorem dX6_read_186 : At cX6_read 186 (.aload_n 0) 1 187 := ⟨by decide +kernel, rfl⟩
theorem dX6_read_187 : At cX6_read 187 (.iload_n 2) 1 188 := ⟨by decide +kernel, rfl⟩
theorem dX6_read_188 : At cX6_read 188 (.invokevirtual 137) 3 191 := ⟨by decide +kernel, rfl⟩
theorem dX6_read_191 : At cX6_read 191 (.iconst 2) 1 192 := ⟨by decide +kernel, rfl⟩
theorem dX6_read_192 : At cX6_read 192 (.istore_n 3) 1 193 := ⟨by decide +kernel, rfl⟩
theorem dX6_read_193 : Br cX6_read 193 .goto 196 353 := ⟨(160), by decide +kernel, rfl, by decide⟩
theorem dX6_read_196 : At cX6_read 196 (.iload 5) 2 198 := ⟨by decide +kernel, rfl⟩
theorem dX6_read_198 : At cX6_read 198 (.bipush 50) 2 200 := ⟨by decide +kernel, rfl⟩
theorem dX6_read_200 : At cX6_read 200 (.bipush 57) 2 202 := ⟨by decide +kernel, rfl⟩
theorem dX6_read_202 : At cX6_read 202 (.invokestatic 61) 3 205 := ⟨by decide +kernel, rfl⟩
theorem dX6_read_205 : Br cX6_read 205 (.ifCond .eq) 208 228 := ⟨(23), by decide +kernel, rfl, by decide⟩
theorem dX6_read_208 : At cX6_read 208 (.iload_n 3) 1 209 := ⟨by decide +kernel, rfl⟩
theorem dX6_read_209 : At cX6_read 209 (.iconst 3) 1 210 := ⟨by decide +kernel, rfl⟩
theorem dX6_read_210 : Br cX6_read 210 (.if_icmp .ge) 213 228 := ⟨(18), by decide +kernel, rfl, by decide⟩
theorem dX6_read_213 : At cX6_read 213 (.aload_n 0) 1 214 := ⟨by decide +kernel, rfl⟩
theorem dX6_read_214 : At cX6_read 214 (.iload_n 2) 1 215 := ⟨by decide +kernel, rfl⟩
theorem dX6_read_215 : At cX6_read 215 (.iload 5) 2 217 := ⟨by decide +kernel, rfl⟩
theorem dX6_read_217 : At cX6_read 217 (.bipush 48) 2 219 := ⟨by decide +kernel, rfl⟩
theorem dX6_read_219 : At cX6_read 219 (.isub) 1 220 := ⟨by decide +kernel, rfl⟩
theorem dX6_read_220 : At cX6_read 220 (.invokevirtual 140) 3 223 := ⟨by decide +kernel, rfl⟩
theorem dX6_read_223 : At cX6_read 223 (.iconst 3) 1 224 := ⟨by decide +kernel, rfl⟩
theorem dX6_read_224 : At cX6_read 224 (.istore_n 3) 1 225 := ⟨by decide +kernel, rfl⟩
theorem dX6_read_225 : Br cX6_read 225 .goto 228 353 := ⟨(128), by decide +kernel, rfl, by decide⟩
theorem dX6_read_228 : At cX6_read 228 (.iload 5) 2 230 := ⟨by decide +kernel, rfl⟩
theorem dX6_read_230 : At cX6_read 230 (.bipush 44) 2 232 := ⟨by decide +kernel, rfl⟩
theorem dX6_read_232 : Br cX6_read 232 (.if_icmp .ne) 235 269 := ⟨(37), by decide +kernel, rfl, by decide⟩
theorem dX6_read_235 : At cX6_read 235 (.iload 8) 2 237 := ⟨by decide +kernel, rfl⟩
theorem dX6_read_237 : At cX6_read 237 (.bipush 91) 2 239 := ⟨by decide +kernel, rfl⟩
theorem dX6_read_239 : Br cX6_read 239 (.if_icmp .ne) 242 269 := ⟨(30), by decide +kernel, rfl, by decide⟩
theorem dX6_read_242 : At cX6_read 242 (.aload_n 0) 1 243 := ⟨by decide +kernel, rfl⟩
theorem dX6_read_243 : At cX6_read 243 (.getfield 38) 3 246 := ⟨by decide +kernel, rfl⟩
theorem dX6_read_246 : At cX6_read 246 (.iload_n 1) 1 247 := ⟨by decide +kernel, rfl⟩
theorem dX6_read_247 : At cX6_read 247 (.iconst 1) 1 248 := ⟨by decide +kernel, rfl⟩
theorem dX6_read_248 : At cX6_read 248 (.isub) 1 249 := ⟨by decide +kernel, rfl⟩
theorem dX6_read_249 : At cX6_read 249 (.bipush 44) 2 251 := ⟨by decide +kernel, rfl⟩
theorem dX6_read_251 : At cX6_read 251 (.iastore) 1 252 := ⟨by decide +kernel, rfl⟩
theorem dX6_read_252 : At cX6_read 252 (.aload_n 0) 1 253 := ⟨by decide +kernel, rfl⟩
theorem dX6_read_253 : At cX6_read 253 (.getfield 44) 3 256 := ⟨by decide +kernel, rfl⟩
theorem dX6_read_256 : At cX6_read 256 (.iload_n 1) 1 257 := ⟨by decide +kernel, rfl⟩
theorem dX6_read_257 : At cX6_read 257 (.iconst 1) 1 258 := ⟨by decide +kernel, rfl⟩
theorem dX6_read_258 : At cX6_read 258 (.isub) 1 259 := ⟨by decide +kernel, rfl⟩
theorem dX6_read_259 : At cX6_read 259 (.aload_n 0) 1 260 := ⟨by decide +kernel, rfl⟩
theorem dX6_read_260 : At cX6_read 260 (.getfield 120) 3 263 := ⟨by decide +kernel, rfl⟩
theorem dX6_read_263 : At cX6_read 263 (.iastore) 1 264 := ⟨by decide +kernel, rfl⟩
theorem dX6_read_264 : At cX6_read 264 (.iconst 0) 1 265 := ⟨by decide +kernel, rfl⟩
theorem dX6_read_265 : At cX6_read 265 (.istore_n 3) 1 266 := ⟨by decide +kernel, rfl⟩
theorem dX6_read_266 : Br cX6_read 266 .goto 269 353 := ⟨(87), by decide +kernel, rfl, by decide⟩
theorem dX6_read_269 : At cX6_read 269 (.iload 5) 2 271 := ⟨by decide +kernel, rfl⟩
theorem dX6_read_271 : At cX6_read 271 (.bipush 41) 2 273 := ⟨by decide +kernel, rfl⟩
theorem dX6_read_273 : Br cX6_read 273 (.if_icmp .ne) 276 283 := ⟨(10), by decide +kernel, rfl, by decide⟩
theorem dX6_read_276 : At cX6_read 276 (.iload 8) 2 278 := ⟨by decide +kernel, rfl⟩
theorem dX6_read_278 : At cX6_read 278 (.bipush 40) 2 280 := ⟨by decide +kernel, rfl⟩
theorem dX6_read_280 : Br cX6_read 280 (.if_icmp .eq) 283 297 := ⟨(17), by decide +kernel, rfl, by decide⟩
theorem dX6_read_283 : At cX6_read 283 (.iload 5) 2 285 := ⟨by decide +kernel, rfl⟩
theorem dX6_read_285 : At cX6_read 285 (.bipush 93) 2 287 := ⟨by decide +kernel, rfl⟩
theorem dX6_read_287 : Br cX6_read 287 (.if_icmp .ne) 290 350 := ⟨(63), by decide +kernel, rfl, by decide⟩
theorem dX6_read_290 : At cX6_read 290 (.iload 8) 2 292 := ⟨by decide +kernel, rfl⟩
theorem dX6_read_292 : At cX6_read 292 (.bipush 44) 2 294 := ⟨by decide +kernel, rfl⟩
theorem dX6_read_294 : Br cX6_read 294 (.if_icmp .ne) 297 350 := ⟨(56), by decide +kernel, rfl, by decide⟩
theorem dX6_read_297 : At cX6_read 297 (.iinc 1 (-1)) 3 300 := ⟨by decide +kernel, rfl⟩
theorem dX6_read_300 : At cX6_read 300 (.aload_n 0) 1 301 := ⟨by decide +kernel, rfl⟩
theorem dX6_read_301 : At cX6_read 301 (.getfield 41) 3 304 := ⟨by decide +kernel, rfl⟩
theorem dX6_read_304 : At cX6_read 304 (.iload_n 1) 1 305 := ⟨by decide +kernel, rfl⟩
theorem dX6_read_305 : At cX6_read 305 (.iaload) 1 306 := ⟨by decide +kernel, rfl⟩
theorem dX6_read_306 : At cX6_read 306 (.istore_n 2) 1 307 := ⟨by decide +kernel, rfl⟩
theorem dX6_read_307 : At cX6_read 307 (.iload 8) 2 309 := ⟨by decide +kernel, rfl⟩
theorem dX6_read_309 : At cX6_read 309 (.bipush 44) 2 311 := ⟨by decide +kernel, rfl⟩
theorem dX6_read_311 : Br cX6_read 311 (.if_icmp .ne) 314 345 := ⟨(34), by decide +kernel, rfl, by decide⟩
theorem dX6_read_314 : At cX6_read 314 (.aload_n 0) 1 315 := ⟨by decide +kernel, rfl⟩
theorem dX6_read_315 : At cX6_read 315 (.getfield 120) 3 318 := ⟨by decide +kernel, rfl⟩
theorem dX6_read_318 : At cX6_read 318 (.istore 9) 2 320 := ⟨by decide +kernel, rfl⟩
theorem dX6_read_320 : At cX6_read 320 (.aload_n 0) 1 321 := ⟨by decide +kernel, rfl⟩
theorem dX6_read_321 : At cX6_read 321 (.iload_n 2) 1 322 := ⟨by decide +kernel, rfl⟩
theorem dX6_read_322 : At cX6_read 322 (.aload_n 0) 1 323 := ⟨by decide +kernel, rfl⟩
theorem dX6_read_323 : At cX6_read 323 (.getfield 44) 3 326 := ⟨by decide +kernel, rfl⟩
theorem dX6_read_326 : At cX6_read 326 (.iload_n 1) 1 327 := ⟨by decide +kernel, rfl⟩
theorem dX6_read_327 : At cX6_read 327 (.iaload) 1 328 := ⟨by decide +kernel, rfl⟩
theorem dX6_read_328 : At cX6_read 328 (.iconst 1) 1 329 := ⟨by decide +kernel, rfl⟩
theorem dX6_read_329 : At cX6_read 329 (.invokevirtual 130) 3 332 := ⟨by decide +kernel, rfl⟩
theorem dX6_read_332 : At cX6_read 332 (.aload_n 0) 1 333 := ⟨by decide +kernel, rfl⟩
theorem dX6_read_333 : At cX6_read 333 (.aload_n 0) 1 334 := ⟨by decide +kernel, rfl⟩
theorem dX6_read_334 : At cX6_read 334 (.getfield 44) 3 337 := ⟨by decide +kernel, rfl⟩
theorem dX6_read_337 : At cX6_read 337 (.iload_n 1) 1 338 := ⟨by decide +kernel, rfl⟩
theorem dX6_read_338 : At cX6_read 338 (.iaload) 1 339 := ⟨by decide +kernel, rfl⟩
theorem dX6_read_339 : At cX6_read 339 (.iload 9) 2 341 := ⟨by decide +kernel, rfl⟩
theorem dX6_read_341 : At cX6_read 341 (.iconst 1) 1 342 := ⟨by decide +kernel, rfl⟩
theorem dX6_read_342 : At cX6_read 342 (.invokevirtual 130) 3 345 := ⟨by decide +kernel, rfl⟩
theorem dX6_read_345 : At cX6_read 345 (.iconst 1) 1 346 := ⟨by decide +kernel, rfl⟩
theorem dX6_read_346 : At cX6_read 346 (.istore_n 3) 1 347 := ⟨by decide +kernel, rfl⟩
theorem dX6_read_347 : Br cX6_read 347 .goto 350 353 := ⟨(6), by decide +kernel, rfl, by decide⟩
theorem dX6_read_350 : At cX6_read 350 (.iload 4) 2 352 := ⟨by decide +kernel, rfl⟩
theorem dX6_read_352 : At cX6_read 352 (.ireturn) 1 353 := ⟨by decide +kernel, rfl⟩
theorem dX6_read_353 : At cX6_read 353 (.iinc 4 1) 3 356 := ⟨by decide +kernel, rfl⟩
theorem dX6_read_356 : Br cX6_read 356 .goto 359 19 := ⟨(-337), by decide +kernel, rfl, by decide⟩
theorem dX6_read_359 : At cX6_read 359 (.iload_n 3) 1 360 := ⟨by decide +kernel, rfl⟩
theorem dX6_read_360 : Br cX6_read 360 (.ifCond .eq) 363 367 := ⟨(7), by decide +kernel, rfl, by decide⟩
theorem dX6_read_363 : At cX6_read 363 (.iload_n 1) 1 364 := ⟨by decide +kernel, rfl⟩
theorem dX6_read_364 : Br cX6_read 364 (.ifCond .le) 367 374 := ⟨(10), by decide +kernel, rfl, by decide⟩
theorem dX6_read_367 : At cX6_read 367 (.aload_n 0) 1 368 := ⟨by decide +kernel, rfl⟩
theorem dX6_read_368 : At cX6_read 368 (.getfield 134) 3 371 := ⟨by decide +kernel, rfl⟩
theorem dX6_read_371 : Br cX6_read 371 .goto 374 376 := ⟨(5), by decide +kernel, rfl, by decide⟩
theorem dX6_read_374 : At cX6_read 374 (.bipush (-6)) 2 376 := ⟨by decide +kernel, rfl⟩
theorem dX6_read_376 : At cX6_read 376 (.ireturn) 1 377 := ⟨by decide +kernel, rfl⟩
theorem dX6_put_0 : At cX6_put 0 (.iconst 0) 1 1 := ⟨by decide +kernel, rfl⟩
theorem dX6_put_1 : At cX6_put 1 (.istore_n 3) 1 2 := ⟨by decide +kernel, rfl⟩
theorem dX6_put_2 : At cX6_put 2 (.lload_n 1) 1 3 := ⟨by decide +kernel, rfl⟩
theorem dX6_put_3 : At cX6_put 3 (.lstore 4) 2 5 := ⟨by decide +kernel, rfl⟩
theorem dX6_put_5 : At cX6_put 5 (.lload 4) 2 7 := ⟨by decide +kernel, rfl⟩
theorem dX6_put_7 : At cX6_put 7 (.ldc2_w 144) 3 10 := ⟨by decide +kernel, rfl⟩
theorem dX6_put_10 : At cX6_put 10 (.land) 1 11 := ⟨by decide +kernel, rfl⟩
theorem dX6_put_11 : At cX6_put 11 (.lconst 0) 1 12 := ⟨by decide +kernel, rfl⟩
theorem dX6_put_12 : At cX6_put 12 (.lcmp) 1 13 := ⟨by decide +kernel, rfl⟩
theorem dX6_put_13 : Br cX6_put 13 (.ifCond .eq) 16 49 := ⟨(36), by decide +kernel, rfl, by decide⟩
theorem dX6_put_16 : At cX6_put 16 (.lload 4) 2 18 := ⟨by decide +kernel, rfl⟩
theorem dX6_put_18 : At cX6_put 18 (.ldc2_w 144) 3 21 := ⟨by decide +kernel, rfl⟩
theorem dX6_put_21 : At cX6_put 21 (.land) 1 22 := ⟨by decide +kernel, rfl⟩
theorem dX6_put_22 : At cX6_put 22 (.l2i) 1 23 := ⟨by decide +kernel, rfl⟩
theorem dX6_put_23 : At cX6_put 23 (.bipush 33) 2 25 := ⟨by decide +kernel, rfl⟩
theorem dX6_put_25 : At cX6_put 25 (.bipush 126) 2 27 := ⟨by decide +kernel, rfl⟩
theorem dX6_put_27 : At cX6_put 27 (.invokestatic 61) 3 30 := ⟨by decide +kernel, rfl⟩
theorem dX6_put_30 : Br cX6_put 30 (.ifCond .ne) 33 36 := ⟨(6), by decide +kernel, rfl, by decide⟩
theorem dX6_put_33 : At cX6_put 33 (.bipush (-2)) 2 35 := ⟨by decide +kernel, rfl⟩
theorem dX6_put_35 : At cX6_put 35 (.ireturn) 1 36 := ⟨by decide +kernel, rfl⟩
theorem dX6_put_36 : At cX6_put 36 (.iinc 3 1) 3 39 := ⟨by decide +kernel, rfl⟩
theorem dX6_put_39 : At cX6_put 39 (.lload 4) 2 41 := ⟨by decide +kernel, rfl⟩
theorem dX6_put_41 : At cX6_put 41 (.bipush 8) 2 43 := ⟨by decide +kernel, rfl⟩
theorem dX6_put_43 : At cX6_put 43 (.lushr) 1 44 := ⟨by decide +kernel, rfl⟩
theorem dX6_put_44 : At cX6_put 44 (.lstore 4) 2 46 := ⟨by decide +kernel, rfl⟩
theorem dX6_put_46 : Br cX6_put 46 .goto 49 5 := ⟨(-41), by decide +kernel, rfl, by decide⟩
theorem dX6_put_49 : At cX6_put 49 (.lload 4) 2 51 := ⟨by decide +kernel, rfl⟩
theorem dX6_put_51 : At cX6_put 51 (.lconst 0) 1 52 := ⟨by decide +kernel, rfl⟩
theorem dX6_put_52 : At cX6_put 52 (.lcmp) 1 53 := ⟨by decide +kernel, rfl⟩
theorem dX6_put_53 : Br cX6_put 53 (.ifCond .ne) 56 60 := ⟨(7), by decide +kernel, rfl, by decide⟩
theorem dX6_put_56 : At cX6_put 56 (.iload_n 3) 1 57 := ⟨by decide +kernel, rfl⟩
theorem dX6_put_57 : Br cX6_put 57 (.ifCond .ne) 60 63 := ⟨(6), by decide +kernel, rfl, by decide⟩
theorem dX6_put_60 : At cX6_put 60 (.bipush (-2)) 2 62 := ⟨by decide +kernel, rfl⟩
theorem dX6_put_62 : At cX6_put 62 (.ireturn) 1 63 := ⟨by decide +kernel, rfl⟩
theorem dX6_put_63 : At cX6_put 63 (.aload_n 0) 1 64 := ⟨by decide +kernel, rfl⟩
theorem dX6_put_64 : At cX6_put 64 (.getfield 134) 3 67 := ⟨by decide +kernel, rfl⟩
theorem dX6_put_67 : At cX6_put 67 (.iload_n 3) 1 68 := ⟨by decide +kernel, rfl⟩
theorem dX6_put_68 : At cX6_put 68 (.iadd) 1 69 := ⟨by decide +kernel, rfl⟩
theorem dX6_put_69 : At cX6_put 69 (.bipush 60) 2 71 := ⟨by decide +kernel, rfl⟩
theorem dX6_put_71 : Br cX6_put 71 (.if_icmp .le) 74 77 := ⟨(6), by decide +kernel, rfl, by decide⟩
theorem dX6_put_74 : At cX6_put 74 (.bipush (-4)) 2 76 := ⟨by decide +kernel, rfl⟩
theorem dX6_put_76 : At cX6_put 76 (.ireturn) 1 77 := ⟨by decide +kernel, rfl⟩
theorem dX6_put_77 : At cX6_put 77 (.lload_n 1) 1 78 := ⟨by decide +kernel, rfl⟩
theorem dX6_put_78 : At cX6_put 78 (.lstore 4) 2 80 := ⟨by decide +kernel, rfl⟩
theorem dX6_put_80 : At cX6_put 80 (.iload_n 3) 1 81 := ⟨by decide +kernel, rfl⟩
theorem dX6_put_81 : At cX6_put 81 (.iconst 1) 1 82 := ⟨by decide +kernel, rfl⟩
theorem dX6_put_82 : At cX6_put 82 (.isub) 1 83 := ⟨by decide +kernel, rfl⟩
theorem dX6_put_83 : At cX6_put 83 (.istore 6) 2 85 := ⟨by decide +kernel, rfl⟩
theorem dX6_put_85 : At cX6_put 85 (.iload 6) 2 87 := ⟨by decide +kernel, rfl⟩
theorem dX6_put_87 : Br cX6_put 87 (.ifCond .lt) 90 122 := ⟨(35), by decide +kernel, rfl, by decide⟩
theorem dX6_put_90 : At cX6_put 90 (.aload_n 0) 1 91 := ⟨by decide +kernel, rfl⟩
theorem dX6_put_91 : At cX6_put 91 (.getfield 23) 3 94 := ⟨by decide +kernel, rfl⟩
theorem dX6_put_94 : At cX6_put 94 (.aload_n 0) 1 95 := ⟨by decide +kernel, rfl⟩
theorem dX6_put_95 : At cX6_put 95 (.getfield 134) 3 98 := ⟨by decide +kernel, rfl⟩
theorem dX6_put_98 : At cX6_put 98 (.iload 6) 2 100 := ⟨by decide +kernel, rfl⟩
theorem dX6_put_100 : At cX6_put 100 (.iadd) 1 101 := ⟨by decide +kernel, rfl⟩
theorem dX6_put_101 : At cX6_put 101 (.lload 4) 2 103 := ⟨by decide +kernel, rfl⟩
theorem dX6_put_103 : At cX6_put 103 (.ldc2_w 144) 3 106 := ⟨by decide +kernel, rfl⟩
theorem dX6_put_106 : At cX6_put 106 (.land) 1 107 := ⟨by decide +kernel, rfl⟩
theorem dX6_put_107 : At cX6_put 107 (.l2i) 1 108 := ⟨by decide +kernel, rfl⟩
theorem dX6_put_108 : At cX6_put 108 (.iastore) 1 109 := ⟨by decide +kernel, rfl⟩
theorem dX6_put_109 : At cX6_put 109 (.lload 4) 2 111 := ⟨by decide +kernel, rfl⟩
theorem dX6_put_111 : At cX6_put 111 (.bipush 8) 2 113 := ⟨by decide +kernel, rfl⟩
theorem dX6_put_113 : At cX6_put 113 (.lushr) 1 114 := ⟨by decide +kernel, rfl⟩
theorem dX6_put_114 : At cX6_put 114 (.lstore 4) 2 116 := ⟨by decide +kernel, rfl⟩
theorem dX6_put_116 : At cX6_put 116 (.iinc 6 (-1)) 3 119 := ⟨by decide +kernel, rfl⟩
theorem dX6_put_119 : Br cX6_put 119 .goto 122 85 := ⟨(-34), by decide +kernel, rfl, by decide⟩
theorem dX6_put_122 : At cX6_put 122 (.aload_n 0) 1 123 := ⟨by decide +kernel, rfl⟩
theorem dX6_put_123 : At cX6_put 123 (.dup) 1 124 := ⟨by decide +kernel, rfl⟩
theorem dX6_put_124 : At cX6_put 124 (.getfield 134) 3 127 := ⟨by decide +kernel, rfl⟩
theorem dX6_put_127 : At cX6_put 127 (.iload_n 3) 1 128 := ⟨by decide +kernel, rfl⟩
theorem dX6_put_128 : At cX6_put 128 (.iadd) 1 129 := ⟨by decide +kernel, rfl⟩
theorem dX6_put_129 : At cX6_put 129 (.putfield 134) 3 132 := ⟨by decide +kernel, rfl⟩
theorem dX6_put_132 : At cX6_put 132 (.aload_n 0) 1 133 := ⟨by decide +kernel, rfl⟩
theorem dX6_put_133 : At cX6_put 133 (.getfield 134) 3 136 := ⟨by decide +kernel, rfl⟩
theorem dX6_put_136 : At cX6_put 136 (.ireturn) 1 137 := ⟨by decide +kernel, rfl⟩
theorem dX6_wipe_0 : At cX6_wipe 0 (.aload_n 0) 1 1 := ⟨by decide +kernel, rfl⟩
theorem dX6_wipe_1 : At cX6_wipe 1 (.getfield 134) 3 4 := ⟨by decide +kernel, rfl⟩
theorem dX6_wipe_4 : At cX6_wipe 4 (.istore_n 1) 1 5 := ⟨by decide +kernel, rfl⟩
theorem dX6_wipe_5 : At cX6_wipe 5 (.aload_n 0) 1 6 := ⟨by decide +kernel, rfl⟩
theorem dX6_wipe_6 : At cX6_wipe 6 (.iconst 0) 1 7 := ⟨by decide +kernel, rfl⟩
theorem dX6_wipe_7 : At cX6_wipe 7 (.putfield 134) 3 10 := ⟨by decide +kernel, rfl⟩
theorem dX6_wipe_10 : At cX6_wipe 10 (.iload_n 1) 1 11 := ⟨by decide +kernel, rfl⟩
theorem dX6_wipe_11 : At cX6_wipe 11 (.ireturn) 1 12 := ⟨by decide +kernel, rfl⟩
theorem dX6_fault_0 : At cX6_fault 0 (.aload_n 0) 1 1 := ⟨by decide +kernel, rfl⟩
theorem dX6_fault_1 : At cX6_fault 1 (.invokevirtual 146) 3 4 := ⟨by decide +kernel, rfl⟩
theorem dX6_fault_4 : At cX6_fault 4 (.ireturn) 1 5 := ⟨by decide +kernel, rfl⟩
theorem dX6_load_0 : At cX6_load 0 (.iload_n 1) 1 1 := ⟨by decide +kernel, rfl⟩
theorem dX6_load_1 : At cX6_load 1 (.invokestatic 102) 3 4 := ⟨by decide +kernel, rfl⟩
theorem dX6_load_4 : Br cX6_load 4 (.ifCond .ne) 7 9 := ⟨(5), by decide +kernel, rfl, by decide⟩
theorem dX6_load_7 : At cX6_load 7 (.iconst (-1)) 1 8 := ⟨by decide +kernel, rfl⟩
theorem dX6_load_8 : At cX6_load 8 (.ireturn) 1 9 := ⟨by decide +kernel, rfl⟩
theorem dX6_load_9 : At cX6_load 9 (.aload_n 0) 1 10 := ⟨by decide +kernel, rfl⟩
theorem dX6_load_10 : At cX6_load 10 (.invokevirtual 146) 3 13 := ⟨by decide +kernel, rfl⟩
theorem dX6_load_13 : At cX6_load 13 (.bipush (-6)) 2 15 := ⟨by decide +kernel, rfl⟩
theorem dX6_load_15 : Br cX6_load 15 (.if_icmp .eq) 18 21 := ⟨(6), by decide +kernel, rfl, by decide⟩
theorem dX6_load_18 : At cX6_load 18 (.bipush (-3)) 2 20 := ⟨by decide +kernel, rfl⟩
theorem dX6_load_20 : At cX6_load 20 (.ireturn) 1 21 := ⟨by decide +kernel, rfl⟩
theorem dX6_load_21 : At cX6_load 21 (.aload_n 0) 1 22 := ⟨by decide +kernel, rfl⟩
theorem dX6_load_22 : At cX6_load 22 (.getfield 123) 3 25 := ⟨by decide +kernel, rfl⟩
theorem dX6_load_25 : Br cX6_load 25 (.ifCond .eq) 28 31 := ⟨(6), by decide +kernel, rfl, by decide⟩
theorem dX6_load_28 : At cX6_load 28 (.bipush (-4)) 2 30 := ⟨by decide +kernel, rfl⟩
theorem dX6_load_30 : At cX6_load 30 (.ireturn) 1 31 := ⟨by decide +kernel, rfl⟩
theorem dX6_load_31 : At cX6_load 31 (.aload_n 0) 1 32 := ⟨by decide +kernel, rfl⟩
theorem dX6_load_32 : At cX6_load 32 (.invokevirtual 99) 3 35 := ⟨by decide +kernel, rfl⟩
theorem dX6_load_35 : At cX6_load 35 (.iconst 0) 1 36 := ⟨by decide +kernel, rfl⟩
theorem dX6_load_36 : At cX6_load 36 (.istore_n 2) 1 37 := ⟨by decide +kernel, rfl⟩
theorem dX6_load_37 : At cX6_load 37 (.iload_n 2) 1 38 := ⟨by decide +kernel, rfl⟩
theorem dX6_load_38 : At cX6_load 38 (.aload_n 0) 1 39 := ⟨by decide +kernel, rfl⟩
theorem dX6_load_39 : At cX6_load 39 (.getfield 120) 3 42 := ⟨by decide +kernel, rfl⟩
theorem dX6_load_42 : Br cX6_load 42 (.if_icmp .ge) 45 71 := ⟨(29), by decide +kernel, rfl, by decide⟩
theorem dX6_load_45 : At cX6_load 45 (.aload_n 0) 1 46 := ⟨by decide +kernel, rfl⟩
theorem dX6_load_46 : At cX6_load 46 (.getfield 7) 3 49 := ⟨by decide +kernel, rfl⟩
theorem dX6_load_49 : At cX6_load 49 (.bipush 10) 2 51 := ⟨by decide +kernel, rfl⟩
theorem dX6_load_51 : At cX6_load 51 (.bipush 120) 2 53 := ⟨by decide +kernel, rfl⟩
theorem dX6_load_53 : At cX6_load 53 (.iload_n 1) 1 54 := ⟨by decide +kernel, rfl⟩
theorem dX6_load_54 : At cX6_load 54 (.imul) 1 55 := ⟨by decide +kernel, rfl⟩
theorem dX6_load_55 : At cX6_load 55 (.iadd) 1 56 := ⟨by decide +kernel, rfl⟩
theorem dX6_load_56 : At cX6_load 56 (.iload_n 2) 1 57 := ⟨by decide +kernel, rfl⟩
theorem dX6_load_57 : At cX6_load 57 (.iadd) 1 58 := ⟨by decide +kernel, rfl⟩
theorem dX6_load_58 : At cX6_load 58 (.aload_n 0) 1 59 := ⟨by decide +kernel, rfl⟩
theorem dX6_load_59 : At cX6_load 59 (.getfield 35) 3 62 := ⟨by decide +kernel, rfl⟩
theorem dX6_load_62 : At cX6_load 62 (.iload_n 2) 1 63 := ⟨by decide +kernel, rfl⟩
theorem dX6_load_63 : At cX6_load 63 (.iaload) 1 64 := ⟨by decide +kernel, rfl⟩
theorem dX6_load_64 : At cX6_load 64 (.iastore) 1 65 := ⟨by decide +kernel, rfl⟩
theorem dX6_load_65 : At cX6_load 65 (.iinc 2 1) 3 68 := ⟨by decide +kernel, rfl⟩
theorem dX6_load_68 : Br cX6_load 68 .goto 71 37 := ⟨(-31), by decide +kernel, rfl, by decide⟩
theorem dX6_load_71 : At cX6_load 71 (.aload_n 0) 1 72 := ⟨by decide +kernel, rfl⟩
theorem dX6_load_72 : At cX6_load 72 (.getfield 7) 3 75 := ⟨by decide +kernel, rfl⟩
theorem dX6_load_75 : At cX6_load 75 (.bipush 6) 2 77 := ⟨by decide +kernel, rfl⟩
theorem dX6_load_77 : At cX6_load 77 (.iload_n 1) 1 78 := ⟨by decide +kernel, rfl⟩
theorem dX6_load_78 : At cX6_load 78 (.iadd) 1 79 := ⟨by decide +kernel, rfl⟩
theorem dX6_load_79 : At cX6_load 79 (.aload_n 0) 1 80 := ⟨by decide +kernel, rfl⟩
theorem dX6_load_80 : At cX6_load 80 (.getfield 120) 3 83 := ⟨by decide +kernel, rfl⟩
theorem dX6_load_83 : At cX6_load 83 (.iastore) 1 84 := ⟨by decide +kernel, rfl⟩
theorem dX6_load_84 : At cX6_load 84 (.aload_n 0) 1 85 := ⟨by decide +kernel, rfl⟩
theorem dX6_load_85 : At cX6_load 85 (.iconst 0) 1 86 := ⟨by decide +kernel, rfl⟩
theorem dX6_load_86 : At cX6_load 86 (.putfield 134) 3 89 := ⟨by decide +kernel, rfl⟩
theorem dX6_load_89 : At cX6_load 89 (.aload_n 0) 1 90 := ⟨by decide +kernel, rfl⟩
theorem dX6_load_90 : At cX6_load 90 (.getfield 120) 3 93 := ⟨by decide +kernel, rfl⟩
theorem dX6_load_93 : At cX6_load 93 (.ireturn) 1 94 := ⟨by decide +kernel, rfl⟩
theorem dX6_crossing_0 : At cX6_crossing 0 (.iload_n 1) 1 1 := ⟨by decide +kernel, rfl⟩
theorem dX6_crossing_1 : At cX6_crossing 1 (.invokestatic 102) 3 4 := ⟨by decide +kernel, rfl⟩
theorem dX6_crossing_4 : Br cX6_crossing 4 (.ifCond .eq) 7 31 := ⟨(27), by decide +kernel, rfl, by decide⟩
theorem dX6_crossing_7 : At cX6_crossing 7 (.iload_n 2) 1 8 := ⟨by decide +kernel, rfl⟩
theorem dX6_crossing_8 : At cX6_crossing 8 (.iconst 0) 1 9 := ⟨by decide +kernel, rfl⟩
theorem dX6_crossing_9 : At cX6_crossing 9 (.aload_n 0) 1 10 := ⟨by decide +kernel, rfl⟩
theorem dX6_crossing_10 : At cX6_crossing 10 (.iload_n 1) 1 11 := ⟨by decide +kernel, rfl⟩
theorem dX6_crossing_11 : At cX6_crossing 11 (.invokevirtual 65) 3 14 := ⟨by decide +kernel, rfl⟩
theorem dX6_crossing_14 : At cX6_crossing 14 (.iconst 1) 1 15 := ⟨by decide +kernel, rfl⟩
theorem dX6_crossing_15 : At cX6_crossing 15 (.isub) 1 16 := ⟨by decide +kernel, rfl⟩
theorem dX6_crossing_16 : At cX6_crossing 16 (.invokestatic 61) 3 19 := ⟨by decide +kernel, rfl⟩
theorem dX6_crossing_19 : Br cX6_crossing 19 (.ifCond .eq) 22 31 := ⟨(12), by decide +kernel, rfl, by decide⟩
theorem dX6_crossing_22 : At cX6_crossing 22 (.aload_n 0) 1 23 := ⟨by decide +kernel, rfl⟩
theorem dX6_crossing_23 : At cX6_crossing 23 (.iload_n 1) 1 24 := ⟨by decide +kernel, rfl⟩
theorem dX6_crossing_24 : At cX6_crossing 24 (.iload_n 2) 1 25 := ⟨by decide +kernel, rfl⟩
theorem dX6_crossing_25 : At cX6_crossing 25 (.invokevirtual 69) 3 28 := ⟨by decide +kernel, rfl⟩
theorem dX6_crossing_28 : Br cX6_crossing 28 .goto 31 32 := ⟨(4), by decide +kernel, rfl, by decide⟩
theorem dX6_crossing_31 : At cX6_crossing 31 (.iconst (-1)) 1 32 := ⟨by decide +kernel, rfl⟩
theorem dX6_crossing_32 : At cX6_crossing 32 (.ireturn) 1 33 := ⟨by decide +kernel, rfl⟩
theorem dX6_widths_0 : At cX6_widths 0 (.iconst 0) 1 1 := ⟨by decide +kernel, rfl⟩
theorem dX6_widths_1 : At cX6_widths 1 (.istore_n 1) 1 2 := ⟨by decide +kernel, rfl⟩
theorem dX6_widths_2 : At cX6_widths 2 (.iconst 0) 1 3 := ⟨by decide +kernel, rfl⟩
theorem dX6_widths_3 : At cX6_widths 3 (.istore_n 2) 1 4 := ⟨by decide +kernel, rfl⟩
theorem dX6_widths_4 : At cX6_widths 4 (.iload_n 2) 1 5 := ⟨by decide +kernel, rfl⟩
theorem dX6_widths_5 : At cX6_widths 5 (.aload_n 0) 1 6 := ⟨by decide +kernel, rfl⟩
theorem dX6_widths_6 : At cX6_widths 6 (.getfield 54) 3 9 := ⟨by decide +kernel, rfl⟩
theorem dX6_widths_9 : Br cX6_widths 9 (.if_icmp .ge) 12 35 := ⟨(26), by decide +kernel, rfl, by decide⟩
theorem dX6_widths_12 : At cX6_widths 12 (.iload_n 1) 1 13 := ⟨by decide +kernel, rfl⟩
theorem dX6_widths_13 : At cX6_widths 13 (.aload_n 0) 1 14 := ⟨by decide +kernel, rfl⟩
theorem dX6_widths_14 : At cX6_widths 14 (.getfield 7) 3 17 := ⟨by decide +kernel, rfl⟩
theorem dX6_widths_17 : At cX6_widths 17 (.aload_n 0) 1 18 := ⟨by decide +kernel, rfl⟩
theorem dX6_widths_18 : At cX6_widths 18 (.getfield 26) 3 21 := ⟨by decide +kernel, rfl⟩
theorem dX6_widths_21 : At cX6_widths 21 (.iload_n 2) 1 22 := ⟨by decide +kernel, rfl⟩
theorem dX6_widths_22 : At cX6_widths 22 (.iaload) 1 23 := ⟨by decide +kernel, rfl⟩
theorem dX6_widths_23 : At cX6_widths 23 (.bipush 6) 2 25 := ⟨by decide +kernel, rfl⟩
theorem dX6_widths_25 : At cX6_widths 25 (.irem) 1 26 := ⟨by decide +kernel, rfl⟩
theorem dX6_widths_26 : At cX6_widths 26 (.iaload) 1 27 := ⟨by decide +kernel, rfl⟩
theorem dX6_widths_27 : At cX6_widths 27 (.iadd) 1 28 := ⟨by decide +kernel, rfl⟩
theorem dX6_widths_28 : At cX6_widths 28 (.istore_n 1) 1 29 := ⟨by decide +kernel, rfl⟩
theorem dX6_widths_29 : At cX6_widths 29 (.iinc 2 1) 3 32 := ⟨by decide +kernel, rfl⟩
theorem dX6_widths_32 : Br cX6_widths 32 .goto 35 4 := ⟨(-28), by decide +kernel, rfl, by decide⟩
theorem dX6_widths_35 : At cX6_widths 35 (.iload_n 1) 1 36 := ⟨by decide +kernel, rfl⟩
theorem dX6_widths_36 : At cX6_widths 36 (.ireturn) 1 37 := ⟨by decide +kernel, rfl⟩
theorem dX6_ofWord_0 : At cX6_ofWord 0 (.iconst 0) 1 1 := ⟨by decide +kernel, rfl⟩
theorem dX6_ofWord_1 : At cX6_ofWord 1 (.istore_n 2) 1 2 := ⟨by decide +kernel, rfl⟩
theorem dX6_ofWord_2 : At cX6_ofWord 2 (.iconst 0) 1 3 := ⟨by decide +kernel, rfl⟩
theorem dX6_ofWord_3 : At cX6_ofWord 3 (.istore_n 3) 1 4 := ⟨by decide +kernel, rfl⟩
theorem dX6_ofWord_4 : At cX6_ofWord 4 (.iload_n 3) 1 5 := ⟨by decide +kernel, rfl⟩
theorem dX6_ofWord_5 : At cX6_ofWord 5 (.aload_n 0) 1 6 := ⟨by decide +kernel, rfl⟩
theorem dX6_ofWord_6 : At cX6_ofWord 6 (.iload_n 1) 1 7 := ⟨by decide +kernel, rfl⟩
theorem dX6_ofWord_7 : At cX6_ofWord 7 (.invokevirtual 65) 3 10 := ⟨by decide +kernel, rfl⟩
theorem dX6_ofWord_10 : Br cX6_ofWord 10 (.if_icmp .ge) 13 36 := ⟨(26), by decide +kernel, rfl, by decide⟩
theorem dX6_ofWord_13 : At cX6_ofWord 13 (.iload_n 2) 1 14 := ⟨by decide +kernel, rfl⟩
theorem dX6_ofWord_14 : At cX6_ofWord 14 (.aload_n 0) 1 15 := ⟨by decide +kernel, rfl⟩
theorem dX6_ofWord_15 : At cX6_ofWord 15 (.getfield 7) 3 18 := ⟨by decide +kernel, rfl⟩
theorem dX6_ofWord_18 : At cX6_ofWord 18 (.aload_n 0) 1 19 := ⟨by decide +kernel, rfl⟩
theorem dX6_ofWord_19 : At cX6_ofWord 19 (.iload_n 1) 1 20 := ⟨by decide +kernel, rfl⟩
theorem dX6_ofWord_20 : At cX6_ofWord 20 (.iload_n 3) 1 21 := ⟨by decide +kernel, rfl⟩
theorem dX6_ofWord_21 : At cX6_ofWord 21 (.invokevirtual 69) 3 24 := ⟨by decide +kernel, rfl⟩
theorem dX6_ofWord_24 : At cX6_ofWord 24 (.bipush 6) 2 26 := ⟨by decide +kernel, rfl⟩
theorem dX6_ofWord_26 : At cX6_ofWord 26 (.irem) 1 27 := ⟨by decide +kernel, rfl⟩
theorem dX6_ofWord_27 : At cX6_ofWord 27 (.iaload) 1 28 := ⟨by decide +kernel, rfl⟩
theorem dX6_ofWord_28 : At cX6_ofWord 28 (.iadd) 1 29 := ⟨by decide +kernel, rfl⟩
theorem dX6_ofWord_29 : At cX6_ofWord 29 (.istore_n 2) 1 30 := ⟨by decide +kernel, rfl⟩
theorem dX6_ofWord_30 : At cX6_ofWord 30 (.iinc 3 1) 3 33 := ⟨by decide +kernel, rfl⟩
theorem dX6_ofWord_33 : Br cX6_ofWord 33 .goto 36 4 := ⟨(-29), by decide +kernel, rfl, by decide⟩
theorem dX6_ofWord_36 : At cX6_ofWord 36 (.iload_n 2) 1 37 := ⟨by decide +kernel, rfl⟩
theorem dX6_ofWord_37 : At cX6_ofWord 37 (.ireturn) 1 38 := ⟨by decide +kernel, rfl⟩
theorem dX6_posts_0 : At cX6_posts 0 (.iconst 0) 1 1 := ⟨by decide +kernel, rfl⟩
theorem dX6_posts_1 : At cX6_posts 1 (.istore_n 1) 1 2 := ⟨by decide +kernel, rfl⟩
theorem dX6_posts_2 : At cX6_posts 2 (.iconst 0) 1 3 := ⟨by decide +kernel, rfl⟩
theorem dX6_posts_3 : At cX6_posts 3 (.istore_n 2) 1 4 := ⟨by decide +kernel, rfl⟩
theorem dX6_posts_4 : At cX6_posts 4 (.iload_n 2) 1 5 := ⟨by decide +kernel, rfl⟩
theorem dX6_posts_5 : At cX6_posts 5 (.aload_n 0) 1 6 := ⟨by decide +kernel, rfl⟩
theorem dX6_posts_6 : At cX6_posts 6 (.getfield 93) 3 9 := ⟨by decide +kernel, rfl⟩
theorem dX6_posts_9 : Br cX6_posts 9 (.if_icmp .ge) 12 32 := ⟨(23), by decide +kernel, rfl, by decide⟩
theorem dX6_posts_12 : At cX6_posts 12 (.iload_n 1) 1 13 := ⟨by decide +kernel, rfl⟩
theorem dX6_posts_13 : At cX6_posts 13 (.iconst 1) 1 14 := ⟨by decide +kernel, rfl⟩
theorem dX6_posts_14 : At cX6_posts 14 (.aload_n 0) 1 15 := ⟨by decide +kernel, rfl⟩
theorem dX6_posts_15 : At cX6_posts 15 (.getfield 29) 3 18 := ⟨by decide +kernel, rfl⟩
theorem dX6_posts_18 : At cX6_posts 18 (.iload_n 2) 1 19 := ⟨by decide +kernel, rfl⟩
theorem dX6_posts_19 : At cX6_posts 19 (.iaload) 1 20 := ⟨by decide +kernel, rfl⟩
theorem dX6_posts_20 : At cX6_posts 20 (.bipush 6) 2 22 := ⟨by decide +kernel, rfl⟩
theorem dX6_posts_22 : At cX6_posts 22 (.irem) 1 23 := ⟨by decide +kernel, rfl⟩
theorem dX6_posts_23 : At cX6_posts 23 (.ishl) 1 24 := ⟨by decide +kernel, rfl⟩
theorem dX6_posts_24 : At cX6_posts 24 (.ior) 1 25 := ⟨by decide +kernel, rfl⟩
theorem dX6_posts_25 : At cX6_posts 25 (.istore_n 1) 1 26 := ⟨by decide +kernel, rfl⟩
theorem dX6_posts_26 : At cX6_posts 26 (.iinc 2 1) 3 29 := ⟨by decide +kernel, rfl⟩
theorem dX6_posts_29 : Br cX6_posts 29 .goto 32 4 := ⟨(-25), by decide +kernel, rfl, by decide⟩
theorem dX6_posts_32 : At cX6_posts 32 (.iload_n 1) 1 33 := ⟨by decide +kernel, rfl⟩
theorem dX6_posts_33 : At cX6_posts 33 (.ireturn) 1 34 := ⟨by decide +kernel, rfl⟩
theorem dX6_firstPair_0 : At cX6_firstPair 0 (.iconst 0) 1 1 := ⟨by decide +kernel, rfl⟩
theorem dX6_firstPair_1 : At cX6_firstPair 1 (.istore_n 2) 1 2 := ⟨by decide +kernel, rfl⟩
theorem dX6_firstPair_2 : At cX6_firstPair 2 (.iload_n 2) 1 3 := ⟨by decide +kernel, rfl⟩
theorem dX6_firstPair_3 : At cX6_firstPair 3 (.iconst 1) 1 4 := ⟨by decide +kernel, rfl⟩
theorem dX6_firstPair_4 : At cX6_firstPair 4 (.iadd) 1 5 := ⟨by decide +kernel, rfl⟩
theorem dX6_firstPair_5 : At cX6_firstPair 5 (.aload_n 0) 1 6 := ⟨by decide +kernel, rfl⟩
theorem dX6_firstPair_6 : At cX6_firstPair 6 (.iload_n 1) 1 7 := ⟨by decide +kernel, rfl⟩
theorem dX6_firstPair_7 : At cX6_firstPair 7 (.invokevirtual 65) 3 10 := ⟨by decide +kernel, rfl⟩
theorem dX6_firstPair_10 : Br cX6_firstPair 10 (.if_icmp .ge) 13 41 := ⟨(31), by decide +kernel, rfl, by decide⟩
theorem dX6_firstPair_13 : At cX6_firstPair 13 (.aload_n 0) 1 14 := ⟨by decide +kernel, rfl⟩
theorem dX6_firstPair_14 : At cX6_firstPair 14 (.iload_n 1) 1 15 := ⟨by decide +kernel, rfl⟩
theorem dX6_firstPair_15 : At cX6_firstPair 15 (.iload_n 2) 1 16 := ⟨by decide +kernel, rfl⟩
theorem dX6_firstPair_16 : At cX6_firstPair 16 (.invokevirtual 69) 3 19 := ⟨by decide +kernel, rfl⟩
theorem dX6_firstPair_19 : At cX6_firstPair 19 (.aload_n 0) 1 20 := ⟨by decide +kernel, rfl⟩
theorem dX6_firstPair_20 : At cX6_firstPair 20 (.iload_n 1) 1 21 := ⟨by decide +kernel, rfl⟩
theorem dX6_firstPair_21 : At cX6_firstPair 21 (.iload_n 2) 1 22 := ⟨by decide +kernel, rfl⟩
theorem dX6_firstPair_22 : At cX6_firstPair 22 (.iconst 1) 1 23 := ⟨by decide +kernel, rfl⟩
theorem dX6_firstPair_23 : At cX6_firstPair 23 (.iadd) 1 24 := ⟨by decide +kernel, rfl⟩
theorem dX6_firstPair_24 : At cX6_firstPair 24 (.invokevirtual 69) 3 27 := ⟨by decide +kernel, rfl⟩
theorem dX6_firstPair_27 : At cX6_firstPair 27 (.invokestatic 57) 3 30 := ⟨by decide +kernel, rfl⟩
theorem dX6_firstPair_30 : Br cX6_firstPair 30 (.ifCond .eq) 33 35 := ⟨(5), by decide +kernel, rfl, by decide⟩
theorem dX6_firstPair_33 : At cX6_firstPair 33 (.iload_n 2) 1 34 := ⟨by decide +kernel, rfl⟩
theorem dX6_firstPair_34 : At cX6_firstPair 34 (.ireturn) 1 35 := ⟨by decide +kernel, rfl⟩
theorem dX6_firstPair_35 : At cX6_firstPair 35 (.iinc 2 1) 3 38 := ⟨by decide +kernel, rfl⟩
theorem dX6_firstPair_38 : Br cX6_firstPair 38 .goto 41 2 := ⟨(-36), by decide +kernel, rfl, by decide⟩
theorem dX6_firstPair_41 : At cX6_firstPair 41 (.bipush (-6)) 2 43 := ⟨by decide +kernel, rfl⟩
theorem dX6_firstPair_43 : At cX6_firstPair 43 (.ireturn) 1 44 := ⟨by decide +kernel, rfl⟩
theorem dX6_ofRope_0 : At cX6_ofRope 0 (.iload_n 1) 1 1 := ⟨by decide +kernel, rfl⟩
theorem dX6_ofRope_1 : At cX6_ofRope 1 (.invokestatic 102) 3 4 := ⟨by decide +kernel, rfl⟩
theorem dX6_ofRope_4 : Br cX6_ofRope 4 (.ifCond .ne) 7 9 := ⟨(5), by decide +kernel, rfl, by decide⟩
theorem dX6_ofRope_7 : At cX6_ofRope 7 (.iconst (-1)) 1 8 := ⟨by decide +kernel, rfl⟩
theorem dX6_ofRope_8 : At cX6_ofRope 8 (.ireturn) 1 9 := ⟨by decide +kernel, rfl⟩
theorem dX6_ofRope_9 : At cX6_ofRope 9 (.aload_n 0) 1 10 := ⟨by decide +kernel, rfl⟩
theorem dX6_ofRope_10 : At cX6_ofRope 10 (.iload_n 1) 1 11 := ⟨by decide +kernel, rfl⟩
theorem dX6_ofRope_11 : At cX6_ofRope 11 (.iconst 0) 1 12 := ⟨by decide +kernel, rfl⟩
theorem dX6_ofRope_12 : At cX6_ofRope 12 (.invokevirtual 149) 3 15 := ⟨by decide +kernel, rfl⟩
theorem dX6_ofRope_15 : At cX6_ofRope 15 (.iload_n 2) 1 16 := ⟨by decide +kernel, rfl⟩
theorem dX6_ofRope_16 : decode cX6_ofRope 16 = .ok (.tableswitch 81 0 7 #[48, 54, 81, 81, 60, 65, 70, 75], 48) := by decide +kernel
theorem dX6_ofRope_64 : At cX6_ofRope 64 (.aload_n 0) 1 65 := ⟨by decide +kernel, rfl⟩
theorem dX6_ofRope_65 : At cX6_ofRope 65 (.iload_n 1) 1 66 := ⟨by decide +kernel, rfl⟩
theorem dX6_ofRope_66 : At cX6_ofRope 66 (.invokevirtual 65) 3 69 := ⟨by decide +kernel, rfl⟩
theorem dX6_ofRope_69 : At cX6_ofRope 69 (.ireturn) 1 70 := ⟨by decide +kernel, rfl⟩
theorem dX6_ofRope_70 : At cX6_ofRope 70 (.aload_n 0) 1 71 := ⟨by decide +kernel, rfl⟩
theorem dX6_ofRope_71 : At cX6_ofRope 71 (.iload_n 1) 1 72 := ⟨by decide +kernel, rfl⟩
theorem dX6_ofRope_72 : At cX6_ofRope 72 (.invokevirtual 152) 3 75 := ⟨by decide +kernel, rfl⟩
theorem dX6_ofRope_75 : At cX6_ofRope 75 (.ireturn) 1 76 := ⟨by decide +kernel, rfl⟩
theorem dX6_ofRope_76 : At cX6_ofRope 76 (.aload_n 0) 1 77 := ⟨by decide +kernel, rfl⟩
theorem dX6_ofRope_77 : At cX6_ofRope 77 (.getfield 93) 3 80 := ⟨by decide +kernel, rfl⟩
theorem dX6_ofRope_80 : At cX6_ofRope 80 (.ireturn) 1 81 := ⟨by decide +kernel, rfl⟩
theorem dX6_ofRope_81 : At cX6_ofRope 81 (.aload_n 0) 1 82 := ⟨by decide +kernel, rfl⟩
theorem dX6_ofRope_82 : At cX6_ofRope 82 (.invokevirtual 155) 3 85 := ⟨by decide +kernel, rfl⟩
theorem dX6_ofRope_85 : At cX6_ofRope 85 (.ireturn) 1 86 := ⟨by decide +kernel, rfl⟩
theorem dX6_ofRope_86 : At cX6_ofRope 86 (.aload_n 0) 1 87 := ⟨by decide +kernel, rfl⟩
theorem dX6_ofRope_87 : At cX6_ofRope 87 (.invokevirtual 158) 3 90 := ⟨by decide +kernel, rfl⟩
theorem dX6_ofRope_90 : At cX6_ofRope 90 (.ireturn) 1 91 := ⟨by decide +kernel, rfl⟩
theorem dX6_ofRope_91 : At cX6_ofRope 91 (.aload_n 0) 1 92 := ⟨by decide +kernel, rfl⟩
theorem dX6_ofRope_92 : At cX6_ofRope 92 (.iload_n 1) 1 93 := ⟨by decide +kernel, rfl⟩
theorem dX6_ofRope_93 : At cX6_ofRope 93 (.invokevirtual 161) 3 96 := ⟨by decide +kernel, rfl⟩
theorem dX6_ofRope_96 : At cX6_ofRope 96 (.ireturn) 1 97 := ⟨by decide +kernel, rfl⟩
theorem dX6_ofRope_97 : At cX6_ofRope 97 (.aload_n 0) 1 98 := ⟨by decide +kernel, rfl⟩
theorem dX6_ofRope_98 : At cX6_ofRope 98 (.iload_n 1) 1 99 := ⟨by decide +kernel, rfl⟩
theorem dX6_ofRope_99 : At cX6_ofRope 99 (.iconst 0) 1 100 := ⟨by decide +kernel, rfl⟩
theorem dX6_ofRope_100 : At cX6_ofRope 100 (.invokevirtual 84) 3 103 := ⟨by decide +kernel, rfl⟩
theorem dX6_ofRope_103 : At cX6_ofRope 103 (.iload_n 2) 1 104 := ⟨by decide +kernel, rfl⟩
theorem dX6_ofRope_104 : At cX6_ofRope 104 (.iconst 2) 1 105 := ⟨by decide +kernel, rfl⟩
theorem dX6_ofRope_105 : Br cX6_ofRope 105 (.if_icmp .ne) 108 115 := ⟨(10), by decide +kernel, rfl, by decide⟩
theorem dX6_ofRope_108 : At cX6_ofRope 108 (.aload_n 0) 1 109 := ⟨by decide +kernel, rfl⟩
theorem dX6_ofRope_109 : At cX6_ofRope 109 (.getfield 54) 3 112 := ⟨by decide +kernel, rfl⟩
theorem dX6_ofRope_112 : Br cX6_ofRope 112 .goto 115 150 := ⟨(38), by decide +kernel, rfl, by decide⟩
theorem dX6_ofRope_115 : At cX6_ofRope 115 (.iload_n 2) 1 116 := ⟨by decide +kernel, rfl⟩
theorem dX6_ofRope_116 : At cX6_ofRope 116 (.iconst 3) 1 117 := ⟨by decide +kernel, rfl⟩
theorem dX6_ofRope_117 : Br cX6_ofRope 117 (.if_icmp .ne) 120 127 := ⟨(10), by decide +kernel, rfl, by decide⟩
theorem dX6_ofRope_120 : At cX6_ofRope 120 (.aload_n 0) 1 121 := ⟨by decide +kernel, rfl⟩
theorem dX6_ofRope_121 : At cX6_ofRope 121 (.invokevirtual 164) 3 124 := ⟨by decide +kernel, rfl⟩
theorem dX6_ofRope_124 : Br cX6_ofRope 124 .goto 127 150 := ⟨(26), by decide +kernel, rfl, by decide⟩
theorem dX6_ofRope_127 : At cX6_ofRope 127 (.iload_n 2) 1 128 := ⟨by decide +kernel, rfl⟩
theorem dX6_ofRope_128 : At cX6_ofRope 128 (.bipush 8) 2 130 := ⟨by decide +kernel, rfl⟩
theorem dX6_ofRope_130 : Br cX6_ofRope 130 (.if_icmp .ne) 133 148 := ⟨(18), by decide +kernel, rfl, by decide⟩
theorem dX6_ofRope_133 : At cX6_ofRope 133 (.aload_n 0) 1 134 := ⟨by decide +kernel, rfl⟩
theorem dX6_ofRope_134 : At cX6_ofRope 134 (.getfield 54) 3 137 := ⟨by decide +kernel, rfl⟩
theorem dX6_ofRope_137 : Br cX6_ofRope 137 (.ifCond .ne) 140 144 := ⟨(7), by decide +kernel, rfl, by decide⟩
theorem dX6_ofRope_140 : At cX6_ofRope 140 (.iconst 1) 1 141 := ⟨by decide +kernel, rfl⟩
theorem dX6_ofRope_141 : Br cX6_ofRope 141 .goto 144 150 := ⟨(9), by decide +kernel, rfl, by decide⟩
theorem dX6_ofRope_144 : At cX6_ofRope 144 (.iconst 0) 1 145 := ⟨by decide +kernel, rfl⟩
theorem dX6_ofRope_145 : Br cX6_ofRope 145 .goto 148 150 := ⟨(5), by decide +kernel, rfl, by decide⟩
theorem dX6_ofRope_148 : At cX6_ofRope 148 (.bipush (-2)) 2 150 := ⟨by decide +kernel, rfl⟩
theorem dX6_ofRope_150 : At cX6_ofRope 150 (.ireturn) 1 151 := ⟨by decide +kernel, rfl⟩
theorem dX6_winds_0 : At cX6_winds 0 (.iload_n 1) 1 1 := ⟨by decide +kernel, rfl⟩
theorem dX6_winds_1 : At cX6_winds 1 (.invokestatic 102) 3 4 := ⟨by decide +kernel, rfl⟩
theorem dX6_winds_4 : Br cX6_winds 4 (.ifCond .eq) 7 16 := ⟨(12), by decide +kernel, rfl, by decide⟩
theorem dX6_winds_7 : At cX6_winds 7 (.iload_n 2) 1 8 := ⟨by decide +kernel, rfl⟩
theorem dX6_winds_8 : At cX6_winds 8 (.iconst 0) 1 9 := ⟨by decide +kernel, rfl⟩
theorem dX6_winds_9 : At cX6_winds 9 (.iconst 5) 1 10 := ⟨by decide +kernel, rfl⟩
theorem dX6_winds_10 : At cX6_winds 10 (.invokestatic 61) 3 13 := ⟨by decide +kernel, rfl⟩
theorem dX6_winds_13 : Br cX6_winds 13 (.ifCond .ne) 16 18 := ⟨(5), by decide +kernel, rfl, by decide⟩
theorem dX6_winds_16 : At cX6_winds 16 (.iconst (-1)) 1 17 := ⟨by decide +kernel, rfl⟩
theorem dX6_winds_17 : At cX6_winds 17 (.ireturn) 1 18 := ⟨by decide +kernel, rfl⟩
theorem dX6_winds_18 : At cX6_winds 18 (.sipush 1000) 3 21 := ⟨by decide +kernel, rfl⟩
theorem dX6_winds_21 : At cX6_winds 21 (.istore_n 3) 1 22 := ⟨by decide +kernel, rfl⟩
theorem dX6_winds_22 : At cX6_winds 22 (.iconst 0) 1 23 := ⟨by decide +kernel, rfl⟩
theorem dX6_winds_23 : At cX6_winds 23 (.istore 4) 2 25 := ⟨by decide +kernel, rfl⟩
theorem dX6_winds_25 : At cX6_winds 25 (.iload 4) 2 27 := ⟨by decide +kernel, rfl⟩
theorem dX6_winds_27 : At cX6_winds 27 (.aload_n 0) 1 28 := ⟨by decide +kernel, rfl⟩
theorem dX6_winds_28 : At cX6_winds 28 (.iload_n 1) 1 29 := ⟨by decide +kernel, rfl⟩
theorem dX6_winds_29 : At cX6_winds 29 (.invokevirtual 65) 3 32 := ⟨by decide +kernel, rfl⟩
theorem dX6_winds_32 : Br cX6_winds 32 (.if_icmp .ge) 35 78 := ⟨(46), by decide +kernel, rfl, by decide⟩
theorem dX6_winds_35 : At cX6_winds 35 (.iload_n 3) 1 36 := ⟨by decide +kernel, rfl⟩
theorem dX6_winds_36 : At cX6_winds 36 (.aload_n 0) 1 37 := ⟨by decide +kernel, rfl⟩
theorem dX6_winds_37 : At cX6_winds 37 (.iload_n 1) 1 38 := ⟨by decide +kernel, rfl⟩
theorem dX6_winds_38 : At cX6_winds 38 (.iload 4) 2 40 := ⟨by decide +kernel, rfl⟩
theorem dX6_winds_40 : At cX6_winds 40 (.invokevirtual 69) 3 43 := ⟨by decide +kernel, rfl⟩
theorem dX6_winds_43 : At cX6_winds 43 (.iload_n 2) 1 44 := ⟨by decide +kernel, rfl⟩
theorem dX6_winds_44 : Br cX6_winds 44 (.if_icmp .ne) 47 51 := ⟨(7), by decide +kernel, rfl, by decide⟩
theorem dX6_winds_47 : At cX6_winds 47 (.iconst 1) 1 48 := ⟨by decide +kernel, rfl⟩
theorem dX6_winds_48 : Br cX6_winds 48 .goto 51 70 := ⟨(22), by decide +kernel, rfl, by decide⟩
theorem dX6_winds_51 : At cX6_winds 51 (.aload_n 0) 1 52 := ⟨by decide +kernel, rfl⟩
theorem dX6_winds_52 : At cX6_winds 52 (.iload_n 1) 1 53 := ⟨by decide +kernel, rfl⟩
theorem dX6_winds_53 : At cX6_winds 53 (.iload 4) 2 55 := ⟨by decide +kernel, rfl⟩
theorem dX6_winds_55 : At cX6_winds 55 (.invokevirtual 69) 3 58 := ⟨by decide +kernel, rfl⟩
theorem dX6_winds_58 : At cX6_winds 58 (.iload_n 2) 1 59 := ⟨by decide +kernel, rfl⟩
theorem dX6_winds_59 : At cX6_winds 59 (.bipush 6) 2 61 := ⟨by decide +kernel, rfl⟩
theorem dX6_winds_61 : At cX6_winds 61 (.iadd) 1 62 := ⟨by decide +kernel, rfl⟩
theorem dX6_winds_62 : Br cX6_winds 62 (.if_icmp .ne) 65 69 := ⟨(7), by decide +kernel, rfl, by decide⟩
theorem dX6_winds_65 : At cX6_winds 65 (.iconst (-1)) 1 66 := ⟨by decide +kernel, rfl⟩
theorem dX6_winds_66 : Br cX6_winds 66 .goto 69 70 := ⟨(4), by decide +kernel, rfl, by decide⟩
theorem dX6_winds_69 : At cX6_winds 69 (.iconst 0) 1 70 := ⟨by decide +kernel, rfl⟩
theorem dX6_winds_70 : At cX6_winds 70 (.iadd) 1 71 := ⟨by decide +kernel, rfl⟩
theorem dX6_winds_71 : At cX6_winds 71 (.istore_n 3) 1 72 := ⟨by decide +kernel, rfl⟩
theorem dX6_winds_72 : At cX6_winds 72 (.iinc 4 1) 3 75 := ⟨by decide +kernel, rfl⟩
theorem dX6_winds_75 : Br cX6_winds 75 .goto 78 25 := ⟨(-50), by decide +kernel, rfl, by decide⟩
theorem dX6_winds_78 : At cX6_winds 78 (.iload_n 3) 1 79 := ⟨by decide +kernel, rfl⟩
theorem dX6_winds_79 : At cX6_winds 79 (.ireturn) 1 80 := ⟨by decide +kernel, rfl⟩
theorem dX6_least_0 : At cX6_least 0 (.iload_n 1) 1 1 := ⟨by decide +kernel, rfl⟩
theorem dX6_least_1 : At cX6_least 1 (.invokestatic 102) 3 4 := ⟨by decide +kernel, rfl⟩
theorem dX6_least_4 : Br cX6_least 4 (.ifCond .ne) 7 9 := ⟨(5), by decide +kernel, rfl, by decide⟩
theorem dX6_least_7 : At cX6_least 7 (.iconst (-1)) 1 8 := ⟨by decide +kernel, rfl⟩
theorem dX6_least_8 : At cX6_least 8 (.ireturn) 1 9 := ⟨by decide +kernel, rfl⟩
theorem dX6_least_9 : At cX6_least 9 (.aload_n 0) 1 10 := ⟨by decide +kernel, rfl⟩
theorem dX6_least_10 : At cX6_least 10 (.iload_n 1) 1 11 := ⟨by decide +kernel, rfl⟩
theorem dX6_least_11 : At cX6_least 11 (.iconst 0) 1 12 := ⟨by decide +kernel, rfl⟩
theorem dX6_least_12 : At cX6_least 12 (.invokevirtual 149) 3 15 := ⟨by decide +kernel, rfl⟩
theorem dX6_least_15 : At cX6_least 15 (.iload_n 2) 1 16 := ⟨by decide +kernel, rfl⟩
theorem dX6_least_16 : At cX6_least 16 (.iconst 0) 1 17 := ⟨by decide +kernel, rfl⟩
theorem dX6_least_17 : At cX6_least 17 (.aload_n 0) 1 18 := ⟨by decide +kernel, rfl⟩
theorem dX6_least_18 : At cX6_least 18 (.getfield 93) 3 21 := ⟨by decide +kernel, rfl⟩
theorem dX6_least_21 : At cX6_least 21 (.iconst 1) 1 22 := ⟨by decide +kernel, rfl⟩
theorem dX6_least_22 : At cX6_least 22 (.isub) 1 23 := ⟨by decide +kernel, rfl⟩
theorem dX6_least_23 : At cX6_least 23 (.invokestatic 61) 3 26 := ⟨by decide +kernel, rfl⟩
theorem dX6_least_26 : Br cX6_least 26 (.ifCond .eq) 29 38 := ⟨(12), by decide +kernel, rfl, by decide⟩
theorem dX6_least_29 : At cX6_least 29 (.aload_n 0) 1 30 := ⟨by decide +kernel, rfl⟩
theorem dX6_least_30 : At cX6_least 30 (.getfield 29) 3 33 := ⟨by decide +kernel, rfl⟩
theorem dX6_least_33 : At cX6_least 33 (.iload_n 2) 1 34 := ⟨by decide +kernel, rfl⟩
theorem dX6_least_34 : At cX6_least 34 (.iaload) 1 35 := ⟨by decide +kernel, rfl⟩
theorem dX6_least_35 : Br cX6_least 35 .goto 38 39 := ⟨(4), by decide +kernel, rfl, by decide⟩
theorem dX6_least_38 : At cX6_least 38 (.iconst (-1)) 1 39 := ⟨by decide +kernel, rfl⟩
theorem dX6_least_39 : At cX6_least 39 (.ireturn) 1 40 := ⟨by decide +kernel, rfl⟩
theorem dX6_count_0 : At cX6_count 0 (.iload_n 1) 1 1 := ⟨by decide +kernel, rfl⟩
theorem dX6_count_1 : At cX6_count 1 (.iconst 0) 1 2 := ⟨by decide +kernel, rfl⟩
theorem dX6_count_2 : At cX6_count 2 (.iconst 5) 1 3 := ⟨by decide +kernel, rfl⟩
theorem dX6_count_3 : At cX6_count 3 (.invokestatic 61) 3 6 := ⟨by decide +kernel, rfl⟩
theorem dX6_count_6 : Br cX6_count 6 (.ifCond .eq) 9 16 := ⟨(10), by decide +kernel, rfl, by decide⟩
theorem dX6_count_9 : At cX6_count 9 (.aload_n 0) 1 10 := ⟨by decide +kernel, rfl⟩
theorem dX6_count_10 : At cX6_count 10 (.getfield 7) 3 13 := ⟨by decide +kernel, rfl⟩
theorem dX6_count_13 : At cX6_count 13 (.iload_n 1) 1 14 := ⟨by decide +kernel, rfl⟩
theorem dX6_count_14 : At cX6_count 14 (.iaload) 1 15 := ⟨by decide +kernel, rfl⟩
theorem dX6_count_15 : At cX6_count 15 (.ireturn) 1 16 := ⟨by decide +kernel, rfl⟩
theorem dX6_count_16 : At cX6_count 16 (.iload_n 1) 1 17 := ⟨by decide +kernel, rfl⟩
theorem dX6_count_17 : At cX6_count 17 (.bipush 6) 2 19 := ⟨by decide +kernel, rfl⟩
theorem dX6_count_19 : Br cX6_count 19 (.if_icmp .ne) 22 29 := ⟨(10), by decide +kernel, rfl, by decide⟩
theorem dX6_count_22 : At cX6_count 22 (.aload_n 0) 1 23 := ⟨by decide +kernel, rfl⟩
theorem dX6_count_23 : At cX6_count 23 (.invokevirtual 116) 3 26 := ⟨by decide +kernel, rfl⟩
theorem dX6_count_26 : Br cX6_count 26 .goto 29 57 := ⟨(31), by decide +kernel, rfl, by decide⟩
theorem dX6_count_29 : At cX6_count 29 (.iload_n 1) 1 30 := ⟨by decide +kernel, rfl⟩
theorem dX6_count_30 : At cX6_count 30 (.bipush 7) 2 32 := ⟨by decide +kernel, rfl⟩
theorem dX6_count_32 : Br cX6_count 32 (.if_icmp .ne) 35 42 := ⟨(10), by decide +kernel, rfl, by decide⟩
theorem dX6_count_35 : At cX6_count 35 (.aload_n 0) 1 36 := ⟨by decide +kernel, rfl⟩
theorem dX6_count_36 : At cX6_count 36 (.getfield 134) 3 39 := ⟨by decide +kernel, rfl⟩
theorem dX6_count_39 : Br cX6_count 39 .goto 42 57 := ⟨(18), by decide +kernel, rfl, by decide⟩
theorem dX6_count_42 : At cX6_count 42 (.iload_n 1) 1 43 := ⟨by decide +kernel, rfl⟩
theorem dX6_count_43 : At cX6_count 43 (.bipush 8) 2 45 := ⟨by decide +kernel, rfl⟩
theorem dX6_count_45 : Br cX6_count 45 (.if_icmp .ne) 48 55 := ⟨(10), by decide +kernel, rfl, by decide⟩
theorem dX6_count_48 : At cX6_count 48 (.aload_n 0) 1 49 := ⟨by decide +kernel, rfl⟩
theorem dX6_count_49 : At cX6_count 49 (.getfield 50) 3 52 := ⟨by decide +kernel, rfl⟩
theorem dX6_count_52 : Br cX6_count 52 .goto 55 57 := ⟨(5), by decide +kernel, rfl, by decide⟩
theorem dX6_count_55 : At cX6_count 55 (.bipush (-2)) 2 57 := ⟨by decide +kernel, rfl⟩
theorem dX6_count_57 : At cX6_count 57 (.ireturn) 1 58 := ⟨by decide +kernel, rfl⟩
theorem dX6_fallsBy_0 : At cX6_fallsBy 0 (.aload_n 0) 1 1 := ⟨by decide +kernel, rfl⟩
theorem dX6_fallsBy_1 : At cX6_fallsBy 1 (.iconst 0) 1 2 := ⟨by decide +kernel, rfl⟩
theorem dX6_fallsBy_2 : At cX6_fallsBy 2 (.putfield 54) 3 5 := ⟨by decide +kernel, rfl⟩
theorem dX6_fallsBy_5 : At cX6_fallsBy 5 (.iconst 0) 1 6 := ⟨by decide +kernel, rfl⟩
theorem dX6_fallsBy_6 : At cX6_fallsBy 6 (.istore_n 3) 1 7 := ⟨by decide +kernel, rfl⟩
theorem dX6_fallsBy_7 : At cX6_fallsBy 7 (.iload_n 3) 1 8 := ⟨by decide +kernel, rfl⟩
theorem dX6_fallsBy_8 : At cX6_fallsBy 8 (.aload_n 0) 1 9 := ⟨by decide +kernel, rfl⟩
theorem dX6_fallsBy_9 : At cX6_fallsBy 9 (.iload_n 1) 1 10 := ⟨by decide +kernel, rfl⟩
theorem dX6_fallsBy_10 : At cX6_fallsBy 10 (.invokevirtual 65) 3 13 := ⟨by decide +kernel, rfl⟩
theorem dX6_fallsBy_13 : Br cX6_fallsBy 13 (.if_icmp .ge) 16 48 := ⟨(35), by decide +kernel, rfl, by decide⟩
theorem dX6_fallsBy_16 : At cX6_fallsBy 16 (.aload_n 0) 1 17 := ⟨by decide +kernel, rfl⟩
theorem dX6_fallsBy_17 : At cX6_fallsBy 17 (.iload_n 1) 1 18 := ⟨by decide +kernel, rfl⟩
theorem dX6_fallsBy_18 : At cX6_fallsBy 18 (.iload_n 3) 1 19 := ⟨by decide +kernel, rfl⟩
theorem dX6_fallsBy_19 : At cX6_fallsBy 19 (.invokevirtual 69) 3 22 := ⟨by decide +kernel, rfl⟩
theorem dX6_fallsBy_22 : At cX6_fallsBy 22 (.istore 4) 2 24 := ⟨by decide +kernel, rfl⟩
theorem dX6_fallsBy_24 : At cX6_fallsBy 24 (.iload_n 2) 1 25 := ⟨by decide +kernel, rfl⟩
theorem dX6_fallsBy_25 : At cX6_fallsBy 25 (.iload 4) 2 27 := ⟨by decide +kernel, rfl⟩
theorem dX6_fallsBy_27 : At cX6_fallsBy 27 (.bipush 6) 2 29 := ⟨by decide +kernel, rfl⟩
theorem dX6_fallsBy_29 : At cX6_fallsBy 29 (.irem) 1 30 := ⟨by decide +kernel, rfl⟩
theorem dX6_fallsBy_30 : At cX6_fallsBy 30 (.ishr) 1 31 := ⟨by decide +kernel, rfl⟩
theorem dX6_fallsBy_31 : At cX6_fallsBy 31 (.iconst 1) 1 32 := ⟨by decide +kernel, rfl⟩
theorem dX6_fallsBy_32 : At cX6_fallsBy 32 (.iand) 1 33 := ⟨by decide +kernel, rfl⟩
theorem dX6_fallsBy_33 : Br cX6_fallsBy 33 (.ifCond .ne) 36 42 := ⟨(9), by decide +kernel, rfl, by decide⟩
theorem dX6_fallsBy_36 : At cX6_fallsBy 36 (.aload_n 0) 1 37 := ⟨by decide +kernel, rfl⟩
theorem dX6_fallsBy_37 : At cX6_fallsBy 37 (.iload 4) 2 39 := ⟨by decide +kernel, rfl⟩
theorem dX6_fallsBy_39 : At cX6_fallsBy 39 (.invokevirtual 76) 3 42 := ⟨by decide +kernel, rfl⟩
theorem dX6_fallsBy_42 : At cX6_fallsBy 42 (.iinc 3 1) 3 45 := ⟨by decide +kernel, rfl⟩
theorem dX6_fallsBy_45 : Br cX6_fallsBy 45 .goto 48 7 := ⟨(-38), by decide +kernel, rfl, by decide⟩
theorem dX6_fallsBy_48 : At cX6_fallsBy 48 (.aload_n 0) 1 49 := ⟨by decide +kernel, rfl⟩
theorem dX6_fallsBy_49 : At cX6_fallsBy 49 (.getfield 54) 3 52 := ⟨by decide +kernel, rfl⟩
theorem dX6_fallsBy_52 : Br cX6_fallsBy 52 (.ifCond .ne) 55 59 := ⟨(7), by decide +kernel, rfl, by decide⟩
theorem dX6_fallsBy_55 : At cX6_fallsBy 55 (.iconst 1) 1 56 := ⟨by decide +kernel, rfl⟩
theorem dX6_fallsBy_56 : Br cX6_fallsBy 56 .goto 59 60 := ⟨(4), by decide +kernel, rfl, by decide⟩
theorem dX6_fallsBy_59 : At cX6_fallsBy 59 (.iconst 0) 1 60 := ⟨by decide +kernel, rfl⟩
theorem dX6_fallsBy_60 : At cX6_fallsBy 60 (.ireturn) 1 61 := ⟨by decide +kernel, rfl⟩
theorem dX6_falls_0 : At cX6_falls 0 (.iload_n 1) 1 1 := ⟨by decide +kernel, rfl⟩
theorem dX6_falls_1 : At cX6_falls 1 (.invokestatic 102) 3 4 := ⟨by decide +kernel, rfl⟩
theorem dX6_falls_4 : Br cX6_falls 4 (.ifCond .eq) 7 17 := ⟨(13), by decide +kernel, rfl, by decide⟩
theorem dX6_falls_7 : At cX6_falls 7 (.iload_n 2) 1 8 := ⟨by decide +kernel, rfl⟩
theorem dX6_falls_8 : At cX6_falls 8 (.iconst 0) 1 9 := ⟨by decide +kernel, rfl⟩
theorem dX6_falls_9 : At cX6_falls 9 (.bipush 63) 2 11 := ⟨by decide +kernel, rfl⟩
theorem dX6_falls_11 : At cX6_falls 11 (.invokestatic 61) 3 14 := ⟨by decide +kernel, rfl⟩
theorem dX6_falls_14 : Br cX6_falls 14 (.ifCond .ne) 17 19 := ⟨(5), by decide +kernel, rfl, by decide⟩
theorem dX6_falls_17 : At cX6_falls 17 (.iconst (-1)) 1 18 := ⟨by decide +kernel, rfl⟩
theorem dX6_falls_18 : At cX6_falls 18 (.ireturn) 1 19 := ⟨by decide +kernel, rfl⟩
theorem dX6_falls_19 : At cX6_falls 19 (.aload_n 0) 1 20 := ⟨by decide +kernel, rfl⟩
theorem dX6_falls_20 : At cX6_falls 20 (.iload_n 1) 1 21 := ⟨by decide +kernel, rfl⟩
theorem dX6_falls_21 : At cX6_falls 21 (.iload_n 2) 1 22 := ⟨by decide +kernel, rfl⟩
theorem dX6_falls_22 : At cX6_falls 22 (.invokevirtual 167) 3 25 := ⟨by decide +kernel, rfl⟩
theorem dX6_falls_25 : Br cX6_falls 25 (.ifCond .eq) 28 32 := ⟨(7), by decide +kernel, rfl, by decide⟩
theorem dX6_falls_28 : At cX6_falls 28 (.iconst 1) 1 29 := ⟨by decide +kernel, rfl⟩
theorem dX6_falls_29 : Br cX6_falls 29 .goto 32 33 := ⟨(4), by decide +kernel, rfl, by decide⟩
theorem dX6_falls_32 : At cX6_falls 32 (.iconst 0) 1 33 := ⟨by decide +kernel, rfl⟩
theorem dX6_falls_33 : At cX6_falls 33 (.ireturn) 1 34 := ⟨by decide +kernel, rfl⟩
theorem dX6_size_0 : At cX6_size 0 (.iconst 0) 1 1 := ⟨by decide +kernel, rfl⟩
theorem dX6_size_1 : At cX6_size 1 (.istore_n 1) 1 2 := ⟨by decide +kernel, rfl⟩
theorem dX6_size_2 : At cX6_size 2 (.iconst 0) 1 3 := ⟨by decide +kernel, rfl⟩
theorem dX6_size_3 : At cX6_size 3 (.istore_n 2) 1 4 := ⟨by decide +kernel, rfl⟩
theorem dX6_size_4 : At cX6_size 4 (.iload_n 2) 1 5 := ⟨by decide +kernel, rfl⟩
theorem dX6_size_5 : At cX6_size 5 (.bipush 6) 2 7 := ⟨by decide +kernel, rfl⟩
theorem dX6_size_7 : Br cX6_size 7 (.if_icmp .ge) 10 24 := ⟨(17), by decide +kernel, rfl, by decide⟩
theorem dX6_size_10 : At cX6_size 10 (.iload_n 1) 1 11 := ⟨by decide +kernel, rfl⟩
theorem dX6_size_11 : At cX6_size 11 (.iload_n 0) 1 12 := ⟨by decide +kernel, rfl⟩
theorem dX6_size_12 : At cX6_size 12 (.iload_n 2) 1 13 := ⟨by decide +kernel, rfl⟩
theorem dX6_size_13 : At cX6_size 13 (.ishr) 1 14 := ⟨by decide +kernel, rfl⟩
theorem dX6_size_14 : At cX6_size 14 (.iconst 1) 1 15 := ⟨by decide +kernel, rfl⟩
theorem dX6_size_15 : At cX6_size 15 (.iand) 1 16 := ⟨by decide +kernel, rfl⟩
theorem dX6_size_16 : At cX6_size 16 (.iadd) 1 17 := ⟨by decide +kernel, rfl⟩
theorem dX6_size_17 : At cX6_size 17 (.istore_n 1) 1 18 := ⟨by decide +kernel, rfl⟩
theorem dX6_size_18 : At cX6_size 18 (.iinc 2 1) 3 21 := ⟨by decide +kernel, rfl⟩
theorem dX6_size_21 : Br cX6_size 21 .goto 24 4 := ⟨(-17), by decide +kernel, rfl, by decide⟩
theorem dX6_size_24 : At cX6_size 24 (.iload_n 1) 1 25 := ⟨by decide +kernel, rfl⟩
theorem dX6_size_25 : At cX6_size 25 (.ireturn) 1 26 := ⟨by decide +kernel, rfl⟩
theorem dX6_isFelling_0 : At cX6_isFelling 0 (.aload_n 0) 1 1 := ⟨by decide +kernel, rfl⟩
theorem dX6_isFelling_1 : At cX6_isFelling 1 (.iload_n 1) 1 2 := ⟨by decide +kernel, rfl⟩
theorem dX6_isFelling_2 : At cX6_isFelling 2 (.iload_n 2) 1 3 := ⟨by decide +kernel, rfl⟩
theorem dX6_isFelling_3 : At cX6_isFelling 3 (.invokevirtual 167) 3 6 := ⟨by decide +kernel, rfl⟩
theorem dX6_isFelling_6 : At cX6_isFelling 6 (.istore_n 3) 1 7 := ⟨by decide +kernel, rfl⟩
theorem dX6_isFelling_7 : At cX6_isFelling 7 (.iconst 0) 1 8 := ⟨by decide +kernel, rfl⟩
theorem dX6_isFelling_8 : At cX6_isFelling 8 (.istore 4) 2 10 := ⟨by decide +kernel, rfl⟩
theorem dX6_isFelling_10 : At cX6_isFelling 10 (.iload 4) 2 12 := ⟨by decide +kernel, rfl⟩
theorem dX6_isFelling_12 : At cX6_isFelling 12 (.bipush 6) 2 14 := ⟨by decide +kernel, rfl⟩
theorem dX6_isFelling_14 : Br cX6_isFelling 14 (.if_icmp .ge) 17 58 := ⟨(44), by decide +kernel, rfl, by decide⟩
theorem dX6_isFelling_17 : At cX6_isFelling 17 (.iload_n 3) 1 18 := ⟨by decide +kernel, rfl⟩
theorem dX6_isFelling_18 : Br cX6_isFelling 18 (.ifCond .eq) 21 58 := ⟨(40), by decide +kernel, rfl, by decide⟩
theorem dX6_isFelling_21 : At cX6_isFelling 21 (.iload_n 2) 1 22 := ⟨by decide +kernel, rfl⟩
theorem dX6_isFelling_22 : At cX6_isFelling 22 (.iload 4) 2 24 := ⟨by decide +kernel, rfl⟩
theorem dX6_isFelling_24 : At cX6_isFelling 24 (.ishr) 1 25 := ⟨by decide +kernel, rfl⟩
theorem dX6_isFelling_25 : At cX6_isFelling 25 (.iconst 1) 1 26 := ⟨by decide +kernel, rfl⟩
theorem dX6_isFelling_26 : At cX6_isFelling 26 (.iand) 1 27 := ⟨by decide +kernel, rfl⟩
theorem dX6_isFelling_27 : Br cX6_isFelling 27 (.ifCond .eq) 30 46 := ⟨(19), by decide +kernel, rfl, by decide⟩
theorem dX6_isFelling_30 : At cX6_isFelling 30 (.aload_n 0) 1 31 := ⟨by decide +kernel, rfl⟩
theorem dX6_isFelling_31 : At cX6_isFelling 31 (.iload_n 1) 1 32 := ⟨by decide +kernel, rfl⟩
theorem dX6_isFelling_32 : At cX6_isFelling 32 (.iload_n 2) 1 33 := ⟨by decide +kernel, rfl⟩
theorem dX6_isFelling_33 : At cX6_isFelling 33 (.iconst 1) 1 34 := ⟨by decide +kernel, rfl⟩
theorem dX6_isFelling_34 : At cX6_isFelling 34 (.iload 4) 2 36 := ⟨by decide +kernel, rfl⟩
theorem dX6_isFelling_36 : At cX6_isFelling 36 (.ishl) 1 37 := ⟨by decide +kernel, rfl⟩
theorem dX6_isFelling_37 : At cX6_isFelling 37 (.iconst (-1)) 1 38 := ⟨by decide +kernel, rfl⟩
theorem dX6_isFelling_38 : At cX6_isFelling 38 (.ixor) 1 39 := ⟨by decide +kernel, rfl⟩
theorem dX6_isFelling_39 : At cX6_isFelling 39 (.iand) 1 40 := ⟨by decide +kernel, rfl⟩
theorem dX6_isFelling_40 : At cX6_isFelling 40 (.invokevirtual 167) 3 43 := ⟨by decide +kernel, rfl⟩
theorem dX6_isFelling_43 : Br cX6_isFelling 43 (.ifCond .ne) 46 50 := ⟨(7), by decide +kernel, rfl, by decide⟩
theorem dX6_isFelling_46 : At cX6_isFelling 46 (.iconst 1) 1 47 := ⟨by decide +kernel, rfl⟩
theorem dX6_isFelling_47 : Br cX6_isFelling 47 .goto 50 51 := ⟨(4), by decide +kernel, rfl, by decide⟩
theorem dX6_isFelling_50 : At cX6_isFelling 50 (.iconst 0) 1 51 := ⟨by decide +kernel, rfl⟩
theorem dX6_isFelling_51 : At cX6_isFelling 51 (.istore_n 3) 1 52 := ⟨by decide +kernel, rfl⟩
theorem dX6_isFelling_52 : At cX6_isFelling 52 (.iinc 4 1) 3 55 := ⟨by decide +kernel, rfl⟩
theorem dX6_isFelling_55 : Br cX6_isFelling 55 .goto 58 10 := ⟨(-45), by decide +kernel, rfl, by decide⟩
theorem dX6_isFelling_58 : At cX6_isFelling 58 (.iload_n 3) 1 59 := ⟨by decide +kernel, rfl⟩
theorem dX6_isFelling_59 : At cX6_isFelling 59 (.ireturn) 1 60 := ⟨by decide +kernel, rfl⟩
theorem dX6_felling_0 : At cX6_felling 0 (.iload_n 1) 1 1 := ⟨by decide +kernel, rfl⟩
theorem dX6_felling_1 : At cX6_felling 1 (.invokestatic 102) 3 4 := ⟨by decide +kernel, rfl⟩
theorem dX6_felling_4 : Br cX6_felling 4 (.ifCond .ne) 7 9 := ⟨(5), by decide +kernel, rfl, by decide⟩
theorem dX6_felling_7 : At cX6_felling 7 (.iconst (-1)) 1 8 := ⟨by decide +kernel, rfl⟩
theorem dX6_felling_8 : At cX6_felling 8 (.ireturn) 1 9 := ⟨by decide +kernel, rfl⟩
theorem dX6_felling_9 : At cX6_felling 9 (.iload_n 2) 1 10 := ⟨by decide +kernel, rfl⟩
theorem dX6_felling_10 : At cX6_felling 10 (.iconst 0) 1 11 := ⟨by decide +kernel, rfl⟩
theorem dX6_felling_11 : At cX6_felling 11 (.iconst 1) 1 12 := ⟨by decide +kernel, rfl⟩
theorem dX6_felling_12 : At cX6_felling 12 (.invokestatic 61) 3 15 := ⟨by decide +kernel, rfl⟩
theorem dX6_felling_15 : Br cX6_felling 15 (.ifCond .ne) 18 21 := ⟨(6), by decide +kernel, rfl, by decide⟩
theorem dX6_felling_18 : At cX6_felling 18 (.bipush (-2)) 2 20 := ⟨by decide +kernel, rfl⟩
theorem dX6_felling_20 : At cX6_felling 20 (.ireturn) 1 21 := ⟨by decide +kernel, rfl⟩
theorem dX6_felling_21 : At cX6_felling 21 (.iconst 0) 1 22 := ⟨by decide +kernel, rfl⟩
theorem dX6_felling_22 : At cX6_felling 22 (.istore_n 3) 1 23 := ⟨by decide +kernel, rfl⟩
theorem dX6_felling_23 : At cX6_felling 23 (.bipush (-6)) 2 25 := ⟨by decide +kernel, rfl⟩
theorem dX6_felling_25 : At cX6_felling 25 (.istore 4) 2 27 := ⟨by decide +kernel, rfl⟩
theorem dX6_felling_27 : At cX6_felling 27 (.iconst 0) 1 28 := ⟨by decide +kernel, rfl⟩
theorem dX6_felling_28 : At cX6_felling 28 (.istore 5) 2 30 := ⟨by decide +kernel, rfl⟩
theorem dX6_felling_30 : At cX6_felling 30 (.iload 5) 2 32 := ⟨by decide +kernel, rfl⟩
theorem dX6_felling_32 : At cX6_felling 32 (.bipush 64) 2 34 := ⟨by decide +kernel, rfl⟩
theorem dX6_felling_34 : Br cX6_felling 34 (.if_icmp .ge) 37 83 := ⟨(49), by decide +kernel, rfl, by decide⟩
theorem dX6_felling_37 : At cX6_felling 37 (.aload_n 0) 1 38 := ⟨by decide +kernel, rfl⟩
theorem dX6_felling_38 : At cX6_felling 38 (.iload_n 1) 1 39 := ⟨by decide +kernel, rfl⟩
theorem dX6_felling_39 : At cX6_felling 39 (.iload 5) 2 41 := ⟨by decide +kernel, rfl⟩
theorem dX6_felling_41 : At cX6_felling 41 (.invokevirtual 170) 3 44 := ⟨by decide +kernel, rfl⟩
theorem dX6_felling_44 : Br cX6_felling 44 (.ifCond .eq) 47 77 := ⟨(33), by decide +kernel, rfl, by decide⟩
theorem dX6_felling_47 : At cX6_felling 47 (.iinc 3 1) 3 50 := ⟨by decide +kernel, rfl⟩
theorem dX6_felling_50 : At cX6_felling 50 (.iload 4) 2 52 := ⟨by decide +kernel, rfl⟩
theorem dX6_felling_52 : Br cX6_felling 52 (.ifCond .lt) 55 68 := ⟨(16), by decide +kernel, rfl, by decide⟩
theorem dX6_felling_55 : At cX6_felling 55 (.iload 5) 2 57 := ⟨by decide +kernel, rfl⟩
theorem dX6_felling_57 : At cX6_felling 57 (.invokestatic 173) 3 60 := ⟨by decide +kernel, rfl⟩
theorem dX6_felling_60 : At cX6_felling 60 (.iload 4) 2 62 := ⟨by decide +kernel, rfl⟩
theorem dX6_felling_62 : At cX6_felling 62 (.invokestatic 173) 3 65 := ⟨by decide +kernel, rfl⟩
theorem dX6_felling_65 : Br cX6_felling 65 (.if_icmp .ge) 68 73 := ⟨(8), by decide +kernel, rfl, by decide⟩
theorem dX6_felling_68 : At cX6_felling 68 (.iload 5) 2 70 := ⟨by decide +kernel, rfl⟩
theorem dX6_felling_70 : Br cX6_felling 70 .goto 73 75 := ⟨(5), by decide +kernel, rfl, by decide⟩
theorem dX6_felling_73 : At cX6_felling 73 (.iload 4) 2 75 := ⟨by decide +kernel, rfl⟩
theorem dX6_felling_75 : At cX6_felling 75 (.istore 4) 2 77 := ⟨by decide +kernel, rfl⟩
theorem dX6_felling_77 : At cX6_felling 77 (.iinc 5 1) 3 80 := ⟨by decide +kernel, rfl⟩
theorem dX6_felling_80 : Br cX6_felling 80 .goto 83 30 := ⟨(-50), by decide +kernel, rfl, by decide⟩
theorem dX6_felling_83 : At cX6_felling 83 (.iload_n 2) 1 84 := ⟨by decide +kernel, rfl⟩
theorem dX6_felling_84 : Br cX6_felling 84 (.ifCond .ne) 87 91 := ⟨(7), by decide +kernel, rfl, by decide⟩
theorem dX6_felling_87 : At cX6_felling 87 (.iload_n 3) 1 88 := ⟨by decide +kernel, rfl⟩
theorem dX6_felling_88 : Br cX6_felling 88 .goto 91 93 := ⟨(5), by decide +kernel, rfl, by decide⟩
theorem dX6_felling_91 : At cX6_felling 91 (.iload 4) 2 93 := ⟨by decide +kernel, rfl⟩
theorem dX6_felling_93 : At cX6_felling 93 (.ireturn) 1 94 := ⟨by decide +kernel, rfl⟩
theorem dX6_areSame_0 : At cX6_areSame 0 (.aload_n 0) 1 1 := ⟨by decide +kernel, rfl⟩
theorem dX6_areSame_1 : At cX6_areSame 1 (.iconst 0) 1 2 := ⟨by decide +kernel, rfl⟩
theorem dX6_areSame_2 : At cX6_areSame 2 (.putfield 54) 3 5 := ⟨by decide +kernel, rfl⟩
theorem dX6_areSame_5 : At cX6_areSame 5 (.aload_n 0) 1 6 := ⟨by decide +kernel, rfl⟩
theorem dX6_areSame_6 : At cX6_areSame 6 (.iload_n 1) 1 7 := ⟨by decide +kernel, rfl⟩
theorem dX6_areSame_7 : At cX6_areSame 7 (.iconst 0) 1 8 := ⟨by decide +kernel, rfl⟩
theorem dX6_areSame_8 : At cX6_areSame 8 (.invokevirtual 80) 3 11 := ⟨by decide +kernel, rfl⟩
theorem dX6_areSame_11 : At cX6_areSame 11 (.iload_n 2) 1 12 := ⟨by decide +kernel, rfl⟩
theorem dX6_areSame_12 : Br cX6_areSame 12 (.ifCond .lt) 15 21 := ⟨(9), by decide +kernel, rfl, by decide⟩
theorem dX6_areSame_15 : At cX6_areSame 15 (.aload_n 0) 1 16 := ⟨by decide +kernel, rfl⟩
theorem dX6_areSame_16 : At cX6_areSame 16 (.iload_n 2) 1 17 := ⟨by decide +kernel, rfl⟩
theorem dX6_areSame_17 : At cX6_areSame 17 (.iconst 0) 1 18 := ⟨by decide +kernel, rfl⟩
theorem dX6_areSame_18 : At cX6_areSame 18 (.invokevirtual 80) 3 21 := ⟨by decide +kernel, rfl⟩
theorem dX6_areSame_21 : At cX6_areSame 21 (.iload 4) 2 23 := ⟨by decide +kernel, rfl⟩
theorem dX6_areSame_23 : Br cX6_areSame 23 (.ifCond .lt) 26 33 := ⟨(10), by decide +kernel, rfl, by decide⟩
theorem dX6_areSame_26 : At cX6_areSame 26 (.aload_n 0) 1 27 := ⟨by decide +kernel, rfl⟩
theorem dX6_areSame_27 : At cX6_areSame 27 (.iload 4) 2 29 := ⟨by decide +kernel, rfl⟩
theorem dX6_areSame_29 : At cX6_areSame 29 (.iconst 1) 1 30 := ⟨by decide +kernel, rfl⟩
theorem dX6_areSame_30 : At cX6_areSame 30 (.invokevirtual 80) 3 33 := ⟨by decide +kernel, rfl⟩
theorem dX6_areSame_33 : At cX6_areSame 33 (.aload_n 0) 1 34 := ⟨by decide +kernel, rfl⟩
theorem dX6_areSame_34 : At cX6_areSame 34 (.iload_n 3) 1 35 := ⟨by decide +kernel, rfl⟩
theorem dX6_areSame_35 : At cX6_areSame 35 (.iconst 1) 1 36 := ⟨by decide +kernel, rfl⟩
theorem dX6_areSame_36 : At cX6_areSame 36 (.invokevirtual 80) 3 39 := ⟨by decide +kernel, rfl⟩
theorem dX6_areSame_39 : At cX6_areSame 39 (.aload_n 0) 1 40 := ⟨by decide +kernel, rfl⟩
theorem dX6_areSame_40 : At cX6_areSame 40 (.getfield 54) 3 43 := ⟨by decide +kernel, rfl⟩
theorem dX6_areSame_43 : Br cX6_areSame 43 (.ifCond .ne) 46 50 := ⟨(7), by decide +kernel, rfl, by decide⟩
theorem dX6_areSame_46 : At cX6_areSame 46 (.iconst 1) 1 47 := ⟨by decide +kernel, rfl⟩
theorem dX6_areSame_47 : Br cX6_areSame 47 .goto 50 51 := ⟨(4), by decide +kernel, rfl, by decide⟩
theorem dX6_areSame_50 : At cX6_areSame 50 (.iconst 0) 1 51 := ⟨by decide +kernel, rfl⟩
theorem dX6_areSame_51 : At cX6_areSame 51 (.ireturn) 1 52 := ⟨by decide +kernel, rfl⟩
theorem dX6_both_0 : At cX6_both 0 (.iload_n 1) 1 1 := ⟨by decide +kernel, rfl⟩
theorem dX6_both_1 : At cX6_both 1 (.invokestatic 102) 3 4 := ⟨by decide +kernel, rfl⟩
theorem dX6_both_4 : Br cX6_both 4 (.ifCond .eq) 7 14 := ⟨(10), by decide +kernel, rfl, by decide⟩
theorem dX6_both_7 : At cX6_both 7 (.iload_n 2) 1 8 := ⟨by decide +kernel, rfl⟩
theorem dX6_both_8 : At cX6_both 8 (.invokestatic 102) 3 11 := ⟨by decide +kernel, rfl⟩
theorem dX6_both_11 : Br cX6_both 11 (.ifCond .ne) 14 16 := ⟨(5), by decide +kernel, rfl, by decide⟩
theorem dX6_both_14 : At cX6_both 14 (.iconst (-1)) 1 15 := ⟨by decide +kernel, rfl⟩
theorem dX6_both_15 : At cX6_both 15 (.ireturn) 1 16 := ⟨by decide +kernel, rfl⟩
theorem dX6_both_16 : At cX6_both 16 (.iload_n 3) 1 17 := ⟨by decide +kernel, rfl⟩
theorem dX6_both_17 : At cX6_both 17 (.iconst 0) 1 18 := ⟨by decide +kernel, rfl⟩
theorem dX6_both_18 : At cX6_both 18 (.iconst 3) 1 19 := ⟨by decide +kernel, rfl⟩
theorem dX6_both_19 : At cX6_both 19 (.invokestatic 61) 3 22 := ⟨by decide +kernel, rfl⟩
theorem dX6_both_22 : Br cX6_both 22 (.ifCond .ne) 25 28 := ⟨(6), by decide +kernel, rfl, by decide⟩
theorem dX6_both_25 : At cX6_both 25 (.bipush (-2)) 2 27 := ⟨by decide +kernel, rfl⟩
theorem dX6_both_27 : At cX6_both 27 (.ireturn) 1 28 := ⟨by decide +kernel, rfl⟩
theorem dX6_both_28 : At cX6_both 28 (.iload_n 3) 1 29 := ⟨by decide +kernel, rfl⟩
theorem dX6_both_29 : At cX6_both 29 (.iconst 2) 1 30 := ⟨by decide +kernel, rfl⟩
theorem dX6_both_30 : Br cX6_both 30 (.if_icmp .ge) 33 67 := ⟨(37), by decide +kernel, rfl, by decide⟩
theorem dX6_both_33 : At cX6_both 33 (.aload_n 0) 1 34 := ⟨by decide +kernel, rfl⟩
theorem dX6_both_34 : At cX6_both 34 (.iload_n 1) 1 35 := ⟨by decide +kernel, rfl⟩
theorem dX6_both_35 : At cX6_both 35 (.iconst 0) 1 36 := ⟨by decide +kernel, rfl⟩
theorem dX6_both_36 : At cX6_both 36 (.invokevirtual 149) 3 39 := ⟨by decide +kernel, rfl⟩
theorem dX6_both_39 : At cX6_both 39 (.aload_n 0) 1 40 := ⟨by decide +kernel, rfl⟩
theorem dX6_both_40 : At cX6_both 40 (.invokevirtual 176) 3 43 := ⟨by decide +kernel, rfl⟩
theorem dX6_both_43 : At cX6_both 43 (.aload_n 0) 1 44 := ⟨by decide +kernel, rfl⟩
theorem dX6_both_44 : At cX6_both 44 (.iload_n 2) 1 45 := ⟨by decide +kernel, rfl⟩
theorem dX6_both_45 : At cX6_both 45 (.iload_n 3) 1 46 := ⟨by decide +kernel, rfl⟩
theorem dX6_both_46 : At cX6_both 46 (.iconst 1) 1 47 := ⟨by decide +kernel, rfl⟩
theorem dX6_both_47 : Br cX6_both 47 (.if_icmp .ne) 50 54 := ⟨(7), by decide +kernel, rfl, by decide⟩
theorem dX6_both_50 : At cX6_both 50 (.iconst 1) 1 51 := ⟨by decide +kernel, rfl⟩
theorem dX6_both_51 : Br cX6_both 51 .goto 54 55 := ⟨(4), by decide +kernel, rfl, by decide⟩
theorem dX6_both_54 : At cX6_both 54 (.iconst 0) 1 55 := ⟨by decide +kernel, rfl⟩
theorem dX6_both_55 : At cX6_both 55 (.invokevirtual 149) 3 58 := ⟨by decide +kernel, rfl⟩
theorem dX6_both_58 : At cX6_both 58 (.aload_n 0) 1 59 := ⟨by decide +kernel, rfl⟩
theorem dX6_both_59 : At cX6_both 59 (.invokevirtual 179) 3 62 := ⟨by decide +kernel, rfl⟩
theorem dX6_both_62 : At cX6_both 62 (.istore 4) 2 64 := ⟨by decide +kernel, rfl⟩
theorem dX6_both_64 : Br cX6_both 64 .goto 67 95 := ⟨(31), by decide +kernel, rfl, by decide⟩
theorem dX6_both_67 : At cX6_both 67 (.iload_n 3) 1 68 := ⟨by decide +kernel, rfl⟩
theorem dX6_both_68 : At cX6_both 68 (.iconst 2) 1 69 := ⟨by decide +kernel, rfl⟩
theorem dX6_both_69 : Br cX6_both 69 (.if_icmp .ne) 72 83 := ⟨(14), by decide +kernel, rfl, by decide⟩
theorem dX6_both_72 : At cX6_both 72 (.aload_n 0) 1 73 := ⟨by decide +kernel, rfl⟩
theorem dX6_both_73 : At cX6_both 73 (.iload_n 1) 1 74 := ⟨by decide +kernel, rfl⟩
theorem dX6_both_74 : At cX6_both 74 (.iload_n 2) 1 75 := ⟨by decide +kernel, rfl⟩
theorem dX6_both_75 : At cX6_both 75 (.iload_n 2) 1 76 := ⟨by decide +kernel, rfl⟩
theorem dX6_both_76 : At cX6_both 76 (.iload_n 1) 1 77 := ⟨by decide +kernel, rfl⟩
theorem dX6_both_77 : At cX6_both 77 (.invokevirtual 183) 3 80 := ⟨by decide +kernel, rfl⟩
theorem dX6_both_80 : Br cX6_both 80 .goto 83 93 := ⟨(13), by decide +kernel, rfl, by decide⟩
theorem dX6_both_83 : At cX6_both 83 (.aload_n 0) 1 84 := ⟨by decide +kernel, rfl⟩
theorem dX6_both_84 : At cX6_both 84 (.iload_n 1) 1 85 := ⟨by decide +kernel, rfl⟩
theorem dX6_both_85 : At cX6_both 85 (.bipush (-6)) 2 87 := ⟨by decide +kernel, rfl⟩
theorem dX6_both_87 : At cX6_both 87 (.iload_n 2) 1 88 := ⟨by decide +kernel, rfl⟩
theorem dX6_both_88 : At cX6_both 88 (.bipush (-6)) 2 90 := ⟨by decide +kernel, rfl⟩
theorem dX6_both_90 : At cX6_both 90 (.invokevirtual 183) 3 93 := ⟨by decide +kernel, rfl⟩
theorem dX6_both_93 : At cX6_both 93 (.istore 4) 2 95 := ⟨by decide +kernel, rfl⟩
theorem dX6_both_95 : At cX6_both 95 (.iload 4) 2 97 := ⟨by decide +kernel, rfl⟩
theorem dX6_both_97 : Br cX6_both 97 (.ifCond .eq) 100 104 := ⟨(7), by decide +kernel, rfl, by decide⟩
theorem dX6_both_100 : At cX6_both 100 (.iconst 1) 1 101 := ⟨by decide +kernel, rfl⟩
theorem dX6_both_101 : Br cX6_both 101 .goto 104 105 := ⟨(4), by decide +kernel, rfl, by decide⟩
theorem dX6_both_104 : At cX6_both 104 (.iconst 0) 1 105 := ⟨by decide +kernel, rfl⟩
theorem dX6_both_105 : At cX6_both 105 (.ireturn) 1 106 := ⟨by decide +kernel, rfl⟩
theorem dX6_cuts_0 : At cX6_cuts 0 (.iload_n 1) 1 1 := ⟨by decide +kernel, rfl⟩
theorem dX6_cuts_1 : At cX6_cuts 1 (.invokestatic 102) 3 4 := ⟨by decide +kernel, rfl⟩
theorem dX6_cuts_4 : Br cX6_cuts 4 (.ifCond .ne) 7 9 := ⟨(5), by decide +kernel, rfl, by decide⟩
theorem dX6_cuts_7 : At cX6_cuts 7 (.iconst (-1)) 1 8 := ⟨by decide +kernel, rfl⟩
theorem dX6_cuts_8 : At cX6_cuts 8 (.ireturn) 1 9 := ⟨by decide +kernel, rfl⟩
theorem dX6_cuts_9 : At cX6_cuts 9 (.aload_n 0) 1 10 := ⟨by decide +kernel, rfl⟩
theorem dX6_cuts_10 : At cX6_cuts 10 (.iload_n 1) 1 11 := ⟨by decide +kernel, rfl⟩
theorem dX6_cuts_11 : At cX6_cuts 11 (.invokevirtual 65) 3 14 := ⟨by decide +kernel, rfl⟩
theorem dX6_cuts_14 : At cX6_cuts 14 (.istore_n 2) 1 15 := ⟨by decide +kernel, rfl⟩
theorem dX6_cuts_15 : At cX6_cuts 15 (.iconst 0) 1 16 := ⟨by decide +kernel, rfl⟩
theorem dX6_cuts_16 : At cX6_cuts 16 (.istore_n 3) 1 17 := ⟨by decide +kernel, rfl⟩
theorem dX6_cuts_17 : At cX6_cuts 17 (.iload_n 3) 1 18 := ⟨by decide +kernel, rfl⟩
theorem dX6_cuts_18 : At cX6_cuts 18 (.iload_n 2) 1 19 := ⟨by decide +kernel, rfl⟩
theorem dX6_cuts_19 : Br cX6_cuts 19 (.if_icmp .gt) 22 182 := ⟨(163), by decide +kernel, rfl, by decide⟩
theorem dX6_cuts_22 : At cX6_cuts 22 (.iconst 0) 1 23 := ⟨by decide +kernel, rfl⟩
theorem dX6_cuts_23 : At cX6_cuts 23 (.istore 4) 2 25 := ⟨by decide +kernel, rfl⟩
theorem dX6_cuts_25 : At cX6_cuts 25 (.iload 4) 2 27 := ⟨by decide +kernel, rfl⟩
theorem dX6_cuts_27 : At cX6_cuts 27 (.iload_n 3) 1 28 := ⟨by decide +kernel, rfl⟩
theorem dX6_cuts_28 : At cX6_cuts 28 (.iadd) 1 29 := ⟨by decide +kernel, rfl⟩
theorem dX6_cuts_29 : At cX6_cuts 29 (.iload_n 2) 1 30 := ⟨by decide +kernel, rfl⟩
theorem dX6_cuts_30 : Br cX6_cuts 30 (.if_icmp .gt) 33 176 := ⟨(146), by decide +kernel, rfl, by decide⟩
theorem dX6_cuts_33 : At cX6_cuts 33 (.iload 4) 2 35 := ⟨by decide +kernel, rfl⟩
theorem dX6_cuts_35 : At cX6_cuts 35 (.iload_n 3) 1 36 := ⟨by decide +kernel, rfl⟩
theorem dX6_cuts_36 : At cX6_cuts 36 (.iadd) 1 37 := ⟨by decide +kernel, rfl⟩
theorem dX6_cuts_37 : At cX6_cuts 37 (.istore 5) 2 39 := ⟨by decide +kernel, rfl⟩
theorem dX6_cuts_39 : At cX6_cuts 39 (.iload_n 3) 1 40 := ⟨by decide +kernel, rfl⟩
theorem dX6_cuts_40 : At cX6_cuts 40 (.iconst 2) 1 41 := ⟨by decide +kernel, rfl⟩
theorem dX6_cuts_41 : Br cX6_cuts 41 (.if_icmp .ge) 44 48 := ⟨(7), by decide +kernel, rfl, by decide⟩
theorem dX6_cuts_44 : At cX6_cuts 44 (.iconst 0) 1 45 := ⟨by decide +kernel, rfl⟩
theorem dX6_cuts_45 : Br cX6_cuts 45 .goto 48 63 := ⟨(18), by decide +kernel, rfl, by decide⟩
theorem dX6_cuts_48 : At cX6_cuts 48 (.aload_n 0) 1 49 := ⟨by decide +kernel, rfl⟩
theorem dX6_cuts_49 : At cX6_cuts 49 (.getfield 47) 3 52 := ⟨by decide +kernel, rfl⟩
theorem dX6_cuts_52 : At cX6_cuts 52 (.bipush 121) 2 54 := ⟨by decide +kernel, rfl⟩
theorem dX6_cuts_54 : At cX6_cuts 54 (.iload 4) 2 56 := ⟨by decide +kernel, rfl⟩
theorem dX6_cuts_56 : At cX6_cuts 56 (.iconst 1) 1 57 := ⟨by decide +kernel, rfl⟩
theorem dX6_cuts_57 : At cX6_cuts 57 (.iadd) 1 58 := ⟨by decide +kernel, rfl⟩
theorem dX6_cuts_58 : At cX6_cuts 58 (.imul) 1 59 := ⟨by decide +kernel, rfl⟩
theorem dX6_cuts_59 : At cX6_cuts 59 (.iload 5) 2 61 := ⟨by decide +kernel, rfl⟩
theorem dX6_cuts_61 : At cX6_cuts 61 (.iadd) 1 62 := ⟨by decide +kernel, rfl⟩
theorem dX6_cuts_62 : At cX6_cuts 62 (.iaload) 1 63 := ⟨by decide +kernel, rfl⟩
theorem dX6_cuts_63 : At cX6_cuts 63 (.istore 6) 2 65 := ⟨by decide +kernel, rfl⟩
theorem dX6_cuts_65 : At cX6_cuts 65 (.iload 4) 2 67 := ⟨by decide +kernel, rfl⟩
theorem dX6_cuts_67 : At cX6_cuts 67 (.iconst 1) 1 68 := ⟨by decide +kernel, rfl⟩
theorem dX6_cuts_68 : At cX6_cuts 68 (.iadd) 1 69 := ⟨by decide +kernel, rfl⟩
theorem dX6_cuts_69 : At cX6_cuts 69 (.istore 7) 2 71 := ⟨by decide +kernel, rfl⟩
theorem dX6_cuts_71 : At cX6_cuts 71 (.iload 7) 2 73 := ⟨by decide +kernel, rfl⟩
theorem dX6_cuts_73 : At cX6_cuts 73 (.iload 5) 2 75 := ⟨by decide +kernel, rfl⟩
theorem dX6_cuts_75 : Br cX6_cuts 75 (.if_icmp .ge) 78 155 := ⟨(80), by decide +kernel, rfl, by decide⟩
theorem dX6_cuts_78 : At cX6_cuts 78 (.aload_n 0) 1 79 := ⟨by decide +kernel, rfl⟩
theorem dX6_cuts_79 : At cX6_cuts 79 (.iload_n 1) 1 80 := ⟨by decide +kernel, rfl⟩
theorem dX6_cuts_80 : At cX6_cuts 80 (.iload 4) 2 82 := ⟨by decide +kernel, rfl⟩
theorem dX6_cuts_82 : At cX6_cuts 82 (.invokevirtual 69) 3 85 := ⟨by decide +kernel, rfl⟩
theorem dX6_cuts_85 : At cX6_cuts 85 (.aload_n 0) 1 86 := ⟨by decide +kernel, rfl⟩
theorem dX6_cuts_86 : At cX6_cuts 86 (.iload_n 1) 1 87 := ⟨by decide +kernel, rfl⟩
theorem dX6_cuts_87 : At cX6_cuts 87 (.iload 7) 2 89 := ⟨by decide +kernel, rfl⟩
theorem dX6_cuts_89 : At cX6_cuts 89 (.invokevirtual 69) 3 92 := ⟨by decide +kernel, rfl⟩
theorem dX6_cuts_92 : At cX6_cuts 92 (.invokestatic 57) 3 95 := ⟨by decide +kernel, rfl⟩
theorem dX6_cuts_95 : Br cX6_cuts 95 (.ifCond .eq) 98 149 := ⟨(54), by decide +kernel, rfl, by decide⟩
theorem dX6_cuts_98 : At cX6_cuts 98 (.iconst 2) 1 99 := ⟨by decide +kernel, rfl⟩
theorem dX6_cuts_99 : At cX6_cuts 99 (.aload_n 0) 1 100 := ⟨by decide +kernel, rfl⟩
theorem dX6_cuts_100 : At cX6_cuts 100 (.getfield 47) 3 103 := ⟨by decide +kernel, rfl⟩
theorem dX6_cuts_103 : At cX6_cuts 103 (.bipush 121) 2 105 := ⟨by decide +kernel, rfl⟩
theorem dX6_cuts_105 : At cX6_cuts 105 (.iload 4) 2 107 := ⟨by decide +kernel, rfl⟩
theorem dX6_cuts_107 : At cX6_cuts 107 (.iconst 1) 1 108 := ⟨by decide +kernel, rfl⟩
theorem dX6_cuts_108 : At cX6_cuts 108 (.iadd) 1 109 := ⟨by decide +kernel, rfl⟩
theorem dX6_cuts_109 : At cX6_cuts 109 (.imul) 1 110 := ⟨by decide +kernel, rfl⟩
theorem dX6_cuts_110 : At cX6_cuts 110 (.iload 7) 2 112 := ⟨by decide +kernel, rfl⟩
theorem dX6_cuts_112 : At cX6_cuts 112 (.iadd) 1 113 := ⟨by decide +kernel, rfl⟩
theorem dX6_cuts_113 : At cX6_cuts 113 (.iaload) 1 114 := ⟨by decide +kernel, rfl⟩
theorem dX6_cuts_114 : At cX6_cuts 114 (.iadd) 1 115 := ⟨by decide +kernel, rfl⟩
theorem dX6_cuts_115 : At cX6_cuts 115 (.aload_n 0) 1 116 := ⟨by decide +kernel, rfl⟩
theorem dX6_cuts_116 : At cX6_cuts 116 (.getfield 47) 3 119 := ⟨by decide +kernel, rfl⟩
theorem dX6_cuts_119 : At cX6_cuts 119 (.bipush 121) 2 121 := ⟨by decide +kernel, rfl⟩
theorem dX6_cuts_121 : At cX6_cuts 121 (.iload 7) 2 123 := ⟨by decide +kernel, rfl⟩
theorem dX6_cuts_123 : At cX6_cuts 123 (.iconst 1) 1 124 := ⟨by decide +kernel, rfl⟩
theorem dX6_cuts_124 : At cX6_cuts 124 (.iadd) 1 125 := ⟨by decide +kernel, rfl⟩
theorem dX6_cuts_125 : At cX6_cuts 125 (.imul) 1 126 := ⟨by decide +kernel, rfl⟩
theorem dX6_cuts_126 : At cX6_cuts 126 (.iload 5) 2 128 := ⟨by decide +kernel, rfl⟩
theorem dX6_cuts_128 : At cX6_cuts 128 (.iadd) 1 129 := ⟨by decide +kernel, rfl⟩
theorem dX6_cuts_129 : At cX6_cuts 129 (.iaload) 1 130 := ⟨by decide +kernel, rfl⟩
theorem dX6_cuts_130 : At cX6_cuts 130 (.iadd) 1 131 := ⟨by decide +kernel, rfl⟩
theorem dX6_cuts_131 : At cX6_cuts 131 (.istore 8) 2 133 := ⟨by decide +kernel, rfl⟩
theorem dX6_cuts_133 : At cX6_cuts 133 (.iload 8) 2 135 := ⟨by decide +kernel, rfl⟩
theorem dX6_cuts_135 : At cX6_cuts 135 (.iload 6) 2 137 := ⟨by decide +kernel, rfl⟩
theorem dX6_cuts_137 : Br cX6_cuts 137 (.if_icmp .le) 140 145 := ⟨(8), by decide +kernel, rfl, by decide⟩
theorem dX6_cuts_140 : At cX6_cuts 140 (.iload 8) 2 142 := ⟨by decide +kernel, rfl⟩
theorem dX6_cuts_142 : Br cX6_cuts 142 .goto 145 147 := ⟨(5), by decide +kernel, rfl, by decide⟩
theorem dX6_cuts_145 : At cX6_cuts 145 (.iload 6) 2 147 := ⟨by decide +kernel, rfl⟩
theorem dX6_cuts_147 : At cX6_cuts 147 (.istore 6) 2 149 := ⟨by decide +kernel, rfl⟩
theorem dX6_cuts_149 : At cX6_cuts 149 (.iinc 7 1) 3 152 := ⟨by decide +kernel, rfl⟩
theorem dX6_cuts_152 : Br cX6_cuts 152 .goto 155 71 := ⟨(-81), by decide +kernel, rfl, by decide⟩
theorem dX6_cuts_155 : At cX6_cuts 155 (.aload_n 0) 1 156 := ⟨by decide +kernel, rfl⟩
theorem dX6_cuts_156 : At cX6_cuts 156 (.getfield 47) 3 159 := ⟨by decide +kernel, rfl⟩
theorem dX6_cuts_159 : At cX6_cuts 159 (.bipush 121) 2 161 := ⟨by decide +kernel, rfl⟩
theorem dX6_cuts_161 : At cX6_cuts 161 (.iload 4) 2 163 := ⟨by decide +kernel, rfl⟩
theorem dX6_cuts_163 : At cX6_cuts 163 (.imul) 1 164 := ⟨by decide +kernel, rfl⟩
theorem dX6_cuts_164 : At cX6_cuts 164 (.iload 5) 2 166 := ⟨by decide +kernel, rfl⟩
theorem dX6_cuts_166 : At cX6_cuts 166 (.iadd) 1 167 := ⟨by decide +kernel, rfl⟩
theorem dX6_cuts_167 : At cX6_cuts 167 (.iload 6) 2 169 := ⟨by decide +kernel, rfl⟩
theorem dX6_cuts_169 : At cX6_cuts 169 (.iastore) 1 170 := ⟨by decide +kernel, rfl⟩
theorem dX6_cuts_170 : At cX6_cuts 170 (.iinc 4 1) 3 173 := ⟨by decide +kernel, rfl⟩
theorem dX6_cuts_173 : Br cX6_cuts 173 .goto 176 25 := ⟨(-148), by decide +kernel, rfl, by decide⟩
theorem dX6_cuts_176 : At cX6_cuts 176 (.iinc 3 1) 3 179 := ⟨by decide +kernel, rfl⟩
theorem dX6_cuts_179 : Br cX6_cuts 179 .goto 182 17 := ⟨(-162), by decide +kernel, rfl, by decide⟩
theorem dX6_cuts_182 : At cX6_cuts 182 (.iload_n 2) 1 183 := ⟨by decide +kernel, rfl⟩
theorem dX6_cuts_183 : At cX6_cuts 183 (.aload_n 0) 1 184 := ⟨by decide +kernel, rfl⟩
theorem dX6_cuts_184 : At cX6_cuts 184 (.getfield 47) 3 187 := ⟨by decide +kernel, rfl⟩
theorem dX6_cuts_187 : At cX6_cuts 187 (.iload_n 2) 1 188 := ⟨by decide +kernel, rfl⟩
theorem dX6_cuts_188 : At cX6_cuts 188 (.iaload) 1 189 := ⟨by decide +kernel, rfl⟩
theorem dX6_cuts_189 : At cX6_cuts 189 (.isub) 1 190 := ⟨by decide +kernel, rfl⟩
theorem dX6_cuts_190 : At cX6_cuts 190 (.ireturn) 1 191 := ⟨by decide +kernel, rfl⟩
theorem dX6_swapped_0 : At cX6_swapped 0 (.iconst 0) 1 1 := ⟨by decide +kernel, rfl⟩
theorem dX6_swapped_1 : At cX6_swapped 1 (.istore_n 3) 1 2 := ⟨by decide +kernel, rfl⟩
theorem dX6_swapped_2 : At cX6_swapped 2 (.iconst 0) 1 3 := ⟨by decide +kernel, rfl⟩
theorem dX6_swapped_3 : At cX6_swapped 3 (.istore 4) 2 5 := ⟨by decide +kernel, rfl⟩
theorem dX6_swapped_5 : At cX6_swapped 5 (.iload 4) 2 7 := ⟨by decide +kernel, rfl⟩
theorem dX6_swapped_7 : At cX6_swapped 7 (.iconst 4) 1 8 := ⟨by decide +kernel, rfl⟩
theorem dX6_swapped_8 : Br cX6_swapped 8 (.if_icmp .ge) 11 32 := ⟨(24), by decide +kernel, rfl, by decide⟩
theorem dX6_swapped_11 : At cX6_swapped 11 (.aload_n 0) 1 12 := ⟨by decide +kernel, rfl⟩
theorem dX6_swapped_12 : At cX6_swapped 12 (.iload 4) 2 14 := ⟨by decide +kernel, rfl⟩
theorem dX6_swapped_14 : At cX6_swapped 14 (.iload_n 1) 1 15 := ⟨by decide +kernel, rfl⟩
theorem dX6_swapped_15 : At cX6_swapped 15 (.iload_n 2) 1 16 := ⟨by decide +kernel, rfl⟩
theorem dX6_swapped_16 : At cX6_swapped 16 (.invokevirtual 113) 3 19 := ⟨by decide +kernel, rfl⟩
theorem dX6_swapped_19 : At cX6_swapped 19 (.iload_n 3) 1 20 := ⟨by decide +kernel, rfl⟩
theorem dX6_swapped_20 : At cX6_swapped 20 (.aload_n 0) 1 21 := ⟨by decide +kernel, rfl⟩
theorem dX6_swapped_21 : At cX6_swapped 21 (.getfield 54) 3 24 := ⟨by decide +kernel, rfl⟩
theorem dX6_swapped_24 : At cX6_swapped 24 (.iadd) 1 25 := ⟨by decide +kernel, rfl⟩
theorem dX6_swapped_25 : At cX6_swapped 25 (.istore_n 3) 1 26 := ⟨by decide +kernel, rfl⟩
theorem dX6_swapped_26 : At cX6_swapped 26 (.iinc 4 1) 3 29 := ⟨by decide +kernel, rfl⟩
theorem dX6_swapped_29 : Br cX6_swapped 29 .goto 32 5 := ⟨(-24), by decide +kernel, rfl, by decide⟩
theorem dX6_swapped_32 : At cX6_swapped 32 (.iload_n 3) 1 33 := ⟨by decide +kernel, rfl⟩
theorem dX6_swapped_33 : At cX6_swapped 33 (.ireturn) 1 34 := ⟨by decide +kernel, rfl⟩
theorem dX6_ifSwapped_0 : At cX6_ifSwapped 0 (.iload_n 1) 1 1 := ⟨by decide +kernel, rfl⟩
theorem dX6_ifSwapped_1 : At cX6_ifSwapped 1 (.iconst 0) 1 2 := ⟨by decide +kernel, rfl⟩
theorem dX6_ifSwapped_2 : At cX6_ifSwapped 2 (.iconst 4) 1 3 := ⟨by decide +kernel, rfl⟩
theorem dX6_ifSwapped_3 : At cX6_ifSwapped 3 (.invokestatic 61) 3 6 := ⟨by decide +kernel, rfl⟩
theorem dX6_ifSwapped_6 : Br cX6_ifSwapped 6 (.ifCond .ne) 9 11 := ⟨(5), by decide +kernel, rfl, by decide⟩
theorem dX6_ifSwapped_9 : At cX6_ifSwapped 9 (.iconst (-1)) 1 10 := ⟨by decide +kernel, rfl⟩
theorem dX6_ifSwapped_10 : At cX6_ifSwapped 10 (.ireturn) 1 11 := ⟨by decide +kernel, rfl⟩
theorem dX6_ifSwapped_11 : At cX6_ifSwapped 11 (.iload_n 2) 1 12 := ⟨by decide +kernel, rfl⟩
theorem dX6_ifSwapped_12 : At cX6_ifSwapped 12 (.iconst 0) 1 13 := ⟨by decide +kernel, rfl⟩
theorem dX6_ifSwapped_13 : At cX6_ifSwapped 13 (.iconst 1) 1 14 := ⟨by decide +kernel, rfl⟩
theorem dX6_ifSwapped_14 : At cX6_ifSwapped 14 (.invokestatic 61) 3 17 := ⟨by decide +kernel, rfl⟩
theorem dX6_ifSwapped_17 : Br cX6_ifSwapped 17 (.ifCond .eq) 20 29 := ⟨(12), by decide +kernel, rfl, by decide⟩
theorem dX6_ifSwapped_20 : At cX6_ifSwapped 20 (.aload_n 0) 1 21 := ⟨by decide +kernel, rfl⟩
theorem dX6_ifSwapped_21 : At cX6_ifSwapped 21 (.iload_n 1) 1 22 := ⟨by decide +kernel, rfl⟩
theorem dX6_ifSwapped_22 : At cX6_ifSwapped 22 (.iload_n 2) 1 23 := ⟨by decide +kernel, rfl⟩
theorem dX6_ifSwapped_23 : At cX6_ifSwapped 23 (.invokevirtual 187) 3 26 := ⟨by decide +kernel, rfl⟩
theorem dX6_ifSwapped_26 : Br cX6_ifSwapped 26 .goto 29 31 := ⟨(5), by decide +kernel, rfl, by decide⟩
theorem dX6_ifSwapped_29 : At cX6_ifSwapped 29 (.bipush (-2)) 2 31 := ⟨by decide +kernel, rfl⟩
theorem dX6_ifSwapped_31 : At cX6_ifSwapped 31 (.ireturn) 1 32 := ⟨by decide +kernel, rfl⟩
theorem dX6_bestSwap_0 : At cX6_bestSwap 0 (.iload_n 1) 1 1 := ⟨by decide +kernel, rfl⟩
theorem dX6_bestSwap_1 : At cX6_bestSwap 1 (.iconst 0) 1 2 := ⟨by decide +kernel, rfl⟩
theorem dX6_bestSwap_2 : At cX6_bestSwap 2 (.iconst 2) 1 3 := ⟨by decide +kernel, rfl⟩
theorem dX6_bestSwap_3 : At cX6_bestSwap 3 (.invokestatic 61) 3 6 := ⟨by decide +kernel, rfl⟩
theorem dX6_bestSwap_6 : Br cX6_bestSwap 6 (.ifCond .ne) 9 12 := ⟨(6), by decide +kernel, rfl, by decide⟩
theorem dX6_bestSwap_9 : At cX6_bestSwap 9 (.bipush (-2)) 2 11 := ⟨by decide +kernel, rfl⟩
theorem dX6_bestSwap_11 : At cX6_bestSwap 11 (.ireturn) 1 12 := ⟨by decide +kernel, rfl⟩
theorem dX6_bestSwap_12 : At cX6_bestSwap 12 (.iconst 0) 1 13 := ⟨by decide +kernel, rfl⟩
theorem dX6_bestSwap_13 : At cX6_bestSwap 13 (.istore_n 2) 1 14 := ⟨by decide +kernel, rfl⟩
theorem dX6_bestSwap_14 : At cX6_bestSwap 14 (.aload_n 0) 1 15 := ⟨by decide +kernel, rfl⟩
theorem dX6_bestSwap_15 : At cX6_bestSwap 15 (.iconst 0) 1 16 := ⟨by decide +kernel, rfl⟩
theorem dX6_bestSwap_16 : At cX6_bestSwap 16 (.iconst 0) 1 17 := ⟨by decide +kernel, rfl⟩
theorem dX6_bestSwap_17 : At cX6_bestSwap 17 (.invokevirtual 187) 3 20 := ⟨by decide +kernel, rfl⟩
theorem dX6_bestSwap_20 : At cX6_bestSwap 20 (.istore_n 3) 1 21 := ⟨by decide +kernel, rfl⟩
theorem dX6_bestSwap_21 : At cX6_bestSwap 21 (.iconst 1) 1 22 := ⟨by decide +kernel, rfl⟩
theorem dX6_bestSwap_22 : At cX6_bestSwap 22 (.istore 4) 2 24 := ⟨by decide +kernel, rfl⟩
theorem dX6_bestSwap_24 : At cX6_bestSwap 24 (.iload 4) 2 26 := ⟨by decide +kernel, rfl⟩
theorem dX6_bestSwap_26 : At cX6_bestSwap 26 (.bipush 10) 2 28 := ⟨by decide +kernel, rfl⟩
theorem dX6_bestSwap_28 : Br cX6_bestSwap 28 (.if_icmp .ge) 31 77 := ⟨(49), by decide +kernel, rfl, by decide⟩
theorem dX6_bestSwap_31 : At cX6_bestSwap 31 (.aload_n 0) 1 32 := ⟨by decide +kernel, rfl⟩
theorem dX6_bestSwap_32 : At cX6_bestSwap 32 (.iload 4) 2 34 := ⟨by decide +kernel, rfl⟩
theorem dX6_bestSwap_34 : At cX6_bestSwap 34 (.iconst 2) 1 35 := ⟨by decide +kernel, rfl⟩
theorem dX6_bestSwap_35 : At cX6_bestSwap 35 (.idiv) 1 36 := ⟨by decide +kernel, rfl⟩
theorem dX6_bestSwap_36 : At cX6_bestSwap 36 (.iload 4) 2 38 := ⟨by decide +kernel, rfl⟩
theorem dX6_bestSwap_38 : At cX6_bestSwap 38 (.iconst 2) 1 39 := ⟨by decide +kernel, rfl⟩
theorem dX6_bestSwap_39 : At cX6_bestSwap 39 (.irem) 1 40 := ⟨by decide +kernel, rfl⟩
theorem dX6_bestSwap_40 : At cX6_bestSwap 40 (.invokevirtual 187) 3 43 := ⟨by decide +kernel, rfl⟩
theorem dX6_bestSwap_43 : At cX6_bestSwap 43 (.istore 5) 2 45 := ⟨by decide +kernel, rfl⟩
theorem dX6_bestSwap_45 : At cX6_bestSwap 45 (.iload 5) 2 47 := ⟨by decide +kernel, rfl⟩
theorem dX6_bestSwap_47 : At cX6_bestSwap 47 (.iload_n 3) 1 48 := ⟨by decide +kernel, rfl⟩
theorem dX6_bestSwap_48 : Br cX6_bestSwap 48 (.if_icmp .ge) 51 56 := ⟨(8), by decide +kernel, rfl, by decide⟩
theorem dX6_bestSwap_51 : At cX6_bestSwap 51 (.iload 4) 2 53 := ⟨by decide +kernel, rfl⟩
theorem dX6_bestSwap_53 : Br cX6_bestSwap 53 .goto 56 57 := ⟨(4), by decide +kernel, rfl, by decide⟩
theorem dX6_bestSwap_56 : At cX6_bestSwap 56 (.iload_n 2) 1 57 := ⟨by decide +kernel, rfl⟩
theorem dX6_bestSwap_57 : At cX6_bestSwap 57 (.istore_n 2) 1 58 := ⟨by decide +kernel, rfl⟩
theorem dX6_bestSwap_58 : At cX6_bestSwap 58 (.iload 5) 2 60 := ⟨by decide +kernel, rfl⟩
theorem dX6_bestSwap_60 : At cX6_bestSwap 60 (.iload_n 3) 1 61 := ⟨by decide +kernel, rfl⟩
theorem dX6_bestSwap_61 : Br cX6_bestSwap 61 (.if_icmp .ge) 64 69 := ⟨(8), by decide +kernel, rfl, by decide⟩
theorem dX6_bestSwap_64 : At cX6_bestSwap 64 (.iload 5) 2 66 := ⟨by decide +kernel, rfl⟩
theorem dX6_bestSwap_66 : Br cX6_bestSwap 66 .goto 69 70 := ⟨(4), by decide +kernel, rfl, by decide⟩
theorem dX6_bestSwap_69 : At cX6_bestSwap 69 (.iload_n 3) 1 70 := ⟨by decide +kernel, rfl⟩
theorem dX6_bestSwap_70 : At cX6_bestSwap 70 (.istore_n 3) 1 71 := ⟨by decide +kernel, rfl⟩
theorem dX6_bestSwap_71 : At cX6_bestSwap 71 (.iinc 4 1) 3 74 := ⟨by decide +kernel, rfl⟩
theorem dX6_bestSwap_74 : Br cX6_bestSwap 74 .goto 77 24 := ⟨(-50), by decide +kernel, rfl, by decide⟩
theorem dX6_bestSwap_77 : At cX6_bestSwap 77 (.iload_n 1) 1 78 := ⟨by decide +kernel, rfl⟩
theorem dX6_bestSwap_78 : Br cX6_bestSwap 78 (.ifCond .ne) 81 87 := ⟨(9), by decide +kernel, rfl, by decide⟩
theorem dX6_bestSwap_81 : At cX6_bestSwap 81 (.iload_n 2) 1 82 := ⟨by decide +kernel, rfl⟩
theorem dX6_bestSwap_82 : At cX6_bestSwap 82 (.iconst 2) 1 83 := ⟨by decide +kernel, rfl⟩
theorem dX6_bestSwap_83 : At cX6_bestSwap 83 (.idiv) 1 84 := ⟨by decide +kernel, rfl⟩
theorem dX6_bestSwap_84 : Br cX6_bestSwap 84 .goto 87 99 := ⟨(15), by decide +kernel, rfl, by decide⟩
theorem dX6_bestSwap_87 : At cX6_bestSwap 87 (.iload_n 1) 1 88 := ⟨by decide +kernel, rfl⟩
theorem dX6_bestSwap_88 : At cX6_bestSwap 88 (.iconst 1) 1 89 := ⟨by decide +kernel, rfl⟩
theorem dX6_bestSwap_89 : Br cX6_bestSwap 89 (.if_icmp .ne) 92 98 := ⟨(9), by decide +kernel, rfl, by decide⟩
theorem dX6_bestSwap_92 : At cX6_bestSwap 92 (.iload_n 2) 1 93 := ⟨by decide +kernel, rfl⟩
theorem dX6_bestSwap_93 : At cX6_bestSwap 93 (.iconst 2) 1 94 := ⟨by decide +kernel, rfl⟩
theorem dX6_bestSwap_94 : At cX6_bestSwap 94 (.irem) 1 95 := ⟨by decide +kernel, rfl⟩
theorem dX6_bestSwap_95 : Br cX6_bestSwap 95 .goto 98 99 := ⟨(4), by decide +kernel, rfl, by decide⟩
theorem dX6_bestSwap_98 : At cX6_bestSwap 98 (.iload_n 3) 1 99 := ⟨by decide +kernel, rfl⟩
theorem dX6_bestSwap_99 : At cX6_bestSwap 99 (.ireturn) 1 100 := ⟨by decide +kernel, rfl⟩
theorem dX6_undo_0 : At cX6_undo 0 (.aload_n 0) 1 1 := ⟨by decide +kernel, rfl⟩
theorem dX6_undo_1 : At cX6_undo 1 (.getfield 50) 3 4 := ⟨by decide +kernel, rfl⟩
theorem dX6_undo_4 : Br cX6_undo 4 (.ifCond .ne) 7 10 := ⟨(6), by decide +kernel, rfl, by decide⟩
theorem dX6_undo_7 : At cX6_undo 7 (.bipush (-5)) 2 9 := ⟨by decide +kernel, rfl⟩
theorem dX6_undo_9 : At cX6_undo 9 (.ireturn) 1 10 := ⟨by decide +kernel, rfl⟩
theorem dX6_undo_10 : At cX6_undo 10 (.aload_n 0) 1 11 := ⟨by decide +kernel, rfl⟩
theorem dX6_undo_11 : At cX6_undo 11 (.dup) 1 12 := ⟨by decide +kernel, rfl⟩
theorem dX6_undo_12 : At cX6_undo 12 (.getfield 50) 3 15 := ⟨by decide +kernel, rfl⟩
theorem dX6_undo_15 : At cX6_undo 15 (.iconst 1) 1 16 := ⟨by decide +kernel, rfl⟩
theorem dX6_undo_16 : At cX6_undo 16 (.isub) 1 17 := ⟨by decide +kernel, rfl⟩
theorem dX6_undo_17 : At cX6_undo 17 (.putfield 50) 3 20 := ⟨by decide +kernel, rfl⟩
theorem dX6_undo_20 : At cX6_undo 20 (.iconst 0) 1 21 := ⟨by decide +kernel, rfl⟩
theorem dX6_undo_21 : At cX6_undo 21 (.istore_n 1) 1 22 := ⟨by decide +kernel, rfl⟩
theorem dX6_undo_22 : At cX6_undo 22 (.iload_n 1) 1 23 := ⟨by decide +kernel, rfl⟩
theorem dX6_undo_23 : At cX6_undo 23 (.sipush 490) 3 26 := ⟨by decide +kernel, rfl⟩
theorem dX6_undo_26 : Br cX6_undo 26 (.if_icmp .ge) 29 56 := ⟨(30), by decide +kernel, rfl, by decide⟩
theorem dX6_undo_29 : At cX6_undo 29 (.aload_n 0) 1 30 := ⟨by decide +kernel, rfl⟩
theorem dX6_undo_30 : At cX6_undo 30 (.getfield 7) 3 33 := ⟨by decide +kernel, rfl⟩
theorem dX6_undo_33 : At cX6_undo 33 (.iload_n 1) 1 34 := ⟨by decide +kernel, rfl⟩
theorem dX6_undo_34 : At cX6_undo 34 (.aload_n 0) 1 35 := ⟨by decide +kernel, rfl⟩
theorem dX6_undo_35 : At cX6_undo 35 (.getfield 13) 3 38 := ⟨by decide +kernel, rfl⟩
theorem dX6_undo_38 : At cX6_undo 38 (.aload_n 0) 1 39 := ⟨by decide +kernel, rfl⟩
theorem dX6_undo_39 : At cX6_undo 39 (.getfield 50) 3 42 := ⟨by decide +kernel, rfl⟩
theorem dX6_undo_42 : At cX6_undo 42 (.sipush 490) 3 45 := ⟨by decide +kernel, rfl⟩
theorem dX6_undo_45 : At cX6_undo 45 (.imul) 1 46 := ⟨by decide +kernel, rfl⟩
theorem dX6_undo_46 : At cX6_undo 46 (.iload_n 1) 1 47 := ⟨by decide +kernel, rfl⟩
theorem dX6_undo_47 : At cX6_undo 47 (.iadd) 1 48 := ⟨by decide +kernel, rfl⟩
theorem dX6_undo_48 : At cX6_undo 48 (.iaload) 1 49 := ⟨by decide +kernel, rfl⟩
theorem dX6_undo_49 : At cX6_undo 49 (.iastore) 1 50 := ⟨by decide +kernel, rfl⟩
theorem dX6_undo_50 : At cX6_undo 50 (.iinc 1 1) 3 53 := ⟨by decide +kernel, rfl⟩
theorem dX6_undo_53 : Br cX6_undo 53 .goto 56 22 := ⟨(-31), by decide +kernel, rfl, by decide⟩
theorem dX6_undo_56 : At cX6_undo 56 (.aload_n 0) 1 57 := ⟨by decide +kernel, rfl⟩
theorem dX6_undo_57 : At cX6_undo 57 (.getfield 50) 3 60 := ⟨by decide +kernel, rfl⟩
theorem dX6_undo_60 : At cX6_undo 60 (.ireturn) 1 61 := ⟨by decide +kernel, rfl⟩
theorem dX6_save_0 : At cX6_save 0 (.iload_n 1) 1 1 := ⟨by decide +kernel, rfl⟩
theorem dX6_save_1 : At cX6_save 1 (.iconst 0) 1 2 := ⟨by decide +kernel, rfl⟩
theorem dX6_save_2 : At cX6_save 2 (.iconst 1) 1 3 := ⟨by decide +kernel, rfl⟩
theorem dX6_save_3 : At cX6_save 3 (.invokestatic 61) 3 6 := ⟨by decide +kernel, rfl⟩
theorem dX6_save_6 : Br cX6_save 6 (.ifCond .ne) 9 12 := ⟨(6), by decide +kernel, rfl, by decide⟩
theorem dX6_save_9 : At cX6_save 9 (.bipush (-2)) 2 11 := ⟨by decide +kernel, rfl⟩
theorem dX6_save_11 : At cX6_save 11 (.ireturn) 1 12 := ⟨by decide +kernel, rfl⟩
theorem dX6_save_12 : At cX6_save 12 (.iconst 0) 1 13 := ⟨by decide +kernel, rfl⟩
theorem dX6_save_13 : At cX6_save 13 (.istore_n 2) 1 14 := ⟨by decide +kernel, rfl⟩
theorem dX6_save_14 : At cX6_save 14 (.iload_n 2) 1 15 := ⟨by decide +kernel, rfl⟩
theorem dX6_save_15 : At cX6_save 15 (.sipush 490) 3 18 := ⟨by decide +kernel, rfl⟩
theorem dX6_save_18 : Br cX6_save 18 (.if_icmp .ge) 21 45 := ⟨(27), by decide +kernel, rfl, by decide⟩
theorem dX6_save_21 : At cX6_save 21 (.aload_n 0) 1 22 := ⟨by decide +kernel, rfl⟩
theorem dX6_save_22 : At cX6_save 22 (.getfield 16) 3 25 := ⟨by decide +kernel, rfl⟩
theorem dX6_save_25 : At cX6_save 25 (.iload_n 1) 1 26 := ⟨by decide +kernel, rfl⟩
theorem dX6_save_26 : At cX6_save 26 (.sipush 490) 3 29 := ⟨by decide +kernel, rfl⟩
theorem dX6_save_29 : At cX6_save 29 (.imul) 1 30 := ⟨by decide +kernel, rfl⟩
theorem dX6_save_30 : At cX6_save 30 (.iload_n 2) 1 31 := ⟨by decide +kernel, rfl⟩
theorem dX6_save_31 : At cX6_save 31 (.iadd) 1 32 := ⟨by decide +kernel, rfl⟩
theorem dX6_save_32 : At cX6_save 32 (.aload_n 0) 1 33 := ⟨by decide +kernel, rfl⟩
theorem dX6_save_33 : At cX6_save 33 (.getfield 7) 3 36 := ⟨by decide +kernel, rfl⟩
theorem dX6_save_36 : At cX6_save 36 (.iload_n 2) 1 37 := ⟨by decide +kernel, rfl⟩
theorem dX6_save_37 : At cX6_save 37 (.iaload) 1 38 := ⟨by decide +kernel, rfl⟩
theorem dX6_save_38 : At cX6_save 38 (.iastore) 1 39 := ⟨by decide +kernel, rfl⟩
theorem dX6_save_39 : At cX6_save 39 (.iinc 2 1) 3 42 := ⟨by decide +kernel, rfl⟩
theorem dX6_save_42 : Br cX6_save 42 .goto 45 14 := ⟨(-28), by decide +kernel, rfl, by decide⟩
theorem dX6_save_45 : At cX6_save 45 (.aload_n 0) 1 46 := ⟨by decide +kernel, rfl⟩
theorem dX6_save_46 : At cX6_save 46 (.getfield 19) 3 49 := ⟨by decide +kernel, rfl⟩
theorem dX6_save_49 : At cX6_save 49 (.iload_n 1) 1 50 := ⟨by decide +kernel, rfl⟩
theorem dX6_save_50 : At cX6_save 50 (.iconst 1) 1 51 := ⟨by decide +kernel, rfl⟩
theorem dX6_save_51 : At cX6_save 51 (.bastore) 1 52 := ⟨by decide +kernel, rfl⟩
theorem dX6_save_52 : At cX6_save 52 (.aload_n 0) 1 53 := ⟨by decide +kernel, rfl⟩
theorem dX6_save_53 : At cX6_save 53 (.invokevirtual 116) 3 56 := ⟨by decide +kernel, rfl⟩
theorem dX6_save_56 : At cX6_save 56 (.ireturn) 1 57 := ⟨by decide +kernel, rfl⟩
theorem dX6_restore_0 : At cX6_restore 0 (.iload_n 1) 1 1 := ⟨by decide +kernel, rfl⟩
theorem dX6_restore_1 : At cX6_restore 1 (.iconst 0) 1 2 := ⟨by decide +kernel, rfl⟩
theorem dX6_restore_2 : At cX6_restore 2 (.iconst 1) 1 3 := ⟨by decide +kernel, rfl⟩
theorem dX6_restore_3 : At cX6_restore 3 (.invokestatic 61) 3 6 := ⟨by decide +kernel, rfl⟩
theorem dX6_restore_6 : Br cX6_restore 6 (.ifCond .ne) 9 12 := ⟨(6), by decide +kernel, rfl, by decide⟩
theorem dX6_restore_9 : At cX6_restore 9 (.bipush (-2)) 2 11 := ⟨by decide +kernel, rfl⟩
theorem dX6_restore_11 : At cX6_restore 11 (.ireturn) 1 12 := ⟨by decide +kernel, rfl⟩
theorem dX6_restore_12 : At cX6_restore 12 (.aload_n 0) 1 13 := ⟨by decide +kernel, rfl⟩
theorem dX6_restore_13 : At cX6_restore 13 (.getfield 19) 3 16 := ⟨by decide +kernel, rfl⟩
theorem dX6_restore_16 : At cX6_restore 16 (.iload_n 1) 1 17 := ⟨by decide +kernel, rfl⟩
theorem dX6_restore_17 : At cX6_restore 17 (.baload) 1 18 := ⟨by decide +kernel, rfl⟩
theorem dX6_restore_18 : Br cX6_restore 18 (.ifCond .ne) 21 24 := ⟨(6), by decide +kernel, rfl, by decide⟩
theorem dX6_restore_21 : At cX6_restore 21 (.bipush (-5)) 2 23 := ⟨by decide +kernel, rfl⟩
theorem dX6_restore_23 : At cX6_restore 23 (.ireturn) 1 24 := ⟨by decide +kernel, rfl⟩
theorem dX6_restore_24 : At cX6_restore 24 (.aload_n 0) 1 25 := ⟨by decide +kernel, rfl⟩
theorem dX6_restore_25 : At cX6_restore 25 (.invokevirtual 99) 3 28 := ⟨by decide +kernel, rfl⟩
theorem dX6_restore_28 : At cX6_restore 28 (.iconst 0) 1 29 := ⟨by decide +kernel, rfl⟩
theorem dX6_restore_29 : At cX6_restore 29 (.istore_n 2) 1 30 := ⟨by decide +kernel, rfl⟩
theorem dX6_restore_30 : At cX6_restore 30 (.iload_n 2) 1 31 := ⟨by decide +kernel, rfl⟩
theorem dX6_restore_31 : At cX6_restore 31 (.sipush 490) 3 34 := ⟨by decide +kernel, rfl⟩
theorem dX6_restore_34 : Br cX6_restore 34 (.if_icmp .ge) 37 61 := ⟨(27), by decide +kernel, rfl, by decide⟩
theorem dX6_restore_37 : At cX6_restore 37 (.aload_n 0) 1 38 := ⟨by decide +kernel, rfl⟩
theorem dX6_restore_38 : At cX6_restore 38 (.getfield 7) 3 41 := ⟨by decide +kernel, rfl⟩
theorem dX6_restore_41 : At cX6_restore 41 (.iload_n 2) 1 42 := ⟨by decide +kernel, rfl⟩
theorem dX6_restore_42 : At cX6_restore 42 (.aload_n 0) 1 43 := ⟨by decide +kernel, rfl⟩
theorem dX6_restore_43 : At cX6_restore 43 (.getfield 16) 3 46 := ⟨by decide +kernel, rfl⟩
theorem dX6_restore_46 : At cX6_restore 46 (.iload_n 1) 1 47 := ⟨by decide +kernel, rfl⟩
theorem dX6_restore_47 : At cX6_restore 47 (.sipush 490) 3 50 := ⟨by decide +kernel, rfl⟩
theorem dX6_restore_50 : At cX6_restore 50 (.imul) 1 51 := ⟨by decide +kernel, rfl⟩
theorem dX6_restore_51 : At cX6_restore 51 (.iload_n 2) 1 52 := ⟨by decide +kernel, rfl⟩
theorem dX6_restore_52 : At cX6_restore 52 (.iadd) 1 53 := ⟨by decide +kernel, rfl⟩
theorem dX6_restore_53 : At cX6_restore 53 (.iaload) 1 54 := ⟨by decide +kernel, rfl⟩
theorem dX6_restore_54 : At cX6_restore 54 (.iastore) 1 55 := ⟨by decide +kernel, rfl⟩
theorem dX6_restore_55 : At cX6_restore 55 (.iinc 2 1) 3 58 := ⟨by decide +kernel, rfl⟩
theorem dX6_restore_58 : Br cX6_restore 58 .goto 61 30 := ⟨(-28), by decide +kernel, rfl, by decide⟩
theorem dX6_restore_61 : At cX6_restore 61 (.aload_n 0) 1 62 := ⟨by decide +kernel, rfl⟩
theorem dX6_restore_62 : At cX6_restore 62 (.invokevirtual 116) 3 65 := ⟨by decide +kernel, rfl⟩
theorem dX6_restore_65 : At cX6_restore 65 (.ireturn) 1 66 := ⟨by decide +kernel, rfl⟩
theorem dJ6_bitCount_0f7a4_0 : At cJ6_bitCount_0f7a4 0 (.iload_n 0) 1 1 := ⟨by decide +kernel, rfl⟩
theorem dJ6_bitCount_0f7a4_1 : At cJ6_bitCount_0f7a4 1 (.iload_n 0) 1 2 := ⟨by decide +kernel, rfl⟩
theorem dJ6_bitCount_0f7a4_2 : At cJ6_bitCount_0f7a4 2 (.iconst 1) 1 3 := ⟨by decide +kernel, rfl⟩
theorem dJ6_bitCount_0f7a4_3 : At cJ6_bitCount_0f7a4 3 (.iushr) 1 4 := ⟨by decide +kernel, rfl⟩
theorem dJ6_bitCount_0f7a4_4 : At cJ6_bitCount_0f7a4 4 (.ldc_w 265) 3 7 := ⟨by decide +kernel, rfl⟩
theorem dJ6_bitCount_0f7a4_7 : At cJ6_bitCount_0f7a4 7 (.iand) 1 8 := ⟨by decide +kernel, rfl⟩
theorem dJ6_bitCount_0f7a4_8 : At cJ6_bitCount_0f7a4 8 (.isub) 1 9 := ⟨by decide +kernel, rfl⟩
theorem dJ6_bitCount_0f7a4_9 : At cJ6_bitCount_0f7a4 9 (.istore_n 0) 1 10 := ⟨by decide +kernel, rfl⟩
theorem dJ6_bitCount_0f7a4_10 : At cJ6_bitCount_0f7a4 10 (.iload_n 0) 1 11 := ⟨by decide +kernel, rfl⟩
theorem dJ6_bitCount_0f7a4_11 : At cJ6_bitCount_0f7a4 11 (.ldc_w 266) 3 14 := ⟨by decide +kernel, rfl⟩
theorem dJ6_bitCount_0f7a4_14 : At cJ6_bitCount_0f7a4 14 (.iand) 1 15 := ⟨by decide +kernel, rfl⟩
theorem dJ6_bitCount_0f7a4_15 : At cJ6_bitCount_0f7a4 15 (.iload_n 0) 1 16 := ⟨by decide +kernel, rfl⟩
theorem dJ6_bitCount_0f7a4_16 : At cJ6_bitCount_0f7a4 16 (.iconst 2) 1 17 := ⟨by decide +kernel, rfl⟩
theorem dJ6_bitCount_0f7a4_17 : At cJ6_bitCount_0f7a4 17 (.iushr) 1 18 := ⟨by decide +kernel, rfl⟩
theorem dJ6_bitCount_0f7a4_18 : At cJ6_bitCount_0f7a4 18 (.ldc_w 266) 3 21 := ⟨by decide +kernel, rfl⟩
theorem dJ6_bitCount_0f7a4_21 : At cJ6_bitCount_0f7a4 21 (.iand) 1 22 := ⟨by decide +kernel, rfl⟩
theorem dJ6_bitCount_0f7a4_22 : At cJ6_bitCount_0f7a4 22 (.iadd) 1 23 := ⟨by decide +kernel, rfl⟩
theorem dJ6_bitCount_0f7a4_23 : At cJ6_bitCount_0f7a4 23 (.istore_n 0) 1 24 := ⟨by decide +kernel, rfl⟩
theorem dJ6_bitCount_0f7a4_24 : At cJ6_bitCount_0f7a4 24 (.iload_n 0) 1 25 := ⟨by decide +kernel, rfl⟩
theorem dJ6_bitCount_0f7a4_25 : At cJ6_bitCount_0f7a4 25 (.iload_n 0) 1 26 := ⟨by decide +kernel, rfl⟩
theorem dJ6_bitCount_0f7a4_26 : At cJ6_bitCount_0f7a4 26 (.iconst 4) 1 27 := ⟨by decide +kernel, rfl⟩
theorem dJ6_bitCount_0f7a4_27 : At cJ6_bitCount_0f7a4 27 (.iushr) 1 28 := ⟨by decide +kernel, rfl⟩
theorem dJ6_bitCount_0f7a4_28 : At cJ6_bitCount_0f7a4 28 (.iadd) 1 29 := ⟨by decide +kernel, rfl⟩
theorem dJ6_bitCount_0f7a4_29 : At cJ6_bitCount_0f7a4 29 (.ldc_w 267) 3 32 := ⟨by decide +kernel, rfl⟩
theorem dJ6_bitCount_0f7a4_32 : At cJ6_bitCount_0f7a4 32 (.iand) 1 33 := ⟨by decide +kernel, rfl⟩
theorem dJ6_bitCount_0f7a4_33 : At cJ6_bitCount_0f7a4 33 (.istore_n 0) 1 34 := ⟨by decide +kernel, rfl⟩
theorem dJ6_bitCount_0f7a4_34 : At cJ6_bitCount_0f7a4 34 (.iload_n 0) 1 35 := ⟨by decide +kernel, rfl⟩
theorem dJ6_bitCount_0f7a4_35 : At cJ6_bitCount_0f7a4 35 (.iload_n 0) 1 36 := ⟨by decide +kernel, rfl⟩
theorem dJ6_bitCount_0f7a4_36 : At cJ6_bitCount_0f7a4 36 (.bipush 8) 2 38 := ⟨by decide +kernel, rfl⟩
theorem dJ6_bitCount_0f7a4_38 : At cJ6_bitCount_0f7a4 38 (.iushr) 1 39 := ⟨by decide +kernel, rfl⟩
theorem dJ6_bitCount_0f7a4_39 : At cJ6_bitCount_0f7a4 39 (.iadd) 1 40 := ⟨by decide +kernel, rfl⟩
theorem dJ6_bitCount_0f7a4_40 : At cJ6_bitCount_0f7a4 40 (.istore_n 0) 1 41 := ⟨by decide +kernel, rfl⟩
theorem dJ6_bitCount_0f7a4_41 : At cJ6_bitCount_0f7a4 41 (.iload_n 0) 1 42 := ⟨by decide +kernel, rfl⟩
theorem dJ6_bitCount_0f7a4_42 : At cJ6_bitCount_0f7a4 42 (.iload_n 0) 1 43 := ⟨by decide +kernel, rfl⟩
theorem dJ6_bitCount_0f7a4_43 : At cJ6_bitCount_0f7a4 43 (.bipush 16) 2 45 := ⟨by decide +kernel, rfl⟩
theorem dJ6_bitCount_0f7a4_45 : At cJ6_bitCount_0f7a4 45 (.iushr) 1 46 := ⟨by decide +kernel, rfl⟩
theorem dJ6_bitCount_0f7a4_46 : At cJ6_bitCount_0f7a4 46 (.iadd) 1 47 := ⟨by decide +kernel, rfl⟩
theorem dJ6_bitCount_0f7a4_47 : At cJ6_bitCount_0f7a4 47 (.istore_n 0) 1 48 := ⟨by decide +kernel, rfl⟩
theorem dJ6_bitCount_0f7a4_48 : At cJ6_bitCount_0f7a4 48 (.iload_n 0) 1 49 := ⟨by decide +kernel, rfl⟩
theorem dJ6_bitCount_0f7a4_49 : At cJ6_bitCount_0f7a4 49 (.bipush 63) 2 51 := ⟨by decide +kernel, rfl⟩
theorem dJ6_bitCount_0f7a4_51 : At cJ6_bitCount_0f7a4 51 (.iand) 1 52 := ⟨by decide +kernel, rfl⟩
theorem dJ6_bitCount_0f7a4_52 : At cJ6_bitCount_0f7a4 52 (.ireturn) 1 53 := ⟨by decide +kernel, rfl⟩
theorem dJ9_floorMod_7cf53_0 : At cJ9_floorMod_7cf53 0 (.iload_n 0) 1 1 := ⟨by decide +kernel, rfl⟩
theorem dJ9_floorMod_7cf53_1 : At cJ9_floorMod_7cf53 1 (.iload_n 1) 1 2 := ⟨by decide +kernel, rfl⟩
theorem dJ9_floorMod_7cf53_2 : At cJ9_floorMod_7cf53 2 (.irem) 1 3 := ⟨by decide +kernel, rfl⟩
theorem dJ9_floorMod_7cf53_3 : At cJ9_floorMod_7cf53 3 (.istore_n 2) 1 4 := ⟨by decide +kernel, rfl⟩
theorem dJ9_floorMod_7cf53_4 : At cJ9_floorMod_7cf53 4 (.iload_n 0) 1 5 := ⟨by decide +kernel, rfl⟩
theorem dJ9_floorMod_7cf53_5 : At cJ9_floorMod_7cf53 5 (.iload_n 1) 1 6 := ⟨by decide +kernel, rfl⟩
theorem dJ9_floorMod_7cf53_6 : At cJ9_floorMod_7cf53 6 (.ixor) 1 7 := ⟨by decide +kernel, rfl⟩
theorem dJ9_floorMod_7cf53_7 : Br cJ9_floorMod_7cf53 7 (.ifCond .ge) 10 18 := ⟨(11), by decide +kernel, rfl, by decide⟩
theorem dJ9_floorMod_7cf53_10 : At cJ9_floorMod_7cf53 10 (.iload_n 2) 1 11 := ⟨by decide +kernel, rfl⟩
theorem dJ9_floorMod_7cf53_11 : Br cJ9_floorMod_7cf53 11 (.ifCond .eq) 14 18 := ⟨(7), by decide +kernel, rfl, by decide⟩
theorem dJ9_floorMod_7cf53_14 : At cJ9_floorMod_7cf53 14 (.iload_n 2) 1 15 := ⟨by decide +kernel, rfl⟩
theorem dJ9_floorMod_7cf53_15 : At cJ9_floorMod_7cf53 15 (.iload_n 1) 1 16 := ⟨by decide +kernel, rfl⟩
theorem dJ9_floorMod_7cf53_16 : At cJ9_floorMod_7cf53 16 (.iadd) 1 17 := ⟨by decide +kernel, rfl⟩
theorem dJ9_floorMod_7cf53_17 : At cJ9_floorMod_7cf53 17 (.ireturn) 1 18 := ⟨by decide +kernel, rfl⟩
theorem dJ9_floorMod_7cf53_18 : At cJ9_floorMod_7cf53 18 (.iload_n 2) 1 19 := ⟨by decide +kernel, rfl⟩
theorem dJ9_floorMod_7cf53_19 : At cJ9_floorMod_7cf53 19 (.ireturn) 1 20 := ⟨by decide +kernel, rfl⟩
theorem dJ9_max_7cf53_0 : At cJ9_max_7cf53 0 (.iload_n 0) 1 1 := ⟨by decide +kernel, rfl⟩
theorem dJ9_max_7cf53_1 : At cJ9_max_7cf53 1 (.iload_n 1) 1 2 := ⟨by decide +kernel, rfl⟩
theorem dJ9_max_7cf53_2 : Br cJ9_max_7cf53 2 (.if_icmp .lt) 5 9 := ⟨(7), by decide +kernel, rfl, by decide⟩
theorem dJ9_max_7cf53_5 : At cJ9_max_7cf53 5 (.iload_n 0) 1 6 := ⟨by decide +kernel, rfl⟩
theorem dJ9_max_7cf53_6 : Br cJ9_max_7cf53 6 .goto 9 10 := ⟨(4), by decide +kernel, rfl, by decide⟩
theorem dJ9_max_7cf53_9 : At cJ9_max_7cf53 9 (.iload_n 1) 1 10 := ⟨by decide +kernel, rfl⟩
theorem dJ9_max_7cf53_10 : At cJ9_max_7cf53 10 (.ireturn) 1 11 := ⟨by decide +kernel, rfl⟩
theorem dJ9_min_7cf53_0 : At cJ9_min_7cf53 0 (.iload_n 0) 1 1 := ⟨by decide +kernel, rfl⟩
theorem dJ9_min_7cf53_1 : At cJ9_min_7cf53 1 (.iload_n 1) 1 2 := ⟨by decide +kernel, rfl⟩
theorem dJ9_min_7cf53_2 : Br cJ9_min_7cf53 2 (.if_icmp .gt) 5 9 := ⟨(7), by decide +kernel, rfl, by decide⟩
theorem dJ9_min_7cf53_5 : At cJ9_min_7cf53 5 (.iload_n 0) 1 6 := ⟨by decide +kernel, rfl⟩
theorem dJ9_min_7cf53_6 : Br cJ9_min_7cf53 6 .goto 9 10 := ⟨(4), by decide +kernel, rfl, by decide⟩
theorem dJ9_min_7cf53_9 : At cJ9_min_7cf53 9 (.iload_n 1) 1 10 := ⟨by decide +kernel, rfl⟩
theorem dJ9_min_7cf53_10 : At cJ9_min_7cf53 10 (.ireturn) 1 11 := ⟨by decide +kernel, rfl⟩
theorem dL_law_0 : At cL_law 0 (.new 7) 3 3 := ⟨by decide +kernel, rfl⟩
theorem dL_law_3 : At cL_law 3 (.dup) 1 4 := ⟨by decide +kernel, rfl⟩
theorem dL_law_4 : At cL_law 4 (.invokespecial 9) 3 7 := ⟨by decide +kernel, rfl⟩
theorem dL_law_7 : At cL_law 7 (.astore_n 1) 1 8 := ⟨by decide +kernel, rfl⟩
theorem dL_law_8 : At cL_law 8 (.new 10) 3 11 := ⟨by decide +kernel, rfl⟩
theorem dL_law_11 : At cL_law 11 (.dup) 1 12 := ⟨by decide +kernel, rfl⟩
theorem dL_law_12 : At cL_law 12 (.invokespecial 12) 3 15 := ⟨by decide +kernel, rfl⟩
theorem dL_law_15 : At cL_law 15 (.astore_n 2) 1 16 := ⟨by decide +kernel, rfl⟩
theorem dL_law_16 : At cL_law 16 (.iconst 0) 1 17 := ⟨by decide +kernel, rfl⟩
theorem dL_law_17 : At cL_law 17 (.istore_n 3) 1 18 := ⟨by decide +kernel, rfl⟩
theorem dL_law_18 : At cL_law 18 (.iload_n 3) 1 19 := ⟨by decide +kernel, rfl⟩
theorem dL_law_19 : At cL_law 19 (.aload_n 0) 1 20 := ⟨by decide +kernel, rfl⟩
theorem dL_law_20 : At cL_law 20 (.arraylength) 1 21 := ⟨by decide +kernel, rfl⟩
theorem dL_law_21 : At cL_law 21 (.iconst 4) 1 22 := ⟨by decide +kernel, rfl⟩
theorem dL_law_22 : At cL_law 22 (.isub) 1 23 := ⟨by decide +kernel, rfl⟩
theorem dL_law_23 : Br cL_law 23 (.if_icmp .gt) 26 906 := ⟨(883), by decide +kernel, rfl, by decide⟩
theorem dL_law_26 : At cL_law 26 (.aload_n 0) 1 27 := ⟨by decide +kernel, rfl⟩
theorem dL_law_27 : At cL_law 27 (.iload_n 3) 1 28 := ⟨by decide +kernel, rfl⟩
theorem dL_law_28 : At cL_law 28 (.iaload) 1 29 := ⟨by decide +kernel, rfl⟩
theorem dL_law_29 : At cL_law 29 (.bipush 31) 2 31 := ⟨by decide +kernel, rfl⟩
theorem dL_law_31 : At cL_law 31 (.iand) 1 32 := ⟨by decide +kernel, rfl⟩
theorem dL_law_32 : decode cL_law 32 = .ok (.tableswitch 868 0 25 #[120, 153, 186, 219, 242, 275, 298, 331, 364, 417, 430, 443, 466, 499, 532, 565, 598, 621, 654, 687, 730, 753, 786, 809, 822, 845], 120) := by decide +kernel
theorem dL_law_152 : At cL_law 152 (.aload_n 1) 1 153 := ⟨by decide +kernel, rfl⟩
theorem dL_law_153 : At cL_law 153 (.aload_n 0) 1 154 := ⟨by decide +kernel, rfl⟩
theorem dL_law_154 : At cL_law 154 (.iload_n 3) 1 155 := ⟨by decide +kernel, rfl⟩
theorem dL_law_155 : At cL_law 155 (.iconst 1) 1 156 := ⟨by decide +kernel, rfl⟩
theorem dL_law_156 : At cL_law 156 (.iadd) 1 157 := ⟨by decide +kernel, rfl⟩
theorem dL_law_157 : At cL_law 157 (.iaload) 1 158 := ⟨by decide +kernel, rfl⟩
theorem dL_law_158 : At cL_law 158 (.aload_n 0) 1 159 := ⟨by decide +kernel, rfl⟩
theorem dL_law_159 : At cL_law 159 (.iload_n 3) 1 160 := ⟨by decide +kernel, rfl⟩
theorem dL_law_160 : At cL_law 160 (.iconst 2) 1 161 := ⟨by decide +kernel, rfl⟩
theorem dL_law_161 : At cL_law 161 (.iadd) 1 162 := ⟨by decide +kernel, rfl⟩
theorem dL_law_162 : At cL_law 162 (.iaload) 1 163 := ⟨by decide +kernel, rfl⟩
theorem dL_law_163 : At cL_law 163 (.invokevirtual 13) 3 166 := ⟨by decide +kernel, rfl⟩
theorem dL_law_166 : At cL_law 166 (.aload_n 2) 1 167 := ⟨by decide +kernel, rfl⟩
theorem dL_law_167 : At cL_law 167 (.aload_n 0) 1 168 := ⟨by decide +kernel, rfl⟩
theorem dL_law_168 : At cL_law 168 (.iload_n 3) 1 169 := ⟨by decide +kernel, rfl⟩
theorem dL_law_169 : At cL_law 169 (.iconst 1) 1 170 := ⟨by decide +kernel, rfl⟩
theorem dL_law_170 : At cL_law 170 (.iadd) 1 171 := ⟨by decide +kernel, rfl⟩
theorem dL_law_171 : At cL_law 171 (.iaload) 1 172 := ⟨by decide +kernel, rfl⟩
theorem dL_law_172 : At cL_law 172 (.aload_n 0) 1 173 := ⟨by decide +kernel, rfl⟩
theorem dL_law_173 : At cL_law 173 (.iload_n 3) 1 174 := ⟨by decide +kernel, rfl⟩
theorem dL_law_174 : At cL_law 174 (.iconst 2) 1 175 := ⟨by decide +kernel, rfl⟩
theorem dL_law_175 : At cL_law 175 (.iadd) 1 176 := ⟨by decide +kernel, rfl⟩
theorem dL_law_176 : At cL_law 176 (.iaload) 1 177 := ⟨by decide +kernel, rfl⟩
theorem dL_law_177 : At cL_law 177 (.invokevirtual 17) 3 180 := ⟨by decide +kernel, rfl⟩
theorem dL_law_180 : Br cL_law 180 (.if_icmp .eq) 183 900 := ⟨(720), by decide +kernel, rfl, by decide⟩
theorem dL_law_183 : At cL_law 183 (.iconst 0) 1 184 := ⟨by decide +kernel, rfl⟩
theorem dL_law_184 : At cL_law 184 (.ireturn) 1 185 := ⟨by decide +kernel, rfl⟩
theorem dL_law_185 : At cL_law 185 (.aload_n 1) 1 186 := ⟨by decide +kernel, rfl⟩
theorem dL_law_186 : At cL_law 186 (.aload_n 0) 1 187 := ⟨by decide +kernel, rfl⟩
theorem dL_law_187 : At cL_law 187 (.iload_n 3) 1 188 := ⟨by decide +kernel, rfl⟩
theorem dL_law_188 : At cL_law 188 (.iconst 1) 1 189 := ⟨by decide +kernel, rfl⟩
theorem dL_law_189 : At cL_law 189 (.iadd) 1 190 := ⟨by decide +kernel, rfl⟩
theorem dL_law_190 : At cL_law 190 (.iaload) 1 191 := ⟨by decide +kernel, rfl⟩
theorem dL_law_191 : At cL_law 191 (.aload_n 0) 1 192 := ⟨by decide +kernel, rfl⟩
theorem dL_law_192 : At cL_law 192 (.iload_n 3) 1 193 := ⟨by decide +kernel, rfl⟩
theorem dL_law_193 : At cL_law 193 (.iconst 2) 1 194 := ⟨by decide +kernel, rfl⟩
theorem dL_law_194 : At cL_law 194 (.iadd) 1 195 := ⟨by decide +kernel, rfl⟩
theorem dL_law_195 : At cL_law 195 (.iaload) 1 196 := ⟨by decide +kernel, rfl⟩
theorem dL_law_196 : At cL_law 196 (.invokevirtual 18) 3 199 := ⟨by decide +kernel, rfl⟩
theorem dL_law_199 : At cL_law 199 (.aload_n 2) 1 200 := ⟨by decide +kernel, rfl⟩
theorem dL_law_200 : At cL_law 200 (.aload_n 0) 1 201 := ⟨by decide +kernel, rfl⟩
theorem dL_law_201 : At cL_law 201 (.iload_n 3) 1 202 := ⟨by decide +kernel, rfl⟩
theorem dL_law_202 : At cL_law 202 (.iconst 1) 1 203 := ⟨by decide +kernel, rfl⟩
theorem dL_law_203 : At cL_law 203 (.iadd) 1 204 := ⟨by decide +kernel, rfl⟩
theorem dL_law_204 : At cL_law 204 (.iaload) 1 205 := ⟨by decide +kernel, rfl⟩
theorem dL_law_205 : At cL_law 205 (.aload_n 0) 1 206 := ⟨by decide +kernel, rfl⟩
theorem dL_law_206 : At cL_law 206 (.iload_n 3) 1 207 := ⟨by decide +kernel, rfl⟩
theorem dL_law_207 : At cL_law 207 (.iconst 2) 1 208 := ⟨by decide +kernel, rfl⟩
theorem dL_law_208 : At cL_law 208 (.iadd) 1 209 := ⟨by decide +kernel, rfl⟩
theorem dL_law_209 : At cL_law 209 (.iaload) 1 210 := ⟨by decide +kernel, rfl⟩
theorem dL_law_210 : At cL_law 210 (.invokevirtual 21) 3 213 := ⟨by decide +kernel, rfl⟩
theorem dL_law_213 : Br cL_law 213 (.if_icmp .eq) 216 900 := ⟨(687), by decide +kernel, rfl, by decide⟩
theorem dL_law_216 : At cL_law 216 (.iconst 0) 1 217 := ⟨by decide +kernel, rfl⟩
theorem dL_law_217 : At cL_law 217 (.ireturn) 1 218 := ⟨by decide +kernel, rfl⟩
theorem dL_law_218 : At cL_law 218 (.aload_n 1) 1 219 := ⟨by decide +kernel, rfl⟩
theorem dL_law_219 : At cL_law 219 (.aload_n 0) 1 220 := ⟨by decide +kernel, rfl⟩
theorem dL_law_220 : At cL_law 220 (.iload_n 3) 1 221 := ⟨by decide +kernel, rfl⟩
theorem dL_law_221 : At cL_law 221 (.iconst 1) 1 222 := ⟨by decide +kernel, rfl⟩
theorem dL_law_222 : At cL_law 222 (.iadd) 1 223 := ⟨by decide +kernel, rfl⟩
theorem dL_law_223 : At cL_law 223 (.iaload) 1 224 := ⟨by decide +kernel, rfl⟩
theorem dL_law_224 : At cL_law 224 (.aload_n 0) 1 225 := ⟨by decide +kernel, rfl⟩
theorem dL_law_225 : At cL_law 225 (.iload_n 3) 1 226 := ⟨by decide +kernel, rfl⟩
theorem dL_law_226 : At cL_law 226 (.iconst 2) 1 227 := ⟨by decide +kernel, rfl⟩
theorem dL_law_227 : At cL_law 227 (.iadd) 1 228 := ⟨by decide +kernel, rfl⟩
theorem dL_law_228 : At cL_law 228 (.iaload) 1 229 := ⟨by decide +kernel, rfl⟩
theorem dL_law_229 : At cL_law 229 (.invokevirtual 22) 3 232 := ⟨by decide +kernel, rfl⟩
theorem dL_law_232 : At cL_law 232 (.aload_n 2) 1 233 := ⟨by decide +kernel, rfl⟩
theorem dL_law_233 : At cL_law 233 (.aload_n 0) 1 234 := ⟨by decide +kernel, rfl⟩
theorem dL_law_234 : At cL_law 234 (.iload_n 3) 1 235 := ⟨by decide +kernel, rfl⟩
theorem dL_law_235 : At cL_law 235 (.iconst 1) 1 236 := ⟨by decide +kernel, rfl⟩
theorem dL_law_236 : At cL_law 236 (.iadd) 1 237 := ⟨by decide +kernel, rfl⟩
theorem dL_law_237 : At cL_law 237 (.iaload) 1 238 := ⟨by decide +kernel, rfl⟩
theorem dL_law_238 : At cL_law 238 (.aload_n 0) 1 239 := ⟨by decide +kernel, rfl⟩
theorem dL_law_239 : At cL_law 239 (.iload_n 3) 1 240 := ⟨by decide +kernel, rfl⟩
theorem dL_law_240 : At cL_law 240 (.iconst 2) 1 241 := ⟨by decide +kernel, rfl⟩
theorem dL_law_241 : At cL_law 241 (.iadd) 1 242 := ⟨by decide +kernel, rfl⟩
theorem dL_law_242 : At cL_law 242 (.iaload) 1 243 := ⟨by decide +kernel, rfl⟩
theorem dL_law_243 : At cL_law 243 (.invokevirtual 25) 3 246 := ⟨by decide +kernel, rfl⟩
theorem dL_law_246 : Br cL_law 246 (.if_icmp .eq) 249 900 := ⟨(654), by decide +kernel, rfl, by decide⟩
theorem dL_law_249 : At cL_law 249 (.iconst 0) 1 250 := ⟨by decide +kernel, rfl⟩
theorem dL_law_250 : At cL_law 250 (.ireturn) 1 251 := ⟨by decide +kernel, rfl⟩
theorem dL_law_251 : At cL_law 251 (.aload_n 1) 1 252 := ⟨by decide +kernel, rfl⟩
theorem dL_law_252 : At cL_law 252 (.aload_n 0) 1 253 := ⟨by decide +kernel, rfl⟩
theorem dL_law_253 : At cL_law 253 (.iload_n 3) 1 254 := ⟨by decide +kernel, rfl⟩
theorem dL_law_254 : At cL_law 254 (.iconst 1) 1 255 := ⟨by decide +kernel, rfl⟩
theorem dL_law_255 : At cL_law 255 (.iadd) 1 256 := ⟨by decide +kernel, rfl⟩
theorem dL_law_256 : At cL_law 256 (.iaload) 1 257 := ⟨by decide +kernel, rfl⟩
theorem dL_law_257 : At cL_law 257 (.invokevirtual 26) 3 260 := ⟨by decide +kernel, rfl⟩
theorem dL_law_260 : At cL_law 260 (.aload_n 2) 1 261 := ⟨by decide +kernel, rfl⟩
theorem dL_law_261 : At cL_law 261 (.aload_n 0) 1 262 := ⟨by decide +kernel, rfl⟩
theorem dL_law_262 : At cL_law 262 (.iload_n 3) 1 263 := ⟨by decide +kernel, rfl⟩
theorem dL_law_263 : At cL_law 263 (.iconst 1) 1 264 := ⟨by decide +kernel, rfl⟩
theorem dL_law_264 : At cL_law 264 (.iadd) 1 265 := ⟨by decide +kernel, rfl⟩
theorem dL_law_265 : At cL_law 265 (.iaload) 1 266 := ⟨by decide +kernel, rfl⟩
theorem dL_law_266 : At cL_law 266 (.invokevirtual 30) 3 269 := ⟨by decide +kernel, rfl⟩
theorem dL_law_269 : Br cL_law 269 (.if_icmp .eq) 272 900 := ⟨(631), by decide +kernel, rfl, by decide⟩
theorem dL_law_272 : At cL_law 272 (.iconst 0) 1 273 := ⟨by decide +kernel, rfl⟩
theorem dL_law_273 : At cL_law 273 (.ireturn) 1 274 := ⟨by decide +kernel, rfl⟩
theorem dL_law_274 : At cL_law 274 (.aload_n 1) 1 275 := ⟨by decide +kernel, rfl⟩
theorem dL_law_275 : At cL_law 275 (.aload_n 0) 1 276 := ⟨by decide +kernel, rfl⟩
theorem dL_law_276 : At cL_law 276 (.iload_n 3) 1 277 := ⟨by decide +kernel, rfl⟩
theorem dL_law_277 : At cL_law 277 (.iconst 1) 1 278 := ⟨by decide +kernel, rfl⟩
theorem dL_law_278 : At cL_law 278 (.iadd) 1 279 := ⟨by decide +kernel, rfl⟩
theorem dL_law_279 : At cL_law 279 (.iaload) 1 280 := ⟨by decide +kernel, rfl⟩
theorem dL_law_280 : At cL_law 280 (.aload_n 0) 1 281 := ⟨by decide +kernel, rfl⟩
theorem dL_law_281 : At cL_law 281 (.iload_n 3) 1 282 := ⟨by decide +kernel, rfl⟩
theorem dL_law_282 : At cL_law 282 (.iconst 2) 1 283 := ⟨by decide +kernel, rfl⟩
theorem dL_law_283 : At cL_law 283 (.iadd) 1 284 := ⟨by decide +kernel, rfl⟩
theorem dL_law_284 : At cL_law 284 (.iaload) 1 285 := ⟨by decide +kernel, rfl⟩
theorem dL_law_285 : At cL_law 285 (.invokevirtual 31) 3 288 := ⟨by decide +kernel, rfl⟩
theorem dL_law_288 : At cL_law 288 (.aload_n 2) 1 289 := ⟨by decide +kernel, rfl⟩
theorem dL_law_289 : At cL_law 289 (.aload_n 0) 1 290 := ⟨by decide +kernel, rfl⟩
theorem dL_law_290 : At cL_law 290 (.iload_n 3) 1 291 := ⟨by decide +kernel, rfl⟩
theorem dL_law_291 : At cL_law 291 (.iconst 1) 1 292 := ⟨by decide +kernel, rfl⟩
theorem dL_law_292 : At cL_law 292 (.iadd) 1 293 := ⟨by decide +kernel, rfl⟩
theorem dL_law_293 : At cL_law 293 (.iaload) 1 294 := ⟨by decide +kernel, rfl⟩
theorem dL_law_294 : At cL_law 294 (.aload_n 0) 1 295 := ⟨by decide +kernel, rfl⟩
theorem dL_law_295 : At cL_law 295 (.iload_n 3) 1 296 := ⟨by decide +kernel, rfl⟩
theorem dL_law_296 : At cL_law 296 (.iconst 2) 1 297 := ⟨by decide +kernel, rfl⟩
theorem dL_law_297 : At cL_law 297 (.iadd) 1 298 := ⟨by decide +kernel, rfl⟩
theorem dL_law_298 : At cL_law 298 (.iaload) 1 299 := ⟨by decide +kernel, rfl⟩
theorem dL_law_299 : At cL_law 299 (.invokevirtual 34) 3 302 := ⟨by decide +kernel, rfl⟩
theorem dL_law_302 : Br cL_law 302 (.if_icmp .eq) 305 900 := ⟨(598), by decide +kernel, rfl, by decide⟩
theorem dL_law_305 : At cL_law 305 (.iconst 0) 1 306 := ⟨by decide +kernel, rfl⟩
theorem dL_law_306 : At cL_law 306 (.ireturn) 1 307 := ⟨by decide +kernel, rfl⟩
theorem dL_law_307 : At cL_law 307 (.aload_n 1) 1 308 := ⟨by decide +kernel, rfl⟩
theorem dL_law_308 : At cL_law 308 (.aload_n 0) 1 309 := ⟨by decide +kernel, rfl⟩
theorem dL_law_309 : At cL_law 309 (.iload_n 3) 1 310 := ⟨by decide +kernel, rfl⟩
theorem dL_law_310 : At cL_law 310 (.iconst 1) 1 311 := ⟨by decide +kernel, rfl⟩
theorem dL_law_311 : At cL_law 311 (.iadd) 1 312 := ⟨by decide +kernel, rfl⟩
theorem dL_law_312 : At cL_law 312 (.iaload) 1 313 := ⟨by decide +kernel, rfl⟩
theorem dL_law_313 : At cL_law 313 (.invokevirtual 35) 3 316 := ⟨by decide +kernel, rfl⟩
theorem dL_law_316 : At cL_law 316 (.aload_n 2) 1 317 := ⟨by decide +kernel, rfl⟩
theorem dL_law_317 : At cL_law 317 (.aload_n 0) 1 318 := ⟨by decide +kernel, rfl⟩
theorem dL_law_318 : At cL_law 318 (.iload_n 3) 1 319 := ⟨by decide +kernel, rfl⟩
theorem dL_law_319 : At cL_law 319 (.iconst 1) 1 320 := ⟨by decide +kernel, rfl⟩
theorem dL_law_320 : At cL_law 320 (.iadd) 1 321 := ⟨by decide +kernel, rfl⟩
theorem dL_law_321 : At cL_law 321 (.iaload) 1 322 := ⟨by decide +kernel, rfl⟩
theorem dL_law_322 : At cL_law 322 (.invokevirtual 38) 3 325 := ⟨by decide +kernel, rfl⟩
theorem dL_law_325 : Br cL_law 325 (.if_icmp .eq) 328 900 := ⟨(575), by decide +kernel, rfl, by decide⟩
theorem dL_law_328 : At cL_law 328 (.iconst 0) 1 329 := ⟨by decide +kernel, rfl⟩
theorem dL_law_329 : At cL_law 329 (.ireturn) 1 330 := ⟨by decide +kernel, rfl⟩
theorem dL_law_330 : At cL_law 330 (.aload_n 1) 1 331 := ⟨by decide +kernel, rfl⟩
theorem dL_law_331 : At cL_law 331 (.aload_n 0) 1 332 := ⟨by decide +kernel, rfl⟩
theorem dL_law_332 : At cL_law 332 (.iload_n 3) 1 333 := ⟨by decide +kernel, rfl⟩
theorem dL_law_333 : At cL_law 333 (.iconst 1) 1 334 := ⟨by decide +kernel, rfl⟩
theorem dL_law_334 : At cL_law 334 (.iadd) 1 335 := ⟨by decide +kernel, rfl⟩
theorem dL_law_335 : At cL_law 335 (.iaload) 1 336 := ⟨by decide +kernel, rfl⟩
theorem dL_law_336 : At cL_law 336 (.aload_n 0) 1 337 := ⟨by decide +kernel, rfl⟩
theorem dL_law_337 : At cL_law 337 (.iload_n 3) 1 338 := ⟨by decide +kernel, rfl⟩
theorem dL_law_338 : At cL_law 338 (.iconst 2) 1 339 := ⟨by decide +kernel, rfl⟩
theorem dL_law_339 : At cL_law 339 (.iadd) 1 340 := ⟨by decide +kernel, rfl⟩
theorem dL_law_340 : At cL_law 340 (.iaload) 1 341 := ⟨by decide +kernel, rfl⟩
theorem dL_law_341 : At cL_law 341 (.invokevirtual 39) 3 344 := ⟨by decide +kernel, rfl⟩
theorem dL_law_344 : At cL_law 344 (.aload_n 2) 1 345 := ⟨by decide +kernel, rfl⟩
theorem dL_law_345 : At cL_law 345 (.aload_n 0) 1 346 := ⟨by decide +kernel, rfl⟩
theorem dL_law_346 : At cL_law 346 (.iload_n 3) 1 347 := ⟨by decide +kernel, rfl⟩
theorem dL_law_347 : At cL_law 347 (.iconst 1) 1 348 := ⟨by decide +kernel, rfl⟩
theorem dL_law_348 : At cL_law 348 (.iadd) 1 349 := ⟨by decide +kernel, rfl⟩
theorem dL_law_349 : At cL_law 349 (.iaload) 1 350 := ⟨by decide +kernel, rfl⟩
theorem dL_law_350 : At cL_law 350 (.aload_n 0) 1 351 := ⟨by decide +kernel, rfl⟩
theorem dL_law_351 : At cL_law 351 (.iload_n 3) 1 352 := ⟨by decide +kernel, rfl⟩
theorem dL_law_352 : At cL_law 352 (.iconst 2) 1 353 := ⟨by decide +kernel, rfl⟩
theorem dL_law_353 : At cL_law 353 (.iadd) 1 354 := ⟨by decide +kernel, rfl⟩
theorem dL_law_354 : At cL_law 354 (.iaload) 1 355 := ⟨by decide +kernel, rfl⟩
theorem dL_law_355 : At cL_law 355 (.invokevirtual 42) 3 358 := ⟨by decide +kernel, rfl⟩
theorem dL_law_358 : Br cL_law 358 (.if_icmp .eq) 361 900 := ⟨(542), by decide +kernel, rfl, by decide⟩
theorem dL_law_361 : At cL_law 361 (.iconst 0) 1 362 := ⟨by decide +kernel, rfl⟩
theorem dL_law_362 : At cL_law 362 (.ireturn) 1 363 := ⟨by decide +kernel, rfl⟩
theorem dL_law_363 : At cL_law 363 (.aload_n 1) 1 364 := ⟨by decide +kernel, rfl⟩
theorem dL_law_364 : At cL_law 364 (.aload_n 0) 1 365 := ⟨by decide +kernel, rfl⟩
theorem dL_law_365 : At cL_law 365 (.iload_n 3) 1 366 := ⟨by decide +kernel, rfl⟩
theorem dL_law_366 : At cL_law 366 (.iconst 1) 1 367 := ⟨by decide +kernel, rfl⟩
theorem dL_law_367 : At cL_law 367 (.iadd) 1 368 := ⟨by decide +kernel, rfl⟩
theorem dL_law_368 : At cL_law 368 (.iaload) 1 369 := ⟨by decide +kernel, rfl⟩
theorem dL_law_369 : At cL_law 369 (.aload_n 0) 1 370 := ⟨by decide +kernel, rfl⟩
theorem dL_law_370 : At cL_law 370 (.iload_n 3) 1 371 := ⟨by decide +kernel, rfl⟩
theorem dL_law_371 : At cL_law 371 (.iconst 2) 1 372 := ⟨by decide +kernel, rfl⟩
theorem dL_law_372 : At cL_law 372 (.iadd) 1 373 := ⟨by decide +kernel, rfl⟩
theorem dL_law_373 : At cL_law 373 (.iaload) 1 374 := ⟨by decide +kernel, rfl⟩
theorem dL_law_374 : At cL_law 374 (.invokevirtual 43) 3 377 := ⟨by decide +kernel, rfl⟩
theorem dL_law_377 : At cL_law 377 (.aload_n 2) 1 378 := ⟨by decide +kernel, rfl⟩
theorem dL_law_378 : At cL_law 378 (.aload_n 0) 1 379 := ⟨by decide +kernel, rfl⟩
theorem dL_law_379 : At cL_law 379 (.iload_n 3) 1 380 := ⟨by decide +kernel, rfl⟩
theorem dL_law_380 : At cL_law 380 (.iconst 1) 1 381 := ⟨by decide +kernel, rfl⟩
theorem dL_law_381 : At cL_law 381 (.iadd) 1 382 := ⟨by decide +kernel, rfl⟩
theorem dL_law_382 : At cL_law 382 (.iaload) 1 383 := ⟨by decide +kernel, rfl⟩
theorem dL_law_383 : At cL_law 383 (.aload_n 0) 1 384 := ⟨by decide +kernel, rfl⟩
theorem dL_law_384 : At cL_law 384 (.iload_n 3) 1 385 := ⟨by decide +kernel, rfl⟩
theorem dL_law_385 : At cL_law 385 (.iconst 2) 1 386 := ⟨by decide +kernel, rfl⟩
theorem dL_law_386 : At cL_law 386 (.iadd) 1 387 := ⟨by decide +kernel, rfl⟩
theorem dL_law_387 : At cL_law 387 (.iaload) 1 388 := ⟨by decide +kernel, rfl⟩
theorem dL_law_388 : At cL_law 388 (.invokevirtual 46) 3 391 := ⟨by decide +kernel, rfl⟩
theorem dL_law_391 : Br cL_law 391 (.if_icmp .eq) 394 900 := ⟨(509), by decide +kernel, rfl, by decide⟩
theorem dL_law_394 : At cL_law 394 (.iconst 0) 1 395 := ⟨by decide +kernel, rfl⟩
theorem dL_law_395 : At cL_law 395 (.ireturn) 1 396 := ⟨by decide +kernel, rfl⟩
theorem dL_law_396 : At cL_law 396 (.aload_n 1) 1 397 := ⟨by decide +kernel, rfl⟩
theorem dL_law_397 : At cL_law 397 (.aload_n 0) 1 398 := ⟨by decide +kernel, rfl⟩
theorem dL_law_398 : At cL_law 398 (.iload_n 3) 1 399 := ⟨by decide +kernel, rfl⟩
theorem dL_law_399 : At cL_law 399 (.iconst 1) 1 400 := ⟨by decide +kernel, rfl⟩
theorem dL_law_400 : At cL_law 400 (.iadd) 1 401 := ⟨by decide +kernel, rfl⟩
theorem dL_law_401 : At cL_law 401 (.iaload) 1 402 := ⟨by decide +kernel, rfl⟩
theorem dL_law_402 : At cL_law 402 (.i2l) 1 403 := ⟨by decide +kernel, rfl⟩
theorem dL_law_403 : At cL_law 403 (.bipush 32) 2 405 := ⟨by decide +kernel, rfl⟩
theorem dL_law_405 : At cL_law 405 (.lshl) 1 406 := ⟨by decide +kernel, rfl⟩
theorem dL_law_406 : At cL_law 406 (.aload_n 0) 1 407 := ⟨by decide +kernel, rfl⟩
theorem dL_law_407 : At cL_law 407 (.iload_n 3) 1 408 := ⟨by decide +kernel, rfl⟩
theorem dL_law_408 : At cL_law 408 (.iconst 2) 1 409 := ⟨by decide +kernel, rfl⟩
theorem dL_law_409 : At cL_law 409 (.iadd) 1 410 := ⟨by decide +kernel, rfl⟩
theorem dL_law_410 : At cL_law 410 (.iaload) 1 411 := ⟨by decide +kernel, rfl⟩
theorem dL_law_411 : At cL_law 411 (.i2l) 1 412 := ⟨by decide +kernel, rfl⟩
theorem dL_law_412 : At cL_law 412 (.ldc2_w 47) 3 415 := ⟨by decide +kernel, rfl⟩
theorem dL_law_415 : At cL_law 415 (.land) 1 416 := ⟨by decide +kernel, rfl⟩
theorem dL_law_416 : At cL_law 416 (.lor) 1 417 := ⟨by decide +kernel, rfl⟩
theorem dL_law_417 : At cL_law 417 (.invokevirtual 49) 3 420 := ⟨by decide +kernel, rfl⟩
theorem dL_law_420 : At cL_law 420 (.aload_n 2) 1 421 := ⟨by decide +kernel, rfl⟩
theorem dL_law_421 : At cL_law 421 (.aload_n 0) 1 422 := ⟨by decide +kernel, rfl⟩
theorem dL_law_422 : At cL_law 422 (.iload_n 3) 1 423 := ⟨by decide +kernel, rfl⟩
theorem dL_law_423 : At cL_law 423 (.iconst 1) 1 424 := ⟨by decide +kernel, rfl⟩
theorem dL_law_424 : At cL_law 424 (.iadd) 1 425 := ⟨by decide +kernel, rfl⟩
theorem dL_law_425 : At cL_law 425 (.iaload) 1 426 := ⟨by decide +kernel, rfl⟩
theorem dL_law_426 : At cL_law 426 (.i2l) 1 427 := ⟨by decide +kernel, rfl⟩
theorem dL_law_427 : At cL_law 427 (.bipush 32) 2 429 := ⟨by decide +kernel, rfl⟩
theorem dL_law_429 : At cL_law 429 (.lshl) 1 430 := ⟨by decide +kernel, rfl⟩
theorem dL_law_430 : At cL_law 430 (.aload_n 0) 1 431 := ⟨by decide +kernel, rfl⟩
theorem dL_law_431 : At cL_law 431 (.iload_n 3) 1 432 := ⟨by decide +kernel, rfl⟩
theorem dL_law_432 : At cL_law 432 (.iconst 2) 1 433 := ⟨by decide +kernel, rfl⟩
theorem dL_law_433 : At cL_law 433 (.iadd) 1 434 := ⟨by decide +kernel, rfl⟩
theorem dL_law_434 : At cL_law 434 (.iaload) 1 435 := ⟨by decide +kernel, rfl⟩
theorem dL_law_435 : At cL_law 435 (.i2l) 1 436 := ⟨by decide +kernel, rfl⟩
theorem dL_law_436 : At cL_law 436 (.ldc2_w 47) 3 439 := ⟨by decide +kernel, rfl⟩
theorem dL_law_439 : At cL_law 439 (.land) 1 440 := ⟨by decide +kernel, rfl⟩
theorem dL_law_440 : At cL_law 440 (.lor) 1 441 := ⟨by decide +kernel, rfl⟩
theorem dL_law_441 : At cL_law 441 (.invokevirtual 53) 3 444 := ⟨by decide +kernel, rfl⟩
theorem dL_law_444 : Br cL_law 444 (.if_icmp .eq) 447 900 := ⟨(456), by decide +kernel, rfl, by decide⟩
theorem dL_law_447 : At cL_law 447 (.iconst 0) 1 448 := ⟨by decide +kernel, rfl⟩
theorem dL_law_448 : At cL_law 448 (.ireturn) 1 449 := ⟨by decide +kernel, rfl⟩
theorem dL_law_449 : At cL_law 449 (.aload_n 1) 1 450 := ⟨by decide +kernel, rfl⟩
theorem dL_law_450 : At cL_law 450 (.invokevirtual 54) 3 453 := ⟨by decide +kernel, rfl⟩
theorem dL_law_453 : At cL_law 453 (.aload_n 2) 1 454 := ⟨by decide +kernel, rfl⟩
theorem dL_law_454 : At cL_law 454 (.invokevirtual 58) 3 457 := ⟨by decide +kernel, rfl⟩
theorem dL_law_457 : Br cL_law 457 (.if_icmp .eq) 460 900 := ⟨(443), by decide +kernel, rfl, by decide⟩
theorem dL_law_460 : At cL_law 460 (.iconst 0) 1 461 := ⟨by decide +kernel, rfl⟩
theorem dL_law_461 : At cL_law 461 (.ireturn) 1 462 := ⟨by decide +kernel, rfl⟩
theorem dL_law_462 : At cL_law 462 (.aload_n 1) 1 463 := ⟨by decide +kernel, rfl⟩
theorem dL_law_463 : At cL_law 463 (.invokevirtual 59) 3 466 := ⟨by decide +kernel, rfl⟩
theorem dL_law_466 : At cL_law 466 (.aload_n 2) 1 467 := ⟨by decide +kernel, rfl⟩
theorem dL_law_467 : At cL_law 467 (.invokevirtual 62) 3 470 := ⟨by decide +kernel, rfl⟩
theorem dL_law_470 : Br cL_law 470 (.if_icmp .eq) 473 900 := ⟨(430), by decide +kernel, rfl, by decide⟩
theorem dL_law_473 : At cL_law 473 (.iconst 0) 1 474 := ⟨by decide +kernel, rfl⟩
theorem dL_law_474 : At cL_law 474 (.ireturn) 1 475 := ⟨by decide +kernel, rfl⟩
theorem dL_law_475 : At cL_law 475 (.aload_n 1) 1 476 := ⟨by decide +kernel, rfl⟩
theorem dL_law_476 : At cL_law 476 (.aload_n 0) 1 477 := ⟨by decide +kernel, rfl⟩
theorem dL_law_477 : At cL_law 477 (.iload_n 3) 1 478 := ⟨by decide +kernel, rfl⟩
theorem dL_law_478 : At cL_law 478 (.iconst 1) 1 479 := ⟨by decide +kernel, rfl⟩
theorem dL_law_479 : At cL_law 479 (.iadd) 1 480 := ⟨by decide +kernel, rfl⟩
theorem dL_law_480 : At cL_law 480 (.iaload) 1 481 := ⟨by decide +kernel, rfl⟩
theorem dL_law_481 : At cL_law 481 (.invokevirtual 63) 3 484 := ⟨by decide +kernel, rfl⟩
theorem dL_law_484 : At cL_law 484 (.aload_n 2) 1 485 := ⟨by decide +kernel, rfl⟩
theorem dL_law_485 : At cL_law 485 (.aload_n 0) 1 486 := ⟨by decide +kernel, rfl⟩
theorem dL_law_486 : At cL_law 486 (.iload_n 3) 1 487 := ⟨by decide +kernel, rfl⟩
theorem dL_law_487 : At cL_law 487 (.iconst 1) 1 488 := ⟨by decide +kernel, rfl⟩
theorem dL_law_488 : At cL_law 488 (.iadd) 1 489 := ⟨by decide +kernel, rfl⟩
theorem dL_law_489 : At cL_law 489 (.iaload) 1 490 := ⟨by decide +kernel, rfl⟩
theorem dL_law_490 : At cL_law 490 (.invokevirtual 66) 3 493 := ⟨by decide +kernel, rfl⟩
theorem dL_law_493 : Br cL_law 493 (.if_icmp .eq) 496 900 := ⟨(407), by decide +kernel, rfl, by decide⟩
theorem dL_law_496 : At cL_law 496 (.iconst 0) 1 497 := ⟨by decide +kernel, rfl⟩
theorem dL_law_497 : At cL_law 497 (.ireturn) 1 498 := ⟨by decide +kernel, rfl⟩
theorem dL_law_498 : At cL_law 498 (.aload_n 1) 1 499 := ⟨by decide +kernel, rfl⟩
theorem dL_law_499 : At cL_law 499 (.aload_n 0) 1 500 := ⟨by decide +kernel, rfl⟩
theorem dL_law_500 : At cL_law 500 (.iload_n 3) 1 501 := ⟨by decide +kernel, rfl⟩
theorem dL_law_501 : At cL_law 501 (.iconst 1) 1 502 := ⟨by decide +kernel, rfl⟩
theorem dL_law_502 : At cL_law 502 (.iadd) 1 503 := ⟨by decide +kernel, rfl⟩
theorem dL_law_503 : At cL_law 503 (.iaload) 1 504 := ⟨by decide +kernel, rfl⟩
theorem dL_law_504 : At cL_law 504 (.aload_n 0) 1 505 := ⟨by decide +kernel, rfl⟩
theorem dL_law_505 : At cL_law 505 (.iload_n 3) 1 506 := ⟨by decide +kernel, rfl⟩
theorem dL_law_506 : At cL_law 506 (.iconst 2) 1 507 := ⟨by decide +kernel, rfl⟩
theorem dL_law_507 : At cL_law 507 (.iadd) 1 508 := ⟨by decide +kernel, rfl⟩
theorem dL_law_508 : At cL_law 508 (.iaload) 1 509 := ⟨by decide +kernel, rfl⟩
theorem dL_law_509 : At cL_law 509 (.invokevirtual 67) 3 512 := ⟨by decide +kernel, rfl⟩
theorem dL_law_512 : At cL_law 512 (.aload_n 2) 1 513 := ⟨by decide +kernel, rfl⟩
theorem dL_law_513 : At cL_law 513 (.aload_n 0) 1 514 := ⟨by decide +kernel, rfl⟩
theorem dL_law_514 : At cL_law 514 (.iload_n 3) 1 515 := ⟨by decide +kernel, rfl⟩
theorem dL_law_515 : At cL_law 515 (.iconst 1) 1 516 := ⟨by decide +kernel, rfl⟩
theorem dL_law_516 : At cL_law 516 (.iadd) 1 517 := ⟨by decide +kernel, rfl⟩
theorem dL_law_517 : At cL_law 517 (.iaload) 1 518 := ⟨by decide +kernel, rfl⟩
theorem dL_law_518 : At cL_law 518 (.aload_n 0) 1 519 := ⟨by decide +kernel, rfl⟩
theorem dL_law_519 : At cL_law 519 (.iload_n 3) 1 520 := ⟨by decide +kernel, rfl⟩
theorem dL_law_520 : At cL_law 520 (.iconst 2) 1 521 := ⟨by decide +kernel, rfl⟩
theorem dL_law_521 : At cL_law 521 (.iadd) 1 522 := ⟨by decide +kernel, rfl⟩
theorem dL_law_522 : At cL_law 522 (.iaload) 1 523 := ⟨by decide +kernel, rfl⟩
theorem dL_law_523 : At cL_law 523 (.invokevirtual 70) 3 526 := ⟨by decide +kernel, rfl⟩
theorem dL_law_526 : Br cL_law 526 (.if_icmp .eq) 529 900 := ⟨(374), by decide +kernel, rfl, by decide⟩
theorem dL_law_529 : At cL_law 529 (.iconst 0) 1 530 := ⟨by decide +kernel, rfl⟩
theorem dL_law_530 : At cL_law 530 (.ireturn) 1 531 := ⟨by decide +kernel, rfl⟩
theorem dL_law_531 : At cL_law 531 (.aload_n 1) 1 532 := ⟨by decide +kernel, rfl⟩
theorem dL_law_532 : At cL_law 532 (.aload_n 0) 1 533 := ⟨by decide +kernel, rfl⟩
theorem dL_law_533 : At cL_law 533 (.iload_n 3) 1 534 := ⟨by decide +kernel, rfl⟩
theorem dL_law_534 : At cL_law 534 (.iconst 1) 1 535 := ⟨by decide +kernel, rfl⟩
theorem dL_law_535 : At cL_law 535 (.iadd) 1 536 := ⟨by decide +kernel, rfl⟩
theorem dL_law_536 : At cL_law 536 (.iaload) 1 537 := ⟨by decide +kernel, rfl⟩
theorem dL_law_537 : At cL_law 537 (.aload_n 0) 1 538 := ⟨by decide +kernel, rfl⟩
theorem dL_law_538 : At cL_law 538 (.iload_n 3) 1 539 := ⟨by decide +kernel, rfl⟩
theorem dL_law_539 : At cL_law 539 (.iconst 2) 1 540 := ⟨by decide +kernel, rfl⟩
theorem dL_law_540 : At cL_law 540 (.iadd) 1 541 := ⟨by decide +kernel, rfl⟩
theorem dL_law_541 : At cL_law 541 (.iaload) 1 542 := ⟨by decide +kernel, rfl⟩
theorem dL_law_542 : At cL_law 542 (.invokevirtual 71) 3 545 := ⟨by decide +kernel, rfl⟩
theorem dL_law_545 : At cL_law 545 (.aload_n 2) 1 546 := ⟨by decide +kernel, rfl⟩
theorem dL_law_546 : At cL_law 546 (.aload_n 0) 1 547 := ⟨by decide +kernel, rfl⟩
theorem dL_law_547 : At cL_law 547 (.iload_n 3) 1 548 := ⟨by decide +kernel, rfl⟩
theorem dL_law_548 : At cL_law 548 (.iconst 1) 1 549 := ⟨by decide +kernel, rfl⟩
theorem dL_law_549 : At cL_law 549 (.iadd) 1 550 := ⟨by decide +kernel, rfl⟩
theorem dL_law_550 : At cL_law 550 (.iaload) 1 551 := ⟨by decide +kernel, rfl⟩
theorem dL_law_551 : At cL_law 551 (.aload_n 0) 1 552 := ⟨by decide +kernel, rfl⟩
theorem dL_law_552 : At cL_law 552 (.iload_n 3) 1 553 := ⟨by decide +kernel, rfl⟩
theorem dL_law_553 : At cL_law 553 (.iconst 2) 1 554 := ⟨by decide +kernel, rfl⟩
theorem dL_law_554 : At cL_law 554 (.iadd) 1 555 := ⟨by decide +kernel, rfl⟩
theorem dL_law_555 : At cL_law 555 (.iaload) 1 556 := ⟨by decide +kernel, rfl⟩
theorem dL_law_556 : At cL_law 556 (.invokevirtual 74) 3 559 := ⟨by decide +kernel, rfl⟩
theorem dL_law_559 : Br cL_law 559 (.if_icmp .eq) 562 900 := ⟨(341), by decide +kernel, rfl, by decide⟩
theorem dL_law_562 : At cL_law 562 (.iconst 0) 1 563 := ⟨by decide +kernel, rfl⟩
theorem dL_law_563 : At cL_law 563 (.ireturn) 1 564 := ⟨by decide +kernel, rfl⟩
theorem dL_law_564 : At cL_law 564 (.aload_n 1) 1 565 := ⟨by decide +kernel, rfl⟩
theorem dL_law_565 : At cL_law 565 (.aload_n 0) 1 566 := ⟨by decide +kernel, rfl⟩
theorem dL_law_566 : At cL_law 566 (.iload_n 3) 1 567 := ⟨by decide +kernel, rfl⟩
theorem dL_law_567 : At cL_law 567 (.iconst 1) 1 568 := ⟨by decide +kernel, rfl⟩
theorem dL_law_568 : At cL_law 568 (.iadd) 1 569 := ⟨by decide +kernel, rfl⟩
theorem dL_law_569 : At cL_law 569 (.iaload) 1 570 := ⟨by decide +kernel, rfl⟩
theorem dL_law_570 : At cL_law 570 (.aload_n 0) 1 571 := ⟨by decide +kernel, rfl⟩
theorem dL_law_571 : At cL_law 571 (.iload_n 3) 1 572 := ⟨by decide +kernel, rfl⟩
theorem dL_law_572 : At cL_law 572 (.iconst 2) 1 573 := ⟨by decide +kernel, rfl⟩
theorem dL_law_573 : At cL_law 573 (.iadd) 1 574 := ⟨by decide +kernel, rfl⟩
theorem dL_law_574 : At cL_law 574 (.iaload) 1 575 := ⟨by decide +kernel, rfl⟩
theorem dL_law_575 : At cL_law 575 (.invokevirtual 75) 3 578 := ⟨by decide +kernel, rfl⟩
theorem dL_law_578 : At cL_law 578 (.aload_n 2) 1 579 := ⟨by decide +kernel, rfl⟩
theorem dL_law_579 : At cL_law 579 (.aload_n 0) 1 580 := ⟨by decide +kernel, rfl⟩
theorem dL_law_580 : At cL_law 580 (.iload_n 3) 1 581 := ⟨by decide +kernel, rfl⟩
theorem dL_law_581 : At cL_law 581 (.iconst 1) 1 582 := ⟨by decide +kernel, rfl⟩
theorem dL_law_582 : At cL_law 582 (.iadd) 1 583 := ⟨by decide +kernel, rfl⟩
theorem dL_law_583 : At cL_law 583 (.iaload) 1 584 := ⟨by decide +kernel, rfl⟩
theorem dL_law_584 : At cL_law 584 (.aload_n 0) 1 585 := ⟨by decide +kernel, rfl⟩
theorem dL_law_585 : At cL_law 585 (.iload_n 3) 1 586 := ⟨by decide +kernel, rfl⟩
theorem dL_law_586 : At cL_law 586 (.iconst 2) 1 587 := ⟨by decide +kernel, rfl⟩
theorem dL_law_587 : At cL_law 587 (.iadd) 1 588 := ⟨by decide +kernel, rfl⟩
theorem dL_law_588 : At cL_law 588 (.iaload) 1 589 := ⟨by decide +kernel, rfl⟩
theorem dL_law_589 : At cL_law 589 (.invokevirtual 78) 3 592 := ⟨by decide +kernel, rfl⟩
theorem dL_law_592 : Br cL_law 592 (.if_icmp .eq) 595 900 := ⟨(308), by decide +kernel, rfl, by decide⟩
theorem dL_law_595 : At cL_law 595 (.iconst 0) 1 596 := ⟨by decide +kernel, rfl⟩
theorem dL_law_596 : At cL_law 596 (.ireturn) 1 597 := ⟨by decide +kernel, rfl⟩
theorem dL_law_597 : At cL_law 597 (.aload_n 1) 1 598 := ⟨by decide +kernel, rfl⟩
theorem dL_law_598 : At cL_law 598 (.aload_n 0) 1 599 := ⟨by decide +kernel, rfl⟩
theorem dL_law_599 : At cL_law 599 (.iload_n 3) 1 600 := ⟨by decide +kernel, rfl⟩
theorem dL_law_600 : At cL_law 600 (.iconst 1) 1 601 := ⟨by decide +kernel, rfl⟩
theorem dL_law_601 : At cL_law 601 (.iadd) 1 602 := ⟨by decide +kernel, rfl⟩
theorem dL_law_602 : At cL_law 602 (.iaload) 1 603 := ⟨by decide +kernel, rfl⟩
theorem dL_law_603 : At cL_law 603 (.aload_n 0) 1 604 := ⟨by decide +kernel, rfl⟩
theorem dL_law_604 : At cL_law 604 (.iload_n 3) 1 605 := ⟨by decide +kernel, rfl⟩
theorem dL_law_605 : At cL_law 605 (.iconst 2) 1 606 := ⟨by decide +kernel, rfl⟩
theorem dL_law_606 : At cL_law 606 (.iadd) 1 607 := ⟨by decide +kernel, rfl⟩
theorem dL_law_607 : At cL_law 607 (.iaload) 1 608 := ⟨by decide +kernel, rfl⟩
theorem dL_law_608 : At cL_law 608 (.invokevirtual 79) 3 611 := ⟨by decide +kernel, rfl⟩
theorem dL_law_611 : At cL_law 611 (.aload_n 2) 1 612 := ⟨by decide +kernel, rfl⟩
theorem dL_law_612 : At cL_law 612 (.aload_n 0) 1 613 := ⟨by decide +kernel, rfl⟩
theorem dL_law_613 : At cL_law 613 (.iload_n 3) 1 614 := ⟨by decide +kernel, rfl⟩
theorem dL_law_614 : At cL_law 614 (.iconst 1) 1 615 := ⟨by decide +kernel, rfl⟩
theorem dL_law_615 : At cL_law 615 (.iadd) 1 616 := ⟨by decide +kernel, rfl⟩
theorem dL_law_616 : At cL_law 616 (.iaload) 1 617 := ⟨by decide +kernel, rfl⟩
theorem dL_law_617 : At cL_law 617 (.aload_n 0) 1 618 := ⟨by decide +kernel, rfl⟩
theorem dL_law_618 : At cL_law 618 (.iload_n 3) 1 619 := ⟨by decide +kernel, rfl⟩
theorem dL_law_619 : At cL_law 619 (.iconst 2) 1 620 := ⟨by decide +kernel, rfl⟩
theorem dL_law_620 : At cL_law 620 (.iadd) 1 621 := ⟨by decide +kernel, rfl⟩
theorem dL_law_621 : At cL_law 621 (.iaload) 1 622 := ⟨by decide +kernel, rfl⟩
theorem dL_law_622 : At cL_law 622 (.invokevirtual 82) 3 625 := ⟨by decide +kernel, rfl⟩
theorem dL_law_625 : Br cL_law 625 (.if_icmp .eq) 628 900 := ⟨(275), by decide +kernel, rfl, by decide⟩
theorem dL_law_628 : At cL_law 628 (.iconst 0) 1 629 := ⟨by decide +kernel, rfl⟩
theorem dL_law_629 : At cL_law 629 (.ireturn) 1 630 := ⟨by decide +kernel, rfl⟩
theorem dL_law_630 : At cL_law 630 (.aload_n 1) 1 631 := ⟨by decide +kernel, rfl⟩
theorem dL_law_631 : At cL_law 631 (.aload_n 0) 1 632 := ⟨by decide +kernel, rfl⟩
theorem dL_law_632 : At cL_law 632 (.iload_n 3) 1 633 := ⟨by decide +kernel, rfl⟩
theorem dL_law_633 : At cL_law 633 (.iconst 1) 1 634 := ⟨by decide +kernel, rfl⟩
theorem dL_law_634 : At cL_law 634 (.iadd) 1 635 := ⟨by decide +kernel, rfl⟩
theorem dL_law_635 : At cL_law 635 (.iaload) 1 636 := ⟨by decide +kernel, rfl⟩
theorem dL_law_636 : At cL_law 636 (.invokevirtual 83) 3 639 := ⟨by decide +kernel, rfl⟩
theorem dL_law_639 : At cL_law 639 (.aload_n 2) 1 640 := ⟨by decide +kernel, rfl⟩
theorem dL_law_640 : At cL_law 640 (.aload_n 0) 1 641 := ⟨by decide +kernel, rfl⟩
theorem dL_law_641 : At cL_law 641 (.iload_n 3) 1 642 := ⟨by decide +kernel, rfl⟩
theorem dL_law_642 : At cL_law 642 (.iconst 1) 1 643 := ⟨by decide +kernel, rfl⟩
theorem dL_law_643 : At cL_law 643 (.iadd) 1 644 := ⟨by decide +kernel, rfl⟩
theorem dL_law_644 : At cL_law 644 (.iaload) 1 645 := ⟨by decide +kernel, rfl⟩
theorem dL_law_645 : At cL_law 645 (.invokevirtual 86) 3 648 := ⟨by decide +kernel, rfl⟩
theorem dL_law_648 : Br cL_law 648 (.if_icmp .eq) 651 900 := ⟨(252), by decide +kernel, rfl, by decide⟩
theorem dL_law_651 : At cL_law 651 (.iconst 0) 1 652 := ⟨by decide +kernel, rfl⟩
theorem dL_law_652 : At cL_law 652 (.ireturn) 1 653 := ⟨by decide +kernel, rfl⟩
theorem dL_law_653 : At cL_law 653 (.aload_n 1) 1 654 := ⟨by decide +kernel, rfl⟩
theorem dL_law_654 : At cL_law 654 (.aload_n 0) 1 655 := ⟨by decide +kernel, rfl⟩
theorem dL_law_655 : At cL_law 655 (.iload_n 3) 1 656 := ⟨by decide +kernel, rfl⟩
theorem dL_law_656 : At cL_law 656 (.iconst 1) 1 657 := ⟨by decide +kernel, rfl⟩
theorem dL_law_657 : At cL_law 657 (.iadd) 1 658 := ⟨by decide +kernel, rfl⟩
theorem dL_law_658 : At cL_law 658 (.iaload) 1 659 := ⟨by decide +kernel, rfl⟩
theorem dL_law_659 : At cL_law 659 (.aload_n 0) 1 660 := ⟨by decide +kernel, rfl⟩
theorem dL_law_660 : At cL_law 660 (.iload_n 3) 1 661 := ⟨by decide +kernel, rfl⟩
theorem dL_law_661 : At cL_law 661 (.iconst 2) 1 662 := ⟨by decide +kernel, rfl⟩
theorem dL_law_662 : At cL_law 662 (.iadd) 1 663 := ⟨by decide +kernel, rfl⟩
theorem dL_law_663 : At cL_law 663 (.iaload) 1 664 := ⟨by decide +kernel, rfl⟩
theorem dL_law_664 : At cL_law 664 (.invokevirtual 87) 3 667 := ⟨by decide +kernel, rfl⟩
theorem dL_law_667 : At cL_law 667 (.aload_n 2) 1 668 := ⟨by decide +kernel, rfl⟩
theorem dL_law_668 : At cL_law 668 (.aload_n 0) 1 669 := ⟨by decide +kernel, rfl⟩
theorem dL_law_669 : At cL_law 669 (.iload_n 3) 1 670 := ⟨by decide +kernel, rfl⟩
theorem dL_law_670 : At cL_law 670 (.iconst 1) 1 671 := ⟨by decide +kernel, rfl⟩
theorem dL_law_671 : At cL_law 671 (.iadd) 1 672 := ⟨by decide +kernel, rfl⟩
theorem dL_law_672 : At cL_law 672 (.iaload) 1 673 := ⟨by decide +kernel, rfl⟩
theorem dL_law_673 : At cL_law 673 (.aload_n 0) 1 674 := ⟨by decide +kernel, rfl⟩
theorem dL_law_674 : At cL_law 674 (.iload_n 3) 1 675 := ⟨by decide +kernel, rfl⟩
theorem dL_law_675 : At cL_law 675 (.iconst 2) 1 676 := ⟨by decide +kernel, rfl⟩
theorem dL_law_676 : At cL_law 676 (.iadd) 1 677 := ⟨by decide +kernel, rfl⟩
theorem dL_law_677 : At cL_law 677 (.iaload) 1 678 := ⟨by decide +kernel, rfl⟩
theorem dL_law_678 : At cL_law 678 (.invokevirtual 90) 3 681 := ⟨by decide +kernel, rfl⟩
theorem dL_law_681 : Br cL_law 681 (.if_icmp .eq) 684 900 := ⟨(219), by decide +kernel, rfl, by decide⟩
theorem dL_law_684 : At cL_law 684 (.iconst 0) 1 685 := ⟨by decide +kernel, rfl⟩
theorem dL_law_685 : At cL_law 685 (.ireturn) 1 686 := ⟨by decide +kernel, rfl⟩
theorem dL_law_686 : At cL_law 686 (.aload_n 1) 1 687 := ⟨by decide +kernel, rfl⟩
theorem dL_law_687 : At cL_law 687 (.aload_n 0) 1 688 := ⟨by decide +kernel, rfl⟩
theorem dL_law_688 : At cL_law 688 (.iload_n 3) 1 689 := ⟨by decide +kernel, rfl⟩
theorem dL_law_689 : At cL_law 689 (.iconst 1) 1 690 := ⟨by decide +kernel, rfl⟩
theorem dL_law_690 : At cL_law 690 (.iadd) 1 691 := ⟨by decide +kernel, rfl⟩
theorem dL_law_691 : At cL_law 691 (.iaload) 1 692 := ⟨by decide +kernel, rfl⟩
theorem dL_law_692 : At cL_law 692 (.aload_n 0) 1 693 := ⟨by decide +kernel, rfl⟩
theorem dL_law_693 : At cL_law 693 (.iload_n 3) 1 694 := ⟨by decide +kernel, rfl⟩
theorem dL_law_694 : At cL_law 694 (.iconst 2) 1 695 := ⟨by decide +kernel, rfl⟩
theorem dL_law_695 : At cL_law 695 (.iadd) 1 696 := ⟨by decide +kernel, rfl⟩
theorem dL_law_696 : At cL_law 696 (.iaload) 1 697 := ⟨by decide +kernel, rfl⟩
theorem dL_law_697 : At cL_law 697 (.invokevirtual 91) 3 700 := ⟨by decide +kernel, rfl⟩
theorem dL_law_700 : At cL_law 700 (.aload_n 2) 1 701 := ⟨by decide +kernel, rfl⟩
theorem dL_law_701 : At cL_law 701 (.aload_n 0) 1 702 := ⟨by decide +kernel, rfl⟩
theorem dL_law_702 : At cL_law 702 (.iload_n 3) 1 703 := ⟨by decide +kernel, rfl⟩
theorem dL_law_703 : At cL_law 703 (.iconst 1) 1 704 := ⟨by decide +kernel, rfl⟩
theorem dL_law_704 : At cL_law 704 (.iadd) 1 705 := ⟨by decide +kernel, rfl⟩
theorem dL_law_705 : At cL_law 705 (.iaload) 1 706 := ⟨by decide +kernel, rfl⟩
theorem dL_law_706 : At cL_law 706 (.aload_n 0) 1 707 := ⟨by decide +kernel, rfl⟩
theorem dL_law_707 : At cL_law 707 (.iload_n 3) 1 708 := ⟨by decide +kernel, rfl⟩
theorem dL_law_708 : At cL_law 708 (.iconst 2) 1 709 := ⟨by decide +kernel, rfl⟩
theorem dL_law_709 : At cL_law 709 (.iadd) 1 710 := ⟨by decide +kernel, rfl⟩
theorem dL_law_710 : At cL_law 710 (.iaload) 1 711 := ⟨by decide +kernel, rfl⟩
theorem dL_law_711 : At cL_law 711 (.invokevirtual 94) 3 714 := ⟨by decide +kernel, rfl⟩
theorem dL_law_714 : Br cL_law 714 (.if_icmp .eq) 717 900 := ⟨(186), by decide +kernel, rfl, by decide⟩
theorem dL_law_717 : At cL_law 717 (.iconst 0) 1 718 := ⟨by decide +kernel, rfl⟩
theorem dL_law_718 : At cL_law 718 (.ireturn) 1 719 := ⟨by decide +kernel, rfl⟩
theorem dL_law_719 : At cL_law 719 (.aload_n 1) 1 720 := ⟨by decide +kernel, rfl⟩
theorem dL_law_720 : At cL_law 720 (.aload_n 0) 1 721 := ⟨by decide +kernel, rfl⟩
theorem dL_law_721 : At cL_law 721 (.iload_n 3) 1 722 := ⟨by decide +kernel, rfl⟩
theorem dL_law_722 : At cL_law 722 (.iconst 1) 1 723 := ⟨by decide +kernel, rfl⟩
theorem dL_law_723 : At cL_law 723 (.iadd) 1 724 := ⟨by decide +kernel, rfl⟩
theorem dL_law_724 : At cL_law 724 (.iaload) 1 725 := ⟨by decide +kernel, rfl⟩
theorem dL_law_725 : At cL_law 725 (.aload_n 0) 1 726 := ⟨by decide +kernel, rfl⟩
theorem dL_law_726 : At cL_law 726 (.iload_n 3) 1 727 := ⟨by decide +kernel, rfl⟩
theorem dL_law_727 : At cL_law 727 (.iconst 2) 1 728 := ⟨by decide +kernel, rfl⟩
theorem dL_law_728 : At cL_law 728 (.iadd) 1 729 := ⟨by decide +kernel, rfl⟩
theorem dL_law_729 : At cL_law 729 (.iaload) 1 730 := ⟨by decide +kernel, rfl⟩
theorem dL_law_730 : At cL_law 730 (.aload_n 0) 1 731 := ⟨by decide +kernel, rfl⟩
theorem dL_law_731 : At cL_law 731 (.iload_n 3) 1 732 := ⟨by decide +kernel, rfl⟩
theorem dL_law_732 : At cL_law 732 (.iconst 3) 1 733 := ⟨by decide +kernel, rfl⟩
theorem dL_law_733 : At cL_law 733 (.iadd) 1 734 := ⟨by decide +kernel, rfl⟩
theorem dL_law_734 : At cL_law 734 (.iaload) 1 735 := ⟨by decide +kernel, rfl⟩
theorem dL_law_735 : At cL_law 735 (.invokevirtual 95) 3 738 := ⟨by decide +kernel, rfl⟩
theorem dL_law_738 : At cL_law 738 (.aload_n 2) 1 739 := ⟨by decide +kernel, rfl⟩
theorem dL_law_739 : At cL_law 739 (.aload_n 0) 1 740 := ⟨by decide +kernel, rfl⟩
theorem dL_law_740 : At cL_law 740 (.iload_n 3) 1 741 := ⟨by decide +kernel, rfl⟩
theorem dL_law_741 : At cL_law 741 (.iconst 1) 1 742 := ⟨by decide +kernel, rfl⟩
theorem dL_law_742 : At cL_law 742 (.iadd) 1 743 := ⟨by decide +kernel, rfl⟩
theorem dL_law_743 : At cL_law 743 (.iaload) 1 744 := ⟨by decide +kernel, rfl⟩
theorem dL_law_744 : At cL_law 744 (.aload_n 0) 1 745 := ⟨by decide +kernel, rfl⟩
theorem dL_law_745 : At cL_law 745 (.iload_n 3) 1 746 := ⟨by decide +kernel, rfl⟩
theorem dL_law_746 : At cL_law 746 (.iconst 2) 1 747 := ⟨by decide +kernel, rfl⟩
theorem dL_law_747 : At cL_law 747 (.iadd) 1 748 := ⟨by decide +kernel, rfl⟩
theorem dL_law_748 : At cL_law 748 (.iaload) 1 749 := ⟨by decide +kernel, rfl⟩
theorem dL_law_749 : At cL_law 749 (.aload_n 0) 1 750 := ⟨by decide +kernel, rfl⟩
theorem dL_law_750 : At cL_law 750 (.iload_n 3) 1 751 := ⟨by decide +kernel, rfl⟩
theorem dL_law_751 : At cL_law 751 (.iconst 3) 1 752 := ⟨by decide +kernel, rfl⟩
theorem dL_law_752 : At cL_law 752 (.iadd) 1 753 := ⟨by decide +kernel, rfl⟩
theorem dL_law_753 : At cL_law 753 (.iaload) 1 754 := ⟨by decide +kernel, rfl⟩
theorem dL_law_754 : At cL_law 754 (.invokevirtual 99) 3 757 := ⟨by decide +kernel, rfl⟩
theorem dL_law_757 : Br cL_law 757 (.if_icmp .eq) 760 900 := ⟨(143), by decide +kernel, rfl, by decide⟩
theorem dL_law_760 : At cL_law 760 (.iconst 0) 1 761 := ⟨by decide +kernel, rfl⟩
theorem dL_law_761 : At cL_law 761 (.ireturn) 1 762 := ⟨by decide +kernel, rfl⟩
theorem dL_law_762 : At cL_law 762 (.aload_n 1) 1 763 := ⟨by decide +kernel, rfl⟩
theorem dL_law_763 : At cL_law 763 (.aload_n 0) 1 764 := ⟨by decide +kernel, rfl⟩
theorem dL_law_764 : At cL_law 764 (.iload_n 3) 1 765 := ⟨by decide +kernel, rfl⟩
theorem dL_law_765 : At cL_law 765 (.iconst 1) 1 766 := ⟨by decide +kernel, rfl⟩
theorem dL_law_766 : At cL_law 766 (.iadd) 1 767 := ⟨by decide +kernel, rfl⟩
theorem dL_law_767 : At cL_law 767 (.iaload) 1 768 := ⟨by decide +kernel, rfl⟩
theorem dL_law_768 : At cL_law 768 (.invokevirtual 100) 3 771 := ⟨by decide +kernel, rfl⟩
theorem dL_law_771 : At cL_law 771 (.aload_n 2) 1 772 := ⟨by decide +kernel, rfl⟩
theorem dL_law_772 : At cL_law 772 (.aload_n 0) 1 773 := ⟨by decide +kernel, rfl⟩
theorem dL_law_773 : At cL_law 773 (.iload_n 3) 1 774 := ⟨by decide +kernel, rfl⟩
theorem dL_law_774 : At cL_law 774 (.iconst 1) 1 775 := ⟨by decide +kernel, rfl⟩
theorem dL_law_775 : At cL_law 775 (.iadd) 1 776 := ⟨by decide +kernel, rfl⟩
theorem dL_law_776 : At cL_law 776 (.iaload) 1 777 := ⟨by decide +kernel, rfl⟩
theorem dL_law_777 : At cL_law 777 (.invokevirtual 103) 3 780 := ⟨by decide +kernel, rfl⟩
theorem dL_law_780 : Br cL_law 780 (.if_icmp .eq) 783 900 := ⟨(120), by decide +kernel, rfl, by decide⟩
theorem dL_law_783 : At cL_law 783 (.iconst 0) 1 784 := ⟨by decide +kernel, rfl⟩
theorem dL_law_784 : At cL_law 784 (.ireturn) 1 785 := ⟨by decide +kernel, rfl⟩
theorem dL_law_785 : At cL_law 785 (.aload_n 1) 1 786 := ⟨by decide +kernel, rfl⟩
theorem dL_law_786 : At cL_law 786 (.aload_n 0) 1 787 := ⟨by decide +kernel, rfl⟩
theorem dL_law_787 : At cL_law 787 (.iload_n 3) 1 788 := ⟨by decide +kernel, rfl⟩
theorem dL_law_788 : At cL_law 788 (.iconst 1) 1 789 := ⟨by decide +kernel, rfl⟩
theorem dL_law_789 : At cL_law 789 (.iadd) 1 790 := ⟨by decide +kernel, rfl⟩
theorem dL_law_790 : At cL_law 790 (.iaload) 1 791 := ⟨by decide +kernel, rfl⟩
theorem dL_law_791 : At cL_law 791 (.aload_n 0) 1 792 := ⟨by decide +kernel, rfl⟩
theorem dL_law_792 : At cL_law 792 (.iload_n 3) 1 793 := ⟨by decide +kernel, rfl⟩
theorem dL_law_793 : At cL_law 793 (.iconst 2) 1 794 := ⟨by decide +kernel, rfl⟩
theorem dL_law_794 : At cL_law 794 (.iadd) 1 795 := ⟨by decide +kernel, rfl⟩
theorem dL_law_795 : At cL_law 795 (.iaload) 1 796 := ⟨by decide +kernel, rfl⟩
theorem dL_law_796 : At cL_law 796 (.invokevirtual 104) 3 799 := ⟨by decide +kernel, rfl⟩
theorem dL_law_799 : At cL_law 799 (.aload_n 2) 1 800 := ⟨by decide +kernel, rfl⟩
theorem dL_law_800 : At cL_law 800 (.aload_n 0) 1 801 := ⟨by decide +kernel, rfl⟩
theorem dL_law_801 : At cL_law 801 (.iload_n 3) 1 802 := ⟨by decide +kernel, rfl⟩
theorem dL_law_802 : At cL_law 802 (.iconst 1) 1 803 := ⟨by decide +kernel, rfl⟩
theorem dL_law_803 : At cL_law 803 (.iadd) 1 804 := ⟨by decide +kernel, rfl⟩
theorem dL_law_804 : At cL_law 804 (.iaload) 1 805 := ⟨by decide +kernel, rfl⟩
theorem dL_law_805 : At cL_law 805 (.aload_n 0) 1 806 := ⟨by decide +kernel, rfl⟩
theorem dL_law_806 : At cL_law 806 (.iload_n 3) 1 807 := ⟨by decide +kernel, rfl⟩
theorem dL_law_807 : At cL_law 807 (.iconst 2) 1 808 := ⟨by decide +kernel, rfl⟩
theorem dL_law_808 : At cL_law 808 (.iadd) 1 809 := ⟨by decide +kernel, rfl⟩
theorem dL_law_809 : At cL_law 809 (.iaload) 1 810 := ⟨by decide +kernel, rfl⟩
theorem dL_law_810 : At cL_law 810 (.invokevirtual 107) 3 813 := ⟨by decide +kernel, rfl⟩
theorem dL_law_813 : Br cL_law 813 (.if_icmp .eq) 816 900 := ⟨(87), by decide +kernel, rfl, by decide⟩
theorem dL_law_816 : At cL_law 816 (.iconst 0) 1 817 := ⟨by decide +kernel, rfl⟩
theorem dL_law_817 : At cL_law 817 (.ireturn) 1 818 := ⟨by decide +kernel, rfl⟩
theorem dL_law_818 : At cL_law 818 (.aload_n 1) 1 819 := ⟨by decide +kernel, rfl⟩
theorem dL_law_819 : At cL_law 819 (.aload_n 0) 1 820 := ⟨by decide +kernel, rfl⟩
theorem dL_law_820 : At cL_law 820 (.iload_n 3) 1 821 := ⟨by decide +kernel, rfl⟩
theorem dL_law_821 : At cL_law 821 (.iconst 1) 1 822 := ⟨by decide +kernel, rfl⟩
theorem dL_law_822 : At cL_law 822 (.iadd) 1 823 := ⟨by decide +kernel, rfl⟩
theorem dL_law_823 : At cL_law 823 (.iaload) 1 824 := ⟨by decide +kernel, rfl⟩
theorem dL_law_824 : At cL_law 824 (.invokevirtual 108) 3 827 := ⟨by decide +kernel, rfl⟩
theorem dL_law_827 : At cL_law 827 (.aload_n 2) 1 828 := ⟨by decide +kernel, rfl⟩
theorem dL_law_828 : At cL_law 828 (.aload_n 0) 1 829 := ⟨by decide +kernel, rfl⟩
theorem dL_law_829 : At cL_law 829 (.iload_n 3) 1 830 := ⟨by decide +kernel, rfl⟩
theorem dL_law_830 : At cL_law 830 (.iconst 1) 1 831 := ⟨by decide +kernel, rfl⟩
theorem dL_law_831 : At cL_law 831 (.iadd) 1 832 := ⟨by decide +kernel, rfl⟩
theorem dL_law_832 : At cL_law 832 (.iaload) 1 833 := ⟨by decide +kernel, rfl⟩
theorem dL_law_833 : At cL_law 833 (.invokevirtual 111) 3 836 := ⟨by decide +kernel, rfl⟩
theorem dL_law_836 : Br cL_law 836 (.if_icmp .eq) 839 900 := ⟨(64), by decide +kernel, rfl, by decide⟩
theorem dL_law_839 : At cL_law 839 (.iconst 0) 1 840 := ⟨by decide +kernel, rfl⟩
theorem dL_law_840 : At cL_law 840 (.ireturn) 1 841 := ⟨by decide +kernel, rfl⟩
theorem dL_law_841 : At cL_law 841 (.aload_n 1) 1 842 := ⟨by decide +kernel, rfl⟩
theorem dL_law_842 : At cL_law 842 (.invokevirtual 112) 3 845 := ⟨by decide +kernel, rfl⟩
theorem dL_law_845 : At cL_law 845 (.aload_n 2) 1 846 := ⟨by decide +kernel, rfl⟩
theorem dL_law_846 : At cL_law 846 (.invokevirtual 115) 3 849 := ⟨by decide +kernel, rfl⟩
theorem dL_law_849 : Br cL_law 849 (.if_icmp .eq) 852 900 := ⟨(51), by decide +kernel, rfl, by decide⟩
theorem dL_law_852 : At cL_law 852 (.iconst 0) 1 853 := ⟨by decide +kernel, rfl⟩
theorem dL_law_853 : At cL_law 853 (.ireturn) 1 854 := ⟨by decide +kernel, rfl⟩
theorem dL_law_854 : At cL_law 854 (.aload_n 1) 1 855 := ⟨by decide +kernel, rfl⟩
theorem dL_law_855 : At cL_law 855 (.aload_n 0) 1 856 := ⟨by decide +kernel, rfl⟩
theorem dL_law_856 : At cL_law 856 (.iload_n 3) 1 857 := ⟨by decide +kernel, rfl⟩
theorem dL_law_857 : At cL_law 857 (.iconst 1) 1 858 := ⟨by decide +kernel, rfl⟩
theorem dL_law_858 : At cL_law 858 (.iadd) 1 859 := ⟨by decide +kernel, rfl⟩
theorem dL_law_859 : At cL_law 859 (.iaload) 1 860 := ⟨by decide +kernel, rfl⟩
theorem dL_law_860 : At cL_law 860 (.invokevirtual 116) 3 863 := ⟨by decide +kernel, rfl⟩
theorem dL_law_863 : At cL_law 863 (.aload_n 2) 1 864 := ⟨by decide +kernel, rfl⟩
theorem dL_law_864 : At cL_law 864 (.aload_n 0) 1 865 := ⟨by decide +kernel, rfl⟩
theorem dL_law_865 : At cL_law 865 (.iload_n 3) 1 866 := ⟨by decide +kernel, rfl⟩
theorem dL_law_866 : At cL_law 866 (.iconst 1) 1 867 := ⟨by decide +kernel, rfl⟩
theorem dL_law_867 : At cL_law 867 (.iadd) 1 868 := ⟨by decide +kernel, rfl⟩
theorem dL_law_868 : At cL_law 868 (.iaload) 1 869 := ⟨by decide +kernel, rfl⟩
theorem dL_law_869 : At cL_law 869 (.invokevirtual 119) 3 872 := ⟨by decide +kernel, rfl⟩
theorem dL_law_872 : Br cL_law 872 (.if_icmp .eq) 875 900 := ⟨(28), by decide +kernel, rfl, by decide⟩
theorem dL_law_875 : At cL_law 875 (.iconst 0) 1 876 := ⟨by decide +kernel, rfl⟩
theorem dL_law_876 : At cL_law 876 (.ireturn) 1 877 := ⟨by decide +kernel, rfl⟩
theorem dL_law_877 : At cL_law 877 (.aload_n 1) 1 878 := ⟨by decide +kernel, rfl⟩
theorem dL_law_878 : At cL_law 878 (.aload_n 0) 1 879 := ⟨by decide +kernel, rfl⟩
theorem dL_law_879 : At cL_law 879 (.iload_n 3) 1 880 := ⟨by decide +kernel, rfl⟩
theorem dL_law_880 : At cL_law 880 (.iconst 1) 1 881 := ⟨by decide +kernel, rfl⟩
theorem dL_law_881 : At cL_law 881 (.iadd) 1 882 := ⟨by decide +kernel, rfl⟩
theorem dL_law_882 : At cL_law 882 (.iaload) 1 883 := ⟨by decide +kernel, rfl⟩
theorem dL_law_883 : At cL_law 883 (.invokevirtual 120) 3 886 := ⟨by decide +kernel, rfl⟩
theorem dL_law_886 : At cL_law 886 (.aload_n 2) 1 887 := ⟨by decide +kernel, rfl⟩
theorem dL_law_887 : At cL_law 887 (.aload_n 0) 1 888 := ⟨by decide +kernel, rfl⟩
theorem dL_law_888 : At cL_law 888 (.iload_n 3) 1 889 := ⟨by decide +kernel, rfl⟩
theorem dL_law_889 : At cL_law 889 (.iconst 1) 1 890 := ⟨by decide +kernel, rfl⟩
theorem dL_law_890 : At cL_law 890 (.iadd) 1 891 := ⟨by decide +kernel, rfl⟩
theorem dL_law_891 : At cL_law 891 (.iaload) 1 892 := ⟨by decide +kernel, rfl⟩
theorem dL_law_892 : At cL_law 892 (.invokevirtual 123) 3 895 := ⟨by decide +kernel, rfl⟩
theorem dL_law_895 : Br cL_law 895 (.if_icmp .eq) 898 900 := ⟨(5), by decide +kernel, rfl, by decide⟩
theorem dL_law_898 : At cL_law 898 (.iconst 0) 1 899 := ⟨by decide +kernel, rfl⟩
theorem dL_law_899 : At cL_law 899 (.ireturn) 1 900 := ⟨by decide +kernel, rfl⟩
theorem dL_law_900 : At cL_law 900 (.iinc 3 4) 3 903 := ⟨by decide +kernel, rfl⟩
theorem dL_law_903 : Br cL_law 903 .goto 906 18 := ⟨(-885), by decide +kernel, rfl, by decide⟩
theorem dL_law_906 : At cL_law 906 (.iconst 1) 1 907 := ⟨by decide +kernel, rfl⟩
theorem dL_law_907 : At cL_law 907 (.ireturn) 1 908 := ⟨by decide +kernel, rfl⟩
theorem iL_9 : lkI RL 9 μX5_init 0 := ⟨tb_of 51 (by decide +kernel) (by decide +kernel), tb_of 52 (by decide +kernel) (by decide +kernel), tb_of 40 (by decide +kernel) (by decide +kernel), tb_of 53 (by decide +kernel) (by decide +kernel), ⟨by decide, by decide, by decide +kernel⟩, rfl, rfl⟩
theorem iL_12 : lkI RL 12 μX6_init 0 := ⟨tb_of 579 (by decide +kernel) (by decide +kernel), tb_of 580 (by decide +kernel) (by decide +kernel), tb_of 47 (by decide +kernel) (by decide +kernel), tb_of 581 (by decide +kernel) (by decide +kernel), ⟨by decide, by decide, by decide +kernel⟩, rfl, rfl⟩
theorem vL_13 : lkV RL 13 μX5_width 5 2 := ⟨tb_of 190 (by decide +kernel) (by decide +kernel), tb_of 191 (by decide +kernel) (by decide +kernel), tb_of 192 (by decide +kernel) (by decide +kernel), tb_of 40 (by decide +kernel) (by decide +kernel), tb_of 193 (by decide +kernel) (by decide +kernel), ⟨rfl, by decide, by decide, by decide +kernel⟩, ⟨_, _, rfl⟩⟩
theorem vL_17 : lkV RL 17 μX6_width 6 2 := ⟨tb_of 644 (by decide +kernel) (by decide +kernel), tb_of 645 (by decide +kernel) (by decide +kernel), tb_of 646 (by decide +kernel) (by decide +kernel), tb_of 47 (by decide +kernel) (by decide +kernel), tb_of 647 (by decide +kernel) (by decide +kernel), ⟨rfl, by decide, by decide, by decide +kernel⟩, ⟨_, _, rfl⟩⟩
theorem vL_18 : lkV RL 18 μX5_cross 5 2 := ⟨tb_of 224 (by decide +kernel) (by decide +kernel), tb_of 225 (by decide +kernel) (by decide +kernel), tb_of 226 (by decide +kernel) (by decide +kernel), tb_of 40 (by decide +kernel) (by decide +kernel), tb_of 227 (by decide +kernel) (by decide +kernel), ⟨rfl, by decide, by decide, by decide +kernel⟩, ⟨_, _, rfl⟩⟩
theorem vL_21 : lkV RL 21 μX6_cross 6 2 := ⟨tb_of 655 (by decide +kernel) (by decide +kernel), tb_of 656 (by decide +kernel) (by decide +kernel), tb_of 657 (by decide +kernel) (by decide +kernel), tb_of 47 (by decide +kernel) (by decide +kernel), tb_of 658 (by decide +kernel) (by decide +kernel), ⟨rfl, by decide, by decide, by decide +kernel⟩, ⟨_, _, rfl⟩⟩
theorem vL_22 : lkV RL 22 μX5_back 5 2 := ⟨tb_of 232 (by decide +kernel) (by decide +kernel), tb_of 233 (by decide +kernel) (by decide +kernel), tb_of 234 (by decide +kernel) (by decide +kernel), tb_of 40 (by decide +kernel) (by decide +kernel), tb_of 235 (by decide +kernel) (by decide +kernel), ⟨rfl, by decide, by decide, by decide +kernel⟩, ⟨_, _, rfl⟩⟩
theorem vL_25 : lkV RL 25 μX6_back 6 2 := ⟨tb_of 666 (by decide +kernel) (by decide +kernel), tb_of 667 (by decide +kernel) (by decide +kernel), tb_of 668 (by decide +kernel) (by decide +kernel), tb_of 47 (by decide +kernel) (by decide +kernel), tb_of 669 (by decide +kernel) (by decide +kernel), ⟨rfl, by decide, by decide, by decide +kernel⟩, ⟨_, _, rfl⟩⟩
theorem vL_26 : lkV RL 26 μX5_pull 5 1 := ⟨tb_of 240 (by decide +kernel) (by decide +kernel), tb_of 241 (by decide +kernel) (by decide +kernel), tb_of 242 (by decide +kernel) (by decide +kernel), tb_of 40 (by decide +kernel) (by decide +kernel), tb_of 243 (by decide +kernel) (by decide +kernel), ⟨rfl, by decide, by decide, by decide +kernel⟩, ⟨_, _, rfl⟩⟩
theorem vL_30 : lkV RL 30 μX6_pull 6 1 := ⟨tb_of 670 (by decide +kernel) (by decide +kernel), tb_of 671 (by decide +kernel) (by decide +kernel), tb_of 672 (by decide +kernel) (by decide +kernel), tb_of 47 (by decide +kernel) (by decide +kernel), tb_of 673 (by decide +kernel) (by decide +kernel), ⟨rfl, by decide, by decide, by decide +kernel⟩, ⟨_, _, rfl⟩⟩
theorem vL_31 : lkV RL 31 μX5_join 5 2 := ⟨tb_of 255 (by decide +kernel) (by decide +kernel), tb_of 256 (by decide +kernel) (by decide +kernel), tb_of 257 (by decide +kernel) (by decide +kernel), tb_of 40 (by decide +kernel) (by decide +kernel), tb_of 258 (by decide +kernel) (by decide +kernel), ⟨rfl, by decide, by decide, by decide +kernel⟩, ⟨_, _, rfl⟩⟩
theorem vL_34 : lkV RL 34 μX6_join 6 2 := ⟨tb_of 700 (by decide +kernel) (by decide +kernel), tb_of 701 (by decide +kernel) (by decide +kernel), tb_of 702 (by decide +kernel) (by decide +kernel), tb_of 47 (by decide +kernel) (by decide +kernel), tb_of 703 (by decide +kernel) (by decide +kernel), ⟨rfl, by decide, by decide, by decide +kernel⟩, ⟨_, _, rfl⟩⟩
theorem vL_35 : lkV RL 35 μX5_turn 5 1 := ⟨tb_of 260 (by decide +kernel) (by decide +kernel), tb_of 261 (by decide +kernel) (by decide +kernel), tb_of 262 (by decide +kernel) (by decide +kernel), tb_of 40 (by decide +kernel) (by decide +kernel), tb_of 263 (by decide +kernel) (by decide +kernel), ⟨rfl, by decide, by decide, by decide +kernel⟩, ⟨_, _, rfl⟩⟩
theorem vL_38 : lkV RL 38 μX6_turn 6 1 := ⟨tb_of 704 (by decide +kernel) (by decide +kernel), tb_of 705 (by decide +kernel) (by decide +kernel), tb_of 706 (by decide +kernel) (by decide +kernel), tb_of 47 (by decide +kernel) (by decide +kernel), tb_of 707 (by decide +kernel) (by decide +kernel), ⟨rfl, by decide, by decide, by decide +kernel⟩, ⟨_, _, rfl⟩⟩
theorem vL_39 : lkV RL 39 μX5_weave 5 2 := ⟨tb_of 268 (by decide +kernel) (by decide +kernel), tb_of 269 (by decide +kernel) (by decide +kernel), tb_of 270 (by decide +kernel) (by decide +kernel), tb_of 40 (by decide +kernel) (by decide +kernel), tb_of 271 (by decide +kernel) (by decide +kernel), ⟨rfl, by decide, by decide, by decide +kernel⟩, ⟨_, _, rfl⟩⟩
theorem vL_42 : lkV RL 42 μX6_weave 6 2 := ⟨tb_of 708 (by decide +kernel) (by decide +kernel), tb_of 709 (by decide +kernel) (by decide +kernel), tb_of 710 (by decide +kernel) (by decide +kernel), tb_of 47 (by decide +kernel) (by decide +kernel), tb_of 711 (by decide +kernel) (by decide +kernel), ⟨rfl, by decide, by decide, by decide +kernel⟩, ⟨_, _, rfl⟩⟩
theorem vL_43 : lkV RL 43 μX5_swap 5 2 := ⟨tb_of 285 (by decide +kernel) (by decide +kernel), tb_of 286 (by decide +kernel) (by decide +kernel), tb_of 287 (by decide +kernel) (by decide +kernel), tb_of 40 (by decide +kernel) (by decide +kernel), tb_of 288 (by decide +kernel) (by decide +kernel), ⟨rfl, by decide, by decide, by decide +kernel⟩, ⟨_, _, rfl⟩⟩
theorem vL_46 : lkV RL 46 μX6_swap 6 2 := ⟨tb_of 712 (by decide +kernel) (by decide +kernel), tb_of 713 (by decide +kernel) (by decide +kernel), tb_of 714 (by decide +kernel) (by decide +kernel), tb_of 47 (by decide +kernel) (by decide +kernel), tb_of 715 (by decide +kernel) (by decide +kernel), ⟨rfl, by decide, by decide, by decide +kernel⟩, ⟨_, _, rfl⟩⟩
theorem vL_49 : lkV RL 49 μX5_put 5 1 := ⟨tb_of 313 (by decide +kernel) (by decide +kernel), tb_of 314 (by decide +kernel) (by decide +kernel), tb_of 315 (by decide +kernel) (by decide +kernel), tb_of 40 (by decide +kernel) (by decide +kernel), tb_of 316 (by decide +kernel) (by decide +kernel), ⟨rfl, by decide, by decide, by decide +kernel⟩, ⟨_, _, rfl⟩⟩
theorem vL_53 : lkV RL 53 μX6_put 6 1 := ⟨tb_of 728 (by decide +kernel) (by decide +kernel), tb_of 729 (by decide +kernel) (by decide +kernel), tb_of 730 (by decide +kernel) (by decide +kernel), tb_of 47 (by decide +kernel) (by decide +kernel), tb_of 731 (by decide +kernel) (by decide +kernel), ⟨rfl, by decide, by decide, by decide +kernel⟩, ⟨_, _, rfl⟩⟩
theorem vL_54 : lkV RL 54 μX5_wipe 5 0 := ⟨tb_of 325 (by decide +kernel) (by decide +kernel), tb_of 326 (by decide +kernel) (by decide +kernel), tb_of 327 (by decide +kernel) (by decide +kernel), tb_of 40 (by decide +kernel) (by decide +kernel), tb_of 328 (by decide +kernel) (by decide +kernel), ⟨rfl, by decide, by decide, by decide +kernel⟩, ⟨_, _, rfl⟩⟩
theorem vL_58 : lkV RL 58 μX6_wipe 6 0 := ⟨tb_of 733 (by decide +kernel) (by decide +kernel), tb_of 734 (by decide +kernel) (by decide +kernel), tb_of 735 (by decide +kernel) (by decide +kernel), tb_of 47 (by decide +kernel) (by decide +kernel), tb_of 736 (by decide +kernel) (by decide +kernel), ⟨rfl, by decide, by decide, by decide +kernel⟩, ⟨_, _, rfl⟩⟩
theorem vL_59 : lkV RL 59 μX5_fault 5 0 := ⟨tb_of 333 (by decide +kernel) (by decide +kernel), tb_of 334 (by decide +kernel) (by decide +kernel), tb_of 335 (by decide +kernel) (by decide +kernel), tb_of 40 (by decide +kernel) (by decide +kernel), tb_of 336 (by decide +kernel) (by decide +kernel), ⟨rfl, by decide, by decide, by decide +kernel⟩, ⟨_, _, rfl⟩⟩
theorem vL_62 : lkV RL 62 μX6_fault 6 0 := ⟨tb_of 737 (by decide +kernel) (by decide +kernel), tb_of 738 (by decide +kernel) (by decide +kernel), tb_of 739 (by decide +kernel) (by decide +kernel), tb_of 47 (by decide +kernel) (by decide +kernel), tb_of 740 (by decide +kernel) (by decide +kernel), ⟨rfl, by decide, by decide, by decide +kernel⟩, ⟨_, _, rfl⟩⟩
theorem vL_63 : lkV RL 63 μX5_load 5 1 := ⟨tb_of 367 (by decide +kernel) (by decide +kernel), tb_of 368 (by decide +kernel) (by decide +kernel), tb_of 369 (by decide +kernel) (by decide +kernel), tb_of 40 (by decide +kernel) (by decide +kernel), tb_of 370 (by decide +kernel) (by decide +kernel), ⟨rfl, by decide, by decide, by decide +kernel⟩, ⟨_, _, rfl⟩⟩
theorem vL_66 : lkV RL 66 μX6_load 6 1 := ⟨tb_of 761 (by decide +kernel) (by decide +kernel), tb_of 762 (by decide +kernel) (by decide +kernel), tb_of 763 (by decide +kernel) (by decide +kernel), tb_of 47 (by decide +kernel) (by decide +kernel), tb_of 764 (by decide +kernel) (by decide +kernel), ⟨rfl, by decide, by decide, by decide +kernel⟩, ⟨_, _, rfl⟩⟩
theorem vL_67 : lkV RL 67 μX5_crossing 5 2 := ⟨tb_of 386 (by decide +kernel) (by decide +kernel), tb_of 387 (by decide +kernel) (by decide +kernel), tb_of 388 (by decide +kernel) (by decide +kernel), tb_of 40 (by decide +kernel) (by decide +kernel), tb_of 389 (by decide +kernel) (by decide +kernel), ⟨rfl, by decide, by decide, by decide +kernel⟩, ⟨_, _, rfl⟩⟩
theorem vL_70 : lkV RL 70 μX6_crossing 6 2 := ⟨tb_of 765 (by decide +kernel) (by decide +kernel), tb_of 766 (by decide +kernel) (by decide +kernel), tb_of 767 (by decide +kernel) (by decide +kernel), tb_of 47 (by decide +kernel) (by decide +kernel), tb_of 768 (by decide +kernel) (by decide +kernel), ⟨rfl, by decide, by decide, by decide +kernel⟩, ⟨_, _, rfl⟩⟩
theorem vL_71 : lkV RL 71 μX5_ofRope 5 2 := ⟨tb_of 393 (by decide +kernel) (by decide +kernel), tb_of 394 (by decide +kernel) (by decide +kernel), tb_of 395 (by decide +kernel) (by decide +kernel), tb_of 40 (by decide +kernel) (by decide +kernel), tb_of 396 (by decide +kernel) (by decide +kernel), ⟨rfl, by decide, by decide, by decide +kernel⟩, ⟨_, _, rfl⟩⟩
theorem vL_74 : lkV RL 74 μX6_ofRope 6 2 := ⟨tb_of 769 (by decide +kernel) (by decide +kernel), tb_of 770 (by decide +kernel) (by decide +kernel), tb_of 771 (by decide +kernel) (by decide +kernel), tb_of 47 (by decide +kernel) (by decide +kernel), tb_of 772 (by decide +kernel) (by decide +kernel), ⟨rfl, by decide, by decide, by decide +kernel⟩, ⟨_, _, rfl⟩⟩
theorem vL_75 : lkV RL 75 μX5_winds 5 2 := ⟨tb_of 441 (by decide +kernel) (by decide +kernel), tb_of 442 (by decide +kernel) (by decide +kernel), tb_of 443 (by decide +kernel) (by decide +kernel), tb_of 40 (by decide +kernel) (by decide +kernel), tb_of 444 (by decide +kernel) (by decide +kernel), ⟨rfl, by decide, by decide, by decide +kernel⟩, ⟨_, _, rfl⟩⟩
theorem vL_78 : lkV RL 78 μX6_winds 6 2 := ⟨tb_of 805 (by decide +kernel) (by decide +kernel), tb_of 806 (by decide +kernel) (by decide +kernel), tb_of 807 (by decide +kernel) (by decide +kernel), tb_of 47 (by decide +kernel) (by decide +kernel), tb_of 808 (by decide +kernel) (by decide +kernel), ⟨rfl, by decide, by decide, by decide +kernel⟩, ⟨_, _, rfl⟩⟩
theorem vL_79 : lkV RL 79 μX5_least 5 2 := ⟨tb_of 449 (by decide +kernel) (by decide +kernel), tb_of 450 (by decide +kernel) (by decide +kernel), tb_of 451 (by decide +kernel) (by decide +kernel), tb_of 40 (by decide +kernel) (by decide +kernel), tb_of 452 (by decide +kernel) (by decide +kernel), ⟨rfl, by decide, by decide, by decide +kernel⟩, ⟨_, _, rfl⟩⟩
theorem vL_82 : lkV RL 82 μX6_least 6 2 := ⟨tb_of 809 (by decide +kernel) (by decide +kernel), tb_of 810 (by decide +kernel) (by decide +kernel), tb_of 811 (by decide +kernel) (by decide +kernel), tb_of 47 (by decide +kernel) (by decide +kernel), tb_of 812 (by decide +kernel) (by decide +kernel), ⟨rfl, by decide, by decide, by decide +kernel⟩, ⟨_, _, rfl⟩⟩
theorem vL_83 : lkV RL 83 μX5_count 5 1 := ⟨tb_of 473 (by decide +kernel) (by decide +kernel), tb_of 474 (by decide +kernel) (by decide +kernel), tb_of 475 (by decide +kernel) (by decide +kernel), tb_of 40 (by decide +kernel) (by decide +kernel), tb_of 476 (by decide +kernel) (by decide +kernel), ⟨rfl, by decide, by decide, by decide +kernel⟩, ⟨_, _, rfl⟩⟩
theorem vL_86 : lkV RL 86 μX6_count 6 1 := ⟨tb_of 813 (by decide +kernel) (by decide +kernel), tb_of 814 (by decide +kernel) (by decide +kernel), tb_of 815 (by decide +kernel) (by decide +kernel), tb_of 47 (by decide +kernel) (by decide +kernel), tb_of 816 (by decide +kernel) (by decide +kernel), ⟨rfl, by decide, by decide, by decide +kernel⟩, ⟨_, _, rfl⟩⟩
theorem vL_87 : lkV RL 87 μX5_falls 5 2 := ⟨tb_of 477 (by decide +kernel) (by decide +kernel), tb_of 478 (by decide +kernel) (by decide +kernel), tb_of 479 (by decide +kernel) (by decide +kernel), tb_of 40 (by decide +kernel) (by decide +kernel), tb_of 480 (by decide +kernel) (by decide +kernel), ⟨rfl, by decide, by decide, by decide +kernel⟩, ⟨_, _, rfl⟩⟩
theorem vL_90 : lkV RL 90 μX6_falls 6 2 := ⟨tb_of 817 (by decide +kernel) (by decide +kernel), tb_of 818 (by decide +kernel) (by decide +kernel), tb_of 819 (by decide +kernel) (by decide +kernel), tb_of 47 (by decide +kernel) (by decide +kernel), tb_of 820 (by decide +kernel) (by decide +kernel), ⟨rfl, by decide, by decide, by decide +kernel⟩, ⟨_, _, rfl⟩⟩
theorem vL_91 : lkV RL 91 μX5_felling 5 2 := ⟨tb_of 481 (by decide +kernel) (by decide +kernel), tb_of 482 (by decide +kernel) (by decide +kernel), tb_of 483 (by decide +kernel) (by decide +kernel), tb_of 40 (by decide +kernel) (by decide +kernel), tb_of 484 (by decide +kernel) (by decide +kernel), ⟨rfl, by decide, by decide, by decide +kernel⟩, ⟨_, _, rfl⟩⟩
theorem vL_94 : lkV RL 94 μX6_felling 6 2 := ⟨tb_of 825 (by decide +kernel) (by decide +kernel), tb_of 826 (by decide +kernel) (by decide +kernel), tb_of 827 (by decide +kernel) (by decide +kernel), tb_of 47 (by decide +kernel) (by decide +kernel), tb_of 828 (by decide +kernel) (by decide +kernel), ⟨rfl, by decide, by decide, by decide +kernel⟩, ⟨_, _, rfl⟩⟩
theorem vL_95 : lkV RL 95 μX5_both 5 3 := ⟨tb_of 494 (by decide +kernel) (by decide +kernel), tb_of 495 (by decide +kernel) (by decide +kernel), tb_of 496 (by decide +kernel) (by decide +kernel), tb_of 40 (by decide +kernel) (by decide +kernel), tb_of 497 (by decide +kernel) (by decide +kernel), ⟨rfl, by decide, by decide, by decide +kernel⟩, ⟨_, _, rfl⟩⟩
theorem vL_99 : lkV RL 99 μX6_both 6 3 := ⟨tb_of 836 (by decide +kernel) (by decide +kernel), tb_of 837 (by decide +kernel) (by decide +kernel), tb_of 838 (by decide +kernel) (by decide +kernel), tb_of 47 (by decide +kernel) (by decide +kernel), tb_of 839 (by decide +kernel) (by decide +kernel), ⟨rfl, by decide, by decide, by decide +kernel⟩, ⟨_, _, rfl⟩⟩
theorem vL_100 : lkV RL 100 μX5_cuts 5 1 := ⟨tb_of 514 (by decide +kernel) (by decide +kernel), tb_of 515 (by decide +kernel) (by decide +kernel), tb_of 516 (by decide +kernel) (by decide +kernel), tb_of 40 (by decide +kernel) (by decide +kernel), tb_of 517 (by decide +kernel) (by decide +kernel), ⟨rfl, by decide, by decide, by decide +kernel⟩, ⟨_, _, rfl⟩⟩
theorem vL_103 : lkV RL 103 μX6_cuts 6 1 := ⟨tb_of 852 (by decide +kernel) (by decide +kernel), tb_of 853 (by decide +kernel) (by decide +kernel), tb_of 854 (by decide +kernel) (by decide +kernel), tb_of 47 (by decide +kernel) (by decide +kernel), tb_of 855 (by decide +kernel) (by decide +kernel), ⟨rfl, by decide, by decide, by decide +kernel⟩, ⟨_, _, rfl⟩⟩
theorem vL_104 : lkV RL 104 μX5_ifSwapped 5 2 := ⟨tb_of 544 (by decide +kernel) (by decide +kernel), tb_of 545 (by decide +kernel) (by decide +kernel), tb_of 546 (by decide +kernel) (by decide +kernel), tb_of 40 (by decide +kernel) (by decide +kernel), tb_of 547 (by decide +kernel) (by decide +kernel), ⟨rfl, by decide, by decide, by decide +kernel⟩, ⟨_, _, rfl⟩⟩
theorem vL_107 : lkV RL 107 μX6_ifSwapped 6 2 := ⟨tb_of 856 (by decide +kernel) (by decide +kernel), tb_of 857 (by decide +kernel) (by decide +kernel), tb_of 858 (by decide +kernel) (by decide +kernel), tb_of 47 (by decide +kernel) (by decide +kernel), tb_of 859 (by decide +kernel) (by decide +kernel), ⟨rfl, by decide, by decide, by decide +kernel⟩, ⟨_, _, rfl⟩⟩
theorem vL_108 : lkV RL 108 μX5_bestSwap 5 1 := ⟨tb_of 552 (by decide +kernel) (by decide +kernel), tb_of 553 (by decide +kernel) (by decide +kernel), tb_of 554 (by decide +kernel) (by decide +kernel), tb_of 40 (by decide +kernel) (by decide +kernel), tb_of 555 (by decide +kernel) (by decide +kernel), ⟨rfl, by decide, by decide, by decide +kernel⟩, ⟨_, _, rfl⟩⟩
theorem vL_111 : lkV RL 111 μX6_bestSwap 6 1 := ⟨tb_of 864 (by decide +kernel) (by decide +kernel), tb_of 865 (by decide +kernel) (by decide +kernel), tb_of 866 (by decide +kernel) (by decide +kernel), tb_of 47 (by decide +kernel) (by decide +kernel), tb_of 867 (by decide +kernel) (by decide +kernel), ⟨rfl, by decide, by decide, by decide +kernel⟩, ⟨_, _, rfl⟩⟩
theorem vL_112 : lkV RL 112 μX5_undo 5 0 := ⟨tb_of 556 (by decide +kernel) (by decide +kernel), tb_of 557 (by decide +kernel) (by decide +kernel), tb_of 558 (by decide +kernel) (by decide +kernel), tb_of 40 (by decide +kernel) (by decide +kernel), tb_of 559 (by decide +kernel) (by decide +kernel), ⟨rfl, by decide, by decide, by decide +kernel⟩, ⟨_, _, rfl⟩⟩
theorem vL_115 : lkV RL 115 μX6_undo 6 0 := ⟨tb_of 868 (by decide +kernel) (by decide +kernel), tb_of 869 (by decide +kernel) (by decide +kernel), tb_of 870 (by decide +kernel) (by decide +kernel), tb_of 47 (by decide +kernel) (by decide +kernel), tb_of 871 (by decide +kernel) (by decide +kernel), ⟨rfl, by decide, by decide, by decide +kernel⟩, ⟨_, _, rfl⟩⟩
theorem vL_116 : lkV RL 116 μX5_save 5 1 := ⟨tb_of 565 (by decide +kernel) (by decide +kernel), tb_of 566 (by decide +kernel) (by decide +kernel), tb_of 567 (by decide +kernel) (by decide +kernel), tb_of 40 (by decide +kernel) (by decide +kernel), tb_of 568 (by decide +kernel) (by decide +kernel), ⟨rfl, by decide, by decide, by decide +kernel⟩, ⟨_, _, rfl⟩⟩
theorem vL_119 : lkV RL 119 μX6_save 6 1 := ⟨tb_of 872 (by decide +kernel) (by decide +kernel), tb_of 873 (by decide +kernel) (by decide +kernel), tb_of 874 (by decide +kernel) (by decide +kernel), tb_of 47 (by decide +kernel) (by decide +kernel), tb_of 875 (by decide +kernel) (by decide +kernel), ⟨rfl, by decide, by decide, by decide +kernel⟩, ⟨_, _, rfl⟩⟩
theorem vL_120 : lkV RL 120 μX5_restore 5 1 := ⟨tb_of 573 (by decide +kernel) (by decide +kernel), tb_of 574 (by decide +kernel) (by decide +kernel), tb_of 575 (by decide +kernel) (by decide +kernel), tb_of 40 (by decide +kernel) (by decide +kernel), tb_of 576 (by decide +kernel) (by decide +kernel), ⟨rfl, by decide, by decide, by decide +kernel⟩, ⟨_, _, rfl⟩⟩
theorem vL_123 : lkV RL 123 μX6_restore 6 1 := ⟨tb_of 876 (by decide +kernel) (by decide +kernel), tb_of 877 (by decide +kernel) (by decide +kernel), tb_of 878 (by decide +kernel) (by decide +kernel), tb_of 47 (by decide +kernel) (by decide +kernel), tb_of 879 (by decide +kernel) (by decide +kernel), ⟨rfl, by decide, by decide, by decide +kernel⟩, ⟨_, _, rfl⟩⟩
theorem qL_47 : Cond.constantLong RL 47 (4294967295) ∈ TB := tb_of 880 (by decide +kernel) (by decide +kernel)
theorem wL_7 : Cond.classLink RL 7 RX5 ∈ TB := tb_of 49 (by decide +kernel) (by decide +kernel)
theorem wL_10 : Cond.classLink RL 10 RX6 ∈ TB := tb_of 577 (by decide +kernel) (by decide +kernel)
theorem fX0_9 : FL RX0 9 0 0 true (.array .int) := ⟨RX0, TX0, 6, tyX0, rfl, by decide, tb_of 120 (by decide +kernel) (by decide +kernel), inX0, tyX0_ok, nmX0, rfl, rfl, rfl⟩
theorem fX0_15 : FL RX0 15 0 1 false .int := ⟨RX0, TX0, 6, tyX0, rfl, by decide, tb_of 121 (by decide +kernel) (by decide +kernel), inX0, tyX0_ok, nmX0, rfl, rfl, rfl⟩
theorem fX0_19 : FL RX0 19 0 2 true (.array .int) := ⟨RX0, TX0, 6, tyX0, rfl, by decide, tb_of 123 (by decide +kernel) (by decide +kernel), inX0, tyX0_ok, nmX0, rfl, rfl, rfl⟩
theorem fX0_22 : FL RX0 22 0 3 true (.array .int) := ⟨RX0, TX0, 6, tyX0, rfl, by decide, tb_of 124 (by decide +kernel) (by decide +kernel), inX0, tyX0_ok, nmX0, rfl, rfl, rfl⟩
theorem fX0_25 : FL RX0 25 0 4 true (.array .int) := ⟨RX0, TX0, 6, tyX0, rfl, by decide, tb_of 125 (by decide +kernel) (by decide +kernel), inX0, tyX0_ok, nmX0, rfl, rfl, rfl⟩
theorem fX0_28 : FL RX0 28 0 5 false .int := ⟨RX0, TX0, 6, tyX0, rfl, by decide, tb_of 126 (by decide +kernel) (by decide +kernel), inX0, tyX0_ok, nmX0, rfl, rfl, rfl⟩
theorem fX0_65 : FL RX0 65 4 1 false .int := ⟨RX4, TX4, 2, tyX4, rfl, by decide, tb_of 78 (by decide +kernel) (by decide +kernel), inX4, tyX4_ok, nmX4, rfl, rfl, rfl⟩
theorem sX0_37 : lkS RX0 37 μX0_crossingOf 1 := ⟨tb_of 345 (by decide +kernel) (by decide +kernel), tb_of 346 (by decide +kernel) (by decide +kernel), tb_of 45 (by decide +kernel) (by decide +kernel), tb_of 347 (by decide +kernel) (by decide +kernel), ⟨by decide, by decide, by decide +kernel⟩⟩
theorem sX0_45 : lkS RX0 45 μX0_isTimes 1 := ⟨tb_of 352 (by decide +kernel) (by decide +kernel), tb_of 353 (by decide +kernel) (by decide +kernel), tb_of 45 (by decide +kernel) (by decide +kernel), tb_of 354 (by decide +kernel) (by decide +kernel), ⟨by decide, by decide, by decide +kernel⟩⟩
theorem sX0_75 : lkS RX0 75 μX0_addTurnedHalves 3 := ⟨tb_of 382 (by decide +kernel) (by decide +kernel), tb_of 383 (by decide +kernel) (by decide +kernel), tb_of 45 (by decide +kernel) (by decide +kernel), tb_of 384 (by decide +kernel) (by decide +kernel), ⟨by decide, by decide, by decide +kernel⟩⟩
theorem vX0_33 : lkV RX0 33 μX0_stageAfter 0 2 := ⟨tb_of 341 (by decide +kernel) (by decide +kernel), tb_of 342 (by decide +kernel) (by decide +kernel), tb_of 343 (by decide +kernel) (by decide +kernel), tb_of 45 (by decide +kernel) (by decide +kernel), tb_of 344 (by decide +kernel) (by decide +kernel), ⟨rfl, by decide, by decide, by decide +kernel⟩, ⟨_, _, rfl⟩⟩
theorem vX0_41 : lkV RX0 41 μX0_open 0 2 := ⟨tb_of 348 (by decide +kernel) (by decide +kernel), tb_of 349 (by decide +kernel) (by decide +kernel), tb_of 350 (by decide +kernel) (by decide +kernel), tb_of 45 (by decide +kernel) (by decide +kernel), tb_of 351 (by decide +kernel) (by decide +kernel), ⟨rfl, by decide, by decide, by decide +kernel⟩, ⟨_, _, rfl⟩⟩
theorem vX0_49 : lkV RX0 49 μX0_stageAfterClosing 0 1 := ⟨tb_of 355 (by decide +kernel) (by decide +kernel), tb_of 356 (by decide +kernel) (by decide +kernel), tb_of 357 (by decide +kernel) (by decide +kernel), tb_of 45 (by decide +kernel) (by decide +kernel), tb_of 358 (by decide +kernel) (by decide +kernel), ⟨rfl, by decide, by decide, by decide +kernel⟩, ⟨_, _, rfl⟩⟩
theorem vX0_52 : lkV RX0 52 μX0_innermostSign 0 0 := ⟨tb_of 359 (by decide +kernel) (by decide +kernel), tb_of 360 (by decide +kernel) (by decide +kernel), tb_of 361 (by decide +kernel) (by decide +kernel), tb_of 45 (by decide +kernel) (by decide +kernel), tb_of 362 (by decide +kernel) (by decide +kernel), ⟨rfl, by decide, by decide, by decide +kernel⟩, ⟨_, _, rfl⟩⟩
theorem vX0_56 : lkV RX0 56 μX0_passComma 0 1 := ⟨tb_of 363 (by decide +kernel) (by decide +kernel), tb_of 364 (by decide +kernel) (by decide +kernel), tb_of 365 (by decide +kernel) (by decide +kernel), tb_of 45 (by decide +kernel) (by decide +kernel), tb_of 366 (by decide +kernel) (by decide +kernel), ⟨rfl, by decide, by decide, by decide +kernel⟩, ⟨_, _, rfl⟩⟩
theorem vX0_60 : lkV RX0 60 μX4_clear 4 0 := ⟨tb_of 375 (by decide +kernel) (by decide +kernel), tb_of 273 (by decide +kernel) (by decide +kernel), tb_of 274 (by decide +kernel) (by decide +kernel), tb_of 42 (by decide +kernel) (by decide +kernel), tb_of 275 (by decide +kernel) (by decide +kernel), ⟨rfl, by decide, by decide, by decide +kernel⟩, ⟨_, _, rfl⟩⟩
theorem vX0_66 : lkV RX0 66 μX4_add 4 1 := ⟨tb_of 376 (by decide +kernel) (by decide +kernel), tb_of 218 (by decide +kernel) (by decide +kernel), tb_of 219 (by decide +kernel) (by decide +kernel), tb_of 42 (by decide +kernel) (by decide +kernel), tb_of 220 (by decide +kernel) (by decide +kernel), ⟨rfl, by decide, by decide, by decide +kernel⟩, ⟨_, _, rfl⟩⟩
theorem vX0_69 : lkV RX0 69 μX4_turnFrom 4 1 := ⟨tb_of 377 (by decide +kernel) (by decide +kernel), tb_of 265 (by decide +kernel) (by decide +kernel), tb_of 266 (by decide +kernel) (by decide +kernel), tb_of 42 (by decide +kernel) (by decide +kernel), tb_of 267 (by decide +kernel) (by decide +kernel), ⟨rfl, by decide, by decide, by decide +kernel⟩, ⟨_, _, rfl⟩⟩
theorem vX0_72 : lkV RX0 72 μX4_repeatFrom 4 2 := ⟨tb_of 378 (by decide +kernel) (by decide +kernel), tb_of 379 (by decide +kernel) (by decide +kernel), tb_of 380 (by decide +kernel) (by decide +kernel), tb_of 42 (by decide +kernel) (by decide +kernel), tb_of 381 (by decide +kernel) (by decide +kernel), ⟨rfl, by decide, by decide, by decide +kernel⟩, ⟨_, _, rfl⟩⟩
theorem vX0_79 : lkV RX0 79 μX4_addTurnedPart 4 3 := ⟨tb_of 385 (by decide +kernel) (by decide +kernel), tb_of 281 (by decide +kernel) (by decide +kernel), tb_of 282 (by decide +kernel) (by decide +kernel), tb_of 42 (by decide +kernel) (by decide +kernel), tb_of 283 (by decide +kernel) (by decide +kernel), ⟨rfl, by decide, by decide, by decide +kernel⟩, ⟨_, _, rfl⟩⟩
theorem qX0_31 : Cond.constantLong RX0 31 (255) ∈ TB := tb_of 320 (by decide +kernel) (by decide +kernel)
theorem wX1_9a : Cond.classLink RX1 9 RX3 ∈ TB := tb_of 100 (by decide +kernel) (by decide +kernel)
theorem fX1_11 : FL RX1 11 1 0 true (.array (.object "PostRopes$State")) := ⟨RX1, TX1, 3, tyX1, rfl, by decide, tb_of 103 (by decide +kernel) (by decide +kernel), inX1, tyX1_ok, nmX1, rfl, rfl, rfl⟩
theorem fX1_18 : FL RX1 18 1 1 false .int := ⟨RX1, TX1, 3, tyX1, rfl, by decide, tb_of 104 (by decide +kernel) (by decide +kernel), inX1, tyX1_ok, nmX1, rfl, rfl, rfl⟩
theorem fX1_22 : FL RX1 22 1 2 false .int := ⟨RX1, TX1, 3, tyX1, rfl, by decide, tb_of 105 (by decide +kernel) (by decide +kernel), inX1, tyX1_ok, nmX1, rfl, rfl, rfl⟩
theorem iX1_17 : lkI RX1 17 μX3_init 0 := ⟨tb_of 102 (by decide +kernel) (by decide +kernel), tb_of 60 (by decide +kernel) (by decide +kernel), tb_of 41 (by decide +kernel) (by decide +kernel), tb_of 61 (by decide +kernel) (by decide +kernel), ⟨by decide, by decide, by decide +kernel⟩, rfl, rfl⟩
theorem sX1_29 : lkS RX1 29 μJ9_min_7cf53 2 := ⟨tb_of 221 (by decide +kernel) (by decide +kernel), tb_of 222 (by decide +kernel) (by decide +kernel), tb_of 43 (by decide +kernel) (by decide +kernel), tb_of 223 (by decide +kernel) (by decide +kernel), ⟨by decide, by decide, by decide +kernel⟩⟩
theorem sX1_35 : lkS RX1 35 μJ9_max_7cf53 2 := ⟨tb_of 564 (by decide +kernel) (by decide +kernel), tb_of 71 (by decide +kernel) (by decide +kernel), tb_of 43 (by decide +kernel) (by decide +kernel), tb_of 72 (by decide +kernel) (by decide +kernel), ⟨by decide, by decide, by decide +kernel⟩⟩
theorem vX1_25 : lkV RX1 25 μX3_copyFrom 3 1 := ⟨tb_of 201 (by decide +kernel) (by decide +kernel), tb_of 202 (by decide +kernel) (by decide +kernel), tb_of 203 (by decide +kernel) (by decide +kernel), tb_of 41 (by decide +kernel) (by decide +kernel), tb_of 204 (by decide +kernel) (by decide +kernel), ⟨rfl, by decide, by decide, by decide +kernel⟩, ⟨_, _, rfl⟩⟩
theorem wX1_9 : Cond.classLink RX1 9 RX3 ∈ TB := tb_of 100 (by decide +kernel) (by decide +kernel)
theorem fX2_9 : FL RX2 9 2 0 true (.array .int) := ⟨RX2, TX2, 4, tyX2, rfl, by decide, tb_of 147 (by decide +kernel) (by decide +kernel), inX2, tyX2_ok, nmX2, rfl, rfl, rfl⟩
theorem fX2_15 : FL RX2 15 2 1 true (.array .int) := ⟨RX2, TX2, 4, tyX2, rfl, by decide, tb_of 148 (by decide +kernel) (by decide +kernel), inX2, tyX2_ok, nmX2, rfl, rfl, rfl⟩
theorem fX2_18 : FL RX2 18 2 2 true (.array .int) := ⟨RX2, TX2, 4, tyX2, rfl, by decide, tb_of 149 (by decide +kernel) (by decide +kernel), inX2, tyX2_ok, nmX2, rfl, rfl, rfl⟩
theorem fX2_21 : FL RX2 21 2 3 true (.array .int) := ⟨RX2, TX2, 4, tyX2, rfl, by decide, tb_of 150 (by decide +kernel) (by decide +kernel), inX2, tyX2_ok, nmX2, rfl, rfl, rfl⟩
theorem fX2_24 : FL RX2 24 4 1 false .int := ⟨RX4, TX4, 2, tyX4, rfl, by decide, tb_of 75 (by decide +kernel) (by decide +kernel), inX4, tyX4_ok, nmX4, rfl, rfl, rfl⟩
theorem sX2_30 : lkS RX2 30 μJ9_min_7cf53 2 := ⟨tb_of 522 (by decide +kernel) (by decide +kernel), tb_of 222 (by decide +kernel) (by decide +kernel), tb_of 43 (by decide +kernel) (by decide +kernel), tb_of 223 (by decide +kernel) (by decide +kernel), ⟨by decide, by decide, by decide +kernel⟩⟩
theorem sX2_40 : lkS RX2 40 μX2_placeOf 2 := ⟨tb_of 532 (by decide +kernel) (by decide +kernel), tb_of 533 (by decide +kernel) (by decide +kernel), tb_of 46 (by decide +kernel) (by decide +kernel), tb_of 534 (by decide +kernel) (by decide +kernel), ⟨by decide, by decide, by decide +kernel⟩⟩
theorem sX2_53 : lkS RX2 53 μJ9_floorMod_7cf53 2 := ⟨tb_of 528 (by decide +kernel) (by decide +kernel), tb_of 529 (by decide +kernel) (by decide +kernel), tb_of 43 (by decide +kernel) (by decide +kernel), tb_of 530 (by decide +kernel) (by decide +kernel), ⟨by decide, by decide, by decide +kernel⟩⟩
theorem nX2_56 : lkN RX2 56 μX5_opposite RX5 1 := ⟨by decide +kernel, tb_of 253 (by decide +kernel) (by decide +kernel), tb_of 40 (by decide +kernel) (by decide +kernel), tb_of 254 (by decide +kernel) (by decide +kernel), ⟨by decide, by decide, by decide +kernel⟩⟩
theorem sX2_59 : lkS RX2 59 μJ9_max_7cf53 2 := ⟨tb_of 543 (by decide +kernel) (by decide +kernel), tb_of 71 (by decide +kernel) (by decide +kernel), tb_of 43 (by decide +kernel) (by decide +kernel), tb_of 72 (by decide +kernel) (by decide +kernel), ⟨by decide, by decide, by decide +kernel⟩⟩
theorem vX2_36 : lkV RX2 36 μX2_linkPlaces 2 2 := ⟨tb_of 523 (by decide +kernel) (by decide +kernel), tb_of 524 (by decide +kernel) (by decide +kernel), tb_of 525 (by decide +kernel) (by decide +kernel), tb_of 46 (by decide +kernel) (by decide +kernel), tb_of 526 (by decide +kernel) (by decide +kernel), ⟨rfl, by decide, by decide, by decide +kernel⟩, ⟨_, _, rfl⟩⟩
theorem vX2_43 : lkV RX2 43 μX2_mostStaying 2 2 := ⟨tb_of 535 (by decide +kernel) (by decide +kernel), tb_of 536 (by decide +kernel) (by decide +kernel), tb_of 537 (by decide +kernel) (by decide +kernel), tb_of 46 (by decide +kernel) (by decide +kernel), tb_of 538 (by decide +kernel) (by decide +kernel), ⟨rfl, by decide, by decide, by decide +kernel⟩, ⟨_, _, rfl⟩⟩
theorem vX2_46 : lkV RX2 46 μX2_staying 2 2 := ⟨tb_of 539 (by decide +kernel) (by decide +kernel), tb_of 540 (by decide +kernel) (by decide +kernel), tb_of 541 (by decide +kernel) (by decide +kernel), tb_of 46 (by decide +kernel) (by decide +kernel), tb_of 542 (by decide +kernel) (by decide +kernel), ⟨rfl, by decide, by decide, by decide +kernel⟩, ⟨_, _, rfl⟩⟩
theorem vX2_49 : lkV RX2 49 μX4_at 4 1 := ⟨tb_of 527 (by decide +kernel) (by decide +kernel), tb_of 214 (by decide +kernel) (by decide +kernel), tb_of 215 (by decide +kernel) (by decide +kernel), tb_of 42 (by decide +kernel) (by decide +kernel), tb_of 216 (by decide +kernel) (by decide +kernel), ⟨rfl, by decide, by decide, by decide +kernel⟩, ⟨_, _, rfl⟩⟩
theorem wX3_15a : Cond.classLink RX3 15 RX4 ∈ TB := tb_of 63 (by decide +kernel) (by decide +kernel)
theorem fX3_9 : FL RX3 9 3 0 true (.array .int) := ⟨RX3, TX3, 2, tyX3, rfl, by decide, tb_of 85 (by decide +kernel) (by decide +kernel), inX3, tyX3_ok, nmX3, rfl, rfl, rfl⟩
theorem fX3_17 : FL RX3 17 3 1 true (.array (.object "PostRopes$Word")) := ⟨RX3, TX3, 2, tyX3, rfl, by decide, tb_of 87 (by decide +kernel) (by decide +kernel), inX3, tyX3_ok, nmX3, rfl, rfl, rfl⟩
theorem fX3_28 : FL RX3 28 4 1 false .int := ⟨RX4, TX4, 2, tyX4, rfl, by decide, tb_of 76 (by decide +kernel) (by decide +kernel), inX4, tyX4_ok, nmX4, rfl, rfl, rfl⟩
theorem iX3_21 : lkI RX3 21 μX4_init 1 := ⟨tb_of 66 (by decide +kernel) (by decide +kernel), tb_of 67 (by decide +kernel) (by decide +kernel), tb_of 42 (by decide +kernel) (by decide +kernel), tb_of 68 (by decide +kernel) (by decide +kernel), ⟨by decide, by decide, by decide +kernel⟩, rfl, rfl⟩
theorem nX3_36 : lkN RX3 36 μX5_postOf RX5 1 := ⟨by decide +kernel, tb_of 305 (by decide +kernel) (by decide +kernel), tb_of 40 (by decide +kernel) (by decide +kernel), tb_of 306 (by decide +kernel) (by decide +kernel), ⟨by decide, by decide, by decide +kernel⟩⟩
theorem nX3_39 : lkN RX3 39 μX5_isPost RX5 1 := ⟨by decide +kernel, tb_of 195 (by decide +kernel) (by decide +kernel), tb_of 40 (by decide +kernel) (by decide +kernel), tb_of 196 (by decide +kernel) (by decide +kernel), ⟨by decide, by decide, by decide +kernel⟩⟩
theorem vX3_24 : lkV RX3 24 μX4_copyFrom 4 1 := ⟨tb_of 205 (by decide +kernel) (by decide +kernel), tb_of 206 (by decide +kernel) (by decide +kernel), tb_of 207 (by decide +kernel) (by decide +kernel), tb_of 42 (by decide +kernel) (by decide +kernel), tb_of 208 (by decide +kernel) (by decide +kernel), ⟨rfl, by decide, by decide, by decide +kernel⟩, ⟨_, _, rfl⟩⟩
theorem vX3_32 : lkV RX3 32 μX4_at 4 1 := ⟨tb_of 401 (by decide +kernel) (by decide +kernel), tb_of 214 (by decide +kernel) (by decide +kernel), tb_of 215 (by decide +kernel) (by decide +kernel), tb_of 42 (by decide +kernel) (by decide +kernel), tb_of 216 (by decide +kernel) (by decide +kernel), ⟨rfl, by decide, by decide, by decide +kernel⟩, ⟨_, _, rfl⟩⟩
theorem wX3_15 : Cond.classLink RX3 15 RX4 ∈ TB := tb_of 63 (by decide +kernel) (by decide +kernel)
theorem fX4_15 : FL RX4 15 4 0 true (.array .int) := ⟨RX4, TX4, 2, tyX4, rfl, by decide, tb_of 73 (by decide +kernel) (by decide +kernel), inX4, tyX4_ok, nmX4, rfl, rfl, rfl⟩
theorem fX4_21 : FL RX4 21 4 1 false .int := ⟨RX4, TX4, 2, tyX4, rfl, by decide, tb_of 74 (by decide +kernel) (by decide +kernel), inX4, tyX4_ok, nmX4, rfl, rfl, rfl⟩
theorem sX4_9 : lkS RX4 9 μJ9_max_7cf53 2 := ⟨tb_of 70 (by decide +kernel) (by decide +kernel), tb_of 71 (by decide +kernel) (by decide +kernel), tb_of 43 (by decide +kernel) (by decide +kernel), tb_of 72 (by decide +kernel) (by decide +kernel), ⟨by decide, by decide, by decide +kernel⟩⟩
theorem nX4_25 : lkN RX4 25 μX5_opposite RX5 1 := ⟨by decide +kernel, tb_of 253 (by decide +kernel) (by decide +kernel), tb_of 40 (by decide +kernel) (by decide +kernel), tb_of 254 (by decide +kernel) (by decide +kernel), ⟨by decide, by decide, by decide +kernel⟩⟩
theorem nX4_61 : lkN RX4 61 μX5_postOf RX5 1 := ⟨by decide +kernel, tb_of 305 (by decide +kernel) (by decide +kernel), tb_of 40 (by decide +kernel) (by decide +kernel), tb_of 306 (by decide +kernel) (by decide +kernel), ⟨by decide, by decide, by decide +kernel⟩⟩
theorem vX4_29 : lkV RX4 29 μX4_add 4 1 := ⟨tb_of 217 (by decide +kernel) (by decide +kernel), tb_of 218 (by decide +kernel) (by decide +kernel), tb_of 219 (by decide +kernel) (by decide +kernel), tb_of 42 (by decide +kernel) (by decide +kernel), tb_of 220 (by decide +kernel) (by decide +kernel), ⟨rfl, by decide, by decide, by decide +kernel⟩, ⟨_, _, rfl⟩⟩
theorem vX4_33 : lkV RX4 33 μX4_addWord 4 1 := ⟨tb_of 209 (by decide +kernel) (by decide +kernel), tb_of 210 (by decide +kernel) (by decide +kernel), tb_of 211 (by decide +kernel) (by decide +kernel), tb_of 42 (by decide +kernel) (by decide +kernel), tb_of 212 (by decide +kernel) (by decide +kernel), ⟨rfl, by decide, by decide, by decide +kernel⟩, ⟨_, _, rfl⟩⟩
theorem vX4_37 : lkV RX4 37 μX4_at 4 1 := ⟨tb_of 213 (by decide +kernel) (by decide +kernel), tb_of 214 (by decide +kernel) (by decide +kernel), tb_of 215 (by decide +kernel) (by decide +kernel), tb_of 42 (by decide +kernel) (by decide +kernel), tb_of 216 (by decide +kernel) (by decide +kernel), ⟨rfl, by decide, by decide, by decide +kernel⟩, ⟨_, _, rfl⟩⟩
theorem vX4_40 : lkV RX4 40 μX4_addTurnedPart 4 3 := ⟨tb_of 280 (by decide +kernel) (by decide +kernel), tb_of 281 (by decide +kernel) (by decide +kernel), tb_of 282 (by decide +kernel) (by decide +kernel), tb_of 42 (by decide +kernel) (by decide +kernel), tb_of 283 (by decide +kernel) (by decide +kernel), ⟨rfl, by decide, by decide, by decide +kernel⟩, ⟨_, _, rfl⟩⟩
theorem vX4_44 : lkV RX4 44 μX4_addPulled 4 1 := ⟨tb_of 248 (by decide +kernel) (by decide +kernel), tb_of 249 (by decide +kernel) (by decide +kernel), tb_of 250 (by decide +kernel) (by decide +kernel), tb_of 42 (by decide +kernel) (by decide +kernel), tb_of 251 (by decide +kernel) (by decide +kernel), ⟨rfl, by decide, by decide, by decide +kernel⟩, ⟨_, _, rfl⟩⟩
theorem vX4_47 : lkV RX4 47 μX4_cancelPairs 4 0 := ⟨tb_of 416 (by decide +kernel) (by decide +kernel), tb_of 245 (by decide +kernel) (by decide +kernel), tb_of 246 (by decide +kernel) (by decide +kernel), tb_of 42 (by decide +kernel) (by decide +kernel), tb_of 247 (by decide +kernel) (by decide +kernel), ⟨rfl, by decide, by decide, by decide +kernel⟩, ⟨_, _, rfl⟩⟩
theorem vX4_51 : lkV RX4 51 μX4_isLessFrom 4 2 := ⟨tb_of 461 (by decide +kernel) (by decide +kernel), tb_of 462 (by decide +kernel) (by decide +kernel), tb_of 463 (by decide +kernel) (by decide +kernel), tb_of 42 (by decide +kernel) (by decide +kernel), tb_of 464 (by decide +kernel) (by decide +kernel), ⟨rfl, by decide, by decide, by decide +kernel⟩, ⟨_, _, rfl⟩⟩
theorem vX4_55 : lkV RX4 55 μX4_atRound 4 1 := ⟨tb_of 465 (by decide +kernel) (by decide +kernel), tb_of 466 (by decide +kernel) (by decide +kernel), tb_of 467 (by decide +kernel) (by decide +kernel), tb_of 42 (by decide +kernel) (by decide +kernel), tb_of 468 (by decide +kernel) (by decide +kernel), ⟨rfl, by decide, by decide, by decide +kernel⟩, ⟨_, _, rfl⟩⟩
theorem vX4_58 : lkV RX4 58 μX4_repeatsAfter 4 1 := ⟨tb_of 421 (by decide +kernel) (by decide +kernel), tb_of 422 (by decide +kernel) (by decide +kernel), tb_of 423 (by decide +kernel) (by decide +kernel), tb_of 42 (by decide +kernel) (by decide +kernel), tb_of 424 (by decide +kernel) (by decide +kernel), ⟨rfl, by decide, by decide, by decide +kernel⟩, ⟨_, _, rfl⟩⟩
theorem wX5_9a : Cond.classLink RX5 9 RX3 ∈ TB := tb_of 57 (by decide +kernel) (by decide +kernel)
theorem fX5_12 : FL RX5 12 5 0 true (.object "PostRopes$State") := ⟨RX5, TX5, 9, tyX5, rfl, by decide, tb_of 162 (by decide +kernel) (by decide +kernel), inX5, tyX5_ok, nmX5, rfl, rfl, rfl⟩
theorem fX5_19 : FL RX5 19 5 1 true (.object "PostRopes$Past") := ⟨RX5, TX5, 9, tyX5, rfl, by decide, tb_of 163 (by decide +kernel) (by decide +kernel), inX5, tyX5_ok, nmX5, rfl, rfl, rfl⟩
theorem fX5_23 : FL RX5 23 5 2 true (.array (.object "PostRopes$State")) := ⟨RX5, TX5, 9, tyX5, rfl, by decide, tb_of 164 (by decide +kernel) (by decide +kernel), inX5, tyX5_ok, nmX5, rfl, rfl, rfl⟩
theorem fX5_27 : FL RX5 27 5 3 true (.array .boolean) := ⟨RX5, TX5, 9, tyX5, rfl, by decide, tb_of 165 (by decide +kernel) (by decide +kernel), inX5, tyX5_ok, nmX5, rfl, rfl, rfl⟩
theorem fX5_34 : FL RX5 34 5 4 true (.object "PostRopes$Pad") := ⟨RX5, TX5, 9, tyX5, rfl, by decide, tb_of 166 (by decide +kernel) (by decide +kernel), inX5, tyX5_ok, nmX5, rfl, rfl, rfl⟩
theorem fX5_41 : FL RX5 41 5 5 true (.object "PostRopes$Scissors") := ⟨RX5, TX5, 9, tyX5, rfl, by decide, tb_of 167 (by decide +kernel) (by decide +kernel), inX5, tyX5_ok, nmX5, rfl, rfl, rfl⟩
theorem fX5_50 : FL RX5 50 5 6 true (.object "PostRopes$Word") := ⟨RX5, TX5, 9, tyX5, rfl, by decide, tb_of 168 (by decide +kernel) (by decide +kernel), inX5, tyX5_ok, nmX5, rfl, rfl, rfl⟩
theorem fX5_54 : FL RX5 54 5 7 true (.object "PostRopes$Word") := ⟨RX5, TX5, 9, tyX5, rfl, by decide, tb_of 169 (by decide +kernel) (by decide +kernel), inX5, tyX5_ok, nmX5, rfl, rfl, rfl⟩
theorem fX5_57 : FL RX5 57 5 8 true (.object "PostRopes$Word") := ⟨RX5, TX5, 9, tyX5, rfl, by decide, tb_of 170 (by decide +kernel) (by decide +kernel), inX5, tyX5_ok, nmX5, rfl, rfl, rfl⟩
theorem fX5_68 : FL RX5 68 3 0 true (.array .int) := ⟨RX3, TX3, 2, tyX3, rfl, by decide, tb_of 86 (by decide +kernel) (by decide +kernel), inX3, tyX3_ok, nmX3, rfl, rfl, rfl⟩
theorem fX5_75 : FL RX5 75 3 1 true (.array (.object "PostRopes$Word")) := ⟨RX3, TX3, 2, tyX3, rfl, by decide, tb_of 88 (by decide +kernel) (by decide +kernel), inX3, tyX3_ok, nmX3, rfl, rfl, rfl⟩
theorem fX5_79 : FL RX5 79 4 1 false .int := ⟨RX4, TX4, 2, tyX4, rfl, by decide, tb_of 77 (by decide +kernel) (by decide +kernel), inX4, tyX4_ok, nmX4, rfl, rfl, rfl⟩
theorem fX5_126 : FL RX5 126 0 1 false .int := ⟨RX0, TX0, 6, tyX0, rfl, by decide, tb_of 122 (by decide +kernel) (by decide +kernel), inX0, tyX0_ok, nmX0, rfl, rfl, rfl⟩
theorem fX5_178 : FL RX5 178 1 2 false .int := ⟨RX1, TX1, 3, tyX1, rfl, by decide, tb_of 106 (by decide +kernel) (by decide +kernel), inX1, tyX1_ok, nmX1, rfl, rfl, rfl⟩
theorem iX5_11 : lkI RX5 11 μX3_init 0 := ⟨tb_of 59 (by decide +kernel) (by decide +kernel), tb_of 60 (by decide +kernel) (by decide +kernel), tb_of 41 (by decide +kernel) (by decide +kernel), tb_of 61 (by decide +kernel) (by decide +kernel), ⟨by decide, by decide, by decide +kernel⟩, rfl, rfl⟩
theorem iX5_18 : lkI RX5 18 μX1_init 0 := ⟨tb_of 96 (by decide +kernel) (by decide +kernel), tb_of 97 (by decide +kernel) (by decide +kernel), tb_of 44 (by decide +kernel) (by decide +kernel), tb_of 98 (by decide +kernel) (by decide +kernel), ⟨by decide, by decide, by decide +kernel⟩, rfl, rfl⟩
theorem iX5_33 : lkI RX5 33 μX0_init 0 := ⟨tb_of 116 (by decide +kernel) (by decide +kernel), tb_of 117 (by decide +kernel) (by decide +kernel), tb_of 45 (by decide +kernel) (by decide +kernel), tb_of 118 (by decide +kernel) (by decide +kernel), ⟨by decide, by decide, by decide +kernel⟩, rfl, rfl⟩
theorem iX5_40 : lkI RX5 40 μX2_init 0 := ⟨tb_of 143 (by decide +kernel) (by decide +kernel), tb_of 144 (by decide +kernel) (by decide +kernel), tb_of 46 (by decide +kernel) (by decide +kernel), tb_of 145 (by decide +kernel) (by decide +kernel), ⟨by decide, by decide, by decide +kernel⟩, rfl, rfl⟩
theorem iX5_47 : lkI RX5 47 μX4_init 1 := ⟨tb_of 161 (by decide +kernel) (by decide +kernel), tb_of 67 (by decide +kernel) (by decide +kernel), tb_of 42 (by decide +kernel) (by decide +kernel), tb_of 68 (by decide +kernel) (by decide +kernel), ⟨by decide, by decide, by decide +kernel⟩, rfl, rfl⟩
theorem sX5_60 : lkS RX5 60 μX5_isPost 1 := ⟨tb_of 194 (by decide +kernel) (by decide +kernel), tb_of 195 (by decide +kernel) (by decide +kernel), tb_of 40 (by decide +kernel) (by decide +kernel), tb_of 196 (by decide +kernel) (by decide +kernel), ⟨by decide, by decide, by decide +kernel⟩⟩
theorem sX5_72 : lkS RX5 72 μX5_isRope 1 := ⟨tb_of 228 (by decide +kernel) (by decide +kernel), tb_of 229 (by decide +kernel) (by decide +kernel), tb_of 40 (by decide +kernel) (by decide +kernel), tb_of 230 (by decide +kernel) (by decide +kernel), ⟨by decide, by decide, by decide +kernel⟩⟩
theorem sX5_109 : lkS RX5 109 μX5_isSwap 1 := ⟨tb_of 289 (by decide +kernel) (by decide +kernel), tb_of 290 (by decide +kernel) (by decide +kernel), tb_of 40 (by decide +kernel) (by decide +kernel), tb_of 291 (by decide +kernel) (by decide +kernel), ⟨by decide, by decide, by decide +kernel⟩⟩
theorem sX5_112 : lkS RX5 112 μX5_isBack 1 := ⟨tb_of 292 (by decide +kernel) (by decide +kernel), tb_of 293 (by decide +kernel) (by decide +kernel), tb_of 40 (by decide +kernel) (by decide +kernel), tb_of 294 (by decide +kernel) (by decide +kernel), ⟨by decide, by decide, by decide +kernel⟩⟩
theorem sX5_122 : lkS RX5 122 μX0_charactersIn 1 := ⟨tb_of 317 (by decide +kernel) (by decide +kernel), tb_of 318 (by decide +kernel) (by decide +kernel), tb_of 45 (by decide +kernel) (by decide +kernel), tb_of 319 (by decide +kernel) (by decide +kernel), ⟨by decide, by decide, by decide +kernel⟩⟩
theorem sX5_139 : lkS RX5 139 μX5_crossingOrNoSuch 2 := ⟨tb_of 390 (by decide +kernel) (by decide +kernel), tb_of 391 (by decide +kernel) (by decide +kernel), tb_of 40 (by decide +kernel) (by decide +kernel), tb_of 392 (by decide +kernel) (by decide +kernel), ⟨by decide, by decide, by decide +kernel⟩⟩
theorem sX5_166 : lkS RX5 166 μX5_oneIf 1 := ⟨tb_of 438 (by decide +kernel) (by decide +kernel), tb_of 439 (by decide +kernel) (by decide +kernel), tb_of 40 (by decide +kernel) (by decide +kernel), tb_of 440 (by decide +kernel) (by decide +kernel), ⟨by decide, by decide, by decide +kernel⟩⟩
theorem sX5_181 : lkS RX5 181 μX5_holdsFallingPart 2 := ⟨tb_of 485 (by decide +kernel) (by decide +kernel), tb_of 486 (by decide +kernel) (by decide +kernel), tb_of 40 (by decide +kernel) (by decide +kernel), tb_of 487 (by decide +kernel) (by decide +kernel), ⟨by decide, by decide, by decide +kernel⟩⟩
theorem sX5_185 : lkS RX5 185 μJ6_bitCount_0f7a4 1 := ⟨tb_of 488 (by decide +kernel) (by decide +kernel), tb_of 489 (by decide +kernel) (by decide +kernel), tb_of 48 (by decide +kernel) (by decide +kernel), tb_of 490 (by decide +kernel) (by decide +kernel), ⟨by decide, by decide, by decide +kernel⟩⟩
theorem sX5_210 : lkS RX5 210 μX5_isSlot 1 := ⟨tb_of 569 (by decide +kernel) (by decide +kernel), tb_of 570 (by decide +kernel) (by decide +kernel), tb_of 40 (by decide +kernel) (by decide +kernel), tb_of 571 (by decide +kernel) (by decide +kernel), ⟨by decide, by decide, by decide +kernel⟩⟩
theorem sX5_232 : lkS RX5 232 μX5_postOf 1 := ⟨tb_of 304 (by decide +kernel) (by decide +kernel), tb_of 305 (by decide +kernel) (by decide +kernel), tb_of 40 (by decide +kernel) (by decide +kernel), tb_of 306 (by decide +kernel) (by decide +kernel), ⟨by decide, by decide, by decide +kernel⟩⟩
theorem sX5_235 : lkS RX5 235 μX5_opposite 1 := ⟨tb_of 307 (by decide +kernel) (by decide +kernel), tb_of 253 (by decide +kernel) (by decide +kernel), tb_of 40 (by decide +kernel) (by decide +kernel), tb_of 254 (by decide +kernel) (by decide +kernel), ⟨by decide, by decide, by decide +kernel⟩⟩
theorem vX5_64 : lkV RX5 64 μX1_remember 1 1 := ⟨tb_of 197 (by decide +kernel) (by decide +kernel), tb_of 198 (by decide +kernel) (by decide +kernel), tb_of 199 (by decide +kernel) (by decide +kernel), tb_of 44 (by decide +kernel) (by decide +kernel), tb_of 200 (by decide +kernel) (by decide +kernel), ⟨rfl, by decide, by decide, by decide +kernel⟩, ⟨_, _, rfl⟩⟩
theorem vX5_83 : lkV RX5 83 μX4_add 4 1 := ⟨tb_of 231 (by decide +kernel) (by decide +kernel), tb_of 218 (by decide +kernel) (by decide +kernel), tb_of 219 (by decide +kernel) (by decide +kernel), tb_of 42 (by decide +kernel) (by decide +kernel), tb_of 220 (by decide +kernel) (by decide +kernel), ⟨rfl, by decide, by decide, by decide +kernel⟩, ⟨_, _, rfl⟩⟩
theorem vX5_86 : lkV RX5 86 μX4_dropLast 4 1 := ⟨tb_of 236 (by decide +kernel) (by decide +kernel), tb_of 237 (by decide +kernel) (by decide +kernel), tb_of 238 (by decide +kernel) (by decide +kernel), tb_of 42 (by decide +kernel) (by decide +kernel), tb_of 239 (by decide +kernel) (by decide +kernel), ⟨rfl, by decide, by decide, by decide +kernel⟩, ⟨_, _, rfl⟩⟩
theorem vX5_89 : lkV RX5 89 μX4_cancelPairs 4 0 := ⟨tb_of 244 (by decide +kernel) (by decide +kernel), tb_of 245 (by decide +kernel) (by decide +kernel), tb_of 246 (by decide +kernel) (by decide +kernel), tb_of 42 (by decide +kernel) (by decide +kernel), tb_of 247 (by decide +kernel) (by decide +kernel), ⟨rfl, by decide, by decide, by decide +kernel⟩, ⟨_, _, rfl⟩⟩
theorem vX5_93 : lkV RX5 93 μX4_addWord 4 1 := ⟨tb_of 259 (by decide +kernel) (by decide +kernel), tb_of 210 (by decide +kernel) (by decide +kernel), tb_of 211 (by decide +kernel) (by decide +kernel), tb_of 42 (by decide +kernel) (by decide +kernel), tb_of 212 (by decide +kernel) (by decide +kernel), ⟨rfl, by decide, by decide, by decide +kernel⟩, ⟨_, _, rfl⟩⟩
theorem vX5_97 : lkV RX5 97 μX4_turnFrom 4 1 := ⟨tb_of 264 (by decide +kernel) (by decide +kernel), tb_of 265 (by decide +kernel) (by decide +kernel), tb_of 266 (by decide +kernel) (by decide +kernel), tb_of 42 (by decide +kernel) (by decide +kernel), tb_of 267 (by decide +kernel) (by decide +kernel), ⟨rfl, by decide, by decide, by decide +kernel⟩, ⟨_, _, rfl⟩⟩
theorem vX5_100 : lkV RX5 100 μX4_clear 4 0 := ⟨tb_of 272 (by decide +kernel) (by decide +kernel), tb_of 273 (by decide +kernel) (by decide +kernel), tb_of 274 (by decide +kernel) (by decide +kernel), tb_of 42 (by decide +kernel) (by decide +kernel), tb_of 275 (by decide +kernel) (by decide +kernel), ⟨rfl, by decide, by decide, by decide +kernel⟩, ⟨_, _, rfl⟩⟩
theorem vX5_103 : lkV RX5 103 μX4_addTurned 4 1 := ⟨tb_of 276 (by decide +kernel) (by decide +kernel), tb_of 277 (by decide +kernel) (by decide +kernel), tb_of 278 (by decide +kernel) (by decide +kernel), tb_of 42 (by decide +kernel) (by decide +kernel), tb_of 279 (by decide +kernel) (by decide +kernel), ⟨rfl, by decide, by decide, by decide +kernel⟩, ⟨_, _, rfl⟩⟩
theorem vX5_106 : lkV RX5 106 μX4_copyFrom 4 1 := ⟨tb_of 284 (by decide +kernel) (by decide +kernel), tb_of 206 (by decide +kernel) (by decide +kernel), tb_of 207 (by decide +kernel) (by decide +kernel), tb_of 42 (by decide +kernel) (by decide +kernel), tb_of 208 (by decide +kernel) (by decide +kernel), ⟨rfl, by decide, by decide, by decide +kernel⟩, ⟨_, _, rfl⟩⟩
theorem vX5_115 : lkV RX5 115 μX5_laySwapped 5 3 := ⟨tb_of 295 (by decide +kernel) (by decide +kernel), tb_of 297 (by decide +kernel) (by decide +kernel), tb_of 0 (by decide +kernel) (by decide +kernel), tb_of 40 (by decide +kernel) (by decide +kernel), tb_of 298 (by decide +kernel) (by decide +kernel), ⟨rfl, by decide, by decide, by decide +kernel⟩, ⟨_, _, rfl⟩⟩
theorem vX5_119 : lkV RX5 119 μX3_allCrossings 3 0 := ⟨tb_of 309 (by decide +kernel) (by decide +kernel), tb_of 310 (by decide +kernel) (by decide +kernel), tb_of 311 (by decide +kernel) (by decide +kernel), tb_of 41 (by decide +kernel) (by decide +kernel), tb_of 312 (by decide +kernel) (by decide +kernel), ⟨rfl, by decide, by decide, by decide +kernel⟩, ⟨_, _, rfl⟩⟩
theorem vX5_127 : lkV RX5 127 μX0_append 0 2 := ⟨tb_of 321 (by decide +kernel) (by decide +kernel), tb_of 322 (by decide +kernel) (by decide +kernel), tb_of 323 (by decide +kernel) (by decide +kernel), tb_of 45 (by decide +kernel) (by decide +kernel), tb_of 324 (by decide +kernel) (by decide +kernel), ⟨rfl, by decide, by decide, by decide +kernel⟩, ⟨_, _, rfl⟩⟩
theorem vX5_131 : lkV RX5 131 μX0_clear 0 0 := ⟨tb_of 329 (by decide +kernel) (by decide +kernel), tb_of 330 (by decide +kernel) (by decide +kernel), tb_of 331 (by decide +kernel) (by decide +kernel), tb_of 45 (by decide +kernel) (by decide +kernel), tb_of 332 (by decide +kernel) (by decide +kernel), ⟨rfl, by decide, by decide, by decide +kernel⟩, ⟨_, _, rfl⟩⟩
theorem vX5_132 : lkV RX5 132 μX0_findFault 0 0 := ⟨tb_of 337 (by decide +kernel) (by decide +kernel), tb_of 338 (by decide +kernel) (by decide +kernel), tb_of 339 (by decide +kernel) (by decide +kernel), tb_of 45 (by decide +kernel) (by decide +kernel), tb_of 340 (by decide +kernel) (by decide +kernel), ⟨rfl, by decide, by decide, by decide +kernel⟩, ⟨_, _, rfl⟩⟩
theorem vX5_135 : lkV RX5 135 μX0_readInto 0 1 := ⟨tb_of 371 (by decide +kernel) (by decide +kernel), tb_of 372 (by decide +kernel) (by decide +kernel), tb_of 373 (by decide +kernel) (by decide +kernel), tb_of 45 (by decide +kernel) (by decide +kernel), tb_of 374 (by decide +kernel) (by decide +kernel), ⟨rfl, by decide, by decide, by decide +kernel⟩, ⟨_, _, rfl⟩⟩
theorem vX5_143 : lkV RX5 143 μX3_widthsAlong 3 1 := ⟨tb_of 397 (by decide +kernel) (by decide +kernel), tb_of 398 (by decide +kernel) (by decide +kernel), tb_of 399 (by decide +kernel) (by decide +kernel), tb_of 41 (by decide +kernel) (by decide +kernel), tb_of 400 (by decide +kernel) (by decide +kernel), ⟨rfl, by decide, by decide, by decide +kernel⟩, ⟨_, _, rfl⟩⟩
theorem vX5_147 : lkV RX5 147 μX5_layPulled 5 1 := ⟨tb_of 404 (by decide +kernel) (by decide +kernel), tb_of 406 (by decide +kernel) (by decide +kernel), tb_of 2 (by decide +kernel) (by decide +kernel), tb_of 40 (by decide +kernel) (by decide +kernel), tb_of 407 (by decide +kernel) (by decide +kernel), ⟨rfl, by decide, by decide, by decide +kernel⟩, ⟨_, _, rfl⟩⟩
theorem vX5_150 : lkV RX5 150 μX5_layLoop 5 1 := ⟨tb_of 408 (by decide +kernel) (by decide +kernel), tb_of 410 (by decide +kernel) (by decide +kernel), tb_of 3 (by decide +kernel) (by decide +kernel), tb_of 40 (by decide +kernel) (by decide +kernel), tb_of 411 (by decide +kernel) (by decide +kernel), ⟨rfl, by decide, by decide, by decide +kernel⟩, ⟨_, _, rfl⟩⟩
theorem vX5_153 : lkV RX5 153 μX4_power 4 0 := ⟨tb_of 417 (by decide +kernel) (by decide +kernel), tb_of 418 (by decide +kernel) (by decide +kernel), tb_of 419 (by decide +kernel) (by decide +kernel), tb_of 42 (by decide +kernel) (by decide +kernel), tb_of 420 (by decide +kernel) (by decide +kernel), ⟨rfl, by decide, by decide, by decide +kernel⟩, ⟨_, _, rfl⟩⟩
theorem vX5_156 : lkV RX5 156 μX4_posts 4 0 := ⟨tb_of 425 (by decide +kernel) (by decide +kernel), tb_of 426 (by decide +kernel) (by decide +kernel), tb_of 427 (by decide +kernel) (by decide +kernel), tb_of 42 (by decide +kernel) (by decide +kernel), tb_of 428 (by decide +kernel) (by decide +kernel), ⟨rfl, by decide, by decide, by decide +kernel⟩, ⟨_, _, rfl⟩⟩
theorem vX5_159 : lkV RX5 159 μX4_firstPair 4 0 := ⟨tb_of 430 (by decide +kernel) (by decide +kernel), tb_of 431 (by decide +kernel) (by decide +kernel), tb_of 432 (by decide +kernel) (by decide +kernel), tb_of 42 (by decide +kernel) (by decide +kernel), tb_of 433 (by decide +kernel) (by decide +kernel), ⟨rfl, by decide, by decide, by decide +kernel⟩, ⟨_, _, rfl⟩⟩
theorem vX5_162 : lkV RX5 162 μX5_fallsWithout 5 2 := ⟨tb_of 434 (by decide +kernel) (by decide +kernel), tb_of 436 (by decide +kernel) (by decide +kernel), tb_of 4 (by decide +kernel) (by decide +kernel), tb_of 40 (by decide +kernel) (by decide +kernel), tb_of 437 (by decide +kernel) (by decide +kernel), ⟨rfl, by decide, by decide, by decide +kernel⟩, ⟨_, _, rfl⟩⟩
theorem vX5_170 : lkV RX5 170 μX4_windings 4 1 := ⟨tb_of 445 (by decide +kernel) (by decide +kernel), tb_of 446 (by decide +kernel) (by decide +kernel), tb_of 447 (by decide +kernel) (by decide +kernel), tb_of 42 (by decide +kernel) (by decide +kernel), tb_of 448 (by decide +kernel) (by decide +kernel), ⟨rfl, by decide, by decide, by decide +kernel⟩, ⟨_, _, rfl⟩⟩
theorem vX5_174 : lkV RX5 174 μX5_layLeast 5 2 := ⟨tb_of 453 (by decide +kernel) (by decide +kernel), tb_of 455 (by decide +kernel) (by decide +kernel), tb_of 5 (by decide +kernel) (by decide +kernel), tb_of 40 (by decide +kernel) (by decide +kernel), tb_of 456 (by decide +kernel) (by decide +kernel), ⟨rfl, by decide, by decide, by decide +kernel⟩, ⟨_, _, rfl⟩⟩
theorem vX5_190 : lkV RX5 190 μX5_areAlike 5 2 := ⟨tb_of 498 (by decide +kernel) (by decide +kernel), tb_of 500 (by decide +kernel) (by decide +kernel), tb_of 6 (by decide +kernel) (by decide +kernel), tb_of 40 (by decide +kernel) (by decide +kernel), tb_of 501 (by decide +kernel) (by decide +kernel), ⟨rfl, by decide, by decide, by decide +kernel⟩, ⟨_, _, rfl⟩⟩
theorem vX5_194 : lkV RX5 194 μX5_doCommute 5 2 := ⟨tb_of 506 (by decide +kernel) (by decide +kernel), tb_of 508 (by decide +kernel) (by decide +kernel), tb_of 7 (by decide +kernel) (by decide +kernel), tb_of 40 (by decide +kernel) (by decide +kernel), tb_of 509 (by decide +kernel) (by decide +kernel), ⟨rfl, by decide, by decide, by decide +kernel⟩, ⟨_, _, rfl⟩⟩
theorem vX5_197 : lkV RX5 197 μX5_arePulledTheSame 5 2 := ⟨tb_of 510 (by decide +kernel) (by decide +kernel), tb_of 512 (by decide +kernel) (by decide +kernel), tb_of 8 (by decide +kernel) (by decide +kernel), tb_of 40 (by decide +kernel) (by decide +kernel), tb_of 513 (by decide +kernel) (by decide +kernel), ⟨rfl, by decide, by decide, by decide +kernel⟩, ⟨_, _, rfl⟩⟩
theorem vX5_200 : lkV RX5 200 μX2_fewestCuts 2 1 := ⟨tb_of 518 (by decide +kernel) (by decide +kernel), tb_of 519 (by decide +kernel) (by decide +kernel), tb_of 520 (by decide +kernel) (by decide +kernel), tb_of 46 (by decide +kernel) (by decide +kernel), tb_of 521 (by decide +kernel) (by decide +kernel), ⟨rfl, by decide, by decide, by decide +kernel⟩, ⟨_, _, rfl⟩⟩
theorem vX5_203 : lkV RX5 203 μX5_crossingsIfSwapped 5 2 := ⟨tb_of 548 (by decide +kernel) (by decide +kernel), tb_of 550 (by decide +kernel) (by decide +kernel), tb_of 9 (by decide +kernel) (by decide +kernel), tb_of 40 (by decide +kernel) (by decide +kernel), tb_of 551 (by decide +kernel) (by decide +kernel), ⟨rfl, by decide, by decide, by decide +kernel⟩, ⟨_, _, rfl⟩⟩
theorem vX5_207 : lkV RX5 207 μX1_bringBack 1 1 := ⟨tb_of 560 (by decide +kernel) (by decide +kernel), tb_of 561 (by decide +kernel) (by decide +kernel), tb_of 562 (by decide +kernel) (by decide +kernel), tb_of 44 (by decide +kernel) (by decide +kernel), tb_of 563 (by decide +kernel) (by decide +kernel), ⟨rfl, by decide, by decide, by decide +kernel⟩, ⟨_, _, rfl⟩⟩
theorem vX5_213 : lkV RX5 213 μX3_copyFrom 3 1 := ⟨tb_of 572 (by decide +kernel) (by decide +kernel), tb_of 202 (by decide +kernel) (by decide +kernel), tb_of 203 (by decide +kernel) (by decide +kernel), tb_of 41 (by decide +kernel) (by decide +kernel), tb_of 204 (by decide +kernel) (by decide +kernel), ⟨rfl, by decide, by decide, by decide +kernel⟩, ⟨_, _, rfl⟩⟩
theorem vX5_215 : lkV RX5 215 μX4_at 4 1 := ⟨tb_of 299 (by decide +kernel) (by decide +kernel), tb_of 214 (by decide +kernel) (by decide +kernel), tb_of 215 (by decide +kernel) (by decide +kernel), tb_of 42 (by decide +kernel) (by decide +kernel), tb_of 216 (by decide +kernel) (by decide +kernel), ⟨rfl, by decide, by decide, by decide +kernel⟩, ⟨_, _, rfl⟩⟩
theorem vX5_218 : lkV RX5 218 μX4_tighten 4 0 := ⟨tb_of 412 (by decide +kernel) (by decide +kernel), tb_of 413 (by decide +kernel) (by decide +kernel), tb_of 414 (by decide +kernel) (by decide +kernel), tb_of 42 (by decide +kernel) (by decide +kernel), tb_of 415 (by decide +kernel) (by decide +kernel), ⟨rfl, by decide, by decide, by decide +kernel⟩, ⟨_, _, rfl⟩⟩
theorem vX5_221 : lkV RX5 221 μX4_leastStart 4 0 := ⟨tb_of 457 (by decide +kernel) (by decide +kernel), tb_of 458 (by decide +kernel) (by decide +kernel), tb_of 459 (by decide +kernel) (by decide +kernel), tb_of 42 (by decide +kernel) (by decide +kernel), tb_of 460 (by decide +kernel) (by decide +kernel), ⟨rfl, by decide, by decide, by decide +kernel⟩, ⟨_, _, rfl⟩⟩
theorem vX5_224 : lkV RX5 224 μX4_copyFromStart 4 2 := ⟨tb_of 469 (by decide +kernel) (by decide +kernel), tb_of 470 (by decide +kernel) (by decide +kernel), tb_of 471 (by decide +kernel) (by decide +kernel), tb_of 42 (by decide +kernel) (by decide +kernel), tb_of 472 (by decide +kernel) (by decide +kernel), ⟨rfl, by decide, by decide, by decide +kernel⟩, ⟨_, _, rfl⟩⟩
theorem vX5_228 : lkV RX5 228 μX5_addSwapped 5 3 := ⟨tb_of 300 (by decide +kernel) (by decide +kernel), tb_of 302 (by decide +kernel) (by decide +kernel), tb_of 1 (by decide +kernel) (by decide +kernel), tb_of 40 (by decide +kernel) (by decide +kernel), tb_of 303 (by decide +kernel) (by decide +kernel), ⟨rfl, by decide, by decide, by decide +kernel⟩, ⟨_, _, rfl⟩⟩
theorem vX5_238 : lkV RX5 238 μX4_addPulled 4 1 := ⟨tb_of 308 (by decide +kernel) (by decide +kernel), tb_of 249 (by decide +kernel) (by decide +kernel), tb_of 250 (by decide +kernel) (by decide +kernel), tb_of 42 (by decide +kernel) (by decide +kernel), tb_of 251 (by decide +kernel) (by decide +kernel), ⟨rfl, by decide, by decide, by decide +kernel⟩, ⟨_, _, rfl⟩⟩
theorem vX5_241 : lkV RX5 241 μX4_isSameAs 4 1 := ⟨tb_of 502 (by decide +kernel) (by decide +kernel), tb_of 503 (by decide +kernel) (by decide +kernel), tb_of 504 (by decide +kernel) (by decide +kernel), tb_of 42 (by decide +kernel) (by decide +kernel), tb_of 505 (by decide +kernel) (by decide +kernel), ⟨rfl, by decide, by decide, by decide +kernel⟩, ⟨_, _, rfl⟩⟩
theorem wX5_9 : Cond.classLink RX5 9 RX3 ∈ TB := tb_of 57 (by decide +kernel) (by decide +kernel)
theorem wX5_16 : Cond.classLink RX5 16 RX1 ∈ TB := tb_of 94 (by decide +kernel) (by decide +kernel)
theorem wX5_31 : Cond.classLink RX5 31 RX0 ∈ TB := tb_of 114 (by decide +kernel) (by decide +kernel)
theorem wX5_38 : Cond.classLink RX5 38 RX2 ∈ TB := tb_of 141 (by decide +kernel) (by decide +kernel)
theorem wX5_45 : Cond.classLink RX5 45 RX4 ∈ TB := tb_of 160 (by decide +kernel) (by decide +kernel)
theorem fX6_7 : FL RX6 7 6 0 true (.array .int) := ⟨RX6, TX6, 20, tyX6, rfl, by decide, tb_of 583 (by decide +kernel) (by decide +kernel), inX6, tyX6_ok, nmX6, rfl, rfl, rfl⟩
theorem fX6_13 : FL RX6 13 6 1 true (.array .int) := ⟨RX6, TX6, 20, tyX6, rfl, by decide, tb_of 584 (by decide +kernel) (by decide +kernel), inX6, tyX6_ok, nmX6, rfl, rfl, rfl⟩
theorem fX6_16 : FL RX6 16 6 3 true (.array .int) := ⟨RX6, TX6, 20, tyX6, rfl, by decide, tb_of 586 (by decide +kernel) (by decide +kernel), inX6, tyX6_ok, nmX6, rfl, rfl, rfl⟩
theorem fX6_19 : FL RX6 19 6 4 true (.array .boolean) := ⟨RX6, TX6, 20, tyX6, rfl, by decide, tb_of 587 (by decide +kernel) (by decide +kernel), inX6, tyX6_ok, nmX6, rfl, rfl, rfl⟩
theorem fX6_23 : FL RX6 23 6 5 true (.array .int) := ⟨RX6, TX6, 20, tyX6, rfl, by decide, tb_of 588 (by decide +kernel) (by decide +kernel), inX6, tyX6_ok, nmX6, rfl, rfl, rfl⟩
theorem fX6_26 : FL RX6 26 6 7 true (.array .int) := ⟨RX6, TX6, 20, tyX6, rfl, by decide, tb_of 590 (by decide +kernel) (by decide +kernel), inX6, tyX6_ok, nmX6, rfl, rfl, rfl⟩
theorem fX6_29 : FL RX6 29 6 9 true (.array .int) := ⟨RX6, TX6, 20, tyX6, rfl, by decide, tb_of 592 (by decide +kernel) (by decide +kernel), inX6, tyX6_ok, nmX6, rfl, rfl, rfl⟩
theorem fX6_32 : FL RX6 32 6 11 true (.array .int) := ⟨RX6, TX6, 20, tyX6, rfl, by decide, tb_of 594 (by decide +kernel) (by decide +kernel), inX6, tyX6_ok, nmX6, rfl, rfl, rfl⟩
theorem fX6_35 : FL RX6 35 6 13 true (.array .int) := ⟨RX6, TX6, 20, tyX6, rfl, by decide, tb_of 596 (by decide +kernel) (by decide +kernel), inX6, tyX6_ok, nmX6, rfl, rfl, rfl⟩
theorem fX6_38 : FL RX6 38 6 16 true (.array .int) := ⟨RX6, TX6, 20, tyX6, rfl, by decide, tb_of 599 (by decide +kernel) (by decide +kernel), inX6, tyX6_ok, nmX6, rfl, rfl, rfl⟩
theorem fX6_41 : FL RX6 41 6 17 true (.array .int) := ⟨RX6, TX6, 20, tyX6, rfl, by decide, tb_of 600 (by decide +kernel) (by decide +kernel), inX6, tyX6_ok, nmX6, rfl, rfl, rfl⟩
theorem fX6_44 : FL RX6 44 6 18 true (.array .int) := ⟨RX6, TX6, 20, tyX6, rfl, by decide, tb_of 601 (by decide +kernel) (by decide +kernel), inX6, tyX6_ok, nmX6, rfl, rfl, rfl⟩
theorem fX6_47 : FL RX6 47 6 19 true (.array .int) := ⟨RX6, TX6, 20, tyX6, rfl, by decide, tb_of 602 (by decide +kernel) (by decide +kernel), inX6, tyX6_ok, nmX6, rfl, rfl, rfl⟩
theorem fX6_50 : FL RX6 50 6 2 false .int := ⟨RX6, TX6, 20, tyX6, rfl, by decide, tb_of 585 (by decide +kernel) (by decide +kernel), inX6, tyX6_ok, nmX6, rfl, rfl, rfl⟩
theorem fX6_54 : FL RX6 54 6 8 false .int := ⟨RX6, TX6, 20, tyX6, rfl, by decide, tb_of 591 (by decide +kernel) (by decide +kernel), inX6, tyX6_ok, nmX6, rfl, rfl, rfl⟩
theorem fX6_93 : FL RX6 93 6 10 false .int := ⟨RX6, TX6, 20, tyX6, rfl, by decide, tb_of 593 (by decide +kernel) (by decide +kernel), inX6, tyX6_ok, nmX6, rfl, rfl, rfl⟩
theorem fX6_96 : FL RX6 96 6 12 false .int := ⟨RX6, TX6, 20, tyX6, rfl, by decide, tb_of 595 (by decide +kernel) (by decide +kernel), inX6, tyX6_ok, nmX6, rfl, rfl, rfl⟩
theorem fX6_120 : FL RX6 120 6 14 false .int := ⟨RX6, TX6, 20, tyX6, rfl, by decide, tb_of 597 (by decide +kernel) (by decide +kernel), inX6, tyX6_ok, nmX6, rfl, rfl, rfl⟩
theorem fX6_123 : FL RX6 123 6 15 false .boolean := ⟨RX6, TX6, 20, tyX6, rfl, by decide, tb_of 598 (by decide +kernel) (by decide +kernel), inX6, tyX6_ok, nmX6, rfl, rfl, rfl⟩
theorem fX6_134 : FL RX6 134 6 6 false .int := ⟨RX6, TX6, 20, tyX6, rfl, by decide, tb_of 589 (by decide +kernel) (by decide +kernel), inX6, tyX6_ok, nmX6, rfl, rfl, rfl⟩
theorem sX6_57 : lkS RX6 57 μX6_cancel 2 := ⟨tb_of 693 (by decide +kernel) (by decide +kernel), tb_of 694 (by decide +kernel) (by decide +kernel), tb_of 47 (by decide +kernel) (by decide +kernel), tb_of 695 (by decide +kernel) (by decide +kernel), ⟨by decide, by decide, by decide +kernel⟩⟩
theorem sX6_61 : lkS RX6 61 μX6_in 3 := ⟨tb_of 648 (by decide +kernel) (by decide +kernel), tb_of 649 (by decide +kernel) (by decide +kernel), tb_of 47 (by decide +kernel) (by decide +kernel), tb_of 650 (by decide +kernel) (by decide +kernel), ⟨by decide, by decide, by decide +kernel⟩⟩
theorem sX6_73 : lkS RX6 73 μX6_otherSide 1 := ⟨tb_of 686 (by decide +kernel) (by decide +kernel), tb_of 687 (by decide +kernel) (by decide +kernel), tb_of 47 (by decide +kernel) (by decide +kernel), tb_of 688 (by decide +kernel) (by decide +kernel), ⟨by decide, by decide, by decide +kernel⟩⟩
theorem sX6_102 : lkS RX6 102 μX6_isRope 1 := ⟨tb_of 659 (by decide +kernel) (by decide +kernel), tb_of 660 (by decide +kernel) (by decide +kernel), tb_of 47 (by decide +kernel) (by decide +kernel), tb_of 661 (by decide +kernel) (by decide +kernel), ⟨by decide, by decide, by decide +kernel⟩⟩
theorem sX6_173 : lkS RX6 173 μX6_size 1 := ⟨tb_of 833 (by decide +kernel) (by decide +kernel), tb_of 834 (by decide +kernel) (by decide +kernel), tb_of 47 (by decide +kernel) (by decide +kernel), tb_of 835 (by decide +kernel) (by decide +kernel), ⟨by decide, by decide, by decide +kernel⟩⟩
theorem vX6_65 : lkV RX6 65 μX6_many 6 1 := ⟨tb_of 662 (by decide +kernel) (by decide +kernel), tb_of 664 (by decide +kernel) (by decide +kernel), tb_of 11 (by decide +kernel) (by decide +kernel), tb_of 47 (by decide +kernel) (by decide +kernel), tb_of 665 (by decide +kernel) (by decide +kernel), ⟨rfl, by decide, by decide, by decide +kernel⟩, ⟨_, _, rfl⟩⟩
theorem vX6_69 : lkV RX6 69 μX6_at 6 2 := ⟨tb_of 682 (by decide +kernel) (by decide +kernel), tb_of 684 (by decide +kernel) (by decide +kernel), tb_of 14 (by decide +kernel) (by decide +kernel), tb_of 47 (by decide +kernel) (by decide +kernel), tb_of 685 (by decide +kernel) (by decide +kernel), ⟨rfl, by decide, by decide, by decide +kernel⟩, ⟨_, _, rfl⟩⟩
theorem vX6_76 : lkV RX6 76 μX6_push 6 1 := ⟨tb_of 689 (by decide +kernel) (by decide +kernel), tb_of 691 (by decide +kernel) (by decide +kernel), tb_of 15 (by decide +kernel) (by decide +kernel), tb_of 47 (by decide +kernel) (by decide +kernel), tb_of 692 (by decide +kernel) (by decide +kernel), ⟨rfl, by decide, by decide, by decide +kernel⟩, ⟨_, _, rfl⟩⟩
theorem vX6_80 : lkV RX6 80 μX6_pushRope 6 2 := ⟨tb_of 678 (by decide +kernel) (by decide +kernel), tb_of 680 (by decide +kernel) (by decide +kernel), tb_of 13 (by decide +kernel) (by decide +kernel), tb_of 47 (by decide +kernel) (by decide +kernel), tb_of 681 (by decide +kernel) (by decide +kernel), ⟨rfl, by decide, by decide, by decide +kernel⟩, ⟨_, _, rfl⟩⟩
theorem vX6_84 : lkV RX6 84 μX6_layPulled 6 2 := ⟨tb_of 674 (by decide +kernel) (by decide +kernel), tb_of 676 (by decide +kernel) (by decide +kernel), tb_of 12 (by decide +kernel) (by decide +kernel), tb_of 47 (by decide +kernel) (by decide +kernel), tb_of 677 (by decide +kernel) (by decide +kernel), ⟨rfl, by decide, by decide, by decide +kernel⟩, ⟨_, _, rfl⟩⟩
theorem vX6_87 : lkV RX6 87 μX6_tighten 6 0 := ⟨tb_of 777 (by decide +kernel) (by decide +kernel), tb_of 779 (by decide +kernel) (by decide +kernel), tb_of 26 (by decide +kernel) (by decide +kernel), tb_of 47 (by decide +kernel) (by decide +kernel), tb_of 780 (by decide +kernel) (by decide +kernel), ⟨rfl, by decide, by decide, by decide +kernel⟩, ⟨_, _, rfl⟩⟩
theorem vX6_90 : lkV RX6 90 μX6_isLess 6 2 := ⟨tb_of 781 (by decide +kernel) (by decide +kernel), tb_of 783 (by decide +kernel) (by decide +kernel), tb_of 27 (by decide +kernel) (by decide +kernel), tb_of 47 (by decide +kernel) (by decide +kernel), tb_of 784 (by decide +kernel) (by decide +kernel), ⟨rfl, by decide, by decide, by decide +kernel⟩, ⟨_, _, rfl⟩⟩
theorem vX6_99 : lkV RX6 99 μX6_record 6 0 := ⟨tb_of 651 (by decide +kernel) (by decide +kernel), tb_of 653 (by decide +kernel) (by decide +kernel), tb_of 10 (by decide +kernel) (by decide +kernel), tb_of 47 (by decide +kernel) (by decide +kernel), tb_of 654 (by decide +kernel) (by decide +kernel), ⟨rfl, by decide, by decide, by decide +kernel⟩, ⟨_, _, rfl⟩⟩
theorem vX6_106 : lkV RX6 106 μX6_take 6 1 := ⟨tb_of 696 (by decide +kernel) (by decide +kernel), tb_of 698 (by decide +kernel) (by decide +kernel), tb_of 16 (by decide +kernel) (by decide +kernel), tb_of 47 (by decide +kernel) (by decide +kernel), tb_of 699 (by decide +kernel) (by decide +kernel), ⟨rfl, by decide, by decide, by decide +kernel⟩, ⟨_, _, rfl⟩⟩
theorem vX6_109 : lkV RX6 109 μX6_pushSwapped 6 3 := ⟨tb_of 720 (by decide +kernel) (by decide +kernel), tb_of 722 (by decide +kernel) (by decide +kernel), tb_of 18 (by decide +kernel) (by decide +kernel), tb_of 47 (by decide +kernel) (by decide +kernel), tb_of 723 (by decide +kernel) (by decide +kernel), ⟨rfl, by decide, by decide, by decide +kernel⟩, ⟨_, _, rfl⟩⟩
theorem vX6_113 : lkV RX6 113 μX6_laySwapped 6 3 := ⟨tb_of 716 (by decide +kernel) (by decide +kernel), tb_of 718 (by decide +kernel) (by decide +kernel), tb_of 17 (by decide +kernel) (by decide +kernel), tb_of 47 (by decide +kernel) (by decide +kernel), tb_of 719 (by decide +kernel) (by decide +kernel), ⟨rfl, by decide, by decide, by decide +kernel⟩, ⟨_, _, rfl⟩⟩
theorem vX6_116 : lkV RX6 116 μX6_all 6 0 := ⟨tb_of 724 (by decide +kernel) (by decide +kernel), tb_of 726 (by decide +kernel) (by decide +kernel), tb_of 19 (by decide +kernel) (by decide +kernel), tb_of 47 (by decide +kernel) (by decide +kernel), tb_of 727 (by decide +kernel) (by decide +kernel), ⟨rfl, by decide, by decide, by decide +kernel⟩, ⟨_, _, rfl⟩⟩
theorem vX6_127 : lkV RX6 127 μX6_tell 6 1 := ⟨tb_of 745 (by decide +kernel) (by decide +kernel), tb_of 747 (by decide +kernel) (by decide +kernel), tb_of 21 (by decide +kernel) (by decide +kernel), tb_of 47 (by decide +kernel) (by decide +kernel), tb_of 748 (by decide +kernel) (by decide +kernel), ⟨rfl, by decide, by decide, by decide +kernel⟩, ⟨_, _, rfl⟩⟩
theorem vX6_130 : lkV RX6 130 μX6_tellAgain 6 3 := ⟨tb_of 757 (by decide +kernel) (by decide +kernel), tb_of 759 (by decide +kernel) (by decide +kernel), tb_of 24 (by decide +kernel) (by decide +kernel), tb_of 47 (by decide +kernel) (by decide +kernel), tb_of 760 (by decide +kernel) (by decide +kernel), ⟨rfl, by decide, by decide, by decide +kernel⟩, ⟨_, _, rfl⟩⟩
theorem vX6_137 : lkV RX6 137 μX6_turnTold 6 1 := ⟨tb_of 749 (by decide +kernel) (by decide +kernel), tb_of 751 (by decide +kernel) (by decide +kernel), tb_of 22 (by decide +kernel) (by decide +kernel), tb_of 47 (by decide +kernel) (by decide +kernel), tb_of 752 (by decide +kernel) (by decide +kernel), ⟨rfl, by decide, by decide, by decide +kernel⟩, ⟨_, _, rfl⟩⟩
theorem vX6_140 : lkV RX6 140 μX6_repeat 6 2 := ⟨tb_of 753 (by decide +kernel) (by decide +kernel), tb_of 755 (by decide +kernel) (by decide +kernel), tb_of 23 (by decide +kernel) (by decide +kernel), tb_of 47 (by decide +kernel) (by decide +kernel), tb_of 756 (by decide +kernel) (by decide +kernel), ⟨rfl, by decide, by decide, by decide +kernel⟩, ⟨_, _, rfl⟩⟩
theorem vX6_146 : lkV RX6 146 μX6_read 6 0 := ⟨tb_of 741 (by decide +kernel) (by decide +kernel), tb_of 743 (by decide +kernel) (by decide +kernel), tb_of 20 (by decide +kernel) (by decide +kernel), tb_of 47 (by decide +kernel) (by decide +kernel), tb_of 744 (by decide +kernel) (by decide +kernel), ⟨rfl, by decide, by decide, by decide +kernel⟩, ⟨_, _, rfl⟩⟩
theorem vX6_149 : lkV RX6 149 μX6_layForm 6 2 := ⟨tb_of 773 (by decide +kernel) (by decide +kernel), tb_of 775 (by decide +kernel) (by decide +kernel), tb_of 25 (by decide +kernel) (by decide +kernel), tb_of 47 (by decide +kernel) (by decide +kernel), tb_of 776 (by decide +kernel) (by decide +kernel), ⟨rfl, by decide, by decide, by decide +kernel⟩, ⟨_, _, rfl⟩⟩
theorem vX6_152 : lkV RX6 152 μX6_ofWord 6 1 := ⟨tb_of 785 (by decide +kernel) (by decide +kernel), tb_of 787 (by decide +kernel) (by decide +kernel), tb_of 28 (by decide +kernel) (by decide +kernel), tb_of 47 (by decide +kernel) (by decide +kernel), tb_of 788 (by decide +kernel) (by decide +kernel), ⟨rfl, by decide, by decide, by decide +kernel⟩, ⟨_, _, rfl⟩⟩
theorem vX6_155 : lkV RX6 155 μX6_power 6 0 := ⟨tb_of 789 (by decide +kernel) (by decide +kernel), tb_of 791 (by decide +kernel) (by decide +kernel), tb_of 29 (by decide +kernel) (by decide +kernel), tb_of 47 (by decide +kernel) (by decide +kernel), tb_of 792 (by decide +kernel) (by decide +kernel), ⟨rfl, by decide, by decide, by decide +kernel⟩, ⟨_, _, rfl⟩⟩
theorem vX6_158 : lkV RX6 158 μX6_posts 6 0 := ⟨tb_of 793 (by decide +kernel) (by decide +kernel), tb_of 795 (by decide +kernel) (by decide +kernel), tb_of 30 (by decide +kernel) (by decide +kernel), tb_of 47 (by decide +kernel) (by decide +kernel), tb_of 796 (by decide +kernel) (by decide +kernel), ⟨rfl, by decide, by decide, by decide +kernel⟩, ⟨_, _, rfl⟩⟩
theorem vX6_161 : lkV RX6 161 μX6_firstPair 6 1 := ⟨tb_of 797 (by decide +kernel) (by decide +kernel), tb_of 799 (by decide +kernel) (by decide +kernel), tb_of 31 (by decide +kernel) (by decide +kernel), tb_of 47 (by decide +kernel) (by decide +kernel), tb_of 800 (by decide +kernel) (by decide +kernel), ⟨rfl, by decide, by decide, by decide +kernel⟩, ⟨_, _, rfl⟩⟩
theorem vX6_164 : lkV RX6 164 μX6_widths 6 0 := ⟨tb_of 801 (by decide +kernel) (by decide +kernel), tb_of 803 (by decide +kernel) (by decide +kernel), tb_of 32 (by decide +kernel) (by decide +kernel), tb_of 47 (by decide +kernel) (by decide +kernel), tb_of 804 (by decide +kernel) (by decide +kernel), ⟨rfl, by decide, by decide, by decide +kernel⟩, ⟨_, _, rfl⟩⟩
theorem vX6_167 : lkV RX6 167 μX6_fallsBy 6 2 := ⟨tb_of 821 (by decide +kernel) (by decide +kernel), tb_of 823 (by decide +kernel) (by decide +kernel), tb_of 33 (by decide +kernel) (by decide +kernel), tb_of 47 (by decide +kernel) (by decide +kernel), tb_of 824 (by decide +kernel) (by decide +kernel), ⟨rfl, by decide, by decide, by decide +kernel⟩, ⟨_, _, rfl⟩⟩
theorem vX6_170 : lkV RX6 170 μX6_isFelling 6 2 := ⟨tb_of 829 (by decide +kernel) (by decide +kernel), tb_of 831 (by decide +kernel) (by decide +kernel), tb_of 34 (by decide +kernel) (by decide +kernel), tb_of 47 (by decide +kernel) (by decide +kernel), tb_of 832 (by decide +kernel) (by decide +kernel), ⟨rfl, by decide, by decide, by decide +kernel⟩, ⟨_, _, rfl⟩⟩
theorem vX6_176 : lkV RX6 176 μX6_keepForm 6 0 := ⟨tb_of 840 (by decide +kernel) (by decide +kernel), tb_of 842 (by decide +kernel) (by decide +kernel), tb_of 35 (by decide +kernel) (by decide +kernel), tb_of 47 (by decide +kernel) (by decide +kernel), tb_of 843 (by decide +kernel) (by decide +kernel), ⟨rfl, by decide, by decide, by decide +kernel⟩, ⟨_, _, rfl⟩⟩
theorem vX6_179 : lkV RX6 179 μX6_areFormsAlike 6 0 := ⟨tb_of 844 (by decide +kernel) (by decide +kernel), tb_of 846 (by decide +kernel) (by decide +kernel), tb_of 36 (by decide +kernel) (by decide +kernel), tb_of 47 (by decide +kernel) (by decide +kernel), tb_of 847 (by decide +kernel) (by decide +kernel), ⟨rfl, by decide, by decide, by decide +kernel⟩, ⟨_, _, rfl⟩⟩
theorem vX6_183 : lkV RX6 183 μX6_areSame 6 4 := ⟨tb_of 848 (by decide +kernel) (by decide +kernel), tb_of 850 (by decide +kernel) (by decide +kernel), tb_of 37 (by decide +kernel) (by decide +kernel), tb_of 47 (by decide +kernel) (by decide +kernel), tb_of 851 (by decide +kernel) (by decide +kernel), ⟨rfl, by decide, by decide, by decide +kernel⟩, ⟨_, _, rfl⟩⟩
theorem vX6_187 : lkV RX6 187 μX6_swapped 6 2 := ⟨tb_of 860 (by decide +kernel) (by decide +kernel), tb_of 862 (by decide +kernel) (by decide +kernel), tb_of 38 (by decide +kernel) (by decide +kernel), tb_of 47 (by decide +kernel) (by decide +kernel), tb_of 863 (by decide +kernel) (by decide +kernel), ⟨rfl, by decide, by decide, by decide +kernel⟩, ⟨_, _, rfl⟩⟩
theorem qX6_144 : Cond.constantLong RX6 144 (255) ∈ TB := tb_of 732 (by decide +kernel) (by decide +kernel)
theorem in_X0 : Cond.instantiable RX0 6 ∈ TB := tb_of 115 (by decide +kernel) (by decide +kernel)
theorem ini_X0 : Cond.initialized RX0 ∈ TB := tb_of 45 (by decide +kernel) (by decide +kernel)
theorem in_X1 : Cond.instantiable RX1 3 ∈ TB := tb_of 95 (by decide +kernel) (by decide +kernel)
theorem ini_X1 : Cond.initialized RX1 ∈ TB := tb_of 44 (by decide +kernel) (by decide +kernel)
theorem in_X2 : Cond.instantiable RX2 4 ∈ TB := tb_of 142 (by decide +kernel) (by decide +kernel)
theorem ini_X2 : Cond.initialized RX2 ∈ TB := tb_of 46 (by decide +kernel) (by decide +kernel)
theorem in_X3 : Cond.instantiable RX3 2 ∈ TB := tb_of 58 (by decide +kernel) (by decide +kernel)
theorem ini_X3 : Cond.initialized RX3 ∈ TB := tb_of 41 (by decide +kernel) (by decide +kernel)
theorem in_X4 : Cond.instantiable RX4 2 ∈ TB := tb_of 65 (by decide +kernel) (by decide +kernel)
theorem ini_X4 : Cond.initialized RX4 ∈ TB := tb_of 42 (by decide +kernel) (by decide +kernel)
theorem in_X5 : Cond.instantiable RX5 9 ∈ TB := tb_of 50 (by decide +kernel) (by decide +kernel)
theorem ini_X5 : Cond.initialized RX5 ∈ TB := tb_of 40 (by decide +kernel) (by decide +kernel)
theorem in_X6 : Cond.instantiable RX6 20 ∈ TB := tb_of 578 (by decide +kernel) (by decide +kernel)
theorem ini_X6 : Cond.initialized RX6 ∈ TB := tb_of 47 (by decide +kernel) (by decide +kernel)
theorem o_in : Cond.instanceMethod Lib.objectInit ∈ TB := tb_of 55 (by decide +kernel) (by decide +kernel)
theorem o_code : Cond.code Lib.objectInit ⟨#[0xb1]⟩ 1 none ∈ TB := tb_of 56 (by decide +kernel) (by decide +kernel)
theorem oX0 : Cond.methodLink RX0 3 Lib.objectInit ∈ TB := tb_of 119 (by decide +kernel) (by decide +kernel)
theorem oX1 : Cond.methodLink RX1 3 Lib.objectInit ∈ TB := tb_of 99 (by decide +kernel) (by decide +kernel)
theorem oX2 : Cond.methodLink RX2 3 Lib.objectInit ∈ TB := tb_of 146 (by decide +kernel) (by decide +kernel)
theorem oX3 : Cond.methodLink RX3 3 Lib.objectInit ∈ TB := tb_of 62 (by decide +kernel) (by decide +kernel)
theorem oX4 : Cond.methodLink RX4 3 Lib.objectInit ∈ TB := tb_of 69 (by decide +kernel) (by decide +kernel)
theorem oX5 : Cond.methodLink RX5 3 Lib.objectInit ∈ TB := tb_of 54 (by decide +kernel) (by decide +kernel)
theorem oX6 : Cond.methodLink RX6 1 Lib.objectInit ∈ TB := tb_of 582 (by decide +kernel) (by decide +kernel)
theorem ac_I : Cond.arrayClass .int ∈ TB := tb_of 84 (by decide +kernel) (by decide +kernel)
theorem ac_Z : Cond.arrayClass .boolean ∈ TB := tb_of 140 (by decide +kernel) (by decide +kernel)
end
section
/-! the layout of the run: the class first (120 cells), the reference behind it -/
def LY : List LK := [kO 5 [some (some 1), some (some 12), some (some 80), some (some 103), some (some 104), some (some 109), some (some 114), some (some 116), some (some 118)],
  kO 3 [some (some 2), some (some 3)],
  kA 0 6,
  kR 3 [some 4, some 6, some 8, some 10],
  kO 4 [some (some 5), none],
  kA 0 120,
  kO 4 [some (some 7), none],
  kA 0 120,
  kO 4 [some (some 9), none],
  kA 0 120,
  kO 4 [some (some 11), none],
  kA 0 120,
  kO 1 [some (some 13), none, none],
  kR 2 [some 14, some 25, some 36, some 47, some 58, some 69],
  kO 3 [some (some 15), some (some 16)],
  kA 0 6,
  kR 3 [some 17, some 19, some 21, some 23],
  kO 4 [some (some 18), none],
  kA 0 120,
  kO 4 [some (some 20), none],
  kA 0 120,
  kO 4 [some (some 22), none],
  kA 0 120,
  kO 4 [some (some 24), none],
  kA 0 120,
  kO 3 [some (some 26), some (some 27)],
  kA 0 6,
  kR 3 [some 28, some 30, some 32, some 34],
  kO 4 [some (some 29), none],
  kA 0 120,
  kO 4 [some (some 31), none],
  kA 0 120,
  kO 4 [some (some 33), none],
  kA 0 120,
  kO 4 [some (some 35), none],
  kA 0 120,
  kO 3 [some (some 37), some (some 38)],
  kA 0 6,
  kR 3 [some 39, some 41, some 43, some 45],
  kO 4 [some (some 40), none],
  kA 0 120,
  kO 4 [some (some 42), none],
  kA 0 120,
  kO 4 [some (some 44), none],
  kA 0 120,
  kO 4 [some (some 46), none],
  kA 0 120,
  kO 3 [some (some 48), some (some 49)],
  kA 0 6,
  kR 3 [some 50, some 52, some 54, some 56],
  kO 4 [some (some 51), none],
  kA 0 120,
  kO 4 [some (some 53), none],
  kA 0 120,
  kO 4 [some (some 55), none],
  kA 0 120,
  kO 4 [some (some 57), none],
  kA 0 120,
  kO 3 [some (some 59), some (some 60)],
  kA 0 6,
  kR 3 [some 61, some 63, some 65, some 67],
  kO 4 [some (some 62), none],
  kA 0 120,
  kO 4 [some (some 64), none],
  kA 0 120,
  kO 4 [some (some 66), none],
  kA 0 120,
  kO 4 [some (some 68), none],
  kA 0 120,
  kO 3 [some (some 70), some (some 71)],
  kA 0 6,
  kR 3 [some 72, some 74, some 76, some 78],
  kO 4 [some (some 73), none],
  kA 0 120,
  kO 4 [some (some 75), none],
  kA 0 120,
  kO 4 [some (some 77), none],
  kA 0 120,
  kO 4 [some (some 79), none],
  kA 0 120,
  kR 2 [some 81, some 92],
  kO 3 [some (some 82), some (some 83)],
  kA 0 6,
  kR 3 [some 84, some 86, some 88, some 90],
  kO 4 [some (some 85), none],
  kA 0 120,
  kO 4 [some (some 87), none],
  kA 0 120,
  kO 4 [some (some 89), none],
  kA 0 120,
  kO 4 [some (some 91), none],
  kA 0 120,
  kO 3 [some (some 93), some (some 94)],
  kA 0 6,
  kR 3 [some 95, some 97, some 99, some 101],
  kO 4 [some (some 96), none],
  kA 0 120,
  kO 4 [some (some 98), none],
  kA 0 120,
  kO 4 [some (some 100), none],
  kA 0 120,
  kO 4 [some (some 102), none],
  kA 0 120,
  kA 1 2,
  kO 0 [some (some 105), none, some (some 106), some (some 107), some (some 108), none],
  kA 0 60,
  kA 0 4,
  kA 0 4,
  kA 0 4,
  kO 2 [some (some 110), some (some 111), some (some 112), some (some 113)],
  kA 0 7260,
  kA 0 120,
  kA 0 120,
  kA 0 12,
  kO 4 [some (some 115), none],
  kA 0 480,
  kO 4 [some (some 117), none],
  kA 0 480,
  kO 4 [some (some 119), none],
  kA 0 480,
  kO 6 [some (some 121), some (some 122), none, some (some 123), some (some 124), some (some 125), none, some (some 126), none, some (some 127), none, some (some 128), none, some (some 129), none, none, some (some 130), some (some 131), some (some 132), some (some 133)],
  kA 0 490,
  kA 0 2940,
  kA 0 980,
  kA 1 2,
  kA 0 60,
  kA 0 1000,
  kA 0 120,
  kA 0 120,
  kA 0 1000,
  kA 0 4,
  kA 0 4,
  kA 0 4,
  kA 0 14641]
def LAY : Lay := fun i => LY.getD i (kA 0 0)
abbrev NN : Nat := 134
theorem L_0 : LAY 0 = kO 5 [some (some 1), some (some 12), some (some 80), some (some 103), some (some 104), some (some 109), some (some 114), some (some 116), some (some 118)] := rfl
theorem n_0 : 0 < NN := by decide
theorem L_1 : LAY 1 = kO 3 [some (some 2), some (some 3)] := rfl
theorem n_1 : 1 < NN := by decide
theorem L_2 : LAY 2 = kA 0 6 := rfl
theorem n_2 : 2 < NN := by decide
theorem L_3 : LAY 3 = kR 3 [some 4, some 6, some 8, some 10] := rfl
theorem n_3 : 3 < NN := by decide
theorem L_4 : LAY 4 = kO 4 [some (some 5), none] := rfl
theorem n_4 : 4 < NN := by decide
theorem L_5 : LAY 5 = kA 0 120 := rfl
theorem n_5 : 5 < NN := by decide
theorem L_6 : LAY 6 = kO 4 [some (some 7), none] := rfl
theorem n_6 : 6 < NN := by decide
theorem L_7 : LAY 7 = kA 0 120 := rfl
theorem n_7 : 7 < NN := by decide
theorem L_8 : LAY 8 = kO 4 [some (some 9), none] := rfl
theorem n_8 : 8 < NN := by decide
theorem L_9 : LAY 9 = kA 0 120 := rfl
theorem n_9 : 9 < NN := by decide
theorem L_10 : LAY 10 = kO 4 [some (some 11), none] := rfl
theorem n_10 : 10 < NN := by decide
theorem L_11 : LAY 11 = kA 0 120 := rfl
theorem n_11 : 11 < NN := by decide
theorem L_12 : LAY 12 = kO 1 [some (some 13), none, none] := rfl
theorem n_12 : 12 < NN := by decide
theorem L_13 : LAY 13 = kR 2 [some 14, some 25, some 36, some 47, some 58, some 69] := rfl
theorem n_13 : 13 < NN := by decide
theorem L_14 : LAY 14 = kO 3 [some (some 15), some (some 16)] := rfl
theorem n_14 : 14 < NN := by decide
theorem L_15 : LAY 15 = kA 0 6 := rfl
theorem n_15 : 15 < NN := by decide
theorem L_16 : LAY 16 = kR 3 [some 17, some 19, some 21, some 23] := rfl
theorem n_16 : 16 < NN := by decide
theorem L_17 : LAY 17 = kO 4 [some (some 18), none] := rfl
theorem n_17 : 17 < NN := by decide
theorem L_18 : LAY 18 = kA 0 120 := rfl
theorem n_18 : 18 < NN := by decide
theorem L_19 : LAY 19 = kO 4 [some (some 20), none] := rfl
theorem n_19 : 19 < NN := by decide
theorem L_20 : LAY 20 = kA 0 120 := rfl
theorem n_20 : 20 < NN := by decide
theorem L_21 : LAY 21 = kO 4 [some (some 22), none] := rfl
theorem n_21 : 21 < NN := by decide
theorem L_22 : LAY 22 = kA 0 120 := rfl
theorem n_22 : 22 < NN := by decide
theorem L_23 : LAY 23 = kO 4 [some (some 24), none] := rfl
theorem n_23 : 23 < NN := by decide
theorem L_24 : LAY 24 = kA 0 120 := rfl
theorem n_24 : 24 < NN := by decide
theorem L_25 : LAY 25 = kO 3 [some (some 26), some (some 27)] := rfl
theorem n_25 : 25 < NN := by decide
theorem L_26 : LAY 26 = kA 0 6 := rfl
theorem n_26 : 26 < NN := by decide
theorem L_27 : LAY 27 = kR 3 [some 28, some 30, some 32, some 34] := rfl
theorem n_27 : 27 < NN := by decide
theorem L_28 : LAY 28 = kO 4 [some (some 29), none] := rfl
theorem n_28 : 28 < NN := by decide
theorem L_29 : LAY 29 = kA 0 120 := rfl
theorem n_29 : 29 < NN := by decide
theorem L_30 : LAY 30 = kO 4 [some (some 31), none] := rfl
theorem n_30 : 30 < NN := by decide
theorem L_31 : LAY 31 = kA 0 120 := rfl
theorem n_31 : 31 < NN := by decide
theorem L_32 : LAY 32 = kO 4 [some (some 33), none] := rfl
theorem n_32 : 32 < NN := by decide
theorem L_33 : LAY 33 = kA 0 120 := rfl
theorem n_33 : 33 < NN := by decide
theorem L_34 : LAY 34 = kO 4 [some (some 35), none] := rfl
theorem n_34 : 34 < NN := by decide
theorem L_35 : LAY 35 = kA 0 120 := rfl
theorem n_35 : 35 < NN := by decide
theorem L_36 : LAY 36 = kO 3 [some (some 37), some (some 38)] := rfl
theorem n_36 : 36 < NN := by decide
theorem L_37 : LAY 37 = kA 0 6 := rfl
theorem n_37 : 37 < NN := by decide
theorem L_38 : LAY 38 = kR 3 [some 39, some 41, some 43, some 45] := rfl
theorem n_38 : 38 < NN := by decide
theorem L_39 : LAY 39 = kO 4 [some (some 40), none] := rfl
theorem n_39 : 39 < NN := by decide
theorem L_40 : LAY 40 = kA 0 120 := rfl
theorem n_40 : 40 < NN := by decide
theorem L_41 : LAY 41 = kO 4 [some (some 42), none] := rfl
theorem n_41 : 41 < NN := by decide
theorem L_42 : LAY 42 = kA 0 120 := rfl
theorem n_42 : 42 < NN := by decide
theorem L_43 : LAY 43 = kO 4 [some (some 44), none] := rfl
theorem n_43 : 43 < NN := by decide
theorem L_44 : LAY 44 = kA 0 120 := rfl
theorem n_44 : 44 < NN := by decide
theorem L_45 : LAY 45 = kO 4 [some (some 46), none] := rfl
theorem n_45 : 45 < NN := by decide
theorem L_46 : LAY 46 = kA 0 120 := rfl
theorem n_46 : 46 < NN := by decide
theorem L_47 : LAY 47 = kO 3 [some (some 48), some (some 49)] := rfl
theorem n_47 : 47 < NN := by decide
theorem L_48 : LAY 48 = kA 0 6 := rfl
theorem n_48 : 48 < NN := by decide
theorem L_49 : LAY 49 = kR 3 [some 50, some 52, some 54, some 56] := rfl
theorem n_49 : 49 < NN := by decide
theorem L_50 : LAY 50 = kO 4 [some (some 51), none] := rfl
theorem n_50 : 50 < NN := by decide
theorem L_51 : LAY 51 = kA 0 120 := rfl
theorem n_51 : 51 < NN := by decide
theorem L_52 : LAY 52 = kO 4 [some (some 53), none] := rfl
theorem n_52 : 52 < NN := by decide
theorem L_53 : LAY 53 = kA 0 120 := rfl
theorem n_53 : 53 < NN := by decide
theorem L_54 : LAY 54 = kO 4 [some (some 55), none] := rfl
theorem n_54 : 54 < NN := by decide
theorem L_55 : LAY 55 = kA 0 120 := rfl
theorem n_55 : 55 < NN := by decide
theorem L_56 : LAY 56 = kO 4 [some (some 57), none] := rfl
theorem n_56 : 56 < NN := by decide
theorem L_57 : LAY 57 = kA 0 120 := rfl
theorem n_57 : 57 < NN := by decide
theorem L_58 : LAY 58 = kO 3 [some (some 59), some (some 60)] := rfl
theorem n_58 : 58 < NN := by decide
theorem L_59 : LAY 59 = kA 0 6 := rfl
theorem n_59 : 59 < NN := by decide
theorem L_60 : LAY 60 = kR 3 [some 61, some 63, some 65, some 67] := rfl
theorem n_60 : 60 < NN := by decide
theorem L_61 : LAY 61 = kO 4 [some (some 62), none] := rfl
theorem n_61 : 61 < NN := by decide
theorem L_62 : LAY 62 = kA 0 120 := rfl
theorem n_62 : 62 < NN := by decide
theorem L_63 : LAY 63 = kO 4 [some (some 64), none] := rfl
theorem n_63 : 63 < NN := by decide
theorem L_64 : LAY 64 = kA 0 120 := rfl
theorem n_64 : 64 < NN := by decide
theorem L_65 : LAY 65 = kO 4 [some (some 66), none] := rfl
theorem n_65 : 65 < NN := by decide
theorem L_66 : LAY 66 = kA 0 120 := rfl
theorem n_66 : 66 < NN := by decide
theorem L_67 : LAY 67 = kO 4 [some (some 68), none] := rfl
theorem n_67 : 67 < NN := by decide
theorem L_68 : LAY 68 = kA 0 120 := rfl
theorem n_68 : 68 < NN := by decide
theorem L_69 : LAY 69 = kO 3 [some (some 70), some (some 71)] := rfl
theorem n_69 : 69 < NN := by decide
theorem L_70 : LAY 70 = kA 0 6 := rfl
theorem n_70 : 70 < NN := by decide
theorem L_71 : LAY 71 = kR 3 [some 72, some 74, some 76, some 78] := rfl
theorem n_71 : 71 < NN := by decide
theorem L_72 : LAY 72 = kO 4 [some (some 73), none] := rfl
theorem n_72 : 72 < NN := by decide
theorem L_73 : LAY 73 = kA 0 120 := rfl
theorem n_73 : 73 < NN := by decide
theorem L_74 : LAY 74 = kO 4 [some (some 75), none] := rfl
theorem n_74 : 74 < NN := by decide
theorem L_75 : LAY 75 = kA 0 120 := rfl
theorem n_75 : 75 < NN := by decide
theorem L_76 : LAY 76 = kO 4 [some (some 77), none] := rfl
theorem n_76 : 76 < NN := by decide
theorem L_77 : LAY 77 = kA 0 120 := rfl
theorem n_77 : 77 < NN := by decide
theorem L_78 : LAY 78 = kO 4 [some (some 79), none] := rfl
theorem n_78 : 78 < NN := by decide
theorem L_79 : LAY 79 = kA 0 120 := rfl
theorem n_79 : 79 < NN := by decide
theorem L_80 : LAY 80 = kR 2 [some 81, some 92] := rfl
theorem n_80 : 80 < NN := by decide
theorem L_81 : LAY 81 = kO 3 [some (some 82), some (some 83)] := rfl
theorem n_81 : 81 < NN := by decide
theorem L_82 : LAY 82 = kA 0 6 := rfl
theorem n_82 : 82 < NN := by decide
theorem L_83 : LAY 83 = kR 3 [some 84, some 86, some 88, some 90] := rfl
theorem n_83 : 83 < NN := by decide
theorem L_84 : LAY 84 = kO 4 [some (some 85), none] := rfl
theorem n_84 : 84 < NN := by decide
theorem L_85 : LAY 85 = kA 0 120 := rfl
theorem n_85 : 85 < NN := by decide
theorem L_86 : LAY 86 = kO 4 [some (some 87), none] := rfl
theorem n_86 : 86 < NN := by decide
theorem L_87 : LAY 87 = kA 0 120 := rfl
theorem n_87 : 87 < NN := by decide
theorem L_88 : LAY 88 = kO 4 [some (some 89), none] := rfl
theorem n_88 : 88 < NN := by decide
theorem L_89 : LAY 89 = kA 0 120 := rfl
theorem n_89 : 89 < NN := by decide
theorem L_90 : LAY 90 = kO 4 [some (some 91), none] := rfl
theorem n_90 : 90 < NN := by decide
theorem L_91 : LAY 91 = kA 0 120 := rfl
theorem n_91 : 91 < NN := by decide
theorem L_92 : LAY 92 = kO 3 [some (some 93), some (some 94)] := rfl
theorem n_92 : 92 < NN := by decide
theorem L_93 : LAY 93 = kA 0 6 := rfl
theorem n_93 : 93 < NN := by decide
theorem L_94 : LAY 94 = kR 3 [some 95, some 97, some 99, some 101] := rfl
theorem n_94 : 94 < NN := by decide
theorem L_95 : LAY 95 = kO 4 [some (some 96), none] := rfl
theorem n_95 : 95 < NN := by decide
theorem L_96 : LAY 96 = kA 0 120 := rfl
theorem n_96 : 96 < NN := by decide
theorem L_97 : LAY 97 = kO 4 [some (some 98), none] := rfl
theorem n_97 : 97 < NN := by decide
theorem L_98 : LAY 98 = kA 0 120 := rfl
theorem n_98 : 98 < NN := by decide
theorem L_99 : LAY 99 = kO 4 [some (some 100), none] := rfl
theorem n_99 : 99 < NN := by decide
theorem L_100 : LAY 100 = kA 0 120 := rfl
theorem n_100 : 100 < NN := by decide
theorem L_101 : LAY 101 = kO 4 [some (some 102), none] := rfl
theorem n_101 : 101 < NN := by decide
theorem L_102 : LAY 102 = kA 0 120 := rfl
theorem n_102 : 102 < NN := by decide
theorem L_103 : LAY 103 = kA 1 2 := rfl
theorem n_103 : 103 < NN := by decide
theorem L_104 : LAY 104 = kO 0 [some (some 105), none, some (some 106), some (some 107), some (some 108), none] := rfl
theorem n_104 : 104 < NN := by decide
theorem L_105 : LAY 105 = kA 0 60 := rfl
theorem n_105 : 105 < NN := by decide
theorem L_106 : LAY 106 = kA 0 4 := rfl
theorem n_106 : 106 < NN := by decide
theorem L_107 : LAY 107 = kA 0 4 := rfl
theorem n_107 : 107 < NN := by decide
theorem L_108 : LAY 108 = kA 0 4 := rfl
theorem n_108 : 108 < NN := by decide
theorem L_109 : LAY 109 = kO 2 [some (some 110), some (some 111), some (some 112), some (some 113)] := rfl
theorem n_109 : 109 < NN := by decide
theorem L_110 : LAY 110 = kA 0 7260 := rfl
theorem n_110 : 110 < NN := by decide
theorem L_111 : LAY 111 = kA 0 120 := rfl
theorem n_111 : 111 < NN := by decide
theorem L_112 : LAY 112 = kA 0 120 := rfl
theorem n_112 : 112 < NN := by decide
theorem L_113 : LAY 113 = kA 0 12 := rfl
theorem n_113 : 113 < NN := by decide
theorem L_114 : LAY 114 = kO 4 [some (some 115), none] := rfl
theorem n_114 : 114 < NN := by decide
theorem L_115 : LAY 115 = kA 0 480 := rfl
theorem n_115 : 115 < NN := by decide
theorem L_116 : LAY 116 = kO 4 [some (some 117), none] := rfl
theorem n_116 : 116 < NN := by decide
theorem L_117 : LAY 117 = kA 0 480 := rfl
theorem n_117 : 117 < NN := by decide
theorem L_118 : LAY 118 = kO 4 [some (some 119), none] := rfl
theorem n_118 : 118 < NN := by decide
theorem L_119 : LAY 119 = kA 0 480 := rfl
theorem n_119 : 119 < NN := by decide
theorem L_120 : LAY 120 = kO 6 [some (some 121), some (some 122), none, some (some 123), some (some 124), some (some 125), none, some (some 126), none, some (some 127), none, some (some 128), none, some (some 129), none, none, some (some 130), some (some 131), some (some 132), some (some 133)] := rfl
theorem n_120 : 120 < NN := by decide
theorem L_121 : LAY 121 = kA 0 490 := rfl
theorem n_121 : 121 < NN := by decide
theorem L_122 : LAY 122 = kA 0 2940 := rfl
theorem n_122 : 122 < NN := by decide
theorem L_123 : LAY 123 = kA 0 980 := rfl
theorem n_123 : 123 < NN := by decide
theorem L_124 : LAY 124 = kA 1 2 := rfl
theorem n_124 : 124 < NN := by decide
theorem L_125 : LAY 125 = kA 0 60 := rfl
theorem n_125 : 125 < NN := by decide
theorem L_126 : LAY 126 = kA 0 1000 := rfl
theorem n_126 : 126 < NN := by decide
theorem L_127 : LAY 127 = kA 0 120 := rfl
theorem n_127 : 127 < NN := by decide
theorem L_128 : LAY 128 = kA 0 120 := rfl
theorem n_128 : 128 < NN := by decide
theorem L_129 : LAY 129 = kA 0 1000 := rfl
theorem n_129 : 129 < NN := by decide
theorem L_130 : LAY 130 = kA 0 4 := rfl
theorem n_130 : 130 < NN := by decide
theorem L_131 : LAY 131 = kA 0 4 := rfl
theorem n_131 : 131 < NN := by decide
theorem L_132 : LAY 132 = kA 0 4 := rfl
theorem n_132 : 132 < NN := by decide
theorem L_133 : LAY 133 = kA 0 14641 := rfl
theorem n_133 : 133 < NN := by decide
/-- a word at i, with room for cap crossings -/
def IsW (i cap : Nat) : Prop := LAY i = kO 4 [some (some (i + 1)), none] ∧ LAY (i + 1) = kA 0 cap ∧ i < NN ∧ i + 1 < NN ∧ cap ≤ 480
/-- a state at s: widths, ropes -/
def IsS (s : Nat) : Prop := LAY s = kO 3 [some (some (s + 1)), some (some (s + 2))] ∧ LAY (s + 1) = kA 0 6 ∧ LAY (s + 2) = kR 3 [some (s + 3), some (s + 5), some (s + 7), some (s + 9)] ∧ s < NN ∧ s + 1 < NN ∧ s + 2 < NN ∧ IsW (s + 3) 120 ∧ IsW (s + 5) 120 ∧ IsW (s + 7) 120 ∧ IsW (s + 9) 120
theorem isW_114 : IsW 114 480 := ⟨rfl, rfl, by decide, by decide, by decide⟩
theorem isW_116 : IsW 116 480 := ⟨rfl, rfl, by decide, by decide, by decide⟩
theorem isW_118 : IsW 118 480 := ⟨rfl, rfl, by decide, by decide, by decide⟩
theorem isS_1 : IsS 1 := ⟨rfl, rfl, rfl, by decide, by decide, by decide, ⟨rfl, rfl, by decide, by decide, by decide⟩, ⟨rfl, rfl, by decide, by decide, by decide⟩, ⟨rfl, rfl, by decide, by decide, by decide⟩, ⟨rfl, rfl, by decide, by decide, by decide⟩⟩
theorem isS_14 : IsS 14 := ⟨rfl, rfl, rfl, by decide, by decide, by decide, ⟨rfl, rfl, by decide, by decide, by decide⟩, ⟨rfl, rfl, by decide, by decide, by decide⟩, ⟨rfl, rfl, by decide, by decide, by decide⟩, ⟨rfl, rfl, by decide, by decide, by decide⟩⟩
theorem isS_25 : IsS 25 := ⟨rfl, rfl, rfl, by decide, by decide, by decide, ⟨rfl, rfl, by decide, by decide, by decide⟩, ⟨rfl, rfl, by decide, by decide, by decide⟩, ⟨rfl, rfl, by decide, by decide, by decide⟩, ⟨rfl, rfl, by decide, by decide, by decide⟩⟩
theorem isS_36 : IsS 36 := ⟨rfl, rfl, rfl, by decide, by decide, by decide, ⟨rfl, rfl, by decide, by decide, by decide⟩, ⟨rfl, rfl, by decide, by decide, by decide⟩, ⟨rfl, rfl, by decide, by decide, by decide⟩, ⟨rfl, rfl, by decide, by decide, by decide⟩⟩
theorem isS_47 : IsS 47 := ⟨rfl, rfl, rfl, by decide, by decide, by decide, ⟨rfl, rfl, by decide, by decide, by decide⟩, ⟨rfl, rfl, by decide, by decide, by decide⟩, ⟨rfl, rfl, by decide, by decide, by decide⟩, ⟨rfl, rfl, by decide, by decide, by decide⟩⟩
theorem isS_58 : IsS 58 := ⟨rfl, rfl, rfl, by decide, by decide, by decide, ⟨rfl, rfl, by decide, by decide, by decide⟩, ⟨rfl, rfl, by decide, by decide, by decide⟩, ⟨rfl, rfl, by decide, by decide, by decide⟩, ⟨rfl, rfl, by decide, by decide, by decide⟩⟩
theorem isS_69 : IsS 69 := ⟨rfl, rfl, rfl, by decide, by decide, by decide, ⟨rfl, rfl, by decide, by decide, by decide⟩, ⟨rfl, rfl, by decide, by decide, by decide⟩, ⟨rfl, rfl, by decide, by decide, by decide⟩, ⟨rfl, rfl, by decide, by decide, by decide⟩⟩
theorem isS_81 : IsS 81 := ⟨rfl, rfl, rfl, by decide, by decide, by decide, ⟨rfl, rfl, by decide, by decide, by decide⟩, ⟨rfl, rfl, by decide, by decide, by decide⟩, ⟨rfl, rfl, by decide, by decide, by decide⟩, ⟨rfl, rfl, by decide, by decide, by decide⟩⟩
theorem isS_92 : IsS 92 := ⟨rfl, rfl, rfl, by decide, by decide, by decide, ⟨rfl, rfl, by decide, by decide, by decide⟩, ⟨rfl, rfl, by decide, by decide, by decide⟩, ⟨rfl, rfl, by decide, by decide, by decide⟩, ⟨rfl, rfl, by decide, by decide, by decide⟩⟩
/-- contracts over the run's world: an int (or boolean) comes back, or nothing -/
def Pi (post : Int → Mem → Prop) : Option Value → Lay → Nat → Mem → Prop := fun r L n M' => L = LAY ∧ n = NN ∧ ∃ z, r = some (vI z) ∧ post z M'
def Pv (post : Mem → Prop) : Option Value → Lay → Nat → Mem → Prop := fun r L n M' => L = LAY ∧ n = NN ∧ r = none ∧ post M'
def Ci (g : GE) (l : Launch) (μ : Mu) (av : List Value) (M : Mem) (post : Int → Mem → Prop) : Prop := Ct g l μ 0 0 av LAY NN M (Pi post)
def Cv (g : GE) (l : Launch) (μ : Mu) (av : List Value) (M : Mem) (post : Mem → Prop) : Prop := Ct g l μ 0 0 av LAY NN M (Pv post)
/-- nothing changes -/
def Cp (g : GE) (l : Launch) (μ : Mu) (av : List Value) (M : Mem) (e : Int) : Prop := Ci g l μ av M (fun z M' => z = e ∧ M' = M)
theorem Ci.of {g : GE} {l : Launch} {μ : Mu} {av : List Value} {M : Mem} {post : Int → Mem → Prop} (hy : plainName μ.1.cls = true) (hav : Nat.ble (lg_sl av).length μ.2.2.1 = true) {ls : List (Nat × Value)} (hls : lv_args 0 av = ls)
    (body : ∀ x : Fx, Cx x g μ.2.1 μ.1.cls μ.2.2.1 (mRm μ 0 0) → Rx x g 0 0 μ.2.2.2.1 (Pi post) → K x g 0 0 LAY NN M 0 ls []) : Ci g l μ av M post := Ct.of hy hav (fun x _ hx _ hr => hls ▸ body x hx hr)
theorem Cv.of {g : GE} {l : Launch} {μ : Mu} {av : List Value} {M : Mem} {post : Mem → Prop} (hy : plainName μ.1.cls = true) (hav : Nat.ble (lg_sl av).length μ.2.2.1 = true) {ls : List (Nat × Value)} (hls : lv_args 0 av = ls)
    (body : ∀ x : Fx, Cx x g μ.2.1 μ.1.cls μ.2.2.1 (mRm μ 0 0) → Rx x g 0 0 μ.2.2.2.1 (Pv post) → K x g 0 0 LAY NN M 0 ls []) : Cv g l μ av M post := Ct.of hy hav (fun x _ hx _ hr => hls ▸ body x hx hr)
section STEADY
variable {x : Fx} {g : GE} {cc : ByteArray} {own : String} {nL : Nat} {R : Room} {cs sl : Nat} {M : Mem} {pc pc' index na ci i : Nat} {ls : List (Nat × Value)} {st rest As av : List Value} {μ : Mu} {L : Lay} {n : Nat}
theorem k_ri {post : Int → Mem → Prop} (hx : Cx x g cc own nL R) (hm : Rx x g 0 0 (some .int) (Pi post)) {z : Int} (hd : At cc pc .ireturn 1 (pc + 1)) (hp : post z M) : K x g 0 0 LAY NN M pc ls [vI z] := k_iret hx hm hd ⟨rfl, rfl, z, rfl, hp⟩
theorem k_rz {post : Int → Mem → Prop} (hx : Cx x g cc own nL R) (hm : Rx x g 0 0 (some .boolean) (Pi post)) {z : Int} (hd : At cc pc .ireturn 1 (pc + 1)) (hz : z = 0 ∨ z = 1) (hp : post z M) : K x g 0 0 LAY NN M pc ls [vI z] := k_zret hx hm hd hz ⟨rfl, rfl, z, rfl, hp⟩
theorem k_rv {post : Mem → Prop} (hx : Cx x g cc own nL R) (hm : Rx x g 0 0 none (Pv post)) (hd : At cc pc .return_ 1 (pc + 1)) (hp : post M) : K x g 0 0 LAY NN M pc ls [] := k_vret hx hm hd ⟨rfl, rfl, rfl, hp⟩
theorem k_vi {post : Int → Mem → Prop} (hx : Cx x g cc own nL R) (hlk : lkV own index μ ci na) (hd : At cc pc (.invokevirtual index) 3 pc') (hC : Ci g (xL x) μ (vR g i :: As) M post) {fs : List FS} (hi : i < NN) (hL : LAY i = kO ci fs) (hn : As.length = na) (hst : st = As.reverse ++ vR g i :: rest) (hcat : Nat.ble (rest.map fun v => v.category).sum 8 = true) (hroom : Nat.ble (μ.2.2.2.2.1 + 1) R.frames = true ∧ Nat.ble (8 + (μ.2.2.1 + 11) + μ.2.2.2.2.2) R.locals = true) (hcell : cs ≤ R.cells ∧ sl ≤ R.slots)
    (kk : ∀ (z : Int) (M' : Mem), post z M' → K x g cs sl LAY NN M' pc' ls (vI z :: rest)) : K x g cs sl LAY NN M pc ls st :=
  k_callV hx hlk hd hC hi hL hn hst hcat hroom hcell (fun r L' n' M' ⟨h1, h2, z, h3, h4⟩ => by subst h1; subst h2; subst h3; exact kk z M' h4)
theorem k_vp {e : Int} (hx : Cx x g cc own nL R) (hlk : lkV own index μ ci na) (hd : At cc pc (.invokevirtual index) 3 pc') (hC : Cp g (xL x) μ (vR g i :: As) M e) {fs : List FS} (hi : i < NN) (hL : LAY i = kO ci fs) (hn : As.length = na) (hst : st = As.reverse ++ vR g i :: rest) (hcat : Nat.ble (rest.map fun v => v.category).sum 8 = true) (hroom : Nat.ble (μ.2.2.2.2.1 + 1) R.frames = true ∧ Nat.ble (8 + (μ.2.2.1 + 11) + μ.2.2.2.2.2) R.locals = true) (hcell : cs ≤ R.cells ∧ sl ≤ R.slots)
    (kk : K x g cs sl LAY NN M pc' ls (vI e :: rest)) : K x g cs sl LAY NN M pc ls st :=
  k_vi hx hlk hd hC hi hL hn hst hcat hroom hcell (fun z M' ⟨h1, h2⟩ => by subst h1; subst h2; exact kk)
theorem k_vv {post : Mem → Prop} (hx : Cx x g cc own nL R) (hlk : lkV own index μ ci na) (hd : At cc pc (.invokevirtual index) 3 pc') (hC : Cv g (xL x) μ (vR g i :: As) M post) {fs : List FS} (hi : i < NN) (hL : LAY i = kO ci fs) (hn : As.length = na) (hst : st = As.reverse ++ vR g i :: rest) (hcat : Nat.ble (rest.map fun v => v.category).sum 8 = true) (hroom : Nat.ble (μ.2.2.2.2.1 + 1) R.frames = true ∧ Nat.ble (8 + (μ.2.2.1 + 11) + μ.2.2.2.2.2) R.locals = true) (hcell : cs ≤ R.cells ∧ sl ≤ R.slots)
    (kk : ∀ (M' : Mem), post M' → K x g cs sl LAY NN M' pc' ls rest) : K x g cs sl LAY NN M pc ls st :=
  k_callV hx hlk hd hC hi hL hn hst hcat hroom hcell (fun r L' n' M' ⟨h1, h2, h3, h4⟩ => by subst h1; subst h2; subst h3; exact kk M' h4)
theorem k_si {post : Int → Mem → Prop} (hx : Cx x g cc own nL R) (hlk : lkS own index μ na) (hd : At cc pc (.invokestatic index) 3 pc') (hC : Ci g (xL x) μ As M post) (hn : As.length = na) (hst : st = As.reverse ++ rest) (hcat : Nat.ble (rest.map fun v => v.category).sum 8 = true) (hroom : Nat.ble (μ.2.2.2.2.1 + 1) R.frames = true ∧ Nat.ble (8 + (μ.2.2.1 + 11) + μ.2.2.2.2.2) R.locals = true) (hcell : cs ≤ R.cells ∧ sl ≤ R.slots)
    (kk : ∀ (z : Int) (M' : Mem), post z M' → K x g cs sl LAY NN M' pc' ls (vI z :: rest)) : K x g cs sl LAY NN M pc ls st :=
  k_callS hx hlk hd hC hn hst hcat hroom hcell (fun r L' n' M' ⟨h1, h2, z, h3, h4⟩ => by subst h1; subst h2; subst h3; exact kk z M' h4)
theorem k_sp {e : Int} (hx : Cx x g cc own nL R) (hlk : lkS own index μ na) (hd : At cc pc (.invokestatic index) 3 pc') (hC : Cp g (xL x) μ As M e) (hn : As.length = na) (hst : st = As.reverse ++ rest) (hcat : Nat.ble (rest.map fun v => v.category).sum 8 = true) (hroom : Nat.ble (μ.2.2.2.2.1 + 1) R.frames = true ∧ Nat.ble (8 + (μ.2.2.1 + 11) + μ.2.2.2.2.2) R.locals = true) (hcell : cs ≤ R.cells ∧ sl ≤ R.slots)
    (kk : K x g cs sl LAY NN M pc' ls (vI e :: rest)) : K x g cs sl LAY NN M pc ls st :=
  k_si hx hlk hd hC hn hst hcat hroom hcell (fun z M' ⟨h1, h2⟩ => by subst h1; subst h2; exact kk)
theorem k_np {e : Int} {host : String} (hx : Cx x g cc own nL R) (hlk : lkN own index μ host na) (hd : At cc pc (.invokestatic index) 3 pc') (hC : Cp g (xL x) μ As M e) (hn : As.length = na) (hst : st = As.reverse ++ rest) (hcat : Nat.ble (rest.map fun v => v.category).sum 8 = true) (hroom : Nat.ble (μ.2.2.2.2.1 + 1) R.frames = true ∧ Nat.ble (8 + (μ.2.2.1 + 11) + μ.2.2.2.2.2) R.locals = true) (hcell : cs ≤ R.cells ∧ sl ≤ R.slots)
    (kk : K x g cs sl LAY NN M pc' ls (vI e :: rest)) : K x g cs sl LAY NN M pc ls st :=
  k_callN hx hlk hd hC hn hst hcat hroom hcell (fun r L' n' M' ⟨h1, h2, z, h3, h4, h5⟩ => by subst h1; subst h2; subst h3; subst h4; subst h5; exact kk)
/-- stores, the new numbers under a name -/
theorem k_putI {k : Nat} {kz : Int} {fs : List FS} {z : Int} (hx : Cx x g cc own nL R) (hf : FL own index ci k false .int) (hd : At cc pc (.putfield index) 3 pc') (hi : i < n) (hL : L i = kO ci fs) (hn : fs.getD k none = none) (hkz : (k : Int) = kz) (kk : ∀ M', M' = up M i kz z → K x g cs sl L n M' pc' ls st) : K x g cs sl L n M pc ls (vI z :: vR g i :: st) := by subst hkz; exact k_put hx hf hd hi hL hn ⟨rfl, rfl⟩ (kk _ rfl)
theorem k_putZ {k : Nat} {kz : Int} {fs : List FS} {z : Int} (hx : Cx x g cc own nL R) (hf : FL own index ci k false .boolean) (hd : At cc pc (.putfield index) 3 pc') (hi : i < n) (hL : L i = kO ci fs) (hn : fs.getD k none = none) (hkz : (k : Int) = kz) (hz : z = 0 ∨ z = 1) (kk : ∀ M', M' = up M i kz z → K x g cs sl L n M' pc' ls st) : K x g cs sl L n M pc ls (vI z :: vR g i :: st) := by subst hkz; exact k_put hx hf hd hi hL hn (by rcases hz with rfl | rfl <;> decide +kernel) (kk _ rfl)
theorem k_iastN {N : Nat} {z v : Int} (hx : Cx x g cc own nL R) (hd : At cc pc .iastore 1 pc') (hi : i < n) (hL : L i = kA 0 N) (hz : 0 ≤ z ∧ z < N) (hN : N ≤ 2147483647) (kk : ∀ M', M' = up M i z v → K x g cs sl L n M' pc' ls st) : K x g cs sl L n M pc ls (vI v :: vI z :: vR g i :: st) := k_iast hx hd hi hL hz hN (kk _ rfl)
theorem k_zastN {N : Nat} {z v : Int} (hx : Cx x g cc own nL R) (hd : At cc pc .bastore 1 pc') (hi : i < n) (hL : L i = kA 1 N) (hz : 0 ≤ z ∧ z < N) (hN : N ≤ 2147483647) (hv : v = 0 ∨ v = 1) (kk : ∀ M', M' = up M i z v → K x g cs sl L n M' pc' ls st) : K x g cs sl L n M pc ls (vI v :: vI z :: vR g i :: st) := k_zast hx hd hi hL hz hN hv (kk _ rfl)
end STEADY
end
section
/-! words: lists of crossings; the class's own word, and its leaves -/
def b2i (b : Bool) : Int := bif b then 1 else 0
theorem b2i_or (b : Bool) : b2i b = 0 ∨ b2i b = 1 := by cases b <;> simp [b2i]
theorem b2i_t {p : Prop} {_ : Decidable p} (h : p) : 1 = b2i (decide p) := by simp [b2i, h]
theorem b2i_f {p : Prop} {_ : Decidable p} (h : ¬ p) : 0 = b2i (decide p) := by simp [b2i, h]
theorem b2i_rg (b : Bool) : -2147483648 ≤ b2i b ∧ b2i b < 2147483648 := by cases b <;> simp [b2i]
theorem b2i_0 {b : Bool} : b2i b = 0 ↔ b = false := by cases b <;> simp [b2i]
section BROWS
variable {x : Fx} {g : GE} {cc : ByteArray} {own : String} {nL : Nat} {R : Room} {cs sl : Nat} {L : Lay} {n : Nat} {M : Mem} {pc pc' tgt : Nat} {ls : List (Nat × Value)} {st : List Value}
theorem k_ceq (hx : Cx x g cc own nL R) {b : Bool} (hd : Br cc pc (.ifCond .eq) pc' tgt) (kt : b = false → K x g cs sl L n M tgt ls st) (kf : b = true → K x g cs sl L n M pc' ls st) : K x g cs sl L n M pc ls (vI (b2i b) :: st) :=
  k_ifeq hx hd (b2i_rg b) (fun h => kt (b2i_0.mp h)) (fun h => kf (by cases b; exact absurd rfl h; rfl))
theorem k_cne (hx : Cx x g cc own nL R) {b : Bool} (hd : Br cc pc (.ifCond .ne) pc' tgt) (kt : b = true → K x g cs sl L n M tgt ls st) (kf : b = false → K x g cs sl L n M pc' ls st) : K x g cs sl L n M pc ls (vI (b2i b) :: st) :=
  k_ifne hx hd (b2i_rg b) (fun h => kt (by cases b; exact absurd rfl h; rfl)) (fun h => kf (b2i_0.mp h))
theorem k_beq (hx : Cx x g cc own nL R) {p : Prop} {_ : Decidable p} (hd : Br cc pc (.ifCond .eq) pc' tgt) (kt : ¬ p → K x g cs sl L n M tgt ls st) (kf : p → K x g cs sl L n M pc' ls st) : K x g cs sl L n M pc ls (vI (b2i (decide p)) :: st) :=
  k_ceq hx hd (fun h => kt (of_decide_eq_false h)) (fun h => kf (of_decide_eq_true h))
theorem k_bne (hx : Cx x g cc own nL R) {p : Prop} {_ : Decidable p} (hd : Br cc pc (.ifCond .ne) pc' tgt) (kt : p → K x g cs sl L n M tgt ls st) (kf : ¬ p → K x g cs sl L n M pc' ls st) : K x g cs sl L n M pc ls (vI (b2i (decide p)) :: st) :=
  k_cne hx hd (fun h => kt (of_decide_eq_true h)) (fun h => kf (of_decide_eq_false h))
end BROWS
def op (c : Int) : Int := if c < 6 then c + 6 else c - 6
def pst (c : Int) : Int := if c < 6 then c else c - 6
theorem op_rg {c : Int} (h : 0 ≤ c ∧ c < 12) : 0 ≤ op c ∧ op c < 12 := by unfold op; omega
theorem op_op {c : Int} (h : 0 ≤ c ∧ c < 12) : op (op c) = c := by unfold op; omega
def psh (w : List Int) (c : Int) : List Int := if w.getLast? = some (op c) then w.dropLast else w ++ [c]
def red (w : List Int) : List Int := w.foldl psh []
def trn (w : List Int) : List Int := (w.map op).reverse
abbrev Cr (w : List Int) : Prop := ∀ c ∈ w, 0 ≤ c ∧ c < 12
/-- the word w stands at i -/
def Wd (M : Mem) (i : Nat) (w : List Int) : Prop := M i 1 = w.length ∧ (∀ (k : Nat) (c : Int), w[k]? = some c → M (i + 1) (k : Int) = c) ∧ Cr w
def Off (i : Nat) (M M' : Mem) : Prop := ∀ a, a ≠ i → a ≠ i + 1 → M' a = M a
theorem Off.rf {i : Nat} {M : Mem} : Off i M M := fun _ _ _ => rfl
theorem Off.tr {i : Nat} {M M' M'' : Mem} (h : Off i M M') (k : Off i M' M'') : Off i M M'' := fun a h1 h2 => (k a h1 h2).trans (h a h1 h2)
def at0 (w : List Int) (z : Int) : Int := if 0 ≤ z ∧ z < w.length then w.getD z.toNat 0 else -1
theorem Wd.get {M : Mem} {i : Nat} {w : List Int} (h : Wd M i w) {z : Int} (h0 : 0 ≤ z) (h1 : z < w.length) : M (i + 1) z = w.getD z.toNat 0 := by
  have h2 : z.toNat < w.length := by omega
  have := h.2.1 z.toNat (w.getD z.toNat 0) (by simp [List.getD_eq_getElem?_getD, h2])
  rwa [show ((z.toNat : Nat) : Int) = z by omega] at this
theorem Cr.get {w : List Int} (h : Cr w) {k : Nat} (hk : k < w.length) : 0 ≤ w.getD k 0 ∧ w.getD k 0 < 12 := by
  have : w.getD k 0 = w[k] := by simp [List.getD_eq_getElem?_getD, hk]
  rw [this]
  exact h _ (List.getElem_mem hk)
theorem at0_rg {w : List Int} (h : Cr w) (z : Int) : -1 ≤ at0 w z ∧ at0 w z < 12 := by
  unfold at0
  split
  · have := h.get (k := z.toNat) (by omega)
    omega
  · omega
theorem Wd.off {M M' : Mem} {i j : Nat} {w : List Int} (h : Wd M j w) (ho : Off i M M') (h1 : j ≠ i) (h2 : j ≠ i + 1) (h3 : j + 1 ≠ i) : Wd M' j w := by
  unfold Wd
  rw [ho j h1 h2, ho (j + 1) h3 (by omega)]
  exact h

/-- the JDK's own methods -/
theorem Ct.ofJ {g : GE} {l : Launch} {μ : Mu} {mc ms : Nat} {av : List Value} {L : Lay} {n : Nat} {M : Mem} {post : Option Value → Lay → Nat → Mem → Prop} (hy : plainFor μ.1 = true) (hav : Nat.ble (lg_sl av).length μ.2.2.1 = true)
    (body : ∀ x : Fx, xL x = l → Cx x g μ.2.1 μ.1.cls μ.2.2.1 (mRm μ mc ms) → (xT x).name = μ.1.name → Rx x g mc ms μ.2.2.2.1 post → K x g 0 0 L n M 0 (lv_args 0 av) []) : Ct g l μ mc ms av L n M post := by
  show MetFree l μ.1 (headSpec (mW μ) (mRm μ mc ms)) (Pz g av L n M) (fun _ _ _ _ _ => True) (fun a st o t => Qz g post a st o t ∧ ∃ Lc, FrameEnd st o t Lc mc ms ∧ ∀ q ∈ Lc, g.1 ≤ q.base)
  refine MetFree.of_bodySF (code := μ.2.1) (maxLocals := μ.2.2.1) (ret := μ.2.2.2.1) hy ?_ ?_
  · intro args s m h hn
    obtain ⟨meth, c, h1, h2, h3, h4, h5, h6, -, -⟩ := Cond.code_spec hn (atoms_spec (ws := mW μ) h _ List.mem_cons_self)
    exact ⟨meth, c, h1, h2, h3, h4, h5, h6⟩
  · intro p e s m args below meth c s₁ B hml hv _
    obtain ⟨rfl, hR, hK⟩ := hv
    have hts := atoms_spec (ws := mW μ) B.pre
    have hl := lv_entry av (n := μ.2.2.1) (Nat.le_of_ble_eq_true hav)
    have k := body (p, l, e, mRm μ mc ms, s, m, av.toArray, below, meth, c, MQ below (Qz g post) av.toArray s mc ms (fun q => g.1 ≤ q)) rfl
      ⟨B.exec, B.bytes, hml, findClass_of_methodNamed B.named, fun w h => hts w (List.mem_cons_of_mem _ h), hK, rfl⟩ (name_of_methodNamed B.named B.method).1 ⟨B.notSynchronized, B.returns, rfl⟩
    have hh0 : s₁.heap = s.heap := by rw [B.state]; rfl
    have k2 := k s.heap [] _ hR va_S.rf (by show lv_has _ c.maxLocals _; rw [hml]; exact hl)
    rw [← lg_entry_eq] at k2
    obtain ⟨t, a1, o, b1, b2, b3⟩ := k2 s₁ hh0 (Stand.of_body B)
    exact ⟨t, o, a1, b1, b2, ⟨b3.1, b3.2⟩⟩
theorem Ci.ofJ {g : GE} {l : Launch} {μ : Mu} {av : List Value} {M : Mem} {post : Int → Mem → Prop} (hy : plainFor μ.1 = true) (hav : Nat.ble (lg_sl av).length μ.2.2.1 = true) {ls : List (Nat × Value)} (hls : lv_args 0 av = ls)
    (body : ∀ x : Fx, Cx x g μ.2.1 μ.1.cls μ.2.2.1 (mRm μ 0 0) → Rx x g 0 0 μ.2.2.2.1 (Pi post) → K x g 0 0 LAY NN M 0 ls []) : Ci g l μ av M post := Ct.ofJ hy hav (fun x _ hx _ hr => hls ▸ body x hx hr)

theorem c_X5_isPost {g : GE} {l : Launch} {M : Mem} {z : Int} (hz : -2147483648 ≤ z ∧ z < 2147483648) : Cp g l μX5_isPost [vI z] M (b2i (decide (0 ≤ z ∧ z < 6))) := by
  refine Ci.of (by decide +kernel) rfl rfl (fun x hx hr => ?_)
  refine k_iload_n hx dX5_isPost_0 0 rfl ?_
  refine k_iflt hx dX5_isPost_1 (by omega) (fun h_1 => ?_) (fun h_1 => ?_)
  · refine k_iconst hx dX5_isPost_14 ?_
    refine k_rz hx hr dX5_isPost_15 (by first | exact Or.inl rfl | exact Or.inr rfl | exact b2i_or _) ?_
    first | exact ⟨b2i_t (by omega), rfl⟩ | exact ⟨b2i_f (by omega), rfl⟩
  · refine k_iload_n hx dX5_isPost_4 0 rfl ?_
    refine k_bipush hx dX5_isPost_5 (by decide +kernel) ?_
    refine k_icmp_ge hx dX5_isPost_7 (by omega) (fun h_7 => ?_) (fun h_7 => ?_)
    · refine k_iconst hx dX5_isPost_14 ?_
      refine k_rz hx hr dX5_isPost_15 (by first | exact Or.inl rfl | exact Or.inr rfl | exact b2i_or _) ?_
      first | exact ⟨b2i_t (by omega), rfl⟩ | exact ⟨b2i_f (by omega), rfl⟩
    · refine k_iconst hx dX5_isPost_10 ?_
      refine k_goto hx dX5_isPost_11 ?_
      refine k_rz hx hr dX5_isPost_15 (by first | exact Or.inl rfl | exact Or.inr rfl | exact b2i_or _) ?_
      first | exact ⟨b2i_t (by omega), rfl⟩ | exact ⟨b2i_f (by omega), rfl⟩
theorem c_X5_isRope {g : GE} {l : Launch} {M : Mem} {z : Int} (hz : -2147483648 ≤ z ∧ z < 2147483648) : Cp g l μX5_isRope [vI z] M (b2i (decide (0 ≤ z ∧ z < 4))) := by
  refine Ci.of (by decide +kernel) rfl rfl (fun x hx hr => ?_)
  refine k_iload_n hx dX5_isRope_0 0 rfl ?_
  refine k_iflt hx dX5_isRope_1 (by omega) (fun h_1 => ?_) (fun h_1 => ?_)
  · refine k_iconst hx dX5_isRope_13 ?_
    refine k_rz hx hr dX5_isRope_14 (by first | exact Or.inl rfl | exact Or.inr rfl | exact b2i_or _) ?_
    first | exact ⟨b2i_t (by omega), rfl⟩ | exact ⟨b2i_f (by omega), rfl⟩
  · refine k_iload_n hx dX5_isRope_4 0 rfl ?_
    refine k_iconst hx dX5_isRope_5 ?_
    refine k_icmp_ge hx dX5_isRope_6 (by omega) (fun h_6 => ?_) (fun h_6 => ?_)
    · refine k_iconst hx dX5_isRope_13 ?_
      refine k_rz hx hr dX5_isRope_14 (by first | exact Or.inl rfl | exact Or.inr rfl | exact b2i_or _) ?_
      first | exact ⟨b2i_t (by omega), rfl⟩ | exact ⟨b2i_f (by omega), rfl⟩
    · refine k_iconst hx dX5_isRope_9 ?_
      refine k_goto hx dX5_isRope_10 ?_
      refine k_rz hx hr dX5_isRope_14 (by first | exact Or.inl rfl | exact Or.inr rfl | exact b2i_or _) ?_
      first | exact ⟨b2i_t (by omega), rfl⟩ | exact ⟨b2i_f (by omega), rfl⟩
theorem c_X5_isSwap {g : GE} {l : Launch} {M : Mem} {z : Int} (hz : -2147483648 ≤ z ∧ z < 2147483648) : Cp g l μX5_isSwap [vI z] M (b2i (decide (0 ≤ z ∧ z < 5))) := by
  refine Ci.of (by decide +kernel) rfl rfl (fun x hx hr => ?_)
  refine k_iload_n hx dX5_isSwap_0 0 rfl ?_
  refine k_iflt hx dX5_isSwap_1 (by omega) (fun h_1 => ?_) (fun h_1 => ?_)
  · refine k_iconst hx dX5_isSwap_13 ?_
    refine k_rz hx hr dX5_isSwap_14 (by first | exact Or.inl rfl | exact Or.inr rfl | exact b2i_or _) ?_
    first | exact ⟨b2i_t (by omega), rfl⟩ | exact ⟨b2i_f (by omega), rfl⟩
  · refine k_iload_n hx dX5_isSwap_4 0 rfl ?_
    refine k_iconst hx dX5_isSwap_5 ?_
    refine k_icmp_ge hx dX5_isSwap_6 (by omega) (fun h_6 => ?_) (fun h_6 => ?_)
    · refine k_iconst hx dX5_isSwap_13 ?_
      refine k_rz hx hr dX5_isSwap_14 (by first | exact Or.inl rfl | exact Or.inr rfl | exact b2i_or _) ?_
      first | exact ⟨b2i_t (by omega), rfl⟩ | exact ⟨b2i_f (by omega), rfl⟩
    · refine k_iconst hx dX5_isSwap_9 ?_
      refine k_goto hx dX5_isSwap_10 ?_
      refine k_rz hx hr dX5_isSwap_14 (by first | exact Or.inl rfl | exact Or.inr rfl | exact b2i_or _) ?_
      first | exact ⟨b2i_t (by omega), rfl⟩ | exact ⟨b2i_f (by omega), rfl⟩
theorem c_X5_isSlot {g : GE} {l : Launch} {M : Mem} {z : Int} (hz : -2147483648 ≤ z ∧ z < 2147483648) : Cp g l μX5_isSlot [vI z] M (b2i (decide (0 ≤ z ∧ z < 2))) := by
  refine Ci.of (by decide +kernel) rfl rfl (fun x hx hr => ?_)
  refine k_iload_n hx dX5_isSlot_0 0 rfl ?_
  refine k_iflt hx dX5_isSlot_1 (by omega) (fun h_1 => ?_) (fun h_1 => ?_)
  · refine k_iconst hx dX5_isSlot_13 ?_
    refine k_rz hx hr dX5_isSlot_14 (by first | exact Or.inl rfl | exact Or.inr rfl | exact b2i_or _) ?_
    first | exact ⟨b2i_t (by omega), rfl⟩ | exact ⟨b2i_f (by omega), rfl⟩
  · refine k_iload_n hx dX5_isSlot_4 0 rfl ?_
    refine k_iconst hx dX5_isSlot_5 ?_
    refine k_icmp_ge hx dX5_isSlot_6 (by omega) (fun h_6 => ?_) (fun h_6 => ?_)
    · refine k_iconst hx dX5_isSlot_13 ?_
      refine k_rz hx hr dX5_isSlot_14 (by first | exact Or.inl rfl | exact Or.inr rfl | exact b2i_or _) ?_
      first | exact ⟨b2i_t (by omega), rfl⟩ | exact ⟨b2i_f (by omega), rfl⟩
    · refine k_iconst hx dX5_isSlot_9 ?_
      refine k_goto hx dX5_isSlot_10 ?_
      refine k_rz hx hr dX5_isSlot_14 (by first | exact Or.inl rfl | exact Or.inr rfl | exact b2i_or _) ?_
      first | exact ⟨b2i_t (by omega), rfl⟩ | exact ⟨b2i_f (by omega), rfl⟩
theorem c_X5_isBack {g : GE} {l : Launch} {M : Mem} {z : Int} (hz : -2147483648 ≤ z ∧ z < 2147483648) : Cp g l μX5_isBack [vI z] M (b2i (decide (0 ≤ z ∧ z < 2))) := by
  refine Ci.of (by decide +kernel) rfl rfl (fun x hx hr => ?_)
  refine k_iload_n hx dX5_isBack_0 0 rfl ?_
  refine k_ifeq hx dX5_isBack_1 (by omega) (fun h_1 => ?_) (fun h_1 => ?_)
  · refine k_iconst hx dX5_isBack_9 ?_
    refine k_goto hx dX5_isBack_10 ?_
    refine k_rz hx hr dX5_isBack_14 (by first | exact Or.inl rfl | exact Or.inr rfl | exact b2i_or _) ?_
    first | exact ⟨b2i_t (by omega), rfl⟩ | exact ⟨b2i_f (by omega), rfl⟩
  · refine k_iload_n hx dX5_isBack_4 0 rfl ?_
    refine k_iconst hx dX5_isBack_5 ?_
    refine k_icmp_ne hx dX5_isBack_6 (by omega) (fun h_6 => ?_) (fun h_6 => ?_)
    · refine k_iconst hx dX5_isBack_13 ?_
      refine k_rz hx hr dX5_isBack_14 (by first | exact Or.inl rfl | exact Or.inr rfl | exact b2i_or _) ?_
      first | exact ⟨b2i_t (by omega), rfl⟩ | exact ⟨b2i_f (by omega), rfl⟩
    · refine k_iconst hx dX5_isBack_9 ?_
      refine k_goto hx dX5_isBack_10 ?_
      refine k_rz hx hr dX5_isBack_14 (by first | exact Or.inl rfl | exact Or.inr rfl | exact b2i_or _) ?_
      first | exact ⟨b2i_t (by omega), rfl⟩ | exact ⟨b2i_f (by omega), rfl⟩
theorem c_X5_postOf {g : GE} {l : Launch} {M : Mem} {z : Int} (hz : -2147483648 ≤ z ∧ z < 2147483648) : Cp g l μX5_postOf [vI z] M (pst z) := by
  refine Ci.of (by decide +kernel) rfl rfl (fun x hx hr => ?_)
  refine k_iload_n hx dX5_postOf_0 0 rfl ?_
  refine k_bipush hx dX5_postOf_1 (by decide +kernel) ?_
  refine k_icmp_ge hx dX5_postOf_3 (by omega) (fun h_3 => ?_) (fun h_3 => ?_)
  · refine k_iload_n hx dX5_postOf_10 0 rfl ?_
    refine k_bipush hx dX5_postOf_11 (by decide +kernel) ?_
    refine k_isub hx dX5_postOf_13 ?_
    refine k_ri hx hr dX5_postOf_14 ?_
    exact ⟨by unfold pst; omega, rfl⟩
  · refine k_iload_n hx dX5_postOf_6 0 rfl ?_
    refine k_goto hx dX5_postOf_7 ?_
    refine k_ri hx hr dX5_postOf_14 ?_
    exact ⟨by unfold pst; omega, rfl⟩
theorem c_X5_opposite {g : GE} {l : Launch} {M : Mem} {z : Int} (hz : -2147483648 ≤ z ∧ z < 2147483648) : Cp g l μX5_opposite [vI z] M (op z) := by
  refine Ci.of (by decide +kernel) rfl rfl (fun x hx hr => ?_)
  refine k_iload_n hx dX5_opposite_0 0 rfl ?_
  refine k_bipush hx dX5_opposite_1 (by decide +kernel) ?_
  refine k_icmp_ge hx dX5_opposite_3 (by omega) (fun h_3 => ?_) (fun h_3 => ?_)
  · refine k_iload_n hx dX5_opposite_13 0 rfl ?_
    refine k_bipush hx dX5_opposite_14 (by decide +kernel) ?_
    refine k_isub hx dX5_opposite_16 ?_
    refine k_ri hx hr dX5_opposite_17 ?_
    exact ⟨by unfold op; omega, rfl⟩
  · refine k_iload_n hx dX5_opposite_6 0 rfl ?_
    refine k_bipush hx dX5_opposite_7 (by decide +kernel) ?_
    refine k_iadd hx dX5_opposite_9 ?_
    refine k_goto hx dX5_opposite_10 ?_
    refine k_ri hx hr dX5_opposite_17 ?_
    exact ⟨by unfold op; omega, rfl⟩
theorem c_X5_oneIf {g : GE} {l : Launch} {M : Mem} {b : Bool} : Cp g l μX5_oneIf [vI (b2i b)] M (b2i b) := by
  refine Ci.of (by decide +kernel) rfl rfl (fun x hx hr => ?_)
  refine k_iload_n hx dX5_oneIf_0 0 rfl ?_
  refine k_ceq hx dX5_oneIf_1 (fun h_1 => ?_) (fun h_1 => ?_)
  · refine k_iconst hx dX5_oneIf_8 ?_
    refine k_ri hx hr dX5_oneIf_9 ?_
    first | exact ⟨by rw [h_1]; rfl, rfl⟩
  · refine k_iconst hx dX5_oneIf_4 ?_
    refine k_goto hx dX5_oneIf_5 ?_
    refine k_ri hx hr dX5_oneIf_9 ?_
    first | exact ⟨by rw [h_1]; rfl, rfl⟩
theorem c_max {g : GE} {l : Launch} {M : Mem} {a b : Int} (h : (-2147483648 ≤ a ∧ a < 2147483648) ∧ (-2147483648 ≤ b ∧ b < 2147483648)) : Cp g l μJ9_max_7cf53 [vI a, vI b] M (max a b) := by
  refine Ci.ofJ (by decide +kernel) rfl rfl (fun x hx hr => ?_)
  refine k_iload_n hx dJ9_max_7cf53_0 0 rfl ?_
  refine k_iload_n hx dJ9_max_7cf53_1 1 rfl ?_
  refine k_icmp_lt hx dJ9_max_7cf53_2 (by omega) (fun h_2 => ?_) (fun h_2 => ?_)
  · refine k_iload_n hx dJ9_max_7cf53_9 1 rfl ?_
    refine k_ri hx hr dJ9_max_7cf53_10 ?_
    exact ⟨by omega, rfl⟩
  · refine k_iload_n hx dJ9_max_7cf53_5 0 rfl ?_
    refine k_goto hx dJ9_max_7cf53_6 ?_
    refine k_ri hx hr dJ9_max_7cf53_10 ?_
    exact ⟨by omega, rfl⟩
theorem c_min {g : GE} {l : Launch} {M : Mem} {a b : Int} (h : (-2147483648 ≤ a ∧ a < 2147483648) ∧ (-2147483648 ≤ b ∧ b < 2147483648)) : Cp g l μJ9_min_7cf53 [vI a, vI b] M (min a b) := by
  refine Ci.ofJ (by decide +kernel) rfl rfl (fun x hx hr => ?_)
  refine k_iload_n hx dJ9_min_7cf53_0 0 rfl ?_
  refine k_iload_n hx dJ9_min_7cf53_1 1 rfl ?_
  refine k_icmp_gt hx dJ9_min_7cf53_2 (by omega) (fun h_2 => ?_) (fun h_2 => ?_)
  · refine k_iload_n hx dJ9_min_7cf53_9 1 rfl ?_
    refine k_ri hx hr dJ9_min_7cf53_10 ?_
    exact ⟨by omega, rfl⟩
  · refine k_iload_n hx dJ9_min_7cf53_5 0 rfl ?_
    refine k_goto hx dJ9_min_7cf53_6 ?_
    refine k_ri hx hr dJ9_min_7cf53_10 ?_
    exact ⟨by omega, rfl⟩
end
section
/-! the class's word: at, add, addPulled, clear, dropLast, addWord, copyFrom -/
theorem Wd.lt {M : Mem} {i : Nat} {w : List Int} (h : Wd M i w) {z : Int} (h0 : 0 ≤ z) (h1 : z < w.length) : M (i + 1) z = at0 w z := by
  rw [h.get h0 h1]
  unfold at0
  rw [if_pos ⟨h0, h1⟩]
theorem at0_out {w : List Int} {z : Int} (h : ¬ (0 ≤ z ∧ z < w.length)) : at0 w z = -1 := by unfold at0; rw [if_neg h]
theorem at0_n {w : List Int} {k : Nat} (h : k < w.length) : at0 w (k : Int) = w[k] := by
  unfold at0
  rw [if_pos (by omega)]
  simp [List.getD_eq_getElem?_getD, h]
theorem at0_in {w : List Int} (hw : Cr w) {z : Int} (h0 : 0 ≤ z) (h1 : z < w.length) : 0 ≤ at0 w z ∧ at0 w z < 12 := by
  unfold at0
  rw [if_pos ⟨h0, h1⟩]
  exact hw.get (by omega)
theorem Cr.app {a b : List Int} (h : Cr a) (k : Cr b) : Cr (a ++ b) := fun c hc => (List.mem_append.mp hc).elim (h c) (k c)
theorem Cr.one {c : Int} (h : 0 ≤ c ∧ c < 12) : Cr [c] := fun d hd => by rw [List.mem_singleton.mp hd]; exact h
theorem Cr.sub {a b : List Int} (h : Cr b) (k : ∀ c ∈ a, c ∈ b) : Cr a := fun c hc => h c (k c hc)
theorem Cr.take {w : List Int} (h : Cr w) (k : Nat) : Cr (w.take k) := h.sub fun _ hc => List.mem_of_mem_take hc
theorem Cr.drop {w : List Int} (h : Cr w) (k : Nat) : Cr (w.drop k) := h.sub fun _ hc => List.mem_of_mem_drop hc
theorem cr_trn {w : List Int} (h : Cr w) : Cr (trn w) := fun c hc => by
  unfold trn at hc
  obtain ⟨d, hd, rfl⟩ := List.mem_map.mp (List.mem_reverse.mp hc)
  exact op_rg (h d hd)
/-- what add leaves -/
theorem Wd.add {M : Mem} {i : Nat} {w : List Int} {c : Int} (h : Wd M i w) (hc : 0 ≤ c ∧ c < 12) : Wd (up (up M (i + 1) (M i 1) c) i 1 (M i 1 + 1)) i (w ++ [c]) := by
  refine ⟨?_, fun k d hk => ?_, h.2.2.app (Cr.one hc)⟩
  · rw [up_s, h.1, List.length_append]; simp
  · rw [up_i (show i + 1 ≠ i by omega)]
    by_cases hkl : k < w.length
    · rw [List.getElem?_append_left hkl] at hk
      rw [up_k (by rw [h.1]; omega)]
      exact h.2.1 k d hk
    · rw [List.getElem?_append_right (by omega)] at hk
      have h0 : k - w.length < 1 := (List.getElem?_eq_some_iff.mp hk).1
      have hke : k = w.length := by omega
      subst hke
      rw [Nat.sub_self] at hk
      cases hk
      rw [← h.1, up_s]
theorem Wd.cut {M : Mem} {i : Nat} {w : List Int} {k : Nat} (h : Wd M i w) (hk : k ≤ w.length) : Wd (up M i 1 k) i (w.take k) := by
  refine ⟨?_, fun j d hj => ?_, h.2.2.take k⟩
  · rw [up_s, List.length_take]; omega
  · rw [up_i (show i + 1 ≠ i by omega)]
    rw [List.getElem?_take] at hj
    split at hj
    · exact h.2.1 j d hj
    · cases hj
theorem off_up {i : Nat} {M : Mem} {k z : Int} : Off i M (up M i k z) := fun _ h1 _ => up_i h1
theorem off_up1 {i : Nat} {M : Mem} {k z : Int} : Off i M (up M (i + 1) k z) := fun _ _ h2 => up_i h2

theorem c_X4_at {g : GE} {l : Launch} {M : Mem} {i cap : Nat} {w : List Int} (hW : IsW i cap) (hw : Wd M i w) (hc : w.length ≤ cap) {z : Int} (hz : -2147483648 ≤ z ∧ z < 2147483648) : Cp g l μX4_at [vR g i, vI z] M (at0 w z) := by
  refine Ci.of (by decide +kernel) rfl rfl (fun x hx hr => ?_)
  have hl := hw.1; have h480 := hW.2.2.2.2
  refine k_iload_n hx dX4_at_0 1 rfl ?_
  refine k_iflt hx dX4_at_1 (by omega) (fun h_1 => ?_) (fun h_1 => ?_)
  · refine k_iconst hx dX4_at_21 ?_
    refine k_ri hx hr dX4_at_22 ?_
    exact ⟨(at0_out (by omega)).symm, rfl⟩
  · refine k_iload_n hx dX4_at_4 1 rfl ?_
    refine k_aload_n hx dX4_at_5 0 rfl ?_
    refine k_get (v := vI (M i 1)) hx fX4_21 dX4_at_6 hW.2.2.1 hW.1 rfl ?_
    refine k_icmp_ge hx dX4_at_9 (by omega) (fun h_9 => ?_) (fun h_9 => ?_)
    · refine k_iconst hx dX4_at_21 ?_
      refine k_ri hx hr dX4_at_22 ?_
      exact ⟨(at0_out (by omega)).symm, rfl⟩
    · refine k_aload_n hx dX4_at_12 0 rfl ?_
      refine k_get (v := vR g (i + 1)) hx fX4_15 dX4_at_13 hW.2.2.1 hW.1 rfl ?_
      refine k_iload_n hx dX4_at_16 1 rfl ?_
      refine k_iald (v := (M (i + 1) z)) hx dX4_at_17 hW.2.2.2.1 hW.2.1 (by omega) (by have := hW.2.2.2.2; omega) (rfl) ?_
      have he := hw.lt (z := z) (by omega) (by omega)
      refine k_goto hx dX4_at_18 ?_
      refine k_ri hx hr dX4_at_22 ?_
      exact ⟨he, rfl⟩
theorem c_X4_clear {g : GE} {l : Launch} {M : Mem} {i cap : Nat} (hW : IsW i cap) : Cv g l μX4_clear [vR g i] M (fun M' => M' = up M i 1 0) := by
  refine Cv.of (by decide +kernel) rfl rfl (fun x hx hr => ?_)
  refine k_aload_n hx dX4_clear_0 0 rfl ?_
  refine k_iconst hx dX4_clear_1 ?_
  refine k_putI (kz := 1) hx fX4_21 dX4_clear_2 hW.2.2.1 hW.1 rfl rfl (fun M_2 hM_2 => ?_)
  refine k_rv hx hr dX4_clear_5 ?_
  exact hM_2
theorem c_X4_add {g : GE} {l : Launch} {M : Mem} {i cap : Nat} {w : List Int} (hW : IsW i cap) (hw : Wd M i w) (hc : w.length ≤ cap) (hf : w.length < cap) {c : Int} (hcc : 0 ≤ c ∧ c < 12) : Ci g l μX4_add [vR g i, vI c] M (fun z M' => z = 1 ∧ Wd M' i (w ++ [c]) ∧ Off i M M' ∧ ∀ q : Int, q ≠ w.length → M' (i + 1) q = M (i + 1) q) := by
  refine Ci.of (by decide +kernel) rfl rfl (fun x hx hr => ?_)
  have hl := hw.1; have h480 := hW.2.2.2.2
  refine k_aload_n hx dX4_add_0 0 rfl ?_
  refine k_get (v := vI (M i 1)) hx fX4_21 dX4_add_1 hW.2.2.1 hW.1 rfl ?_
  refine k_aload_n hx dX4_add_4 0 rfl ?_
  refine k_get (v := vR g (i + 1)) hx fX4_15 dX4_add_5 hW.2.2.1 hW.1 rfl ?_
  refine k_alen hx dX4_add_8 hW.2.2.2.1 hW.2.1 (by decide) ?_
  refine k_icmp_lt hx dX4_add_9 (by omega) (fun h_9 => ?_) (fun h_9 => absurd h_9 (by omega))
  refine k_aload_n hx dX4_add_14 0 rfl ?_
  refine k_get (v := vR g (i + 1)) hx fX4_15 dX4_add_15 hW.2.2.1 hW.1 rfl ?_
  refine k_aload_n hx dX4_add_18 0 rfl ?_
  refine k_get (v := vI (M i 1)) hx fX4_21 dX4_add_19 hW.2.2.1 hW.1 rfl ?_
  refine k_iload_n hx dX4_add_22 1 rfl ?_
  refine k_iastN hx dX4_add_23 hW.2.2.2.1 hW.2.1 (by omega) (by have := hW.2.2.2.2; omega) (fun M_23 hM_23 => ?_)
  refine k_aload_n hx dX4_add_24 0 rfl ?_
  refine k_dup hx dX4_add_25 rfl ?_
  refine k_get (v := vI (M i 1)) hx fX4_21 dX4_add_26 hW.2.2.1 hW.1 (congrArg vI (show M_23 i 1 = (M i 1) from by rw [hM_23, up_i (by omega)])) ?_
  refine k_iconst hx dX4_add_29 ?_
  refine k_iadd hx dX4_add_30 ?_
  refine k_putI (kz := 1) hx fX4_21 dX4_add_31 hW.2.2.1 hW.1 rfl rfl (fun M_31 hM_31 => ?_)
  refine k_iconst hx dX4_add_34 ?_
  refine k_rz hx hr dX4_add_35 (by first | exact Or.inl rfl | exact Or.inr rfl | exact b2i_or _) ?_
  subst hM_31; subst hM_23
  exact ⟨rfl, hw.add hcc, off_up1.tr off_up, fun q hq => by rw [up_i (by omega), up_k (by omega)]⟩
theorem c_X4_addF {g : GE} {l : Launch} {M : Mem} {i cap : Nat} {w : List Int} (hW : IsW i cap) (hw : Wd M i w) (hc : w.length ≤ cap) (hf : w.length = cap) {c : Int} : Ci g l μX4_add [vR g i, vI c] M (fun z M' => z = 0 ∧ M' = M) := by
  refine Ci.of (by decide +kernel) rfl rfl (fun x hx hr => ?_)
  have hl := hw.1; have h480 := hW.2.2.2.2
  refine k_aload_n hx dX4_add_0 0 rfl ?_
  refine k_get (v := vI (M i 1)) hx fX4_21 dX4_add_1 hW.2.2.1 hW.1 rfl ?_
  refine k_aload_n hx dX4_add_4 0 rfl ?_
  refine k_get (v := vR g (i + 1)) hx fX4_15 dX4_add_5 hW.2.2.1 hW.1 rfl ?_
  refine k_alen hx dX4_add_8 hW.2.2.2.1 hW.2.1 (by decide) ?_
  refine k_icmp_lt hx dX4_add_9 (by omega) (fun h_9 => absurd h_9 (by omega)) (fun h_9 => ?_)
  refine k_iconst hx dX4_add_12 ?_
  refine k_rz hx hr dX4_add_13 (by first | exact Or.inl rfl | exact Or.inr rfl | exact b2i_or _) ?_
  exact ⟨rfl, rfl⟩
theorem psh_nil (c : Int) : psh [] c = [c] := by simp [psh]
theorem getLast_at {w : List Int} (h : 0 < w.length) : w.getLast? = some (at0 w (w.length - 1)) := by
  rw [List.getLast?_eq_getElem?, show ((w.length : Int) - 1) = ((w.length - 1 : Nat) : Int) by omega, at0_n (by omega), List.getElem?_eq_getElem]
theorem psh_pop {w : List Int} {c : Int} (h : 0 < w.length) (e : at0 w (w.length - 1) = op c) : psh w c = w.take (w.length - 1) := by
  unfold psh
  rw [if_pos (by rw [getLast_at h, e]), List.dropLast_eq_take]
theorem psh_add {w : List Int} {c : Int} (e : 0 < w.length → at0 w (w.length - 1) ≠ op c) : psh w c = w ++ [c] := by
  unfold psh
  rw [if_neg]
  intro q
  by_cases h : 0 < w.length
  · rw [getLast_at h] at q
    exact e h (Option.some.inj q)
  · have : w = [] := by cases w with | nil => rfl | cons a t => simp at h
    subst this
    simp at q
theorem cr_psh {w : List Int} {c : Int} (h : Cr w) (hc : 0 ≤ c ∧ c < 12) : Cr (psh w c) := by
  unfold psh
  split
  · exact h.sub fun d hd => (by rw [List.dropLast_eq_take] at hd; exact List.mem_of_mem_take hd)
  · exact h.app (Cr.one hc)
theorem psh_len {w : List Int} {c : Int} : (psh w c).length ≤ w.length + 1 := by
  unfold psh
  split <;> simp <;> omega

theorem c_X4_addPulled {g : GE} {l : Launch} {M : Mem} {i cap : Nat} {w : List Int} (hW : IsW i cap) (hw : Wd M i w) (hc : w.length ≤ cap) (hf : w.length < cap) {c : Int} (hcc : 0 ≤ c ∧ c < 12) : Ci g l μX4_addPulled [vR g i, vI c] M (fun z M' => z = 1 ∧ Wd M' i (psh w c) ∧ Off i M M' ∧ ∀ q : Int, q ≠ w.length → M' (i + 1) q = M (i + 1) q) := by
  refine Ci.of (by decide +kernel) rfl rfl (fun x hx hr => ?_)
  have hl := hw.1; have h480 := hW.2.2.2.2; have hop := op_rg hcc
  refine k_aload_n hx dX4_addPulled_0 0 rfl ?_
  refine k_get (v := vI (M i 1)) hx fX4_21 dX4_addPulled_1 hW.2.2.1 hW.1 rfl ?_
  refine k_ifle hx dX4_addPulled_4 (by omega) (fun h_4 => ?_) (fun h_4 => ?_)
  · refine k_aload_n hx dX4_addPulled_37 0 rfl ?_
    refine k_iload_n hx dX4_addPulled_38 1 rfl ?_
    refine k_vi (rest := []) hx vX4_29 dX4_addPulled_39 (c_X4_add hW hw hc hf hcc) hW.2.2.1 hW.1 rfl rfl rfl ⟨rfl, rfl⟩ ⟨by decide, by decide⟩ (fun z_39 M_39 p_39 => ?_)
    obtain ⟨rfl, p1, p2, p3⟩ := p_39
    refine k_rz hx hr dX4_addPulled_42 (by first | exact Or.inl rfl | exact Or.inr rfl | exact b2i_or _) ?_
    have e : psh w c = w ++ [c] := psh_add (fun h0 => by rw [← hl]; omega)
    exact ⟨rfl, by rw [e]; exact p1, p2, p3⟩
  · refine k_aload_n hx dX4_addPulled_7 0 rfl ?_
    refine k_get (v := vR g (i + 1)) hx fX4_15 dX4_addPulled_8 hW.2.2.1 hW.1 rfl ?_
    refine k_aload_n hx dX4_addPulled_11 0 rfl ?_
    refine k_get (v := vI (M i 1)) hx fX4_21 dX4_addPulled_12 hW.2.2.1 hW.1 rfl ?_
    refine k_iconst hx dX4_addPulled_15 ?_
    refine k_isub hx dX4_addPulled_16 ?_
    refine k_iald (v := (at0 w (M i 1 - 1))) hx dX4_addPulled_17 hW.2.2.2.1 hW.2.1 (by omega) (by have := hW.2.2.2.2; omega) (hw.lt (by omega) (by omega)) ?_
    have ha := at0_in hw.2.2 (z := M i 1 - 1) (by omega) (by omega)
    refine k_iload_n hx dX4_addPulled_18 1 rfl ?_
    refine k_np (rest := [vI (at0 w (M i 1 - 1))]) (e := (op c)) hx nX4_25 dX4_addPulled_19 (c_X5_opposite (z := c) (by omega)) rfl rfl rfl ⟨rfl, rfl⟩ ⟨by decide, by decide⟩ ?_
    refine k_icmp_ne hx dX4_addPulled_22 (by omega) (fun h_22 => ?_) (fun h_22 => ?_)
    · refine k_aload_n hx dX4_addPulled_37 0 rfl ?_
      refine k_iload_n hx dX4_addPulled_38 1 rfl ?_
      refine k_vi (rest := []) hx vX4_29 dX4_addPulled_39 (c_X4_add hW hw hc hf hcc) hW.2.2.1 hW.1 rfl rfl rfl ⟨rfl, rfl⟩ ⟨by decide, by decide⟩ (fun z_39 M_39 p_39 => ?_)
      obtain ⟨rfl, p1, p2, p3⟩ := p_39
      refine k_rz hx hr dX4_addPulled_42 (by first | exact Or.inl rfl | exact Or.inr rfl | exact b2i_or _) ?_
      have e : psh w c = w ++ [c] := psh_add (fun h0 => by rw [← hl]; omega)
      exact ⟨rfl, by rw [e]; exact p1, p2, p3⟩
    · refine k_aload_n hx dX4_addPulled_25 0 rfl ?_
      refine k_dup hx dX4_addPulled_26 rfl ?_
      refine k_get (v := vI (M i 1)) hx fX4_21 dX4_addPulled_27 hW.2.2.1 hW.1 rfl ?_
      refine k_iconst hx dX4_addPulled_30 ?_
      refine k_isub hx dX4_addPulled_31 ?_
      refine k_putI (kz := 1) hx fX4_21 dX4_addPulled_32 hW.2.2.1 hW.1 rfl rfl (fun M_32 hM_32 => ?_)
      refine k_iconst hx dX4_addPulled_35 ?_
      refine k_rz hx hr dX4_addPulled_36 (by first | exact Or.inl rfl | exact Or.inr rfl | exact b2i_or _) ?_
      subst hM_32
      have e : psh w c = w.take (w.length - 1) := psh_pop (by omega) (by rw [← hl]; omega)
      refine ⟨rfl, ?_, off_up, fun q hq => by rw [up_i (by omega)]⟩
      rw [e, show M i 1 - 1 = ((w.length - 1 : Nat) : Int) by omega]
      exact hw.cut (by omega)
end
section
/-! the class's word: words put behind one another, turned, repeated -/
theorem take_at0 {v : List Int} {k : Nat} (h : k < v.length) : v.take k ++ [at0 v k] = v.take (k + 1) := by
  rw [at0_n h, List.take_append_getElem h]
theorem at0_app {a b : List Int} {k : Nat} (h : k < a.length) : at0 (a ++ b) k = at0 a k := by
  rw [at0_n h, at0_n (by rw [List.length_append]; omega), List.getElem_append_left h]
theorem at0_mem {w : List Int} {k : Nat} (h : k < w.length) : at0 w k ∈ w := by rw [at0_n h]; exact List.getElem_mem h

theorem c_X4_addWord0 {g : GE} {l : Launch} {M : Mem} {i cap : Nat} {w : List Int} (hW : IsW i cap) (hw : Wd M i w) (hc : w.length ≤ cap) {j cj : Nat} {v : List Int} (hJ : IsW j cj) (hsum : w.length + v.length ≤ cap) (hb : ∀ M', Off i M M' → ∀ k, k ≤ v.length → Wd M' i (w ++ v.take k) → ∃ u, Wd M' j u ∧ u.length ≤ cj ∧ ∀ q : Nat, q < v.length → at0 u q = at0 v q) (hv : Wd M j v) : Cv g l μX4_addWord [vR g i, vR g j] M (fun M' => Wd M' i (w ++ v) ∧ Off i M M') := by
  refine Cv.of (by decide +kernel) rfl rfl (fun x hx hr => ?_)
  have hl := hw.1; have h480 := hW.2.2.2.2; have hlv := hv.1; have h480j := hJ.2.2.2.2
  have loop : ∀ (f : Nat), ∀ (k : Nat) (z : Int) (M' : Mem), z = k → k ≤ v.length → v.length - k < f → Wd M' i (w ++ v.take k) → Off i M M' → K x g 0 0 LAY NN M' 7 [(0, vR g i), (1, vR g j), (2, vI v.length), (3, vI z)] [] := by
    intro f
    induction f with
    | zero => intro k z M' hz hk hf hwd ho; omega
    | succ f ih =>
      intro k z M' hz hk hf hwd ho
      refine k_iload_n hx dX4_addWord_7 3 rfl ?_
      refine k_iload_n hx dX4_addWord_8 2 rfl ?_
      refine k_icmp_ge hx dX4_addWord_9 (by omega) (fun h_9 => ?_) (fun h_9 => ?_)
      · refine k_rv hx hr dX4_addWord_28 ?_
        exact ⟨by rwa [List.take_of_length_le (by omega)] at hwd, ho⟩
      · obtain ⟨u, hu, huc, hue⟩ := hb M' ho k hk hwd
        have hkl : k < v.length := by omega
        have hez : at0 u z = at0 v k := by rw [hz]; exact hue k hkl
        have hcr := hv.2.2 _ (at0_mem hkl)
        refine k_aload_n hx dX4_addWord_12 0 rfl ?_
        refine k_aload_n hx dX4_addWord_13 1 rfl ?_
        refine k_iload_n hx dX4_addWord_14 3 rfl ?_
        refine k_vp (rest := [vR g i]) (e := (at0 u z)) hx vX4_37 dX4_addWord_15 (c_X4_at hJ hu huc (z := z) (by omega)) hJ.2.2.1 hJ.1 rfl rfl rfl ⟨rfl, rfl⟩ ⟨by decide, by decide⟩ ?_
        refine k_vi (rest := []) hx vX4_29 dX4_addWord_18 (c_X4_add hW hwd (by simp; omega) (by simp; omega) (c := at0 u z) (by rw [hez]; exact hcr)) hW.2.2.1 hW.1 rfl rfl rfl ⟨rfl, rfl⟩ ⟨by decide, by decide⟩ (fun z_18 M_18 p_18 => ?_)
        obtain ⟨rfl, p1, p2, p3⟩ := p_18
        rw [hez, List.append_assoc, take_at0 hkl] at p1
        refine k_pop hx dX4_addWord_21 rfl ?_
        refine k_iinc (ls' := [(0, vR g i), (1, vR g j), (2, vI v.length), (3, vI (z + 1))]) hx dX4_addWord_22 3 rfl rfl rfl (by decide) ?_
        refine k_goto hx dX4_addWord_25 ?_
        exact ih (k + 1) (z + 1) M_18 (by omega) (by omega) (by omega) p1 (ho.tr p2)
  refine k_aload_n hx dX4_addWord_0 1 rfl ?_
  refine k_get (v := vI v.length) hx fX4_21 dX4_addWord_1 hJ.2.2.1 hJ.1 (congrArg vI (show M j 1 = v.length from hv.1)) ?_
  refine k_istore_n (ls' := [(0, vR g i), (1, vR g j), (2, vI v.length)]) hx dX4_addWord_4 rfl rfl (by decide) ?_
  refine k_iconst hx dX4_addWord_5 ?_
  refine k_istore_n (ls' := [(0, vR g i), (1, vR g j), (2, vI v.length), (3, vI 0)]) hx dX4_addWord_6 rfl rfl (by decide) ?_
  exact loop (v.length + 1) 0 0 M rfl (by omega) (by omega) (by simpa using hw) Off.rf
/-- behind its own word too -/
theorem c_X4_addWord {g : GE} {l : Launch} {M : Mem} {i cap : Nat} {w : List Int} (hW : IsW i cap) (hw : Wd M i w) (hc : w.length ≤ cap) {j cj : Nat} {v : List Int} (hJ : IsW j cj) (hv : Wd M j v) (hcj : v.length ≤ cj) (hap : j ≠ i → j ≠ i + 1 ∧ j + 1 ≠ i) (hvw : j = i → v = w) (hsum : w.length + v.length ≤ cap) : Cv g l μX4_addWord [vR g i, vR g j] M (fun M' => Wd M' i (w ++ v) ∧ Off i M M') := by
  refine c_X4_addWord0 hW hw hc hJ hsum (fun M' ho k hk hk2 => ?_) hv
  by_cases h : j = i
  · subst h
    have := hvw rfl
    subst this
    have e : cap = cj := by
      have h1 := hW.2.1.symm.trans hJ.2.1
      simpa using h1
    subst e
    exact ⟨_, hk2, by simp; omega, fun q hq => at0_app hq⟩
  · exact ⟨v, hv.off ho h (hap h).1 (hap h).2, hcj, fun q _ => rfl⟩
theorem Wd.nil {M : Mem} {i : Nat} : Wd (up M i 1 0) i [] := ⟨up_s, fun k c h => by simp at h, fun c h => by cases h⟩

theorem c_X4_copyFrom {g : GE} {l : Launch} {M : Mem} {i cap : Nat} (hW : IsW i cap) {j cj : Nat} {v : List Int} (hJ : IsW j cj) (hv : Wd M j v) (hcj : v.length ≤ cj) (hap : j ≠ i ∧ j ≠ i + 1 ∧ j + 1 ≠ i) (hsum : v.length ≤ cap) : Cv g l μX4_copyFrom [vR g i, vR g j] M (fun M' => Wd M' i v ∧ Off i M M') := by
  refine Cv.of (by decide +kernel) rfl rfl (fun x hx hr => ?_)
  refine k_aload_n hx dX4_copyFrom_0 0 rfl ?_
  refine k_iconst hx dX4_copyFrom_1 ?_
  refine k_putI (kz := 1) hx fX4_21 dX4_copyFrom_2 hW.2.2.1 hW.1 rfl rfl (fun M_2 hM_2 => ?_)
  refine k_aload_n hx dX4_copyFrom_5 0 rfl ?_
  refine k_aload_n hx dX4_copyFrom_6 1 rfl ?_
  refine k_vv (rest := []) hx vX4_33 dX4_copyFrom_7 (c_X4_addWord hW (w := []) (by rw [hM_2]; exact Wd.nil) (by simp) hJ (v := v) (by rw [hM_2]; exact hv.off off_up hap.1 hap.2.1 hap.2.2) hcj (fun _ => hap.2) (fun h => absurd h hap.1) (by simpa using hsum)) hW.2.2.1 hW.1 rfl rfl rfl ⟨rfl, rfl⟩ ⟨by decide, by decide⟩ (fun M_7 p_7 => ?_)
  refine k_rv hx hr dX4_copyFrom_10 ?_
  subst hM_2; exact ⟨by simpa using p_7.1, off_up.tr p_7.2⟩
def slc (v : List Int) (a b : Nat) : List Int := (v.take b).drop a
theorem slc_len {v : List Int} {a b : Nat} (h : b ≤ v.length) : (slc v a b).length = b - a := by unfold slc; simp; omega
theorem trn_len (v : List Int) : (trn v).length = v.length := by unfold trn; simp
theorem trn_at {v : List Int} {k : Nat} (h : k < v.length) : at0 (trn v) k = op (at0 v (v.length - 1 - k : Nat)) := by
  rw [at0_n (by rw [trn_len]; exact h), at0_n (by omega)]
  simp [trn, List.getElem_reverse]
theorem slc_at {v : List Int} {a b k : Nat} (hb : b ≤ v.length) (h : k < b - a) : at0 (slc v a b) k = at0 v (a + k : Nat) := by
  rw [at0_n (by rw [slc_len hb]; exact h), at0_n (by omega)]
  simp [slc]
theorem slc_cr {v : List Int} (h : Cr v) (a b : Nat) : Cr (slc v a b) := (h.take b).drop a

theorem c_X4_addTurnedPart {g : GE} {l : Launch} {M : Mem} {i cap : Nat} {w : List Int} (hW : IsW i cap) (hw : Wd M i w) (hc : w.length ≤ cap) {j cj : Nat} {v : List Int} {a b : Nat} (hJ : IsW j cj) (hv : Wd M j v) (hcj : v.length ≤ cj) (hap : j ≠ i → j ≠ i + 1 ∧ j + 1 ≠ i) (hvw : j = i → v = w) (hab : a ≤ b) (hbv : b ≤ v.length) : Ci g l μX4_addTurnedPart [vR g i, vR g j, vI a, vI b] M (fun z M' => Off i M M' ∧ ((z = 1 ∧ w.length + (b - a) ≤ cap ∧ Wd M' i (w ++ trn (slc v a b))) ∨ (z = 0 ∧ cap < w.length + (b - a)))) := by
  refine Ci.of (by decide +kernel) rfl rfl (fun x hx hr => ?_)
  have hl := hw.1; have h480 := hW.2.2.2.2; have hlv := hv.1; have h480j := hJ.2.2.2.2
  have hsl := slc_len (a := a) hbv
  have htl := trn_len (slc v a b)
  have hb : ∀ (M' : Mem) (s : List Int), Off i M M' → Wd M' i (w ++ s) → (w ++ s).length ≤ cap → ∃ u, Wd M' j u ∧ u.length ≤ cj ∧ ∀ q : Nat, q < v.length → at0 u q = at0 v q := by
    intro M' s ho hk2 hk3
    by_cases h : j = i
    · subst h
      have := hvw rfl
      subst this
      have e : cap = cj := by
        have h1 := hW.2.1.symm.trans hJ.2.1
        simpa using h1
      subst e
      exact ⟨_, hk2, hk3, fun q hq => at0_app hq⟩
    · exact ⟨v, hv.off ho h (hap h).1 (hap h).2, hcj, fun q _ => rfl⟩
  have loop : ∀ (f : Nat), ∀ (k : Nat) (z : Int) (M' : Mem), z = b - 1 - k → k ≤ b - a → b - a - k < f → w.length + k ≤ cap → Wd M' i (w ++ (trn (slc v a b)).take k) → Off i M M' → K x g 0 0 LAY NN M' 5 [(0, vR g i), (1, vR g j), (2, vI a), (3, vI b), (4, vI z)] [] := by
    intro f
    induction f with
    | zero => intro k z M' hz hk hf hkc hwd ho; omega
    | succ f ih =>
      intro k z M' hz hk hf hkc hwd ho
      refine k_iload hx dX4_addTurnedPart_5 4 rfl ?_
      refine k_iload_n hx dX4_addTurnedPart_7 2 rfl ?_
      refine k_icmp_lt hx dX4_addTurnedPart_8 (by omega) (fun h_8 => ?_) (fun h_8 => ?_)
      · refine k_iconst hx dX4_addTurnedPart_35 ?_
        refine k_rz hx hr dX4_addTurnedPart_36 (by first | exact Or.inl rfl | exact Or.inr rfl | exact b2i_or _) ?_
        exact ⟨ho, Or.inl ⟨rfl, by omega, by rwa [List.take_of_length_le (by omega)] at hwd⟩⟩
      · obtain ⟨u, hu, huc, hue⟩ := hb M' _ ho hwd (by simp; omega)
        have hkl : k < b - a := by omega
        have hzn : z = ((b - 1 - k : Nat) : Int) := by omega
        have hez : at0 u z = at0 v (b - 1 - k : Nat) := by rw [hzn]; exact hue _ (by omega)
        have hcr := hv.2.2 _ (at0_mem (w := v) (k := b - 1 - k) (by omega))
        have hop := op_rg hcr
        have het : at0 (trn (slc v a b)) k = op (at0 u z) := by
          rw [trn_at (by omega), slc_at hbv (by omega), hez]
          congr 3
          omega
        refine k_aload_n hx dX4_addTurnedPart_11 0 rfl ?_
        refine k_aload_n hx dX4_addTurnedPart_12 1 rfl ?_
        refine k_iload hx dX4_addTurnedPart_13 4 rfl ?_
        refine k_vp (rest := [vR g i]) (e := (at0 u z)) hx vX4_37 dX4_addTurnedPart_15 (c_X4_at hJ hu huc (z := z) (by omega)) hJ.2.2.1 hJ.1 rfl rfl rfl ⟨rfl, rfl⟩ ⟨by decide, by decide⟩ ?_
        refine k_np (rest := [vR g i]) (e := (op (at0 u z))) hx nX4_25 dX4_addTurnedPart_18 (c_X5_opposite (z := at0 u z) (by rw [hez]; omega)) rfl rfl rfl ⟨rfl, rfl⟩ ⟨by decide, by decide⟩ ?_
        by_cases hfull : w.length + k < cap
        rotate_left
        · refine k_vi (rest := []) hx vX4_29 dX4_addTurnedPart_21 (c_X4_addF hW hwd (by simp; omega) (by simp; omega) (c := op (at0 u z))) hW.2.2.1 hW.1 rfl rfl rfl ⟨rfl, rfl⟩ ⟨by decide, by decide⟩ (fun z_21 M_21 p_21 => ?_)
          obtain ⟨rfl, rfl⟩ := p_21
          refine k_ifne hx dX4_addTurnedPart_24 (by omega) (fun h_24 => absurd rfl h_24) (fun h_24 => ?_)
          refine k_iconst hx dX4_addTurnedPart_27 ?_
          refine k_rz hx hr dX4_addTurnedPart_28 (Or.inl rfl) ?_
          exact ⟨ho, Or.inr ⟨rfl, by omega⟩⟩
        refine k_vi (rest := []) hx vX4_29 dX4_addTurnedPart_21 (c_X4_add hW hwd (by simp; omega) (by simp; omega) (c := op (at0 u z)) (by rw [hez]; exact hop)) hW.2.2.1 hW.1 rfl rfl rfl ⟨rfl, rfl⟩ ⟨by decide, by decide⟩ (fun z_21 M_21 p_21 => ?_)
        obtain ⟨rfl, p1, p2, p3⟩ := p_21
        rw [List.append_assoc, ← het, take_at0 (by omega)] at p1
        refine k_ifne hx dX4_addTurnedPart_24 (by omega) (fun h_24 => ?_) (fun h_24 => absurd h_24 (by omega))
        refine k_iinc (ls' := [(0, vR g i), (1, vR g j), (2, vI a), (3, vI b), (4, vI (z + (-1)))]) hx dX4_addTurnedPart_29 4 rfl rfl rfl (by decide) ?_
        refine k_goto hx dX4_addTurnedPart_32 ?_
        exact ih (k + 1) (z + -1) M_21 (by omega) (by omega) (by omega) (by omega) p1 (ho.tr p2)
  refine k_iload_n hx dX4_addTurnedPart_0 3 rfl ?_
  refine k_iconst hx dX4_addTurnedPart_1 ?_
  refine k_isub hx dX4_addTurnedPart_2 ?_
  refine k_istore (ls' := [(0, vR g i), (1, vR g j), (2, vI a), (3, vI b), (4, vI (b - 1))]) hx dX4_addTurnedPart_3 rfl rfl (by decide) ?_
  exact loop (b - a + 1) 0 _ M (by omega) (by omega) (by omega) (by omega) (by simpa using hw) Off.rf
theorem slc_all (v : List Int) : slc v 0 v.length = v := by simp [slc]
theorem c_X4_addTurned {g : GE} {l : Launch} {M : Mem} {i cap : Nat} {w : List Int} (hW : IsW i cap) (hw : Wd M i w) (hc : w.length ≤ cap) {j cj : Nat} {v : List Int} (hJ : IsW j cj) (hv : Wd M j v) (hcj : v.length ≤ cj) (hap : j ≠ i ∧ j ≠ i + 1 ∧ j + 1 ≠ i) (hsum : w.length + v.length ≤ cap) : Cv g l μX4_addTurned [vR g i, vR g j] M (fun M' => Wd M' i (w ++ trn v) ∧ Off i M M') := by
  refine Cv.of (by decide +kernel) rfl rfl (fun x hx hr => ?_)
  have hl := hw.1; have h480 := hW.2.2.2.2; have hlv := hv.1; have h480j := hJ.2.2.2.2
  refine k_aload_n hx dX4_addTurned_0 0 rfl ?_
  refine k_aload_n hx dX4_addTurned_1 1 rfl ?_
  refine k_iconst hx dX4_addTurned_2 ?_
  refine k_aload_n hx dX4_addTurned_3 1 rfl ?_
  refine k_get (v := vI v.length) hx fX4_21 dX4_addTurned_4 hJ.2.2.1 hJ.1 (congrArg vI (show M j 1 = v.length from hv.1)) ?_
  refine k_vi (rest := []) hx vX4_40 dX4_addTurned_7 (c_X4_addTurnedPart hW hw hc hJ hv hcj (fun _ => hap.2) (fun h => absurd h hap.1) (a := 0) (b := v.length) (by omega) (by omega)) hW.2.2.1 hW.1 rfl rfl rfl ⟨rfl, rfl⟩ ⟨by decide, by decide⟩ (fun z_7 M_7 p_7 => ?_)
  refine k_pop hx dX4_addTurned_10 rfl ?_
  refine k_rv hx hr dX4_addTurned_11 ?_
  obtain ⟨ho, h | h⟩ := p_7
  · exact ⟨by rw [← slc_all v]; rw [slc_all v]; have := h.2.2; rwa [slc_all] at this, ho⟩
  · exact absurd h.2 (by omega)
def rpt : Nat → List Int → List Int
  | 0, _ => []
  | n + 1, s => s ++ rpt n s
theorem rpt_len (n : Nat) (s : List Int) : (rpt n s).length = n * s.length := by
  induction n with
  | zero => simp [rpt]
  | succ n ih => rw [rpt, List.length_append, ih, Nat.succ_mul]; omega
theorem rpt_succ (n : Nat) (s : List Int) : rpt (n + 1) s = rpt n s ++ s := by
  induction n with
  | zero => simp [rpt]
  | succ n ih => show s ++ rpt (n + 1) s = (s ++ rpt n s) ++ s; rw [ih, List.append_assoc]
theorem rpt_cr {s : List Int} (h : Cr s) (n : Nat) : Cr (rpt n s) := by
  induction n with
  | zero => intro c hc; cases hc
  | succ n ih => exact h.app ih

set_option maxRecDepth 20000 in
theorem c_X4_repeatFrom {g : GE} {l : Launch} {M : Mem} {i cap : Nat} {w : List Int} (hW : IsW i cap) (hw : Wd M i w) (hc : w.length ≤ cap) {a t : Nat} (ha : a ≤ w.length) (ht : 1 ≤ t ∧ t ≤ 9) : Ci g l μX4_repeatFrom [vR g i, vI a, vI t] M (fun z M' => Off i M M' ∧ ((z = 1 ∧ w.length + (t - 1) * (w.length - a) ≤ cap ∧ Wd M' i (w ++ rpt (t - 1) (w.drop a))) ∨ (z = 0 ∧ cap < w.length + (t - 1) * (w.length - a)))) := by
  refine Ci.of (by decide +kernel) rfl rfl (fun x hx hr => ?_)
  have hl := hw.1; have h480 := hW.2.2.2.2
  have hds : (w.drop a).length = w.length - a := by simp
  have hout : ∀ (M' : Mem) (s : List Int) (q : Nat) (z : Int), z = q → Wd M' i (w ++ s) → (w ++ s).length ≤ cap → q < w.length → Cp g (xL x) μX4_at [vR g i, vI z] M' (at0 w q) := by
    intro M' s q z hz h1 h2 h3
    subst hz
    have h4 := c_X4_at hW h1 h2 (l := xL x) (g := g) (z := (q : Int)) (by omega)
    rwa [at0_app h3] at h4
  have loop : ∀ (f : Nat), ∀ (m k : Nat) (y z : Int) (M' : Mem), y = m → 1 ≤ m → m < t → z = a + k → a + k ≤ w.length → (t * 1000 - m * 1000 - k) < f → w.length + (m - 1) * (w.length - a) + k ≤ cap → Wd M' i (w ++ (rpt (m - 1) (w.drop a) ++ (w.drop a).take k)) → Off i M M' → K x g 0 0 LAY NN M' 17 [(0, vR g i), (1, vI a), (2, vI t), (3, vI w.length), (4, vI y), (5, vI z)] [] := by
    intro f
    induction f with
    | zero => intro m k y z M' hy hm hmt hz hk hf hkc hwd ho; omega
    | succ f ih =>
      intro m k y z M' hy hm hmt hz hk hf hkc hwd ho
      refine k_iload hx dX4_repeatFrom_17 5 rfl ?_
      refine k_iload_n hx dX4_repeatFrom_19 3 rfl ?_
      refine k_icmp_ge hx dX4_repeatFrom_20 (by omega) (fun h_20 => ?_) (fun h_20 => ?_)
      · refine K.sub [0, 1, 2, 3, 4] rfl ?_
        have hkf : k = w.length - a := by omega
        have hfl : (w.drop a).take k = w.drop a := List.take_of_length_le (by omega)
        rw [hfl, ← rpt_succ, show m - 1 + 1 = m by omega] at hwd
        have hmul : (m - 1) * (w.length - a) + (w.length - a) = m * (w.length - a) := by rw [← Nat.succ_mul]; congr 1; omega
        refine k_iinc (ls' := [(0, vR g i), (1, vI a), (2, vI t), (3, vI w.length), (4, vI (y + 1))]) hx dX4_repeatFrom_44 4 rfl rfl rfl (by decide) ?_
        refine k_goto hx dX4_repeatFrom_47 ?_
        refine k_iload hx dX4_repeatFrom_8 4 rfl ?_
        refine k_iload_n hx dX4_repeatFrom_10 2 rfl ?_
        refine k_icmp_ge hx dX4_repeatFrom_11 (by omega) (fun h_11 => ?_) (fun h_11 => ?_)
        · have hmt2 : m = t - 1 := by omega
          refine k_iconst hx dX4_repeatFrom_50 ?_
          refine k_rz hx hr dX4_repeatFrom_51 (by first | exact Or.inl rfl | exact Or.inr rfl | exact b2i_or _) ?_
          exact ⟨ho, Or.inl ⟨rfl, by rw [← hmt2]; omega, by rw [← hmt2]; exact hwd⟩⟩
        · refine k_iload_n hx dX4_repeatFrom_14 1 rfl ?_
          refine k_istore (ls' := [(0, vR g i), (1, vI a), (2, vI t), (3, vI w.length), (4, vI (y + 1)), (5, vI a)]) hx dX4_repeatFrom_15 rfl rfl (by decide) ?_
          have q1 : t * 1000 - (m + 1) * 1000 - 0 < f := by omega
          exact ih (m + 1) 0 (y + 1) (a : Int) M' (by omega) (by omega) (by omega) (by omega) (by omega) q1 (by rw [Nat.add_sub_cancel]; omega) (by simpa using hwd) ho
      · have hlen : (w ++ (rpt (m - 1) (w.drop a) ++ (w.drop a).take k)).length = w.length + (m - 1) * (w.length - a) + k := by
          rw [List.length_append, List.length_append, rpt_len, List.length_take, hds]; omega
        have hcr := hw.2.2 _ (at0_mem (w := w) (k := a + k) (by omega))
        have het : at0 (w.drop a) k = at0 w (a + k : Nat) := by rw [at0_n (by omega), at0_n (by omega)]; simp
        refine k_aload_n hx dX4_repeatFrom_23 0 rfl ?_
        refine k_aload_n hx dX4_repeatFrom_24 0 rfl ?_
        refine k_iload hx dX4_repeatFrom_25 5 rfl ?_
        refine k_vp (rest := [vR g i]) (e := (at0 w (a + k : Nat))) hx vX4_37 dX4_repeatFrom_27 (hout M' _ (a + k) z (by omega) hwd (by omega) (by omega)) hW.2.2.1 hW.1 rfl rfl rfl ⟨rfl, rfl⟩ ⟨by decide, by decide⟩ ?_
        by_cases hfull : w.length + (m - 1) * (w.length - a) + k < cap
        rotate_left
        · refine k_vi (rest := []) hx vX4_29 dX4_repeatFrom_30 (c_X4_addF hW hwd (by omega) (by omega) (c := at0 w (a + k : Nat))) hW.2.2.1 hW.1 rfl rfl rfl ⟨rfl, rfl⟩ ⟨by decide, by decide⟩ (fun z_30 M_30 p_30 => ?_)
          obtain ⟨rfl, rfl⟩ := p_30
          refine k_ifne hx dX4_repeatFrom_33 (by omega) (fun h_33 => absurd rfl h_33) (fun h_33 => ?_)
          refine k_iconst hx dX4_repeatFrom_36 ?_
          refine k_rz hx hr dX4_repeatFrom_37 (Or.inl rfl) ?_
          refine ⟨ho, Or.inr ⟨rfl, ?_⟩⟩
          have h1 : (m - 1) * (w.length - a) + (w.length - a) ≤ (t - 1) * (w.length - a) := by
            rw [← Nat.succ_mul]; exact Nat.mul_le_mul_right _ (by omega)
          omega
        refine k_vi (rest := []) hx vX4_29 dX4_repeatFrom_30 (c_X4_add hW hwd (by omega) (by omega) (c := at0 w (a + k : Nat)) hcr) hW.2.2.1 hW.1 rfl rfl rfl ⟨rfl, rfl⟩ ⟨by decide, by decide⟩ (fun z_30 M_30 p_30 => ?_)
        obtain ⟨rfl, p1, p2, p3⟩ := p_30
        rw [List.append_assoc, List.append_assoc, ← het, take_at0 (by omega)] at p1
        refine k_ifne hx dX4_repeatFrom_33 (by omega) (fun h_33 => ?_) (fun h_33 => absurd h_33 (by omega))
        refine k_iinc (ls' := [(0, vR g i), (1, vI a), (2, vI t), (3, vI w.length), (4, vI y), (5, vI (z + 1))]) hx dX4_repeatFrom_38 5 rfl rfl rfl (by decide) ?_
        refine k_goto hx dX4_repeatFrom_41 ?_
        exact ih m (k + 1) y (z + 1) M_30 hy hm hmt (by omega) (by omega) (by omega) (by omega) p1 (ho.tr p2)
  refine k_aload_n hx dX4_repeatFrom_0 0 rfl ?_
  refine k_get (v := vI w.length) hx fX4_21 dX4_repeatFrom_1 hW.2.2.1 hW.1 (congrArg vI (show M i 1 = w.length from hw.1)) ?_
  refine k_istore_n (ls' := [(0, vR g i), (1, vI a), (2, vI t), (3, vI w.length)]) hx dX4_repeatFrom_4 rfl rfl (by decide) ?_
  refine k_iconst hx dX4_repeatFrom_5 ?_
  refine k_istore (ls' := [(0, vR g i), (1, vI a), (2, vI t), (3, vI w.length), (4, vI 1)]) hx dX4_repeatFrom_6 rfl rfl (by decide) ?_
  refine k_iload hx dX4_repeatFrom_8 4 rfl ?_
  refine k_iload_n hx dX4_repeatFrom_10 2 rfl ?_
  refine k_icmp_ge hx dX4_repeatFrom_11 (by omega) (fun h_11 => ?_) (fun h_11 => ?_)
  · refine k_iconst hx dX4_repeatFrom_50 ?_
    refine k_rz hx hr dX4_repeatFrom_51 (by first | exact Or.inl rfl | exact Or.inr rfl | exact b2i_or _) ?_
    have ht1 : t = 1 := by omega
    subst ht1
    exact ⟨Off.rf, Or.inl ⟨rfl, by omega, by simpa [rpt] using hw⟩⟩
  · refine k_iload_n hx dX4_repeatFrom_14 1 rfl ?_
    refine k_istore (ls' := [(0, vR g i), (1, vI a), (2, vI t), (3, vI w.length), (4, vI 1), (5, vI a)]) hx dX4_repeatFrom_15 rfl rfl (by decide) ?_
    exact loop (t * 1000 + 1) 1 0 _ _ M rfl (by omega) (by omega) (by omega) (by omega) (by omega) (by omega) (by simpa [rpt] using hw) Off.rf
end
section
/-! the class's word: turned in place, pulled, tightened, least start -/
theorem Wd.of {M : Mem} {i : Nat} {u : List Int} (h1 : M i 1 = u.length) (h2 : ∀ k : Nat, k < u.length → M (i + 1) k = at0 u k) (h3 : Cr u) : Wd M i u := by
  refine ⟨h1, fun k c h => ?_, h3⟩
  have hk := (List.getElem?_eq_some_iff.mp h).1
  rw [h2 k hk, at0_n hk]
  exact (List.getElem?_eq_some_iff.mp h).2
theorem Wd.atn {M : Mem} {i : Nat} {w : List Int} (h : Wd M i w) {k : Nat} (hk : k < w.length) : M (i + 1) (k : Int) = at0 w k := h.lt (by omega) (by omega)
theorem ext_at0 {u v : List Int} (h1 : u.length = v.length) (h2 : ∀ k : Nat, k < u.length → at0 u k = at0 v k) : u = v := by
  refine List.ext_getElem h1 (fun k hk hk2 => ?_)
  have := h2 k hk
  rwa [at0_n hk, at0_n hk2] at this
theorem at0_take {w : List Int} {m k : Nat} (h : k < m) (hk : k < w.length) : at0 (w.take m) k = at0 w k := by
  rw [at0_n (by rw [List.length_take]; omega), at0_n hk]; simp
theorem at0_drop {w : List Int} {m k : Nat} (hk : m + k < w.length) : at0 (w.drop m) k = at0 w (m + k : Nat) := by
  rw [at0_n (by rw [List.length_drop]; omega), at0_n hk]; simp
theorem at0_appr {a b : List Int} {k : Nat} (h : k < b.length) : at0 (a ++ b) (a.length + k : Nat) = at0 b k := by
  rw [at0_n h, at0_n (by rw [List.length_append]; omega), List.getElem_append_right (by omega)]; simp
/-- turned from a on, s steps done -/
def tf (w : List Int) (a s q : Nat) : Int := if q < a ∨ (a + s ≤ q ∧ q + s + 1 ≤ w.length) then at0 w q else op (at0 w (a + w.length - 1 - q : Nat))
def turnF (w : List Int) (a : Nat) : List Int := w.take a ++ trn (w.drop a)
theorem turnF_len {w : List Int} {a : Nat} (h : a ≤ w.length) : (turnF w a).length = w.length := by
  unfold turnF; rw [List.length_append, trn_len, List.length_take, List.length_drop]; omega
theorem turnF_at {w : List Int} {a k : Nat} (ha : a ≤ w.length) (hk : k < w.length) : at0 (turnF w a) k = if k < a then at0 w k else op (at0 w (a + w.length - 1 - k : Nat)) := by
  have hl : (w.take a).length = a := by rw [List.length_take]; omega
  by_cases h : k < a
  · rw [if_pos h]; unfold turnF; rw [at0_app (by omega), at0_take h hk]
  · rw [if_neg h]
    unfold turnF
    have e : k = (w.take a).length + (k - a) := by omega
    have hd : (w.drop a).length = w.length - a := by rw [List.length_drop]
    rw [e, at0_appr (by rw [trn_len]; omega), trn_at (by omega), at0_drop (by omega), ← e]
    congr 2
    omega
theorem turnF_cr {w : List Int} (h : Cr w) (a : Nat) : Cr (turnF w a) := (h.take a).app (cr_trn (h.drop a))
theorem op_cr {w : List Int} (h : Cr w) {k : Nat} (hk : k < w.length) : 0 ≤ at0 w k ∧ at0 w k < 12 := h _ (at0_mem hk)

theorem c_X4_turnFrom {g : GE} {l : Launch} {M : Mem} {i cap : Nat} {w : List Int} (hW : IsW i cap) (hw : Wd M i w) (hc : w.length ≤ cap) {a : Nat} (ha : a ≤ w.length) : Cv g l μX4_turnFrom [vR g i, vI a] M (fun M' => Wd M' i (turnF w a) ∧ Off i M M') := by
  refine Cv.of (by decide +kernel) rfl rfl (fun x hx hr => ?_)
  have hl := hw.1; have h480 := hW.2.2.2.2
  have loop : ∀ (f : Nat), ∀ (s : Nat) (y z : Int) (M' : Mem), y = a + s → z = w.length - 1 - s → w.length - s < f → 2 * s ≤ w.length - a → (∀ q : Nat, q < w.length → M' (i + 1) q = tf w a s q) → M' i 1 = w.length → Off i M M' → K x g 0 0 LAY NN M' 13 [(0, vR g i), (1, vI a), (2, vI y), (3, vI z)] [] := by
    intro f
    induction f with
    | zero => intro s y z M' hy hz hf h2 hq hL ho; omega
    | succ f ih =>
      intro s y z M' hy hz hf h2 hq hL ho
      refine k_iload_n hx dX4_turnFrom_13 2 rfl ?_
      refine k_iload_n hx dX4_turnFrom_14 3 rfl ?_
      refine k_icmp_ge hx dX4_turnFrom_15 (by omega) (fun h_15 => ?_) (fun h_15 => ?_)
      · refine k_iload_n hx dX4_turnFrom_61 2 rfl ?_
        refine k_iload_n hx dX4_turnFrom_62 3 rfl ?_
        refine k_icmp_ne hx dX4_turnFrom_63 (by omega) (fun h_63 => ?_) (fun h_63 => ?_)
        · refine k_rv hx hr dX4_turnFrom_81 ?_
          refine ⟨Wd.of (by rw [turnF_len ha]; exact hL) (fun q hqn => ?_) (turnF_cr hw.2.2 a), ho⟩
          rw [turnF_len ha] at hqn
          rw [hq q hqn, turnF_at ha hqn]
          unfold tf
          by_cases q1 : q < a
          · rw [if_pos (Or.inl q1), if_pos q1]
          · rw [if_neg (by omega), if_neg q1]
        · have e1 : M' (i + 1) y = at0 w (a + s : Nat) := by
            rw [show y = ((a + s : Nat) : Int) by omega]; have := hq (a + s) (by omega); unfold tf at this; rwa [if_pos (by omega)] at this
          have c1 := op_cr hw.2.2 (k := a + s) (by omega)
          refine k_aload_n hx dX4_turnFrom_66 0 rfl ?_
          refine k_get (v := vR g (i + 1)) hx fX4_15 dX4_turnFrom_67 hW.2.2.1 hW.1 rfl ?_
          refine k_iload_n hx dX4_turnFrom_70 2 rfl ?_
          refine k_aload_n hx dX4_turnFrom_71 0 rfl ?_
          refine k_get (v := vR g (i + 1)) hx fX4_15 dX4_turnFrom_72 hW.2.2.1 hW.1 rfl ?_
          refine k_iload_n hx dX4_turnFrom_75 2 rfl ?_
          refine k_iald (v := (at0 w (a + s : Nat))) hx dX4_turnFrom_76 hW.2.2.2.1 hW.2.1 (by omega) (by have := hW.2.2.2.2; omega) (e1) ?_
          refine k_np (rest := [vI y, vR g (i + 1)]) (e := (op (at0 w (a + s : Nat)))) hx nX4_25 dX4_turnFrom_77 (c_X5_opposite (z := (at0 w (a + s : Nat))) (by omega)) rfl rfl rfl ⟨rfl, rfl⟩ ⟨by decide, by decide⟩ ?_
          refine k_iastN hx dX4_turnFrom_80 hW.2.2.2.1 hW.2.1 (by omega) (by have := hW.2.2.2.2; omega) (fun M_80 hM_80 => ?_)
          refine k_rv hx hr dX4_turnFrom_81 ?_
          subst hM_80
          refine ⟨Wd.of (by rw [turnF_len ha, up_i (by omega)]; exact hL) (fun q hqn => ?_) (turnF_cr hw.2.2 a), ho.tr off_up1⟩
          rw [turnF_len ha] at hqn
          rw [turnF_at ha hqn]
          by_cases q2 : q = a + s
          · subst q2
            rw [show ((a + s : Nat) : Int) = y by omega, up_s, if_neg (by omega)]; congr 3; omega
          · rw [up_k (by omega), hq q hqn]
            unfold tf
            by_cases q1 : q < a
            · rw [if_pos (Or.inl q1), if_pos q1]
            · rw [if_neg (by omega), if_neg q1]
      · have e1 : M' (i + 1) y = at0 w (a + s : Nat) := by
          rw [show y = ((a + s : Nat) : Int) by omega]; have := hq (a + s) (by omega); unfold tf at this; rwa [if_pos (by omega)] at this
        have e2 : M' (i + 1) z = at0 w (w.length - 1 - s : Nat) := by
          rw [show z = ((w.length - 1 - s : Nat) : Int) by omega]; have := hq (w.length - 1 - s) (by omega); unfold tf at this; rwa [if_pos (by omega)] at this
        have c1 := op_cr hw.2.2 (k := a + s) (by omega)
        have c2 := op_cr hw.2.2 (k := w.length - 1 - s) (by omega)
        refine k_aload_n hx dX4_turnFrom_18 0 rfl ?_
        refine k_get (v := vR g (i + 1)) hx fX4_15 dX4_turnFrom_19 hW.2.2.1 hW.1 rfl ?_
        refine k_iload_n hx dX4_turnFrom_22 2 rfl ?_
        refine k_iald (v := (at0 w (a + s : Nat))) hx dX4_turnFrom_23 hW.2.2.2.1 hW.2.1 (by omega) (by have := hW.2.2.2.2; omega) (e1) ?_
        refine k_istore (ls' := [(0, vR g i), (1, vI a), (2, vI y), (3, vI z), (4, vI (at0 w (a + s : Nat)))]) hx dX4_turnFrom_24 rfl rfl (by decide) ?_
        refine k_aload_n hx dX4_turnFrom_26 0 rfl ?_
        refine k_get (v := vR g (i + 1)) hx fX4_15 dX4_turnFrom_27 hW.2.2.1 hW.1 rfl ?_
        refine k_iload_n hx dX4_turnFrom_30 2 rfl ?_
        refine k_aload_n hx dX4_turnFrom_31 0 rfl ?_
        refine k_get (v := vR g (i + 1)) hx fX4_15 dX4_turnFrom_32 hW.2.2.1 hW.1 rfl ?_
        refine k_iload_n hx dX4_turnFrom_35 3 rfl ?_
        refine k_iald (v := (at0 w (w.length - 1 - s : Nat))) hx dX4_turnFrom_36 hW.2.2.2.1 hW.2.1 (by omega) (by have := hW.2.2.2.2; omega) (e2) ?_
        refine k_np (rest := [vI y, vR g (i + 1)]) (e := (op (at0 w (w.length - 1 - s : Nat)))) hx nX4_25 dX4_turnFrom_37 (c_X5_opposite (z := (at0 w (w.length - 1 - s : Nat))) (by omega)) rfl rfl rfl ⟨rfl, rfl⟩ ⟨by decide, by decide⟩ ?_
        refine k_iastN hx dX4_turnFrom_40 hW.2.2.2.1 hW.2.1 (by omega) (by have := hW.2.2.2.2; omega) (fun M_40 hM_40 => ?_)
        refine k_aload_n hx dX4_turnFrom_41 0 rfl ?_
        refine k_get (v := vR g (i + 1)) hx fX4_15 dX4_turnFrom_42 hW.2.2.1 hW.1 rfl ?_
        refine k_iload_n hx dX4_turnFrom_45 3 rfl ?_
        refine k_iload hx dX4_turnFrom_46 4 rfl ?_
        refine k_np (rest := [vI z, vR g (i + 1)]) (e := (op (at0 w (a + s : Nat)))) hx nX4_25 dX4_turnFrom_48 (c_X5_opposite (z := (at0 w (a + s : Nat))) (by omega)) rfl rfl rfl ⟨rfl, rfl⟩ ⟨by decide, by decide⟩ ?_
        refine k_iastN hx dX4_turnFrom_51 hW.2.2.2.1 hW.2.1 (by omega) (by have := hW.2.2.2.2; omega) (fun M_51 hM_51 => ?_)
        refine k_iinc (ls' := [(0, vR g i), (1, vI a), (2, vI (y + 1)), (3, vI z), (4, vI (at0 w (a + s : Nat)))]) hx dX4_turnFrom_52 2 rfl rfl rfl (by decide) ?_
        refine k_iinc (ls' := [(0, vR g i), (1, vI a), (2, vI (y + 1)), (3, vI (z + (-1))), (4, vI (at0 w (a + s : Nat)))]) hx dX4_turnFrom_55 3 rfl rfl rfl (by decide) ?_
        refine k_goto hx dX4_turnFrom_58 ?_
        refine K.sub [0, 1, 2, 3] rfl ?_
        refine ih (s + 1) (y + 1) (z + -1) M_51 (by omega) (by omega) (by omega) (by omega) (fun q hqn => ?_) (by rw [hM_51, hM_40, up_i (by omega), up_i (by omega)]; exact hL) (ho.tr (by rw [hM_51, hM_40]; exact off_up1.tr off_up1))
        rw [hM_51, hM_40]
        by_cases q1 : q = a + s
        · subst q1
          rw [up_k (by omega), show ((a + s : Nat) : Int) = y by omega, up_s]
          unfold tf; rw [if_neg (by omega)]; congr 3; omega
        · by_cases q2 : q = w.length - 1 - s
          · subst q2
            rw [show ((w.length - 1 - s : Nat) : Int) = z by omega, up_s]
            unfold tf; rw [if_neg (by omega)]; congr 3; omega
          · rw [up_k (by omega), up_k (by omega), hq q hqn]
            unfold tf
            by_cases q3 : q < a ∨ (a + s ≤ q ∧ q + s + 1 ≤ w.length)
            · rw [if_pos q3, if_pos (by omega)]
            · rw [if_neg q3, if_neg (by omega)]
  refine k_iload_n hx dX4_turnFrom_0 1 rfl ?_
  refine k_iconst hx dX4_turnFrom_1 ?_
  refine k_sp (rest := []) (e := (max a 0)) hx sX4_9 dX4_turnFrom_2 (c_max (a := a) (b := 0) (by omega)) rfl rfl rfl ⟨rfl, rfl⟩ ⟨by decide, by decide⟩ ?_
  
  have hmx : max (a : Int) 0 = a := by omega
  rw [hmx]
  refine k_istore_n (ls' := [(0, vR g i), (1, vI a), (2, vI a)]) hx dX4_turnFrom_5 rfl rfl (by decide) ?_
  refine k_aload_n hx dX4_turnFrom_6 0 rfl ?_
  refine k_get (v := vI w.length) hx fX4_21 dX4_turnFrom_7 hW.2.2.1 hW.1 (congrArg vI (show M i 1 = w.length from hl)) ?_
  refine k_iconst hx dX4_turnFrom_10 ?_
  refine k_isub hx dX4_turnFrom_11 ?_
  refine k_istore_n (ls' := [(0, vR g i), (1, vI a), (2, vI a), (3, vI (w.length - 1))]) hx dX4_turnFrom_12 rfl rfl (by decide) ?_
  exact loop (w.length + 1) 0 _ _ M (by omega) (by omega) (by omega) (by omega) (fun q hqn => by unfold tf; rw [hw.atn hqn]; by_cases h : q < a ∨ (a + 0 ≤ q ∧ q + 0 + 1 ≤ w.length); rw [if_pos h]; exact absurd (by omega) h) hl Off.rf
theorem red_snoc {w : List Int} {k : Nat} (h : k < w.length) : red (w.take (k + 1)) = psh (red (w.take k)) (at0 w k) := by
  rw [← take_at0 h]; unfold red; rw [List.foldl_append]; rfl
theorem red_len_le (w : List Int) : (red w).length ≤ w.length := by
  have key : ∀ k, k ≤ w.length → (red (w.take k)).length ≤ k := by
    intro k
    induction k with
    | zero => intro _; simp [red]
    | succ k ih =>
      intro h
      rw [red_snoc (by omega)]
      have h1 := ih (by omega)
      have h2 := psh_len (w := red (w.take k)) (c := at0 w k)
      omega
  have := key w.length (Nat.le_refl _)
  rwa [List.take_length] at this
theorem red_tk_le {w : List Int} {k : Nat} (h : k ≤ w.length) : (red (w.take k)).length ≤ k := by
  have := red_len_le (w.take k); rw [List.length_take] at this; omega

theorem c_X4_cancelPairs {g : GE} {l : Launch} {M : Mem} {i cap : Nat} {w : List Int} (hW : IsW i cap) (hw : Wd M i w) (hc : w.length ≤ cap) : Ci g l μX4_cancelPairs [vR g i] M (fun z M' => z = (w.length - (red w).length) / 2 ∧ Wd M' i (red w) ∧ Off i M M') := by
  refine Ci.of (by decide +kernel) rfl rfl (fun x hx hr => ?_)
  have hl := hw.1; have h480 := hW.2.2.2.2; have hrl := red_len_le w
  have loop : ∀ (f : Nat), ∀ (k : Nat) (z : Int) (M' : Mem), z = k → k ≤ w.length → w.length - k < f → Wd M' i (red (w.take k)) → (∀ q : Nat, k ≤ q → q < w.length → M' (i + 1) q = at0 w q) → Off i M M' → K x g 0 0 LAY NN M' 12 [(0, vR g i), (1, vI w.length), (2, vI z)] [] := by
    intro f
    induction f with
    | zero => intro k z M' hz hk hf hwd hq ho; omega
    | succ f ih =>
      intro k z M' hz hk hf hwd hq ho
      refine k_iload_n hx dX4_cancelPairs_12 2 rfl ?_
      refine k_iload_n hx dX4_cancelPairs_13 1 rfl ?_
      refine k_icmp_ge hx dX4_cancelPairs_14 (by omega) (fun h_14 => ?_) (fun h_14 => ?_)
      · have hkw : k = w.length := by omega
        subst hkw
        rw [List.take_length] at hwd
        refine k_iload_n hx dX4_cancelPairs_34 1 rfl ?_
        refine k_aload_n hx dX4_cancelPairs_35 0 rfl ?_
        refine k_get (v := vI ((red w).length)) hx fX4_21 dX4_cancelPairs_36 hW.2.2.1 hW.1 (congrArg vI (show M' i 1 = ((red w).length) from hwd.1)) ?_
        refine k_isub hx dX4_cancelPairs_39 ?_
        refine k_iconst hx dX4_cancelPairs_40 ?_
        refine k_idiv hx dX4_cancelPairs_41 (by omega) ?_
        refine k_ri hx hr dX4_cancelPairs_42 ?_
        exact ⟨rfl, hwd, ho⟩
      · have e1 : M' (i + 1) z = at0 w k := by rw [hz]; exact hq k (by omega) (by omega)
        have c1 := op_cr hw.2.2 (k := k) (by omega)
        have hrk := red_tk_le hk
        refine k_aload_n hx dX4_cancelPairs_17 0 rfl ?_
        refine k_aload_n hx dX4_cancelPairs_18 0 rfl ?_
        refine k_get (v := vR g (i + 1)) hx fX4_15 dX4_cancelPairs_19 hW.2.2.1 hW.1 rfl ?_
        refine k_iload_n hx dX4_cancelPairs_22 2 rfl ?_
        refine k_iald (v := (at0 w k)) hx dX4_cancelPairs_23 hW.2.2.2.1 hW.2.1 (by omega) (by have := hW.2.2.2.2; omega) (e1) ?_
        refine k_vi (rest := []) hx vX4_44 dX4_cancelPairs_24 (c_X4_addPulled hW hwd (by omega) (by omega) (c := at0 w k) c1) hW.2.2.1 hW.1 rfl rfl rfl ⟨rfl, rfl⟩ ⟨by decide, by decide⟩ (fun z_24 M_24 p_24 => ?_)
        obtain ⟨rfl, p1, p2, p3⟩ := p_24
        rw [← red_snoc (by omega)] at p1
        refine k_pop hx dX4_cancelPairs_27 rfl ?_
        refine k_iinc (ls' := [(0, vR g i), (1, vI w.length), (2, vI (z + 1))]) hx dX4_cancelPairs_28 2 rfl rfl rfl (by decide) ?_
        refine k_goto hx dX4_cancelPairs_31 ?_
        exact ih (k + 1) (z + 1) M_24 (by omega) (by omega) (by omega) p1 (fun q h1 h2 => by rw [p3 q (by omega)]; exact hq q (by omega) h2) (ho.tr p2)
  refine k_aload_n hx dX4_cancelPairs_0 0 rfl ?_
  refine k_get (v := vI w.length) hx fX4_21 dX4_cancelPairs_1 hW.2.2.1 hW.1 (congrArg vI (show M i 1 = w.length from hl)) ?_
  refine k_istore_n (ls' := [(0, vR g i), (1, vI w.length)]) hx dX4_cancelPairs_4 rfl rfl (by decide) ?_
  refine k_aload_n hx dX4_cancelPairs_5 0 rfl ?_
  refine k_iconst hx dX4_cancelPairs_6 ?_
  refine k_putI (kz := 1) hx fX4_21 dX4_cancelPairs_7 hW.2.2.1 hW.1 rfl rfl (fun M_7 hM_7 => ?_)
  refine k_iconst hx dX4_cancelPairs_10 ?_
  refine k_istore_n (ls' := [(0, vR g i), (1, vI w.length), (2, vI 0)]) hx dX4_cancelPairs_11 rfl rfl (by decide) ?_
  exact loop (w.length + 1) 0 0 M_7 rfl (by omega) (by omega) (by subst hM_7; exact Wd.nil) (fun q _ h2 => by rw [hM_7, up_i (by omega)]; exact hw.atn h2) (by rw [hM_7]; exact off_up)
def strip : Nat → List Int → List Int
  | 0, w => w
  | f + 1, w => if 2 ≤ w.length ∧ at0 w 0 = op (at0 w (w.length - 1 : Nat)) then strip f (slc w 1 (w.length - 1)) else w
def tight (w : List Int) : List Int := strip w.length w
theorem strip_stop {w : List Int} (h : ¬ (2 ≤ w.length ∧ at0 w 0 = op (at0 w (w.length - 1 : Nat)))) (f : Nat) : strip f w = w := by
  cases f with
  | zero => rfl
  | succ f => unfold strip; rw [if_neg h]
theorem strip_go {w : List Int} {f f' : Nat} (hf : f = f' + 1) (h : 2 ≤ w.length ∧ at0 w 0 = op (at0 w (w.length - 1 : Nat))) : strip f w = strip f' (slc w 1 (w.length - 1)) := by
  subst hf; rw [strip, if_pos h]
theorem slc_slc {r : List Int} {s n : Nat} (hn : n = r.length) (h : 2 * s + 2 ≤ n) : slc (slc r s (n - s)) 1 ((slc r s (n - s)).length - 1) = slc r (s + 1) (n - (s + 1)) := by
  have h1 : (slc r s (n - s)).length = n - s - s := slc_len (by omega)
  refine ext_at0 ?_ (fun k hk => ?_)
  · rw [slc_len (by omega), h1, slc_len (by omega)]; omega
  · rw [slc_len (by omega), h1] at hk
    rw [slc_at (by omega) (by omega), slc_at (by omega) (by omega), slc_at (by omega) (by omega)]
    congr 2
    omega
theorem strip_len : ∀ (f : Nat) (w : List Int), (strip f w).length ≤ w.length
  | 0, w => Nat.le_refl _
  | f + 1, w => by
    unfold strip
    split
    · rename_i h
      have := strip_len f (slc w 1 (w.length - 1))
      rw [slc_len (by omega)] at this
      omega
    · exact Nat.le_refl _
theorem strip_cr : ∀ (f : Nat) {w : List Int}, Cr w → Cr (strip f w)
  | 0, _, h => h
  | f + 1, w, h => by
    unfold strip
    split
    · exact strip_cr f (slc_cr h _ _)
    · exact h
theorem red_cr {w : List Int} (h : Cr w) : Cr (red w) := by
  have key : ∀ k, k ≤ w.length → Cr (red (w.take k)) := by
    intro k
    induction k with
    | zero => intro _ c hc; simp [red] at hc
    | succ k ih => intro hk; rw [red_snoc (by omega)]; exact cr_psh (ih (by omega)) (op_cr h (by omega))
  have := key w.length (Nat.le_refl _)
  rwa [List.take_length] at this
theorem tight_cr {w : List Int} (h : Cr w) : Cr (tight w) := strip_cr _ h
theorem tight_len (w : List Int) : (tight w).length ≤ w.length := strip_len _ _

set_option maxRecDepth 20000 in
theorem c_X4_tighten {g : GE} {l : Launch} {M : Mem} {i cap : Nat} {w : List Int} (hW : IsW i cap) (hw : Wd M i w) (hc : w.length ≤ cap) : Cv g l μX4_tighten [vR g i] M (fun M' => Wd M' i (tight (red w)) ∧ Off i M M') := by
  refine Cv.of (by decide +kernel) rfl rfl (fun x hx hr => ?_)
  have hl := hw.1; have h480 := hW.2.2.2.2; have hrl := red_len_le w
  obtain ⟨r, hr0⟩ : ∃ r, r = red w := ⟨_, rfl⟩
  rw [← hr0] at hrl
  have loop2 : ∀ (f : Nat), ∀ (s k : Nat) (y z u : Int) (M' : Mem), y = s → z = r.length - 1 - s → u = s + k → 2 * s + k ≤ r.length → tight r = slc r s (r.length - s) → r.length - k < f → Wd M' i ((slc r s (r.length - s)).take k) → (∀ q : Nat, s + k ≤ q → q < r.length → M' (i + 1) q = at0 r q) → Cr r → Off i M M' → K x g 0 0 LAY NN M' 53 [(0, vR g i), (1, vI y), (2, vI z), (3, vI u)] [] := by
    intro f
    induction f with
    | zero => intro s k y z u M' hy hz hu hsk htt hf hwd hq hcr ho; omega
    | succ f ih =>
      intro s k y z u M' hy hz hu hsk htt hf hwd hq hcr ho
      have hsl : (slc r s (r.length - s)).length = r.length - s - s := slc_len (by omega)
      refine k_iload_n hx dX4_tighten_53 3 rfl ?_
      refine k_iload_n hx dX4_tighten_54 2 rfl ?_
      refine k_icmp_gt hx dX4_tighten_55 (by omega) (fun h_55 => ?_) (fun h_55 => ?_)
      · refine k_rv hx hr dX4_tighten_75 ?_
        exact ⟨by rw [← hr0, htt]; rwa [List.take_of_length_le (by omega)] at hwd, ho⟩
      · have e1 : M' (i + 1) u = at0 (slc r s (r.length - s)) k := by
          rw [hu, show (s : Int) + k = ((s + k : Nat) : Int) by omega, hq _ (by omega) (by omega), slc_at (by omega) (by omega)]
        have c1 := op_cr (slc_cr hcr s (r.length - s)) (k := k) (by omega)
        refine k_aload_n hx dX4_tighten_58 0 rfl ?_
        refine k_aload_n hx dX4_tighten_59 0 rfl ?_
        refine k_get (v := vR g (i + 1)) hx fX4_15 dX4_tighten_60 hW.2.2.1 hW.1 rfl ?_
        refine k_iload_n hx dX4_tighten_63 3 rfl ?_
        refine k_iald (v := (at0 (slc r s (r.length - s)) k)) hx dX4_tighten_64 hW.2.2.2.1 hW.2.1 (by omega) (by have := hW.2.2.2.2; omega) (e1) ?_
        refine k_vi (rest := []) hx vX4_29 dX4_tighten_65 (c_X4_add hW hwd (by rw [List.length_take]; omega) (by rw [List.length_take]; omega) (c := at0 (slc r s (r.length - s)) k) c1) hW.2.2.1 hW.1 rfl rfl rfl ⟨rfl, rfl⟩ ⟨by decide, by decide⟩ (fun z_65 M_65 p_65 => ?_)
        obtain ⟨rfl, p1, p2, p3⟩ := p_65
        rw [take_at0 (by omega)] at p1
        rw [List.length_take] at p3
        refine k_pop hx dX4_tighten_68 rfl ?_
        refine k_iinc (ls' := [(0, vR g i), (1, vI y), (2, vI z), (3, vI (u + 1))]) hx dX4_tighten_69 3 rfl rfl rfl (by decide) ?_
        refine k_goto hx dX4_tighten_72 ?_
        exact ih s (k + 1) y z (u + 1) M_65 hy hz (by omega) (by omega) htt (by omega) p1 (fun q h1 h2 => by rw [p3 q (by omega)]; exact hq q (by omega) h2) hcr (ho.tr p2)
  have loop1 : ∀ (f : Nat), ∀ (s : Nat) (y z : Int) (M' : Mem), y = s → z = r.length - 1 - s → 2 * s ≤ r.length → r.length - s < f → strip (r.length - s) (slc r s (r.length - s)) = tight r → Wd M' i r → Off i M M' → K x g 0 0 LAY NN M' 14 [(0, vR g i), (1, vI y), (2, vI z)] [] := by
    intro f
    induction f with
    | zero => intro s y z M' hy hz hs hf hst hwd ho; omega
    | succ f ih =>
      intro s y z M' hy hz hs hf hst hwd ho
      have hsl : (slc r s (r.length - s)).length = r.length - s - s := slc_len (by omega)
      refine k_iload_n hx dX4_tighten_14 1 rfl ?_
      refine k_iload_n hx dX4_tighten_15 2 rfl ?_
      refine k_icmp_ge hx dX4_tighten_16 (by omega) (fun h_16 => ?_) (fun h_16 => ?_)
      · have htt : tight r = slc r s (r.length - s) := by
          rw [← hst]; exact strip_stop (fun q => by omega) _
        refine k_aload_n hx dX4_tighten_46 0 rfl ?_
        refine k_iconst hx dX4_tighten_47 ?_
        refine k_putI (kz := 1) hx fX4_21 dX4_tighten_48 hW.2.2.1 hW.1 rfl rfl (fun M_48 hM_48 => ?_)
        refine k_iload_n hx dX4_tighten_51 1 rfl ?_
        refine k_istore_n (ls' := [(0, vR g i), (1, vI y), (2, vI z), (3, vI y)]) hx dX4_tighten_52 rfl rfl (by decide) ?_
        exact loop2 (r.length + 1) s 0 y z y M_48 hy hz (by omega) (by omega) htt (by omega) (by subst hM_48; rw [List.take_zero]; exact Wd.nil) (fun q h1 h2 => by rw [hM_48, up_i (by omega)]; exact hwd.atn h2) hwd.2.2 (ho.tr (by rw [hM_48]; exact off_up))
      · have e1 : M' (i + 1) y = at0 r s := by rw [hy]; exact hwd.atn (by omega)
        have e2 : M' (i + 1) z = at0 r (r.length - 1 - s : Nat) := by rw [hz, show (r.length : Int) - 1 - s = ((r.length - 1 - s : Nat) : Int) by omega]; exact hwd.atn (by omega)
        have c1 := op_cr hwd.2.2 (k := s) (by omega)
        have c2 := op_cr hwd.2.2 (k := r.length - 1 - s) (by omega)
        have c3 := op_rg c2
        have f1 : at0 (slc r s (r.length - s)) 0 = at0 r s := by
          have h1 := slc_at (v := r) (a := s) (b := r.length - s) (k := 0) (by omega) (by omega)
          simpa using h1
        have f2 : at0 (slc r s (r.length - s)) ((slc r s (r.length - s)).length - 1 : Nat) = at0 r (r.length - 1 - s : Nat) := by
          have h1 := slc_at (v := r) (a := s) (b := r.length - s) (k := r.length - s - s - 1) (by omega) (by omega)
          rw [hsl, h1]; congr 2; omega
        refine k_aload_n hx dX4_tighten_19 0 rfl ?_
        refine k_get (v := vR g (i + 1)) hx fX4_15 dX4_tighten_20 hW.2.2.1 hW.1 rfl ?_
        refine k_iload_n hx dX4_tighten_23 1 rfl ?_
        refine k_iald (v := (at0 r s)) hx dX4_tighten_24 hW.2.2.2.1 hW.2.1 (by omega) (by have := hW.2.2.2.2; omega) (e1) ?_
        refine k_aload_n hx dX4_tighten_25 0 rfl ?_
        refine k_get (v := vR g (i + 1)) hx fX4_15 dX4_tighten_26 hW.2.2.1 hW.1 rfl ?_
        refine k_iload_n hx dX4_tighten_29 2 rfl ?_
        refine k_iald (v := (at0 r (r.length - 1 - s : Nat))) hx dX4_tighten_30 hW.2.2.2.1 hW.2.1 (by omega) (by have := hW.2.2.2.2; omega) (e2) ?_
        refine k_np (rest := [vI (at0 r s)]) (e := (op (at0 r (r.length - 1 - s : Nat)))) hx nX4_25 dX4_tighten_31 (c_X5_opposite (z := (at0 r (r.length - 1 - s : Nat))) (by omega)) rfl rfl rfl ⟨rfl, rfl⟩ ⟨by decide, by decide⟩ ?_
        refine k_icmp_ne hx dX4_tighten_34 (by omega) (fun h_34 => ?_) (fun h_34 => ?_)
        · have htt : tight r = slc r s (r.length - s) := by
            rw [← hst]; exact strip_stop (fun q => h_34 (by rw [← f1, ← f2]; exact q.2)) _
          refine k_aload_n hx dX4_tighten_46 0 rfl ?_
          refine k_iconst hx dX4_tighten_47 ?_
          refine k_putI (kz := 1) hx fX4_21 dX4_tighten_48 hW.2.2.1 hW.1 rfl rfl (fun M_48 hM_48 => ?_)
          refine k_iload_n hx dX4_tighten_51 1 rfl ?_
          refine k_istore_n (ls' := [(0, vR g i), (1, vI y), (2, vI z), (3, vI y)]) hx dX4_tighten_52 rfl rfl (by decide) ?_
          exact loop2 (r.length + 1) s 0 y z y M_48 hy hz (by omega) (by omega) htt (by omega) (by subst hM_48; rw [List.take_zero]; exact Wd.nil) (fun q h1 h2 => by rw [hM_48, up_i (by omega)]; exact hwd.atn h2) hwd.2.2 (ho.tr (by rw [hM_48]; exact off_up))
        · refine k_iinc (ls' := [(0, vR g i), (1, vI (y + 1)), (2, vI z)]) hx dX4_tighten_37 1 rfl rfl rfl (by decide) ?_
          refine k_iinc (ls' := [(0, vR g i), (1, vI (y + 1)), (2, vI (z + (-1)))]) hx dX4_tighten_40 2 rfl rfl rfl (by decide) ?_
          refine k_goto hx dX4_tighten_43 ?_
          refine ih (s + 1) (y + 1) (z + -1) M' (by omega) (by omega) (by omega) (by omega) ?_ hwd ho
          have e := strip_go (w := slc r s (r.length - s)) (f := r.length - s) (f' := r.length - (s + 1)) (by omega) ⟨by omega, by rw [f1, f2]; exact h_34⟩
          rw [← hst, e, slc_slc rfl (by omega)]
  refine k_aload_n hx dX4_tighten_0 0 rfl ?_
  refine k_vi (rest := []) hx vX4_47 dX4_tighten_1 (c_X4_cancelPairs hW hw hc) hW.2.2.1 hW.1 rfl rfl rfl ⟨rfl, rfl⟩ ⟨by decide, by decide⟩ (fun z_1 M_1 p_1 => ?_)
  obtain ⟨-, p1, p2⟩ := p_1
  rw [← hr0] at p1
  refine k_pop hx dX4_tighten_4 rfl ?_
  refine k_iconst hx dX4_tighten_5 ?_
  refine k_istore_n (ls' := [(0, vR g i), (1, vI 0)]) hx dX4_tighten_6 rfl rfl (by decide) ?_
  refine k_aload_n hx dX4_tighten_7 0 rfl ?_
  refine k_get (v := vI r.length) hx fX4_21 dX4_tighten_8 hW.2.2.1 hW.1 (congrArg vI (show M_1 i 1 = r.length from p1.1)) ?_
  refine k_iconst hx dX4_tighten_11 ?_
  refine k_isub hx dX4_tighten_12 ?_
  refine k_istore_n (ls' := [(0, vR g i), (1, vI 0), (2, vI (r.length - 1))]) hx dX4_tighten_13 rfl rfl (by decide) ?_
  exact loop1 (r.length + 1) 0 0 _ M_1 rfl (by omega) (by omega) (by omega) (by rw [Nat.sub_zero, slc_all]; rfl) p1 p2
end
section
/-! the class's word: rounds, the least start, periods, posts, pairs, windings, sameness -/
def rot (w : List Int) (a : Nat) : List Int := w.drop a ++ w.take a
theorem rot_len {w : List Int} {a : Nat} (h : a ≤ w.length) : (rot w a).length = w.length := by unfold rot; rw [List.length_append, List.length_take, List.length_drop]; omega
theorem rot_at {w : List Int} {a k : Nat} (ha : a ≤ w.length) (hk : k < w.length) : at0 (rot w a) k = if a + k < w.length then at0 w (a + k : Nat) else at0 w (a + k - w.length : Nat) := by
  have hd : (w.drop a).length = w.length - a := by rw [List.length_drop]
  unfold rot
  by_cases h : a + k < w.length
  · rw [if_pos h, at0_app (by omega), at0_drop h]
  · rw [if_neg h]
    have e : k = (w.drop a).length + (a + k - w.length) := by omega
    rw [e, at0_appr (by rw [List.length_take]; omega), at0_take (by omega) (by omega)]
    rw [← e]
theorem rot_cr {w : List Int} (h : Cr w) (a : Nat) : Cr (rot w a) := (h.drop a).app (h.take a)
def lexLt : List Int → List Int → Bool
  | x :: xs, y :: ys => if x = y then lexLt xs ys else decide (x < y)
  | _, _ => false
theorem lexLt_step {u v : List Int} {k : Nat} (h1 : k < u.length) (h2 : k < v.length) : lexLt (u.drop k) (v.drop k) = if at0 u k = at0 v k then lexLt (u.drop (k + 1)) (v.drop (k + 1)) else decide (at0 u k < at0 v k) := by
  rw [List.drop_eq_getElem_cons h1, List.drop_eq_getElem_cons h2, at0_n h1, at0_n h2]
  rfl
theorem lexLt_end {u v : List Int} {k : Nat} (h1 : u.length ≤ k) : lexLt (u.drop k) (v.drop k) = false := by
  rw [List.drop_eq_nil_of_le h1]; rfl
theorem lexLt_self : ∀ u : List Int, lexLt u u = false
  | [] => rfl
  | x :: xs => by unfold lexLt; rw [if_pos rfl]; exact lexLt_self xs
/-- the best of the starts below k -/
def lsF (w : List Int) : Nat → Nat
  | 0 => 0
  | k + 1 => if lexLt (rot w k) (rot w (lsF w k)) = true then k else lsF w k
def leastS (w : List Int) : Nat := lsF w w.length
def least (w : List Int) : List Int := rot w (leastS w)
theorem lsF_1 (w : List Int) : lsF w 1 = 0 := by unfold lsF; split <;> rfl
theorem lsF_lt (w : List Int) : ∀ k, lsF w (k + 1) ≤ k
  | 0 => by rw [lsF_1]; omega
  | k + 1 => by
    have := lsF_lt w k
    rw [lsF]
    split <;> omega
theorem leastS_le (w : List Int) : leastS w ≤ w.length := by
  unfold leastS
  cases h : w.length with
  | zero => simp [lsF]
  | succ n => have := lsF_lt w n; omega
theorem least_len (w : List Int) : (least w).length = w.length := rot_len (leastS_le w)
theorem least_cr {w : List Int} (h : Cr w) : Cr (least w) := rot_cr h _

theorem c_X4_atRound {g : GE} {l : Launch} {M : Mem} {i cap : Nat} {w : List Int} (hW : IsW i cap) (hw : Wd M i w) (hc : w.length ≤ cap) {a k : Nat} {z : Int} (hz : z = a + k) (ha : a < w.length) (hk : k < w.length) : Cp g l μX4_atRound [vR g i, vI z] M (at0 (rot w a) k) := by
  refine Ci.of (by decide +kernel) rfl rfl (fun x hx hr => ?_)
  have hl := hw.1; have h480 := hW.2.2.2.2
  have he := rot_at (Nat.le_of_lt ha) hk
  refine k_aload_n hx dX4_atRound_0 0 rfl ?_
  refine k_iload_n hx dX4_atRound_1 1 rfl ?_
  refine k_aload_n hx dX4_atRound_2 0 rfl ?_
  refine k_get (v := vI (M i 1)) hx fX4_21 dX4_atRound_3 hW.2.2.1 hW.1 rfl ?_
  refine k_icmp_ge hx dX4_atRound_6 (by omega) (fun h_6 => ?_) (fun h_6 => ?_)
  · refine k_iload_n hx dX4_atRound_13 1 rfl ?_
    refine k_aload_n hx dX4_atRound_14 0 rfl ?_
    refine k_get (v := vI (M i 1)) hx fX4_21 dX4_atRound_15 hW.2.2.1 hW.1 rfl ?_
    refine k_isub hx dX4_atRound_18 ?_
    refine k_vp (rest := []) (e := (at0 w (z - M i 1))) hx vX4_37 dX4_atRound_19 (c_X4_at hW hw hc (z := z - M i 1) (by omega)) hW.2.2.1 hW.1 rfl rfl rfl ⟨rfl, rfl⟩ ⟨by decide, by decide⟩ ?_
    refine k_ri hx hr dX4_atRound_22 ?_
    exact ⟨by rw [he, if_neg (by omega)]; congr 1; omega, rfl⟩
  · refine k_iload_n hx dX4_atRound_9 1 rfl ?_
    refine k_goto hx dX4_atRound_10 ?_
    refine k_vp (rest := []) (e := (at0 w z)) hx vX4_37 dX4_atRound_19 (c_X4_at hW hw hc (z := z) (by omega)) hW.2.2.1 hW.1 rfl rfl rfl ⟨rfl, rfl⟩ ⟨by decide, by decide⟩ ?_
    refine k_ri hx hr dX4_atRound_22 ?_
    exact ⟨by rw [he, if_pos (by omega), hz]; rfl, rfl⟩
theorem c_X4_isLessFrom {g : GE} {l : Launch} {M : Mem} {i cap : Nat} {w : List Int} (hW : IsW i cap) (hw : Wd M i w) (hc : w.length ≤ cap) {a b : Nat} (ha : a < w.length) (hb : b < w.length) : Cp g l μX4_isLessFrom [vR g i, vI a, vI b] M (b2i (lexLt (rot w a) (rot w b))) := by
  refine Ci.of (by decide +kernel) rfl rfl (fun x hx hr => ?_)
  have hl := hw.1; have h480 := hW.2.2.2.2
  have ra := rot_len (Nat.le_of_lt ha)
  have rb := rot_len (Nat.le_of_lt hb)
  have loop : ∀ (f : Nat), ∀ (k : Nat) (z : Int), z = k → k ≤ w.length → w.length - k < f → lexLt (rot w a) (rot w b) = lexLt ((rot w a).drop k) ((rot w b).drop k) → K x g 0 0 LAY NN M 2 [(0, vR g i), (1, vI a), (2, vI b), (3, vI z)] [] := by
    intro f
    induction f with
    | zero => intro k z hz hk hf hlx; omega
    | succ f ih =>
      intro k z hz hk hf hlx
      refine k_iload_n hx dX4_isLessFrom_2 3 rfl ?_
      refine k_aload_n hx dX4_isLessFrom_3 0 rfl ?_
      refine k_get (v := vI (M i 1)) hx fX4_21 dX4_isLessFrom_4 hW.2.2.1 hW.1 rfl ?_
      refine k_icmp_ge hx dX4_isLessFrom_7 (by omega) (fun h_7 => ?_) (fun h_7 => ?_)
      · refine k_iconst hx dX4_isLessFrom_54 ?_
        refine k_rz hx hr dX4_isLessFrom_55 (by first | exact Or.inl rfl | exact Or.inr rfl | exact b2i_or _) ?_
        exact ⟨by rw [hlx, lexLt_end (by omega)]; rfl, rfl⟩
      · have c1 := op_cr (rot_cr hw.2.2 a) (k := k) (by omega)
        have c2 := op_cr (rot_cr hw.2.2 b) (k := k) (by omega)
        have hst := lexLt_step (u := rot w a) (v := rot w b) (k := k) (by omega) (by omega)
        refine k_aload_n hx dX4_isLessFrom_10 0 rfl ?_
        refine k_iload_n hx dX4_isLessFrom_11 1 rfl ?_
        refine k_iload_n hx dX4_isLessFrom_12 3 rfl ?_
        refine k_iadd hx dX4_isLessFrom_13 ?_
        refine k_vp (rest := []) (e := (at0 (rot w a) k)) hx vX4_55 dX4_isLessFrom_14 (c_X4_atRound hW hw hc (a := a) (k := k) (z := (a : Int) + z) (by omega) ha (by omega)) hW.2.2.1 hW.1 rfl rfl rfl ⟨rfl, rfl⟩ ⟨by decide, by decide⟩ ?_
        refine k_istore (ls' := [(0, vR g i), (1, vI a), (2, vI b), (3, vI z), (4, vI (at0 (rot w a) k))]) hx dX4_isLessFrom_17 rfl rfl (by decide) ?_
        refine k_aload_n hx dX4_isLessFrom_19 0 rfl ?_
        refine k_iload_n hx dX4_isLessFrom_20 2 rfl ?_
        refine k_iload_n hx dX4_isLessFrom_21 3 rfl ?_
        refine k_iadd hx dX4_isLessFrom_22 ?_
        refine k_vp (rest := []) (e := (at0 (rot w b) k)) hx vX4_55 dX4_isLessFrom_23 (c_X4_atRound hW hw hc (a := b) (k := k) (z := (b : Int) + z) (by omega) hb (by omega)) hW.2.2.1 hW.1 rfl rfl rfl ⟨rfl, rfl⟩ ⟨by decide, by decide⟩ ?_
        refine k_istore (ls' := [(0, vR g i), (1, vI a), (2, vI b), (3, vI z), (4, vI (at0 (rot w a) k)), (5, vI (at0 (rot w b) k))]) hx dX4_isLessFrom_26 rfl rfl (by decide) ?_
        refine k_iload hx dX4_isLessFrom_28 4 rfl ?_
        refine k_iload hx dX4_isLessFrom_30 5 rfl ?_
        refine k_icmp_eq hx dX4_isLessFrom_32 (by omega) (fun h_32 => ?_) (fun h_32 => ?_)
        · refine k_iinc (ls' := [(0, vR g i), (1, vI a), (2, vI b), (3, vI (z + 1)), (4, vI (at0 (rot w a) k)), (5, vI (at0 (rot w b) k))]) hx dX4_isLessFrom_48 3 rfl rfl rfl (by decide) ?_
          refine k_goto hx dX4_isLessFrom_51 ?_
          refine K.sub [0, 1, 2, 3] rfl ?_
          exact ih (k + 1) (z + 1) (by omega) (by omega) (by omega) (by rw [hlx, hst, if_pos h_32])
        · refine k_iload hx dX4_isLessFrom_35 4 rfl ?_
          refine k_iload hx dX4_isLessFrom_37 5 rfl ?_
          refine k_icmp_ge hx dX4_isLessFrom_39 (by omega) (fun h_39 => ?_) (fun h_39 => ?_)
          · refine k_iconst hx dX4_isLessFrom_46 ?_
            refine k_rz hx hr dX4_isLessFrom_47 (by first | exact Or.inl rfl | exact Or.inr rfl | exact b2i_or _) ?_
            exact ⟨by rw [hlx, hst, if_neg h_32]; first | exact b2i_t (by omega) | exact b2i_f (by omega), rfl⟩
          · refine k_iconst hx dX4_isLessFrom_42 ?_
            refine k_goto hx dX4_isLessFrom_43 ?_
            refine k_rz hx hr dX4_isLessFrom_47 (by first | exact Or.inl rfl | exact Or.inr rfl | exact b2i_or _) ?_
            exact ⟨by rw [hlx, hst, if_neg h_32]; first | exact b2i_t (by omega) | exact b2i_f (by omega), rfl⟩
  refine k_iconst hx dX4_isLessFrom_0 ?_
  refine k_istore_n (ls' := [(0, vR g i), (1, vI a), (2, vI b), (3, vI 0)]) hx dX4_isLessFrom_1 rfl rfl (by decide) ?_
  exact loop (w.length + 1) 0 0 rfl (by omega) (by omega) rfl
theorem c_X4_leastStart {g : GE} {l : Launch} {M : Mem} {i cap : Nat} {w : List Int} (hW : IsW i cap) (hw : Wd M i w) (hc : w.length ≤ cap) : Cp g l μX4_leastStart [vR g i] M (leastS w) := by
  refine Ci.of (by decide +kernel) rfl rfl (fun x hx hr => ?_)
  have hl := hw.1; have h480 := hW.2.2.2.2
  have loop : ∀ (f : Nat), ∀ (k : Nat) (y z : Int), z = k → 1 ≤ k → (k ≤ w.length ∨ k = 1) → w.length - k < f → y = lsF w k → K x g 0 0 LAY NN M 4 [(0, vR g i), (1, vI y), (2, vI z)] [] := by
    intro f
    induction f with
    | zero => intro k y z hz hk1 hk hf hy; omega
    | succ f ih =>
      intro k y z hz hk1 hk hf hy
      refine k_iload_n hx dX4_leastStart_4 2 rfl ?_
      refine k_aload_n hx dX4_leastStart_5 0 rfl ?_
      refine k_get (v := vI (M i 1)) hx fX4_21 dX4_leastStart_6 hW.2.2.1 hW.1 rfl ?_
      refine k_icmp_ge hx dX4_leastStart_9 (by omega) (fun h_9 => ?_) (fun h_9 => ?_)
      · refine k_iload_n hx dX4_leastStart_29 1 rfl ?_
        refine k_ri hx hr dX4_leastStart_30 ?_
        refine ⟨?_, rfl⟩
        rw [hy]
        by_cases hn : w.length = 0
        · have : k = 1 := by omega
          subst this
          rw [lsF_1]; unfold leastS; rw [hn]; rfl
        · have : k = w.length := by omega
          subst this
          rfl
      · have hb : lsF w k ≤ k - 1 := by have := lsF_lt w (k - 1); rwa [show k - 1 + 1 = k by omega] at this
        have hst : lsF w (k + 1) = if lexLt (rot w k) (rot w (lsF w k)) = true then k else lsF w k := rfl
        subst hy; subst hz
        refine k_aload_n hx dX4_leastStart_12 0 rfl ?_
        refine k_iload_n hx dX4_leastStart_13 2 rfl ?_
        refine k_iload_n hx dX4_leastStart_14 1 rfl ?_
        refine k_vp (rest := []) (e := (b2i (lexLt (rot w k) (rot w (lsF w k))))) hx vX4_51 dX4_leastStart_15 (c_X4_isLessFrom hW hw hc (a := k) (b := lsF w k) (by omega) (by omega)) hW.2.2.1 hW.1 rfl rfl rfl ⟨rfl, rfl⟩ ⟨by decide, by decide⟩ ?_
        refine k_ceq hx dX4_leastStart_18 (fun h_18 => ?_) (fun h_18 => ?_)
        · refine k_iinc (ls' := [(0, vR g i), (1, vI (lsF w k : Nat)), (2, vI ((k : Nat) + 1))]) hx dX4_leastStart_23 2 rfl rfl rfl (by decide) ?_
          refine k_goto hx dX4_leastStart_26 ?_
          exact ih (k + 1) _ ((k : Int) + 1) (by omega) (by omega) (by omega) (by omega) (by rw [hst, if_neg (by rw [h_18]; decide)])
        · refine k_iload_n hx dX4_leastStart_21 2 rfl ?_
          refine k_istore_n (ls' := [(0, vR g i), (1, vI (k : Nat)), (2, vI (k : Nat))]) hx dX4_leastStart_22 rfl rfl (by decide) ?_
          refine k_iinc (ls' := [(0, vR g i), (1, vI (k : Nat)), (2, vI ((k : Nat) + 1))]) hx dX4_leastStart_23 2 rfl rfl rfl (by decide) ?_
          refine k_goto hx dX4_leastStart_26 ?_
          exact ih (k + 1) _ ((k : Int) + 1) (by omega) (by omega) (by omega) (by omega) (by rw [hst, if_pos h_18])
  refine k_iconst hx dX4_leastStart_0 ?_
  refine k_istore_n (ls' := [(0, vR g i), (1, vI 0)]) hx dX4_leastStart_1 rfl rfl (by decide) ?_
  refine k_iconst hx dX4_leastStart_2 ?_
  refine k_istore_n (ls' := [(0, vR g i), (1, vI 0), (2, vI 1)]) hx dX4_leastStart_3 rfl rfl (by decide) ?_
  exact loop (w.length + 1) 1 0 1 rfl (by omega) (by omega) (by omega) (by rw [lsF_1]; rfl)
theorem c_X4_copyFromStart {g : GE} {l : Launch} {M : Mem} {i cap : Nat} (hW : IsW i cap) {j cj : Nat} {v : List Int} (hJ : IsW j cj) (hv : Wd M j v) (hcj : v.length ≤ cj) (hap : j ≠ i ∧ j ≠ i + 1 ∧ j + 1 ≠ i) (hsum : v.length ≤ cap) {a : Nat} (ha : a < v.length ∨ (v.length = 0 ∧ a = 0)) : Cv g l μX4_copyFromStart [vR g i, vR g j, vI a] M (fun M' => Wd M' i (rot v a) ∧ Off i M M') := by
  refine Cv.of (by decide +kernel) rfl rfl (fun x hx hr => ?_)
  have h480 := hW.2.2.2.2; have h480j := hJ.2.2.2.2
  have hrl : (rot v a).length = v.length := rot_len (by omega)
  have loop : ∀ (f : Nat), ∀ (k : Nat) (z : Int) (M' : Mem), z = k → k ≤ v.length → v.length - k < f → Wd M' i ((rot v a).take k) → Off i M M' → K x g 0 0 LAY NN M' 7 [(0, vR g i), (1, vR g j), (2, vI a), (3, vI z)] [] := by
    intro f
    induction f with
    | zero => intro k z M' hz hk hf hwd ho; omega
    | succ f ih =>
      intro k z M' hz hk hf hwd ho
      have hv' := hv.off ho hap.1 hap.2.1 hap.2.2
      refine k_iload_n hx dX4_copyFromStart_7 3 rfl ?_
      refine k_aload_n hx dX4_copyFromStart_8 1 rfl ?_
      refine k_get (v := vI v.length) hx fX4_21 dX4_copyFromStart_9 hJ.2.2.1 hJ.1 (congrArg vI (show M' j 1 = v.length from hv'.1)) ?_
      refine k_icmp_ge hx dX4_copyFromStart_12 (by omega) (fun h_12 => ?_) (fun h_12 => ?_)
      · refine k_rv hx hr dX4_copyFromStart_33 ?_
        exact ⟨by rwa [List.take_of_length_le (by omega)] at hwd, ho⟩
      · have c1 := op_cr (rot_cr hv.2.2 a) (k := k) (by omega)
        refine k_aload_n hx dX4_copyFromStart_15 0 rfl ?_
        refine k_aload_n hx dX4_copyFromStart_16 1 rfl ?_
        refine k_iload_n hx dX4_copyFromStart_17 2 rfl ?_
        refine k_iload_n hx dX4_copyFromStart_18 3 rfl ?_
        refine k_iadd hx dX4_copyFromStart_19 ?_
        refine k_vp (rest := [vR g i]) (e := (at0 (rot v a) k)) hx vX4_55 dX4_copyFromStart_20 (c_X4_atRound hJ hv' hcj (a := a) (k := k) (z := (a : Int) + z) (by omega) (by omega) (by omega)) hJ.2.2.1 hJ.1 rfl rfl rfl ⟨rfl, rfl⟩ ⟨by decide, by decide⟩ ?_
        refine k_vi (rest := []) hx vX4_29 dX4_copyFromStart_23 (c_X4_add hW hwd (by rw [List.length_take]; omega) (by rw [List.length_take]; omega) (c := at0 (rot v a) k) c1) hW.2.2.1 hW.1 rfl rfl rfl ⟨rfl, rfl⟩ ⟨by decide, by decide⟩ (fun z_23 M_23 p_23 => ?_)
        obtain ⟨rfl, p1, p2, p3⟩ := p_23
        rw [take_at0 (by omega)] at p1
        refine k_pop hx dX4_copyFromStart_26 rfl ?_
        refine k_iinc (ls' := [(0, vR g i), (1, vR g j), (2, vI a), (3, vI (z + 1))]) hx dX4_copyFromStart_27 3 rfl rfl rfl (by decide) ?_
        refine k_goto hx dX4_copyFromStart_30 ?_
        exact ih (k + 1) (z + 1) M_23 (by omega) (by omega) (by omega) p1 (ho.tr p2)
  refine k_aload_n hx dX4_copyFromStart_0 0 rfl ?_
  refine k_iconst hx dX4_copyFromStart_1 ?_
  refine k_putI (kz := 1) hx fX4_21 dX4_copyFromStart_2 hW.2.2.1 hW.1 rfl rfl (fun M_2 hM_2 => ?_)
  refine k_iconst hx dX4_copyFromStart_5 ?_
  refine k_istore_n (ls' := [(0, vR g i), (1, vR g j), (2, vI a), (3, vI 0)]) hx dX4_copyFromStart_6 rfl rfl (by decide) ?_
  exact loop (v.length + 1) 0 0 M_2 rfl (by omega) (by omega) (by subst hM_2; rw [List.take_zero]; exact Wd.nil) (by rw [hM_2]; exact off_up)
abbrev Per (w : List Int) (p : Nat) : Prop := ∀ k, k < w.length → p ≤ k → at0 w k = at0 w (k - p : Nat)

theorem c_X4_repeatsAfter {g : GE} {l : Launch} {M : Mem} {i cap : Nat} {w : List Int} (hW : IsW i cap) (hw : Wd M i w) (hc : w.length ≤ cap) {p : Nat} (hp : 1 ≤ p ∧ p ≤ w.length) : Cp g l μX4_repeatsAfter [vR g i, vI p] M (b2i (decide (Per w p))) := by
  refine Ci.of (by decide +kernel) rfl rfl (fun x hx hr => ?_)
  have hl := hw.1; have h480 := hW.2.2.2.2
  have loop : ∀ (f : Nat), ∀ (k : Nat) (z : Int), z = k → p ≤ k → k ≤ w.length → w.length - k < f → (∀ q, q < k → p ≤ q → at0 w q = at0 w (q - p : Nat)) → K x g 0 0 LAY NN M 2 [(0, vR g i), (1, vI p), (2, vI z)] [] := by
    intro f
    induction f with
    | zero => intro k z hz hpk hk hf hall; omega
    | succ f ih =>
      intro k z hz hpk hk hf hall
      refine k_iload_n hx dX4_repeatsAfter_2 2 rfl ?_
      refine k_aload_n hx dX4_repeatsAfter_3 0 rfl ?_
      refine k_get (v := vI (M i 1)) hx fX4_21 dX4_repeatsAfter_4 hW.2.2.1 hW.1 rfl ?_
      refine k_icmp_ge hx dX4_repeatsAfter_7 (by omega) (fun h_7 => ?_) (fun h_7 => ?_)
      · refine k_iconst hx dX4_repeatsAfter_33 ?_
        refine k_rz hx hr dX4_repeatsAfter_34 (by first | exact Or.inl rfl | exact Or.inr rfl | exact b2i_or _) ?_
        exact ⟨b2i_t (fun q h1 h2 => hall q (by omega) h2), rfl⟩
      · have c1 := op_cr hw.2.2 (k := k) (by omega)
        have c2 := op_cr hw.2.2 (k := k - p) (by omega)
        have e1 : at0 w z = at0 w k := by rw [hz]
        have e2 : at0 w (z - p) = at0 w (k - p : Nat) := by congr 1; omega
        refine k_aload_n hx dX4_repeatsAfter_10 0 rfl ?_
        refine k_iload_n hx dX4_repeatsAfter_11 2 rfl ?_
        refine k_vp (rest := []) (e := (at0 w z)) hx vX4_37 dX4_repeatsAfter_12 (c_X4_at hW hw hc (z := z) (by omega)) hW.2.2.1 hW.1 rfl rfl rfl ⟨rfl, rfl⟩ ⟨by decide, by decide⟩ ?_
        refine k_aload_n hx dX4_repeatsAfter_15 0 rfl ?_
        refine k_iload_n hx dX4_repeatsAfter_16 2 rfl ?_
        refine k_iload_n hx dX4_repeatsAfter_17 1 rfl ?_
        refine k_isub hx dX4_repeatsAfter_18 ?_
        refine k_vp (rest := [vI (at0 w z)]) (e := (at0 w (z - p))) hx vX4_37 dX4_repeatsAfter_19 (c_X4_at hW hw hc (z := z - p) (by omega)) hW.2.2.1 hW.1 rfl rfl rfl ⟨rfl, rfl⟩ ⟨by decide, by decide⟩ ?_
        refine k_icmp_eq hx dX4_repeatsAfter_22 (by omega) (fun h_22 => ?_) (fun h_22 => ?_)
        · refine k_iinc (ls' := [(0, vR g i), (1, vI p), (2, vI (z + 1))]) hx dX4_repeatsAfter_27 2 rfl rfl rfl (by decide) ?_
          refine k_goto hx dX4_repeatsAfter_30 ?_
          refine ih (k + 1) (z + 1) (by omega) (by omega) (by omega) (by omega) (fun q h1 h2 => ?_)
          by_cases hq : q = k
          · subst hq; rw [← e1, ← e2]; exact h_22
          · exact hall q (by omega) h2
        · refine k_iconst hx dX4_repeatsAfter_25 ?_
          refine k_rz hx hr dX4_repeatsAfter_26 (by first | exact Or.inl rfl | exact Or.inr rfl | exact b2i_or _) ?_
          exact ⟨b2i_f (fun h => h_22 (by rw [e1, e2]; exact h k (by omega) hpk)), rfl⟩
  refine k_iload_n hx dX4_repeatsAfter_0 1 rfl ?_
  refine k_istore_n (ls' := [(0, vR g i), (1, vI p), (2, vI p)]) hx dX4_repeatsAfter_1 rfl rfl (by decide) ?_
  exact loop (w.length + 1) p p rfl (by omega) (by omega) (by omega) (fun q h1 h2 => absurd h1 (by omega))
def pwF (w : List Int) : Nat → Nat → Nat
  | 0, _ => 0
  | f + 1, p => if w.length < p then 0 else if w.length % p = 0 ∧ Per w p then w.length / p else pwF w f (p + 1)
def power (w : List Int) : Nat := pwF w (w.length + 1) 1
theorem emod_nat {a b : Nat} : (a : Int) % (b : Int) = ((a % b : Nat) : Int) := (Int.natCast_emod a b).symm
theorem ediv_nat {a b : Nat} : (a : Int) / (b : Int) = ((a / b : Nat) : Int) := (Int.natCast_ediv a b).symm

theorem c_X4_power {g : GE} {l : Launch} {M : Mem} {i cap : Nat} {w : List Int} (hW : IsW i cap) (hw : Wd M i w) (hc : w.length ≤ cap) : Cp g l μX4_power [vR g i] M (power w) := by
  refine Ci.of (by decide +kernel) rfl rfl (fun x hx hr => ?_)
  have hl := hw.1; have h480 := hW.2.2.2.2
  have loop : ∀ (f : Nat), ∀ (p e : Nat) (z : Int), z = p → 1 ≤ p → w.length < e + p → pwF w e p = power w → p ≤ w.length + 1 → w.length + 2 - p ≤ f → K x g 0 0 LAY NN M 2 [(0, vR g i), (1, vI z)] [] := by
    intro f
    induction f with
    | zero => intro p e z hz hp he hpw hpl hf; exact absurd hf (by omega)
    | succ f ih =>
      intro p e z hz hp he hpw hpl hf
      refine k_iload_n hx dX4_power_2 1 rfl ?_
      refine k_aload_n hx dX4_power_3 0 rfl ?_
      refine k_get (v := vI (M i 1)) hx fX4_21 dX4_power_4 hW.2.2.1 hW.1 rfl ?_
      refine k_icmp_gt hx dX4_power_7 (by omega) (fun h_7 => ?_) (fun h_7 => ?_)
      · refine k_iconst hx dX4_power_40 ?_
        refine k_ri hx hr dX4_power_41 ?_
        refine ⟨?_, rfl⟩
        rw [← hpw]
        cases e with
        | zero => rfl
        | succ e => rw [pwF, if_pos (by omega)]; rfl
      · subst hz
        obtain ⟨e, rfl⟩ : ∃ e2, e = e2 + 1 := ⟨e - 1, by omega⟩
        rw [pwF, if_neg (by omega)] at hpw
        have hem := emod_nat (a := w.length) (b := p)
        have hed := ediv_nat (a := w.length) (b := p)
        rw [← hl] at hem hed
        refine k_aload_n hx dX4_power_10 0 rfl ?_
        refine k_get (v := vI (M i 1)) hx fX4_21 dX4_power_11 hW.2.2.1 hW.1 rfl ?_
        refine k_iload_n hx dX4_power_14 1 rfl ?_
        refine k_irem hx dX4_power_15 (by omega) ?_
        refine k_ifne hx dX4_power_16 (by rw [hem]; have := Nat.mod_lt w.length (show p > 0 by omega); omega) (fun h_16 => ?_) (fun h_16 => ?_)
        · refine k_iinc (ls' := [(0, vR g i), (1, vI ((p : Nat) + 1))]) hx dX4_power_34 1 rfl rfl rfl (by decide) ?_
          refine k_goto hx dX4_power_37 ?_
          exact ih (p + 1) e ((p : Int) + 1) (by omega) (by omega) (by omega) (by rw [← hpw, if_neg (fun q => by first | exact h_24 q.2 | (rw [hem] at h_16; omega))]) (by omega) (by omega)
        · refine k_aload_n hx dX4_power_19 0 rfl ?_
          refine k_iload_n hx dX4_power_20 1 rfl ?_
          refine k_vp (rest := []) (e := (b2i (decide (Per w p)))) hx vX4_58 dX4_power_21 (c_X4_repeatsAfter hW hw hc (p := p) (by omega)) hW.2.2.1 hW.1 rfl rfl rfl ⟨rfl, rfl⟩ ⟨by decide, by decide⟩ ?_
          refine k_beq hx dX4_power_24 (fun h_24 => ?_) (fun h_24 => ?_)
          · refine k_iinc (ls' := [(0, vR g i), (1, vI ((p : Nat) + 1))]) hx dX4_power_34 1 rfl rfl rfl (by decide) ?_
            refine k_goto hx dX4_power_37 ?_
            exact ih (p + 1) e ((p : Int) + 1) (by omega) (by omega) (by omega) (by rw [← hpw, if_neg (fun q => by first | exact h_24 q.2 | (rw [hem] at h_16; omega))]) (by omega) (by omega)
          · refine k_aload_n hx dX4_power_27 0 rfl ?_
            refine k_get (v := vI (M i 1)) hx fX4_21 dX4_power_28 hW.2.2.1 hW.1 rfl ?_
            refine k_iload_n hx dX4_power_31 1 rfl ?_
            refine k_idiv hx dX4_power_32 (by omega) ?_
            refine k_ri hx hr dX4_power_33 ?_
            exact ⟨by rw [hed, ← hpw, if_pos ⟨by rw [hem] at h_16; omega, h_24⟩], rfl⟩
  refine k_iconst hx dX4_power_0 ?_
  refine k_istore_n (ls' := [(0, vR g i), (1, vI 1)]) hx dX4_power_1 rfl rfl (by decide) ?_
  exact loop (w.length + 1) 1 (w.length + 1) 1 rfl (by omega) (by omega) rfl (by omega) (by omega)
end
section
/-! the class's word: posts, the first pair, windings, sameness -/
def bset (b0 b1 b2 b3 b4 b5 : Bool) : Int := b2i b0 + 2 * b2i b1 + 4 * b2i b2 + 8 * b2i b3 + 16 * b2i b4 + 32 * b2i b5
def occ (w : List Int) (p : Int) : Bool := w.any (fun c => decide (pst c = p))
/-- the set of the posts of a word -/
def pset (w : List Int) : Int := bset (occ w 0) (occ w 1) (occ w 2) (occ w 3) (occ w 4) (occ w 5)
theorem bset_rg (b0 b1 b2 b3 b4 b5 : Bool) : 0 ≤ bset b0 b1 b2 b3 b4 b5 ∧ bset b0 b1 b2 b3 b4 b5 < 64 := by
  cases b0 <;> cases b1 <;> cases b2 <;> cases b3 <;> cases b4 <;> cases b5 <;> decide
theorem occ_snoc (w : List Int) (c p : Int) : occ (w ++ [c]) p = (occ w p || decide (pst c = p)) := by simp [occ]
theorem pst_rg {c : Int} (h : 0 ≤ c ∧ c < 12) : 0 ≤ pst c ∧ pst c < 6 := by unfold pst; omega
theorem bset_or0 (b0 b1 b2 b3 b4 b5 : Bool) : zI (bset b0 b1 b2 b3 b4 b5) ||| (zI 1 <<< (zI 0 &&& 31)) = zI (bset true b1 b2 b3 b4 b5) := by
  cases b0 <;> cases b1 <;> cases b2 <;> cases b3 <;> cases b4 <;> cases b5 <;> decide +kernel
theorem bset_or1 (b0 b1 b2 b3 b4 b5 : Bool) : zI (bset b0 b1 b2 b3 b4 b5) ||| (zI 1 <<< (zI 1 &&& 31)) = zI (bset b0 true b2 b3 b4 b5) := by
  cases b0 <;> cases b1 <;> cases b2 <;> cases b3 <;> cases b4 <;> cases b5 <;> decide +kernel
theorem bset_or2 (b0 b1 b2 b3 b4 b5 : Bool) : zI (bset b0 b1 b2 b3 b4 b5) ||| (zI 1 <<< (zI 2 &&& 31)) = zI (bset b0 b1 true b3 b4 b5) := by
  cases b0 <;> cases b1 <;> cases b2 <;> cases b3 <;> cases b4 <;> cases b5 <;> decide +kernel
theorem bset_or3 (b0 b1 b2 b3 b4 b5 : Bool) : zI (bset b0 b1 b2 b3 b4 b5) ||| (zI 1 <<< (zI 3 &&& 31)) = zI (bset b0 b1 b2 true b4 b5) := by
  cases b0 <;> cases b1 <;> cases b2 <;> cases b3 <;> cases b4 <;> cases b5 <;> decide +kernel
theorem bset_or4 (b0 b1 b2 b3 b4 b5 : Bool) : zI (bset b0 b1 b2 b3 b4 b5) ||| (zI 1 <<< (zI 4 &&& 31)) = zI (bset b0 b1 b2 b3 true b5) := by
  cases b0 <;> cases b1 <;> cases b2 <;> cases b3 <;> cases b4 <;> cases b5 <;> decide +kernel
theorem bset_or5 (b0 b1 b2 b3 b4 b5 : Bool) : zI (bset b0 b1 b2 b3 b4 b5) ||| (zI 1 <<< (zI 5 &&& 31)) = zI (bset b0 b1 b2 b3 b4 true) := by
  cases b0 <;> cases b1 <;> cases b2 <;> cases b3 <;> cases b4 <;> cases b5 <;> decide +kernel
theorem pset_snoc {w : List Int} {c : Int} (h : 0 ≤ c ∧ c < 12) : zI (pset w) ||| (zI 1 <<< (zI (pst c) &&& 31)) = zI (pset (w ++ [c])) := by
  have h6 := pst_rg h
  unfold pset
  simp only [occ_snoc]
  rcases (show pst c = 0 ∨ pst c = 1 ∨ pst c = 2 ∨ pst c = 3 ∨ pst c = 4 ∨ pst c = 5 by omega) with e | e | e | e | e | e <;> rw [e]
  · rw [bset_or0]; simp
  · rw [bset_or1]; simp
  · rw [bset_or2]; simp
  · rw [bset_or3]; simp
  · rw [bset_or4]; simp
  · rw [bset_or5]; simp
/-- the first place at which two crossings cancel -/
def fpF (w : List Int) : Nat → Nat → Int
  | 0, _ => -6
  | f + 1, k => if k + 1 < w.length then (if at0 w k = op (at0 w (k + 1 : Nat)) then (k : Int) else fpF w f (k + 1)) else -6
def firstP (w : List Int) : Int := fpF w (w.length + 1) 0
def wndF (w : List Int) (p : Int) : Nat → Int
  | 0 => 0
  | k + 1 => wndF w p k + (if at0 w k = p then 1 else if at0 w k = op p then -1 else 0)
def wnd (w : List Int) (p : Int) : Int := wndF w p w.length
theorem wndF_rg (w : List Int) (p : Int) : ∀ k : Nat, -(k : Int) ≤ wndF w p k ∧ wndF w p k ≤ k
  | 0 => by simp [wndF]
  | k + 1 => by
    have := wndF_rg w p k
    rw [wndF]
    split
    · omega
    · split <;> omega

theorem c_X4_posts {g : GE} {l : Launch} {M : Mem} {i cap : Nat} {w : List Int} (hW : IsW i cap) (hw : Wd M i w) (hc : w.length ≤ cap) : Cp g l μX4_posts [vR g i] M (pset w) := by
  refine Ci.of (by decide +kernel) rfl rfl (fun x hx hr => ?_)
  have hl := hw.1; have h480 := hW.2.2.2.2
  have loop : ∀ (f : Nat), ∀ (k : Nat) (y z : Int), z = k → k ≤ w.length → w.length - k < f → y = pset (w.take k) → K x g 0 0 LAY NN M 4 [(0, vR g i), (1, vI y), (2, vI z)] [] := by
    intro f
    induction f with
    | zero => intro k y z hz hk hf hy; omega
    | succ f ih =>
      intro k y z hz hk hf hy
      refine k_iload_n hx dX4_posts_4 2 rfl ?_
      refine k_aload_n hx dX4_posts_5 0 rfl ?_
      refine k_get (v := vI (M i 1)) hx fX4_21 dX4_posts_6 hW.2.2.1 hW.1 rfl ?_
      refine k_icmp_ge hx dX4_posts_9 (by omega) (fun h_9 => ?_) (fun h_9 => ?_)
      · refine k_iload_n hx dX4_posts_32 1 rfl ?_
        refine k_ri hx hr dX4_posts_33 ?_
        exact ⟨by rw [hy, List.take_of_length_le (by omega)], rfl⟩
      · have e1 : M (i + 1) z = at0 w k := by rw [hz]; exact hw.atn (by omega)
        have c1 := op_cr hw.2.2 (k := k) (by omega)
        have hps := pset_snoc (w := w.take k) c1
        rw [take_at0 (by omega), ← hy] at hps
        refine k_iload_n hx dX4_posts_12 1 rfl ?_
        refine k_iconst hx dX4_posts_13 ?_
        refine k_aload_n hx dX4_posts_14 0 rfl ?_
        refine k_get (v := vR g (i + 1)) hx fX4_15 dX4_posts_15 hW.2.2.1 hW.1 rfl ?_
        refine k_iload_n hx dX4_posts_18 2 rfl ?_
        refine k_iald (v := (at0 w k)) hx dX4_posts_19 hW.2.2.2.1 hW.2.1 (by omega) (by have := hW.2.2.2.2; omega) (e1) ?_
        refine k_np (rest := [vI 1, vI y]) (e := (pst (at0 w k))) hx nX4_61 dX4_posts_20 (c_X5_postOf (z := (at0 w k)) (by omega)) rfl rfl rfl ⟨rfl, rfl⟩ ⟨by decide, by decide⟩ ?_
        refine k_ishl (v := zI ((zI 1 <<< (zI (pst (at0 w k)) &&& 31)).toInt)) hx dX4_posts_23 ((zI_of _).symm) ?_
        refine k_ior (v := zI (pset (w.take (k + 1)))) hx dX4_posts_24 (by rw [zI_of]; exact hps) ?_
        refine k_istore_n (ls' := [(0, vR g i), (1, vI (pset (w.take (k + 1)))), (2, vI z)]) hx dX4_posts_25 rfl rfl (by decide) ?_
        refine k_iinc (ls' := [(0, vR g i), (1, vI (pset (w.take (k + 1)))), (2, vI (z + 1))]) hx dX4_posts_26 2 rfl rfl rfl (by decide) ?_
        refine k_goto hx dX4_posts_29 ?_
        exact ih (k + 1) _ (z + 1) (by omega) (by omega) (by omega) rfl
  refine k_iconst hx dX4_posts_0 ?_
  refine k_istore_n (ls' := [(0, vR g i), (1, vI 0)]) hx dX4_posts_1 rfl rfl (by decide) ?_
  refine k_iconst hx dX4_posts_2 ?_
  refine k_istore_n (ls' := [(0, vR g i), (1, vI 0), (2, vI 0)]) hx dX4_posts_3 rfl rfl (by decide) ?_
  exact loop (w.length + 1) 0 0 0 rfl (by omega) (by omega) (by rw [List.take_zero]; rfl)
theorem c_X4_firstPair {g : GE} {l : Launch} {M : Mem} {i cap : Nat} {w : List Int} (hW : IsW i cap) (hw : Wd M i w) (hc : w.length ≤ cap) : Cp g l μX4_firstPair [vR g i] M (firstP w) := by
  refine Ci.of (by decide +kernel) rfl rfl (fun x hx hr => ?_)
  have hl := hw.1; have h480 := hW.2.2.2.2
  have loop : ∀ (f : Nat), ∀ (k e : Nat) (z : Int), z = k → k ≤ w.length → w.length < e + k → w.length + 1 - k ≤ f → fpF w e k = firstP w → K x g 0 0 LAY NN M 2 [(0, vR g i), (1, vI z)] [] := by
    intro f
    induction f with
    | zero => intro k e z hz hk he hf hfp; omega
    | succ f ih =>
      intro k e z hz hk he hf hfp
      refine k_iload_n hx dX4_firstPair_2 1 rfl ?_
      refine k_iconst hx dX4_firstPair_3 ?_
      refine k_iadd hx dX4_firstPair_4 ?_
      refine k_aload_n hx dX4_firstPair_5 0 rfl ?_
      refine k_get (v := vI (M i 1)) hx fX4_21 dX4_firstPair_6 hW.2.2.1 hW.1 rfl ?_
      refine k_icmp_ge hx dX4_firstPair_9 (by omega) (fun h_9 => ?_) (fun h_9 => ?_)
      · refine k_bipush hx dX4_firstPair_40 (by decide +kernel) ?_
        refine k_ri hx hr dX4_firstPair_42 ?_
        refine ⟨?_, rfl⟩
        rw [← hfp]
        cases e with
        | zero => rfl
        | succ e => rw [fpF, if_neg (by omega)]
      · obtain ⟨e, rfl⟩ : ∃ e2, e = e2 + 1 := ⟨e - 1, by omega⟩
        rw [fpF, if_pos (by omega)] at hfp
        have e1 : M (i + 1) z = at0 w k := by rw [hz]; exact hw.atn (by omega)
        have e2 : M (i + 1) (z + 1) = at0 w (k + 1 : Nat) := by rw [hz]; exact hw.atn (k := k + 1) (by omega)
        have c1 := op_cr hw.2.2 (k := k) (by omega)
        have c2 := op_cr hw.2.2 (k := k + 1) (by omega)
        have c3 := op_rg c2
        refine k_aload_n hx dX4_firstPair_12 0 rfl ?_
        refine k_get (v := vR g (i + 1)) hx fX4_15 dX4_firstPair_13 hW.2.2.1 hW.1 rfl ?_
        refine k_iload_n hx dX4_firstPair_16 1 rfl ?_
        refine k_iald (v := (at0 w k)) hx dX4_firstPair_17 hW.2.2.2.1 hW.2.1 (by omega) (by have := hW.2.2.2.2; omega) (e1) ?_
        refine k_aload_n hx dX4_firstPair_18 0 rfl ?_
        refine k_get (v := vR g (i + 1)) hx fX4_15 dX4_firstPair_19 hW.2.2.1 hW.1 rfl ?_
        refine k_iload_n hx dX4_firstPair_22 1 rfl ?_
        refine k_iconst hx dX4_firstPair_23 ?_
        refine k_iadd hx dX4_firstPair_24 ?_
        refine k_iald (v := (at0 w (k + 1 : Nat))) hx dX4_firstPair_25 hW.2.2.2.1 hW.2.1 (by omega) (by have := hW.2.2.2.2; omega) (e2) ?_
        refine k_np (rest := [vI (at0 w k)]) (e := (op (at0 w (k + 1 : Nat)))) hx nX4_25 dX4_firstPair_26 (c_X5_opposite (z := (at0 w (k + 1 : Nat))) (by omega)) rfl rfl rfl ⟨rfl, rfl⟩ ⟨by decide, by decide⟩ ?_
        refine k_icmp_ne hx dX4_firstPair_29 (by omega) (fun h_29 => ?_) (fun h_29 => ?_)
        · refine k_iinc (ls' := [(0, vR g i), (1, vI (z + 1))]) hx dX4_firstPair_34 1 rfl rfl rfl (by decide) ?_
          refine k_goto hx dX4_firstPair_37 ?_
          exact ih (k + 1) e (z + 1) (by omega) (by omega) (by omega) (by omega) (by rw [← hfp, if_neg h_29])
        · refine k_iload_n hx dX4_firstPair_32 1 rfl ?_
          refine k_ri hx hr dX4_firstPair_33 ?_
          exact ⟨by rw [← hfp, if_pos h_29]; exact hz, rfl⟩
  refine k_iconst hx dX4_firstPair_0 ?_
  refine k_istore_n (ls' := [(0, vR g i), (1, vI 0)]) hx dX4_firstPair_1 rfl rfl (by decide) ?_
  exact loop (w.length + 1) 0 (w.length + 1) 0 rfl (by omega) (by omega) (by omega) rfl
theorem c_X4_windings {g : GE} {l : Launch} {M : Mem} {i cap : Nat} {w : List Int} (hW : IsW i cap) (hw : Wd M i w) (hc : w.length ≤ cap) {p : Int} (hp : 0 ≤ p ∧ p < 6) : Cp g l μX4_windings [vR g i, vI p] M (wnd w p) := by
  refine Ci.of (by decide +kernel) rfl rfl (fun x hx hr => ?_)
  have hl := hw.1; have h480 := hW.2.2.2.2
  have hop := op_rg (c := p) (by omega)
  have loop : ∀ (f : Nat), ∀ (k : Nat) (y z : Int), z = k → k ≤ w.length → w.length - k < f → y = wndF w p k → K x g 0 0 LAY NN M 4 [(0, vR g i), (1, vI p), (2, vI y), (3, vI z)] [] := by
    intro f
    induction f with
    | zero => intro k y z hz hk hf hy; omega
    | succ f ih =>
      intro k y z hz hk hf hy
      refine k_iload_n hx dX4_windings_4 3 rfl ?_
      refine k_aload_n hx dX4_windings_5 0 rfl ?_
      refine k_get (v := vI (M i 1)) hx fX4_21 dX4_windings_6 hW.2.2.1 hW.1 rfl ?_
      refine k_icmp_ge hx dX4_windings_9 (by omega) (fun h_9 => ?_) (fun h_9 => ?_)
      · refine k_iload_n hx dX4_windings_50 2 rfl ?_
        refine k_ri hx hr dX4_windings_51 ?_
        exact ⟨by rw [hy, show k = w.length by omega]; rfl, rfl⟩
      · have e1 : M (i + 1) z = at0 w k := by rw [hz]; exact hw.atn (by omega)
        have c1 := op_cr hw.2.2 (k := k) (by omega)
        have hst : wndF w p (k + 1) = wndF w p k + (if at0 w k = p then 1 else if at0 w k = op p then -1 else 0) := rfl
        refine k_aload_n hx dX4_windings_12 0 rfl ?_
        refine k_get (v := vR g (i + 1)) hx fX4_15 dX4_windings_13 hW.2.2.1 hW.1 rfl ?_
        refine k_iload_n hx dX4_windings_16 3 rfl ?_
        refine k_iald (v := (at0 w k)) hx dX4_windings_17 hW.2.2.2.1 hW.2.1 (by omega) (by have := hW.2.2.2.2; omega) (e1) ?_
        refine k_iload_n hx dX4_windings_18 1 rfl ?_
        refine k_icmp_ne hx dX4_windings_19 (by omega) (fun h_19 => ?_) (fun h_19 => ?_)
        · refine k_aload_n hx dX4_windings_28 0 rfl ?_
          refine k_get (v := vR g (i + 1)) hx fX4_15 dX4_windings_29 hW.2.2.1 hW.1 rfl ?_
          refine k_iload_n hx dX4_windings_32 3 rfl ?_
          refine k_iald (v := (at0 w k)) hx dX4_windings_33 hW.2.2.2.1 hW.2.1 (by omega) (by have := hW.2.2.2.2; omega) (e1) ?_
          refine k_iload_n hx dX4_windings_34 1 rfl ?_
          refine k_np (rest := [vI (at0 w k)]) (e := (op p)) hx nX4_25 dX4_windings_35 (c_X5_opposite (z := p) (by omega)) rfl rfl rfl ⟨rfl, rfl⟩ ⟨by decide, by decide⟩ ?_
          refine k_icmp_ne hx dX4_windings_38 (by omega) (fun h_38 => ?_) (fun h_38 => ?_)
          · refine k_iinc (ls' := [(0, vR g i), (1, vI p), (2, vI y), (3, vI (z + 1))]) hx dX4_windings_44 3 rfl rfl rfl (by decide) ?_
            refine k_goto hx dX4_windings_47 ?_
            exact ih (k + 1) _ (z + 1) (by omega) (by omega) (by omega) (by rw [hst, hy]; rw [if_neg h_19, if_neg h_38]; omega)
          · refine k_iinc (ls' := [(0, vR g i), (1, vI p), (2, vI (y + (-1))), (3, vI z)]) hx dX4_windings_41 2 rfl rfl rfl (by decide) ?_
            refine k_iinc (ls' := [(0, vR g i), (1, vI p), (2, vI (y + (-1))), (3, vI (z + 1))]) hx dX4_windings_44 3 rfl rfl rfl (by decide) ?_
            refine k_goto hx dX4_windings_47 ?_
            exact ih (k + 1) _ (z + 1) (by omega) (by omega) (by omega) (by rw [hst, hy]; rw [if_neg h_19, if_pos h_38])
        · refine k_iinc (ls' := [(0, vR g i), (1, vI p), (2, vI (y + 1)), (3, vI z)]) hx dX4_windings_22 2 rfl rfl rfl (by decide) ?_
          refine k_goto hx dX4_windings_25 ?_
          refine k_iinc (ls' := [(0, vR g i), (1, vI p), (2, vI (y + 1)), (3, vI (z + 1))]) hx dX4_windings_44 3 rfl rfl rfl (by decide) ?_
          refine k_goto hx dX4_windings_47 ?_
          exact ih (k + 1) _ (z + 1) (by omega) (by omega) (by omega) (by rw [hst, hy]; rw [if_pos h_19])
  refine k_iconst hx dX4_windings_0 ?_
  refine k_istore_n (ls' := [(0, vR g i), (1, vI p), (2, vI 0)]) hx dX4_windings_1 rfl rfl (by decide) ?_
  refine k_iconst hx dX4_windings_2 ?_
  refine k_istore_n (ls' := [(0, vR g i), (1, vI p), (2, vI 0), (3, vI 0)]) hx dX4_windings_3 rfl rfl (by decide) ?_
  exact loop (w.length + 1) 0 0 0 rfl (by omega) (by omega) rfl
theorem c_X4_isSameAs {g : GE} {l : Launch} {M : Mem} {i cap : Nat} {w : List Int} (hW : IsW i cap) (hw : Wd M i w) (hc : w.length ≤ cap) {j cj : Nat} {v : List Int} (hJ : IsW j cj) (hv : Wd M j v) (hcj : v.length ≤ cj) : Cp g l μX4_isSameAs [vR g i, vR g j] M (b2i (decide (w = v))) := by
  refine Ci.of (by decide +kernel) rfl rfl (fun x hx hr => ?_)
  have hl := hw.1; have h480 := hW.2.2.2.2; have hlv := hv.1; have h480j := hJ.2.2.2.2
  have loop : ∀ (f : Nat), ∀ (k : Nat) (z : Int), w.length = v.length → z = k → k ≤ w.length → w.length - k < f → (∀ q : Nat, q < k → at0 w q = at0 v q) → K x g 0 0 LAY NN M 15 [(0, vR g i), (1, vR g j), (2, vI z)] [] := by
    intro f
    induction f with
    | zero => intro k z hwv hz hk hf hq; omega
    | succ f ih =>
      intro k z hwv hz hk hf hq
      refine k_iload_n hx dX4_isSameAs_15 2 rfl ?_
      refine k_aload_n hx dX4_isSameAs_16 0 rfl ?_
      refine k_get (v := vI (M i 1)) hx fX4_21 dX4_isSameAs_17 hW.2.2.1 hW.1 rfl ?_
      refine k_icmp_ge hx dX4_isSameAs_20 (by omega) (fun h_20 => ?_) (fun h_20 => ?_)
      · refine k_iconst hx dX4_isSameAs_44 ?_
        refine k_rz hx hr dX4_isSameAs_45 (by first | exact Or.inl rfl | exact Or.inr rfl | exact b2i_or _) ?_
        exact ⟨b2i_t (ext_at0 hwv (fun q h => hq q (by omega))), rfl⟩
      · have c1 := op_cr hw.2.2 (k := k) (by omega)
        have c2 := op_cr hv.2.2 (k := k) (by omega)
        have e1 : at0 w z = at0 w k := by rw [hz]
        have e2 : at0 v z = at0 v k := by rw [hz]
        refine k_aload_n hx dX4_isSameAs_23 0 rfl ?_
        refine k_iload_n hx dX4_isSameAs_24 2 rfl ?_
        refine k_vp (rest := []) (e := (at0 w z)) hx vX4_37 dX4_isSameAs_25 (c_X4_at hW hw hc (z := z) (by omega)) hW.2.2.1 hW.1 rfl rfl rfl ⟨rfl, rfl⟩ ⟨by decide, by decide⟩ ?_
        refine k_aload_n hx dX4_isSameAs_28 1 rfl ?_
        refine k_iload_n hx dX4_isSameAs_29 2 rfl ?_
        refine k_vp (rest := [vI (at0 w z)]) (e := (at0 v z)) hx vX4_37 dX4_isSameAs_30 (c_X4_at hJ hv hcj (z := z) (by omega)) hJ.2.2.1 hJ.1 rfl rfl rfl ⟨rfl, rfl⟩ ⟨by decide, by decide⟩ ?_
        refine k_icmp_eq hx dX4_isSameAs_33 (by omega) (fun h_33 => ?_) (fun h_33 => ?_)
        · refine k_iinc (ls' := [(0, vR g i), (1, vR g j), (2, vI (z + 1))]) hx dX4_isSameAs_38 2 rfl rfl rfl (by decide) ?_
          refine k_goto hx dX4_isSameAs_41 ?_
          refine ih (k + 1) (z + 1) hwv (by omega) (by omega) (by omega) (fun q h1 => ?_)
          by_cases hqk : q = k
          · subst hqk; rw [← e1, ← e2]; exact h_33
          · exact hq q (by omega)
        · refine k_iconst hx dX4_isSameAs_36 ?_
          refine k_rz hx hr dX4_isSameAs_37 (by first | exact Or.inl rfl | exact Or.inr rfl | exact b2i_or _) ?_
          exact ⟨b2i_f (fun h => h_33 (by rw [h])), rfl⟩
  refine k_aload_n hx dX4_isSameAs_0 0 rfl ?_
  refine k_get (v := vI (M i 1)) hx fX4_21 dX4_isSameAs_1 hW.2.2.1 hW.1 rfl ?_
  refine k_aload_n hx dX4_isSameAs_4 1 rfl ?_
  refine k_get (v := vI (M j 1)) hx fX4_21 dX4_isSameAs_5 hJ.2.2.1 hJ.1 rfl ?_
  refine k_icmp_eq hx dX4_isSameAs_8 (by omega) (fun h_8 => ?_) (fun h_8 => ?_)
  · refine k_iconst hx dX4_isSameAs_13 ?_
    refine k_istore_n (ls' := [(0, vR g i), (1, vR g j), (2, vI 0)]) hx dX4_isSameAs_14 rfl rfl (by decide) ?_
    exact loop (w.length + 1) 0 0 (by omega) rfl (by omega) (by omega) (fun q h => absurd h (by omega))
  · refine k_iconst hx dX4_isSameAs_11 ?_
    refine k_rz hx hr dX4_isSameAs_12 (by first | exact Or.inl rfl | exact Or.inr rfl | exact b2i_or _) ?_
    exact ⟨b2i_f (fun h => h_8 (by rw [h] at hl; omega)), rfl⟩
end
section
/-! states, and the past -/
abbrev Ab : Type := List Int × List (List Int)
def OkA (A : Ab) : Prop := A.1.length = 6 ∧ A.2.length = 4 ∧ (∀ p : Nat, p < 6 → 1 ≤ A.1.getD p 0 ∧ A.1.getD p 0 ≤ 99) ∧ (∀ r : Nat, r < 4 → Cr (A.2.getD r []) ∧ (A.2.getD r []).length ≤ 120)
def Sd (M : Mem) (s : Nat) (A : Ab) : Prop := OkA A ∧ (∀ p : Nat, p < 6 → M (s + 1) p = A.1.getD p 0) ∧ (∀ r : Nat, r < 4 → Wd M (s + 3 + 2 * r) (A.2.getD r []))
def OffS (s : Nat) (M M' : Mem) : Prop := ∀ a, (a < s ∨ s + 11 ≤ a) → M' a = M a
theorem OffS.rf {s : Nat} {M : Mem} : OffS s M M := fun _ _ => rfl
theorem OffS.tr {s : Nat} {M M' M'' : Mem} (h : OffS s M M') (k : OffS s M' M'') : OffS s M M'' := fun a h1 => (k a h1).trans (h a h1)
theorem IsS.w {s k : Nat} (h : IsS s) (hk : k < 4) : IsW (s + 3 + 2 * k) 120 := by
  obtain ⟨-, -, -, -, -, -, h0, h1, h2, h3⟩ := h
  rcases (show k = 0 ∨ k = 1 ∨ k = 2 ∨ k = 3 by omega) with rfl | rfl | rfl | rfl
  · exact h0
  · exact h1
  · exact h2
  · exact h3
theorem ropes_at {s k : Nat} {z : Int} (hz : z = k) (hk : k < 4) : ([some (s + 3), some (s + 5), some (s + 7), some (s + 9)] : List (Option Nat)).getD z.toNat none = some (s + 3 + 2 * k) := by
  subst hz
  rcases (show k = 0 ∨ k = 1 ∨ k = 2 ∨ k = 3 by omega) with rfl | rfl | rfl | rfl <;> rfl
theorem Wd.same {M M' : Mem} {i : Nat} {w : List Int} (h : Wd M i w) (h1 : M' i = M i) (h2 : M' (i + 1) = M (i + 1)) : Wd M' i w := by
  unfold Wd; rw [h1, h2]; exact h
theorem Sd.same {M M' : Mem} {s : Nat} {A : Ab} (h : Sd M s A) (ho : ∀ a, s ≤ a → a < s + 11 → M' a = M a) : Sd M' s A :=
  ⟨h.1, fun p hp => by rw [ho _ (by omega) (by omega)]; exact h.2.1 p hp, fun r hr => (h.2.2 r hr).same (ho _ (by omega) (by omega)) (ho _ (by omega) (by omega))⟩
def allC (A : Ab) : Int := (A.2.getD 0 []).length + (A.2.getD 1 []).length + (A.2.getD 2 []).length + (A.2.getD 3 []).length
def wsF (ws : List Int) (w : List Int) : Nat → Int
  | 0 => 0
  | k + 1 => wsF ws w k + ws.getD (pst (at0 w k)).toNat 0
def wsum (ws w : List Int) : Int := wsF ws w w.length
theorem wsF_rg {ws w : List Int} (h1 : ∀ p : Nat, p < 6 → 1 ≤ ws.getD p 0 ∧ ws.getD p 0 ≤ 99) (h2 : Cr w) : ∀ k : Nat, k ≤ w.length → 0 ≤ wsF ws w k ∧ wsF ws w k ≤ 99 * k
  | 0, _ => by simp [wsF]
  | k + 1, hk => by
    have h3 := wsF_rg h1 h2 k (by omega)
    have h4 := pst_rg (op_cr h2 (k := k) (by omega))
    have h5 := h1 (pst (at0 w k)).toNat (by omega)
    rw [wsF]
    omega

theorem c_X3_copyFrom {g : GE} {l : Launch} {M : Mem} {s t : Nat} {A : Ab} (hS : IsS s) (hT : IsS t) (hA : Sd M t A) (hap : s + 11 ≤ t ∨ t + 11 ≤ s) : Cv g l μX3_copyFrom [vR g s, vR g t] M (fun M' => Sd M' s A ∧ OffS s M M') := by
  refine Cv.of (by decide +kernel) rfl rfl (fun x hx hr => ?_)
  have loop2 : ∀ (f : Nat), ∀ (k : Nat) (z : Int) (M' : Mem), z = k → k ≤ 4 → 4 - k < f → (∀ p : Nat, p < 6 → M' (s + 1) p = A.1.getD p 0) → (∀ r : Nat, r < k → Wd M' (s + 3 + 2 * r) (A.2.getD r [])) → OffS s M M' → K x g 0 0 LAY NN M' 28 [(0, vR g s), (1, vR g t), (2, vI z)] [] := by
    intro f
    induction f with
    | zero => intro k z M' hz hk hf hp hr2 ho; omega
    | succ f ih =>
      intro k z M' hz hk hf hp hr2 ho
      refine k_iload_n hx dX3_copyFrom_28 2 rfl ?_
      refine k_iconst hx dX3_copyFrom_29 ?_
      refine k_icmp_ge hx dX3_copyFrom_30 (by omega) (fun h_30 => ?_) (fun h_30 => ?_)
      · refine k_rv hx hr dX3_copyFrom_54 ?_
        exact ⟨⟨hA.1, hp, fun r hr4 => hr2 r (by omega)⟩, ho⟩
      · have hk4 : k < 4 := by omega
        have hv := (hA.same (M' := M') (fun a h1 h2 => ho a (by omega))).2.2 k hk4
        have hvl := (hA.1.2.2.2 k hk4).2
        refine k_aload_n hx dX3_copyFrom_33 0 rfl ?_
        refine k_get (v := vR g (s + 2)) hx fX3_17 dX3_copyFrom_34 hS.2.2.2.1 hS.1 rfl ?_
        refine k_iload_n hx dX3_copyFrom_37 2 rfl ?_
        refine k_aald (q := (s + 3 + 2 * k)) hx dX3_copyFrom_38 hS.2.2.2.2.2.1 hS.2.2.1 (by decide) (by simp only [List.length_cons, List.length_nil]; omega) (Nat.le_of_ble_eq_true rfl) (ropes_at hz hk4) ?_
        refine k_aload_n hx dX3_copyFrom_39 1 rfl ?_
        refine k_get (v := vR g (t + 2)) hx fX3_17 dX3_copyFrom_40 hT.2.2.2.1 hT.1 rfl ?_
        refine k_iload_n hx dX3_copyFrom_43 2 rfl ?_
        refine k_aald (q := (t + 3 + 2 * k)) hx dX3_copyFrom_44 hT.2.2.2.2.2.1 hT.2.2.1 (by decide) (by simp only [List.length_cons, List.length_nil]; omega) (Nat.le_of_ble_eq_true rfl) (ropes_at hz hk4) ?_
        refine k_vv (rest := []) hx vX3_24 dX3_copyFrom_45 (c_X4_copyFrom (hS.w hk4) (hT.w hk4) hv hvl (by omega) hvl) (hS.w hk4).2.2.1 (hS.w hk4).1 rfl rfl rfl ⟨rfl, rfl⟩ ⟨by decide, by decide⟩ (fun M_45 p_45 => ?_)
        refine k_iinc (ls' := [(0, vR g s), (1, vR g t), (2, vI (z + 1))]) hx dX3_copyFrom_48 2 rfl rfl rfl (by decide) ?_
        refine k_goto hx dX3_copyFrom_51 ?_
        refine ih (k + 1) (z + 1) M_45 (by omega) (by omega) (by omega) (fun p hp6 => by rw [p_45.2 _ (by omega) (by omega)]; exact hp p hp6) (fun r hrk => ?_) (ho.tr (fun a ha => p_45.2 a (by omega) (by omega)))
        by_cases hrk2 : r = k
        · subst hrk2; exact p_45.1
        · exact (hr2 r (by omega)).same (p_45.2 _ (by omega) (by omega)) (p_45.2 _ (by omega) (by omega))
  have loop1 : ∀ (f : Nat), ∀ (k : Nat) (z : Int) (M' : Mem), z = k → k ≤ 6 → 6 - k < f → (∀ p : Nat, p < k → M' (s + 1) p = A.1.getD p 0) → OffS s M M' → K x g 0 0 LAY NN M' 2 [(0, vR g s), (1, vR g t), (2, vI z)] [] := by
    intro f
    induction f with
    | zero => intro k z M' hz hk hf hp ho; omega
    | succ f ih =>
      intro k z M' hz hk hf hp ho
      refine k_iload_n hx dX3_copyFrom_2 2 rfl ?_
      refine k_bipush hx dX3_copyFrom_3 (by decide +kernel) ?_
      refine k_icmp_ge hx dX3_copyFrom_5 (by omega) (fun h_5 => ?_) (fun h_5 => ?_)
      · refine K.sub [0, 1] rfl ?_
        refine k_iconst hx dX3_copyFrom_26 ?_
        refine k_istore_n (ls' := [(0, vR g s), (1, vR g t), (2, vI 0)]) hx dX3_copyFrom_27 rfl rfl (by decide) ?_
        exact loop2 5 0 0 M' rfl (by omega) (by omega) (fun p hp6 => hp p (by omega)) (fun r hr => absurd hr (by omega)) ho
      · refine k_aload_n hx dX3_copyFrom_8 0 rfl ?_
        refine k_get (v := vR g (s + 1)) hx fX3_9 dX3_copyFrom_9 hS.2.2.2.1 hS.1 rfl ?_
        refine k_iload_n hx dX3_copyFrom_12 2 rfl ?_
        refine k_aload_n hx dX3_copyFrom_13 1 rfl ?_
        refine k_get (v := vR g (t + 1)) hx fX3_9 dX3_copyFrom_14 hT.2.2.2.1 hT.1 rfl ?_
        refine k_iload_n hx dX3_copyFrom_17 2 rfl ?_
        refine k_iald (v := (A.1.getD k 0)) hx dX3_copyFrom_18 hT.2.2.2.2.1 hT.2.1 (by omega) (by decide) (by rw [ho _ (by omega), hz]; exact hA.2.1 k (by omega)) ?_
        refine k_iastN hx dX3_copyFrom_19 hS.2.2.2.2.1 hS.2.1 (by omega) (by decide) (fun M_19 hM_19 => ?_)
        refine k_iinc (ls' := [(0, vR g s), (1, vR g t), (2, vI (z + 1))]) hx dX3_copyFrom_20 2 rfl rfl rfl (by decide) ?_
        refine k_goto hx dX3_copyFrom_23 ?_
        refine ih (k + 1) (z + 1) M_19 (by omega) (by omega) (by omega) (fun p hpk => ?_) (ho.tr (fun a ha => by rw [hM_19, up_i (by omega)]))
        rw [hM_19]
        by_cases hpk2 : p = k
        · subst hpk2; rw [← hz, up_s]
        · rw [up_k (by omega)]; exact hp p (by omega)
  refine k_iconst hx dX3_copyFrom_0 ?_
  refine k_istore_n (ls' := [(0, vR g s), (1, vR g t), (2, vI 0)]) hx dX3_copyFrom_1 rfl rfl (by decide) ?_
  exact loop1 7 0 0 M rfl (by omega) (by omega) (fun p hp => absurd hp (by omega)) OffS.rf
theorem c_X3_allCrossings {g : GE} {l : Launch} {M : Mem} {s : Nat} {A : Ab} (hS : IsS s) (hA : Sd M s A) : Cp g l μX3_allCrossings [vR g s] M (allC A) := by
  refine Ci.of (by decide +kernel) rfl rfl (fun x hx hr => ?_)
  have l0 := (hA.2.2 0 (by decide)).1; have l1 := (hA.2.2 1 (by decide)).1; have l2 := (hA.2.2 2 (by decide)).1; have l3 := (hA.2.2 3 (by decide)).1
  have m0 := (hA.1.2.2.2 0 (by decide)).2; have m1 := (hA.1.2.2.2 1 (by decide)).2; have m2 := (hA.1.2.2.2 2 (by decide)).2; have m3 := (hA.1.2.2.2 3 (by decide)).2
  have loop : ∀ (f : Nat), ∀ (k : Nat) (y z : Int), z = k → k ≤ 4 → 4 - k < f → y = (if 0 < k then ((A.2.getD 0 []).length : Int) else 0) + (if 1 < k then ((A.2.getD 1 []).length : Int) else 0) + (if 2 < k then ((A.2.getD 2 []).length : Int) else 0) + (if 3 < k then ((A.2.getD 3 []).length : Int) else 0) → K x g 0 0 LAY NN M 4 [(0, vR g s), (1, vI y), (2, vI z)] [] := by
    intro f
    induction f with
    | zero => intro k y z hz hk hf hy; omega
    | succ f ih =>
      intro k y z hz hk hf hy
      refine k_iload_n hx dX3_allCrossings_4 2 rfl ?_
      refine k_iconst hx dX3_allCrossings_5 ?_
      refine k_icmp_ge hx dX3_allCrossings_6 (by omega) (fun h_6 => ?_) (fun h_6 => ?_)
      · refine k_iload_n hx dX3_allCrossings_27 1 rfl ?_
        refine k_ri hx hr dX3_allCrossings_28 ?_
        refine ⟨?_, rfl⟩
        rw [hy, show k = 4 by omega]; simp [allC]
      · have hk4 : k < 4 := by omega
        refine k_iload_n hx dX3_allCrossings_9 1 rfl ?_
        refine k_aload_n hx dX3_allCrossings_10 0 rfl ?_
        refine k_get (v := vR g (s + 2)) hx fX3_17 dX3_allCrossings_11 hS.2.2.2.1 hS.1 rfl ?_
        refine k_iload_n hx dX3_allCrossings_14 2 rfl ?_
        refine k_aald (q := (s + 3 + 2 * k)) hx dX3_allCrossings_15 hS.2.2.2.2.2.1 hS.2.2.1 (by decide) (by simp only [List.length_cons, List.length_nil]; omega) (Nat.le_of_ble_eq_true rfl) (ropes_at hz hk4) ?_
        refine k_get (v := vI ((A.2.getD k []).length)) hx fX3_28 dX3_allCrossings_16 (hS.w hk4).2.2.1 (hS.w hk4).1 (congrArg vI (show M (s + 3 + 2 * k) 1 = ((A.2.getD k []).length) from (hA.2.2 k hk4).1)) ?_
        refine k_iadd hx dX3_allCrossings_19 ?_
        refine k_istore_n (ls' := [(0, vR g s), (1, vI (y + ((A.2.getD k []).length))), (2, vI z)]) hx dX3_allCrossings_20 rfl rfl (by decide) ?_
        refine k_iinc (ls' := [(0, vR g s), (1, vI (y + ((A.2.getD k []).length))), (2, vI (z + 1))]) hx dX3_allCrossings_21 2 rfl rfl rfl (by decide) ?_
        refine k_goto hx dX3_allCrossings_24 ?_
        refine ih (k + 1) _ (z + 1) (by omega) (by omega) (by omega) ?_
        rw [hy]
        rcases (show k = 0 ∨ k = 1 ∨ k = 2 ∨ k = 3 by omega) with rfl | rfl | rfl | rfl <;> simp <;> omega
  refine k_iconst hx dX3_allCrossings_0 ?_
  refine k_istore_n (ls' := [(0, vR g s), (1, vI 0)]) hx dX3_allCrossings_1 rfl rfl (by decide) ?_
  refine k_iconst hx dX3_allCrossings_2 ?_
  refine k_istore_n (ls' := [(0, vR g s), (1, vI 0), (2, vI 0)]) hx dX3_allCrossings_3 rfl rfl (by decide) ?_
  exact loop 5 0 0 0 rfl (by omega) (by omega) (by simp)
theorem c_X3_widthsAlong {g : GE} {l : Launch} {M : Mem} {s j cj : Nat} {A : Ab} {v : List Int} (hS : IsS s) (hA : Sd M s A) (hJ : IsW j cj) (hv : Wd M j v) (hcj : v.length ≤ cj) : Cp g l μX3_widthsAlong [vR g s, vR g j] M (wsum A.1 v) := by
  refine Ci.of (by decide +kernel) rfl rfl (fun x hx hr => ?_)
  have hlv := hv.1; have h480j := hJ.2.2.2.2
  have loop : ∀ (f : Nat), ∀ (k : Nat) (y z : Int), z = k → k ≤ v.length → v.length - k < f → y = wsF A.1 v k → K x g 0 0 LAY NN M 4 [(0, vR g s), (1, vR g j), (2, vI y), (3, vI z)] [] := by
    intro f
    induction f with
    | zero => intro k y z hz hk hf hy; omega
    | succ f ih =>
      intro k y z hz hk hf hy
      refine k_iload_n hx dX3_widthsAlong_4 3 rfl ?_
      refine k_aload_n hx dX3_widthsAlong_5 1 rfl ?_
      refine k_get (v := vI (M j 1)) hx fX3_28 dX3_widthsAlong_6 hJ.2.2.1 hJ.1 rfl ?_
      refine k_icmp_ge hx dX3_widthsAlong_9 (by omega) (fun h_9 => ?_) (fun h_9 => ?_)
      · refine k_iload_n hx dX3_widthsAlong_50 2 rfl ?_
        refine k_ri hx hr dX3_widthsAlong_51 ?_
        exact ⟨by rw [hy, show k = v.length by omega]; rfl, rfl⟩
      · have c1 := op_cr hv.2.2 (k := k) (by omega)
        have c2 := pst_rg c1
        have e1 : at0 v z = at0 v k := by rw [hz]
        rw [← e1] at c1 c2
        have e2 : M (s + 1) (pst (at0 v z)) = A.1.getD (pst (at0 v k)).toNat 0 := by
          have := hA.2.1 (pst (at0 v z)).toNat (by omega)
          rw [show (((pst (at0 v z)).toNat : Nat) : Int) = pst (at0 v z) by omega] at this
          rw [this, e1]
        have hst : wsF A.1 v (k + 1) = wsF A.1 v k + A.1.getD (pst (at0 v k)).toNat 0 := rfl
        refine k_aload_n hx dX3_widthsAlong_12 1 rfl ?_
        refine k_iload_n hx dX3_widthsAlong_13 3 rfl ?_
        refine k_vp (rest := []) (e := (at0 v z)) hx vX3_32 dX3_widthsAlong_14 (c_X4_at hJ hv hcj (z := z) (by omega)) hJ.2.2.1 hJ.1 rfl rfl rfl ⟨rfl, rfl⟩ ⟨by decide, by decide⟩ ?_
        refine k_np (rest := []) (e := (pst (at0 v z))) hx nX3_36 dX3_widthsAlong_17 (c_X5_postOf (z := (at0 v z)) (by omega)) rfl rfl rfl ⟨rfl, rfl⟩ ⟨by decide, by decide⟩ ?_
        refine k_istore (ls' := [(0, vR g s), (1, vR g j), (2, vI y), (3, vI z), (4, vI (pst (at0 v z)))]) hx dX3_widthsAlong_20 rfl rfl (by decide) ?_
        refine k_iload_n hx dX3_widthsAlong_22 2 rfl ?_
        refine k_iload hx dX3_widthsAlong_23 4 rfl ?_
        refine k_np (rest := [vI y]) (e := (b2i (decide (0 ≤ (pst (at0 v z)) ∧ (pst (at0 v z)) < 6)))) hx nX3_39 dX3_widthsAlong_25 (c_X5_isPost (z := (pst (at0 v z))) (by omega)) rfl rfl rfl ⟨rfl, rfl⟩ ⟨by decide, by decide⟩ ?_
        refine k_beq hx dX3_widthsAlong_28 (fun h_28 => absurd h_28 (by omega)) (fun h_28 => ?_)
        refine k_aload_n hx dX3_widthsAlong_31 0 rfl ?_
        refine k_get (v := vR g (s + 1)) hx fX3_9 dX3_widthsAlong_32 hS.2.2.2.1 hS.1 rfl ?_
        refine k_iload hx dX3_widthsAlong_35 4 rfl ?_
        refine k_iald (v := (A.1.getD (pst (at0 v k)).toNat 0)) hx dX3_widthsAlong_37 hS.2.2.2.2.1 hS.2.1 (by omega) (by decide) (e2) ?_
        refine k_goto hx dX3_widthsAlong_38 ?_
        refine k_iadd hx dX3_widthsAlong_42 ?_
        refine k_istore_n (ls' := [(0, vR g s), (1, vR g j), (2, vI (y + (A.1.getD (pst (at0 v k)).toNat 0))), (3, vI z), (4, vI (pst (at0 v z)))]) hx dX3_widthsAlong_43 rfl rfl (by decide) ?_
        refine k_iinc (ls' := [(0, vR g s), (1, vR g j), (2, vI (y + (A.1.getD (pst (at0 v k)).toNat 0))), (3, vI (z + 1)), (4, vI (pst (at0 v z)))]) hx dX3_widthsAlong_44 3 rfl rfl rfl (by decide) ?_
        refine k_goto hx dX3_widthsAlong_47 ?_
        refine K.sub [0, 1, 2, 3] rfl ?_
        exact ih (k + 1) _ (z + 1) (by omega) (by omega) (by omega) (by rw [hst, hy])
  refine k_iconst hx dX3_widthsAlong_0 ?_
  refine k_istore_n (ls' := [(0, vR g s), (1, vR g j), (2, vI 0)]) hx dX3_widthsAlong_1 rfl rfl (by decide) ?_
  refine k_iconst hx dX3_widthsAlong_2 ?_
  refine k_istore_n (ls' := [(0, vR g s), (1, vR g j), (2, vI 0), (3, vI 0)]) hx dX3_widthsAlong_3 rfl rfl (by decide) ?_
  exact loop (v.length + 1) 0 0 0 rfl (by omega) (by omega) rfl
/-- the past: the latest state first -/
def Pd (M : Mem) (ps : List Ab) : Prop := ∃ nx : Nat, nx < 6 ∧ M 12 1 = nx ∧ M 12 2 = ps.length ∧ ps.length ≤ 6 ∧ ∀ (j : Nat) (A : Ab), ps[j]? = some A → Sd M (14 + 11 * ((nx + 5 - j) % 6)) A
theorem isS_p {k : Nat} (h : k < 6) : IsS (14 + 11 * k) := by
  rcases (show k = 0 ∨ k = 1 ∨ k = 2 ∨ k = 3 ∨ k = 4 ∨ k = 5 by omega) with rfl | rfl | rfl | rfl | rfl | rfl
  · exact isS_14
  · exact isS_25
  · exact isS_36
  · exact isS_47
  · exact isS_58
  · exact isS_69
theorem past_at {k : Nat} {z : Int} (hz : z = k) (hk : k < 6) : ([some 14, some 25, some 36, some 47, some 58, some 69] : List (Option Nat)).getD z.toNat none = some (14 + 11 * k) := by
  subst hz
  rcases (show k = 0 ∨ k = 1 ∨ k = 2 ∨ k = 3 ∨ k = 4 ∨ k = 5 by omega) with rfl | rfl | rfl | rfl | rfl | rfl <;> rfl
theorem Pd.same {M M' : Mem} {ps : List Ab} (h : Pd M ps) (ho : ∀ a, 12 ≤ a → a < 80 → M' a = M a) : Pd M' ps := by
  obtain ⟨nx, h1, h2, h3, h4, h5⟩ := h
  refine ⟨nx, h1, by rw [ho 12 (by omega) (by omega)]; exact h2, by rw [ho 12 (by omega) (by omega)]; exact h3, h4, fun j A hj => (h5 j A hj).same (fun a ha hb => ho a (by omega) (by omega))⟩

theorem c_X1_remember {g : GE} {l : Launch} {M : Mem} {A : Ab} {ps : List Ab} (hP : Pd M ps) (hA : Sd M 1 A) : Cv g l μX1_remember [vR g 12, vR g 1] M (fun M' => Pd M' ((A :: ps).take 6) ∧ ∀ a, (a < 12 ∨ 80 ≤ a) → M' a = M a) := by
  refine Cv.of (by decide +kernel) rfl rfl (fun x hx hr => ?_)
  obtain ⟨nx, h1, h2, h3, h4, h5⟩ := hP
  refine k_aload_n hx dX1_remember_0 0 rfl ?_
  refine k_get (v := vR g 13) hx fX1_11 dX1_remember_1 n_12 L_12 rfl ?_
  refine k_aload_n hx dX1_remember_4 0 rfl ?_
  refine k_get (v := vI nx) hx fX1_18 dX1_remember_5 n_12 L_12 (congrArg vI (show M 12 1 = nx from h2)) ?_
  refine k_aald (q := (14 + 11 * nx)) hx dX1_remember_8 n_13 L_13 (by decide) (by simp; omega) (by decide) (past_at (k := nx) rfl h1) ?_
  refine k_aload_n hx dX1_remember_9 1 rfl ?_
  refine k_vv (rest := []) hx vX1_25 dX1_remember_10 (c_X3_copyFrom (isS_p h1) isS_1 hA (by omega)) (isS_p h1).2.2.2.1 (isS_p h1).1 rfl rfl rfl ⟨rfl, rfl⟩ ⟨by decide, by decide⟩ (fun M_10 p_10 => ?_)
  obtain ⟨q1, q2⟩ := p_10
  refine k_aload_n hx dX1_remember_13 0 rfl ?_
  refine k_aload_n hx dX1_remember_14 0 rfl ?_
  refine k_get (v := vI nx) hx fX1_18 dX1_remember_15 n_12 L_12 (congrArg vI (show M_10 12 1 = nx from by rw [q2 12 (by omega)]; exact h2)) ?_
  refine k_iconst hx dX1_remember_18 ?_
  refine k_iadd hx dX1_remember_19 ?_
  refine k_bipush hx dX1_remember_20 (by decide +kernel) ?_
  refine k_irem hx dX1_remember_22 (by omega) ?_
  refine k_putI (kz := 1) hx fX1_18 dX1_remember_23 n_12 L_12 rfl rfl (fun M_23 hM_23 => ?_)
  refine k_aload_n hx dX1_remember_26 0 rfl ?_
  refine k_aload_n hx dX1_remember_27 0 rfl ?_
  refine k_get (v := vI ps.length) hx fX1_22 dX1_remember_28 n_12 L_12 (congrArg vI (show M_23 12 2 = ps.length from by rw [hM_23, up_k (by omega), q2 12 (by omega)]; exact h3)) ?_
  refine k_iconst hx dX1_remember_31 ?_
  refine k_iadd hx dX1_remember_32 ?_
  refine k_bipush hx dX1_remember_33 (by decide +kernel) ?_
  refine k_sp (rest := [vR g 12]) (e := (min (ps.length + 1) 6)) hx sX1_29 dX1_remember_35 (c_min (a := (ps.length + 1)) (b := 6) (by omega)) rfl rfl rfl ⟨rfl, rfl⟩ ⟨by decide, by decide⟩ ?_
  refine k_putI (kz := 2) hx fX1_22 dX1_remember_38 n_12 L_12 rfl rfl (fun M_38 hM_38 => ?_)
  refine k_rv hx hr dX1_remember_41 ?_
  subst hM_38; subst hM_23
  have hmod : ((nx : Int) + 1) % 6 = (((nx + 1) % 6 : Nat) : Int) := by omega
  refine ⟨⟨(nx + 1) % 6, by omega, ?_, ?_, ?_, fun j B hj => ?_⟩, fun a ha => by rw [up_i (by omega), up_i (by omega)]; exact q2 a (by omega)⟩
  · rw [up_k (by omega), up_s, hmod]
  · rw [up_s, List.length_take, List.length_cons]; omega
  · rw [List.length_take, List.length_cons]; omega
  · have hne : ∀ a, a ≠ 12 → up (up M_10 12 1 (((nx : Int) + 1) % 6)) 12 2 (min ((ps.length : Int) + 1) 6) a = M_10 a := fun a ha => by rw [up_i ha, up_i ha]
    have hj6 : j < 6 := by
      have := (List.getElem?_eq_some_iff.mp hj).1
      rw [List.length_take] at this; omega
    rw [List.getElem?_take, if_pos hj6] at hj
    cases j with
    | zero =>
      rw [List.getElem?_cons_zero] at hj
      cases hj
      rw [show ((nx + 1) % 6 + 5 - 0) % 6 = nx by omega]
      exact q1.same (fun a _ _ => hne a (by omega))
    | succ j =>
      rw [List.getElem?_cons_succ] at hj
      have h6 := h5 j B hj
      rw [show ((nx + 1) % 6 + 5 - (j + 1)) % 6 = (nx + 5 - j) % 6 by omega]
      exact h6.same (fun a _ _ => by rw [hne a (by omega)]; exact q2 a (by omega))
theorem c_X1_bringBack {g : GE} {l : Launch} {M : Mem} {A : Ab} {ps : List Ab} (hP : Pd M (A :: ps)) : Cv g l μX1_bringBack [vR g 12, vR g 1] M (fun M' => Pd M' ps ∧ Sd M' 1 A ∧ ∀ a, (a < 1 ∨ 80 ≤ a) → M' a = M a) := by
  refine Cv.of (by decide +kernel) rfl rfl (fun x hx hr => ?_)
  obtain ⟨nx, h1, h2, h3, h4, h5⟩ := hP
  rw [List.length_cons] at h3 h4
  have hmod : ((nx : Int) + 6 - 1) % 6 = (((nx + 5) % 6 : Nat) : Int) := by omega
  have h7 : (nx + 5) % 6 < 6 := by omega
  refine k_aload_n hx dX1_bringBack_0 0 rfl ?_
  refine k_aload_n hx dX1_bringBack_1 0 rfl ?_
  refine k_get (v := vI nx) hx fX1_18 dX1_bringBack_2 n_12 L_12 (congrArg vI (show M 12 1 = nx from h2)) ?_
  refine k_bipush hx dX1_bringBack_5 (by decide +kernel) ?_
  refine k_iadd hx dX1_bringBack_7 ?_
  refine k_iconst hx dX1_bringBack_8 ?_
  refine k_isub hx dX1_bringBack_9 ?_
  refine k_bipush hx dX1_bringBack_10 (by decide +kernel) ?_
  refine k_irem hx dX1_bringBack_12 (by omega) ?_
  refine k_putI (kz := 1) hx fX1_18 dX1_bringBack_13 n_12 L_12 rfl rfl (fun M_13 hM_13 => ?_)
  refine k_aload_n hx dX1_bringBack_16 0 rfl ?_
  refine k_aload_n hx dX1_bringBack_17 0 rfl ?_
  refine k_get (v := vI (ps.length + 1)) hx fX1_22 dX1_bringBack_18 n_12 L_12 (congrArg vI (show M_13 12 2 = (ps.length + 1) from by rw [hM_13, up_k (by omega), h3]; rfl)) ?_
  refine k_iconst hx dX1_bringBack_21 ?_
  refine k_isub hx dX1_bringBack_22 ?_
  refine k_iconst hx dX1_bringBack_23 ?_
  refine k_sp (rest := [vR g 12]) (e := (max ((ps.length + 1) - 1) 0)) hx sX1_35 dX1_bringBack_24 (c_max (a := ((ps.length + 1) - 1)) (b := 0) (by omega)) rfl rfl rfl ⟨rfl, rfl⟩ ⟨by decide, by decide⟩ ?_
  refine k_putI (kz := 2) hx fX1_22 dX1_bringBack_27 n_12 L_12 rfl rfl (fun M_27 hM_27 => ?_)
  refine k_aload_n hx dX1_bringBack_30 1 rfl ?_
  refine k_aload_n hx dX1_bringBack_31 0 rfl ?_
  refine k_get (v := vR g 13) hx fX1_11 dX1_bringBack_32 n_12 L_12 rfl ?_
  refine k_aload_n hx dX1_bringBack_35 0 rfl ?_
  refine k_get (v := vI ((nx + 5) % 6 : Nat)) hx fX1_18 dX1_bringBack_36 n_12 L_12 (congrArg vI (show M_27 12 1 = ((nx + 5) % 6 : Nat) from by rw [hM_27, up_k (by omega), hM_13, up_s, hmod])) ?_
  have hne : ∀ a, a ≠ 12 → M_27 a = M a := fun a ha => by rw [hM_27, hM_13, up_i ha, up_i ha]
  have hA0 : Sd M_27 (14 + 11 * ((nx + 5) % 6)) A := (h5 0 A rfl).same (fun a _ _ => hne a (by omega))
  refine k_aald (q := (14 + 11 * ((nx + 5) % 6))) hx dX1_bringBack_39 n_13 L_13 (by decide) (by simp; omega) (by decide) (past_at (k := (nx + 5) % 6) rfl h7) ?_
  refine k_vv (rest := []) hx vX1_25 dX1_bringBack_40 (c_X3_copyFrom isS_1 (isS_p h7) hA0 (by omega)) n_1 L_1 rfl rfl rfl ⟨rfl, rfl⟩ ⟨by decide, by decide⟩ (fun M_40 p_40 => ?_)
  obtain ⟨q1, q2⟩ := p_40
  refine k_rv hx hr dX1_bringBack_43 ?_
  refine ⟨⟨(nx + 5) % 6, h7, ?_, ?_, by omega, fun j B hj => ?_⟩, q1, fun a ha => by rw [q2 a (by omega)]; exact hne a (by omega)⟩
  · rw [q2 12 (by omega), hM_27, up_k (by omega), hM_13, up_s, hmod]
  · rw [q2 12 (by omega), hM_27, up_s]; omega
  · have h6 := h5 (j + 1) B (by rw [List.getElem?_cons_succ]; exact hj)
    have hj6 := (List.getElem?_eq_some_iff.mp hj).1
    rw [show ((nx + 5) % 6 + 5 - j) % 6 = (nx + 5 - (j + 1)) % 6 by omega]
    exact h6.same (fun a _ _ => by rw [q2 a (by omega)]; exact hne a (by omega))
end
section
/-! the class: words that are laid into the shared ones; questions about words -/
def OffW (M M' : Mem) : Prop := ∀ a, (a < 114 ∨ 120 ≤ a) → M' a = M a
theorem OffW.rf {M : Mem} : OffW M M := fun _ _ => rfl
theorem OffW.tr {M M' M'' : Mem} (h : OffW M M') (k : OffW M' M'') : OffW M M'' := fun a h1 => (k a h1).trans (h a h1)
theorem Off.w {i : Nat} {M M' : Mem} (h : Off i M M') (hi : 114 ≤ i ∧ i < 119) : OffW M M' := fun a ha => h a (by omega) (by omega)
/-- what a crossing becomes as posts change places -/
def swp (p b c : Int) : List Int := if pst c = p + b then [if b = 0 then p + b else op (p + b), p + 1 - b + (c - pst c), op (if b = 0 then p + b else op (p + b))] else if pst c = p + 1 - b then [p + b + (c - pst c)] else [c]
def swF (p b : Int) (v : List Int) : List Int := red (v.flatMap (swp p b))
theorem swp_len (p b c : Int) : (swp p b c).length ≤ 3 := by unfold swp; split; simp; split <;> simp
theorem swp_cr {p b c : Int} (hp : 0 ≤ p ∧ p < 5) (hb : 0 ≤ b ∧ b < 2) (hc : 0 ≤ c ∧ c < 12) : Cr (swp p b c) := by
  have h6 := pst_rg hc
  have hs : c - pst c = 0 ∨ c - pst c = 6 := by unfold pst; split <;> omega
  have ho := op_rg (c := p + b) (by omega)
  have hb2 : 0 ≤ (if b = 0 then p + b else op (p + b)) ∧ (if b = 0 then p + b else op (p + b)) < 12 := by split <;> omega
  have ho2 := op_rg hb2
  unfold swp
  split
  · intro d hd
    rcases List.mem_cons.mp hd with rfl | hd
    · exact hb2
    · rcases List.mem_cons.mp hd with rfl | hd
      · omega
      · rw [List.mem_singleton.mp hd]; exact ho2
  · split
    · exact Cr.one (by omega)
    · exact Cr.one hc
theorem flat_snoc {f : Int → List Int} {v : List Int} {k : Nat} (h : k < v.length) : (v.take (k + 1)).flatMap f = (v.take k).flatMap f ++ f (at0 v k) := by
  rw [← take_at0 h, List.flatMap_append]; simp
theorem red_app (a b : List Int) : red (a ++ b) = b.foldl psh (red a) := by unfold red; rw [List.foldl_append]
theorem fold_len : ∀ (b s : List Int), (b.foldl psh s).length ≤ s.length + b.length
  | [], s => by simp
  | c :: b, s => by
    have h1 := fold_len b (psh s c)
    have h2 := psh_len (w := s) (c := c)
    rw [List.foldl_cons, List.length_cons]; omega
theorem flat_len {f : Int → List Int} (hf : ∀ c, (f c).length ≤ 3) : ∀ v : List Int, (v.flatMap f).length ≤ 3 * v.length
  | [] => by simp
  | c :: v => by
    have h1 := flat_len hf v
    have h2 := hf c
    rw [List.flatMap_cons, List.length_append, List.length_cons]; omega
theorem swF_len (p b : Int) (v : List Int) : (swF p b v).length ≤ 3 * v.length := Nat.le_trans (red_len_le _) (flat_len (swp_len p b) v)
theorem swF_cr {p b : Int} {v : List Int} (hp : 0 ≤ p ∧ p < 5) (hb : 0 ≤ b ∧ b < 2) (hv : Cr v) : Cr (swF p b v) := red_cr fun d hd => by
  obtain ⟨c, hc, hd⟩ := List.mem_flatMap.mp hd
  exact swp_cr hp hb (hv c hc) d hd
def bit (S p : Int) : Int := S / 2 ^ p.toNat % 2
theorem bit_rg (S p : Int) : 0 ≤ bit S p ∧ bit S p < 2 := by unfold bit; omega
theorem bit_fin : ∀ S : Fin 64, ∀ p : Fin 6, (zI ((S : Nat) : Int) >>> (zI ((p : Nat) : Int) &&& 31)) &&& zI 1 = zI (bit ((S : Nat) : Int) ((p : Nat) : Int)) := by decide +kernel
theorem bit_ok {S p : Int} (hS : 0 ≤ S ∧ S < 64) (hp : 0 ≤ p ∧ p < 6) : (zI S >>> (zI p &&& 31)) &&& zI 1 = zI (bit S p) := by
  have := bit_fin ⟨S.toNat, by omega⟩ ⟨p.toNat, by omega⟩
  simpa [show ((S.toNat : Nat) : Int) = S by omega, show ((p.toNat : Nat) : Int) = p by omega, Int.max_eq_left hS.1, Int.max_eq_left hp.1] using this
/-- what is left of a word when posts are pulled out, pulled -/
def wF (S : Int) (v : List Int) : List Int := red (v.filter (fun c => decide (bit S (pst c) = 0)))
theorem filt_snoc {f : Int → Bool} {v : List Int} {k : Nat} (h : k < v.length) : (v.take (k + 1)).filter f = (v.take k).filter f ++ (if f (at0 v k) = true then [at0 v k] else []) := by
  rw [← take_at0 h, List.filter_append, List.filter_cons]
  split <;> simp

theorem c_X5_crossingOrNoSuch {g : GE} {l : Launch} {M : Mem} {j cj : Nat} {v : List Int} (hJ : IsW j cj) (hv : Wd M j v) (hcj : v.length ≤ cj) {z : Int} (hz : -2147483648 ≤ z ∧ z < 2147483648) : Cp g l μX5_crossingOrNoSuch [vR g j, vI z] M (at0 v z) := by
  refine Ci.of (by decide +kernel) rfl rfl (fun x hx hr => ?_)
  have hr0 := at0_rg hv.2.2 z
  refine k_aload_n hx dX5_crossingOrNoSuch_0 0 rfl ?_
  refine k_iload_n hx dX5_crossingOrNoSuch_1 1 rfl ?_
  refine k_vp (rest := []) (e := (at0 v z)) hx vX5_215 dX5_crossingOrNoSuch_2 (c_X4_at hJ hv hcj (z := z) (by omega)) hJ.2.2.1 hJ.1 rfl rfl rfl ⟨rfl, rfl⟩ ⟨by decide, by decide⟩ ?_
  refine k_istore_n (ls' := [(0, vR g j), (1, vI z), (2, vI (at0 v z))]) hx dX5_crossingOrNoSuch_5 rfl rfl (by decide) ?_
  refine k_iload_n hx dX5_crossingOrNoSuch_6 2 rfl ?_
  refine k_iconst hx dX5_crossingOrNoSuch_7 ?_
  refine k_icmp_ne hx dX5_crossingOrNoSuch_8 (by omega) (fun h_8 => ?_) (fun h_8 => ?_)
  · refine k_iload_n hx dX5_crossingOrNoSuch_15 2 rfl ?_
    refine k_ri hx hr dX5_crossingOrNoSuch_16 ?_
    exact ⟨by omega, rfl⟩
  · refine k_iconst hx dX5_crossingOrNoSuch_11 ?_
    refine k_goto hx dX5_crossingOrNoSuch_12 ?_
    refine k_ri hx hr dX5_crossingOrNoSuch_16 ?_
    exact ⟨by omega, rfl⟩
theorem c_X5_layPulled {g : GE} {l : Launch} {M : Mem} {j cj : Nat} {v : List Int} (hJ : IsW j cj) (hv : Wd M j v) (hcj : v.length ≤ cj) (hj : j < 113) : Cv g l μX5_layPulled [vR g 0, vR g j] M (fun M' => Wd M' 114 (red v) ∧ Off 114 M M') := by
  refine Cv.of (by decide +kernel) rfl rfl (fun x hx hr => ?_)
  have h480 := hJ.2.2.2.2
  refine k_aload_n hx dX5_layPulled_0 0 rfl ?_
  refine k_get (v := vR g 114) hx fX5_50 dX5_layPulled_1 n_0 L_0 rfl ?_
  refine k_aload_n hx dX5_layPulled_4 1 rfl ?_
  refine k_vv (rest := []) hx vX5_106 dX5_layPulled_5 (c_X4_copyFrom isW_114 hJ hv hcj (by omega) (by omega)) n_114 L_114 rfl rfl rfl ⟨rfl, rfl⟩ ⟨by decide, by decide⟩ (fun M_5 p_5 => ?_)
  refine k_aload_n hx dX5_layPulled_8 0 rfl ?_
  refine k_get (v := vR g 114) hx fX5_50 dX5_layPulled_9 n_0 L_0 rfl ?_
  refine k_vi (rest := []) hx vX5_89 dX5_layPulled_12 (c_X4_cancelPairs isW_114 p_5.1 (by omega)) n_114 L_114 rfl rfl rfl ⟨rfl, rfl⟩ ⟨by decide, by decide⟩ (fun z_12 M_12 p_12 => ?_)
  refine k_pop hx dX5_layPulled_15 rfl ?_
  refine k_rv hx hr dX5_layPulled_16 ?_
  exact ⟨p_12.2.1, p_5.2.tr p_12.2.2⟩
theorem c_X5_layLoop {g : GE} {l : Launch} {M : Mem} {j cj : Nat} {v : List Int} (hJ : IsW j cj) (hv : Wd M j v) (hcj : v.length ≤ cj) (hj : j < 113) : Cv g l μX5_layLoop [vR g 0, vR g j] M (fun M' => Wd M' 118 (tight (red v)) ∧ Off 118 M M') := by
  refine Cv.of (by decide +kernel) rfl rfl (fun x hx hr => ?_)
  have h480 := hJ.2.2.2.2
  refine k_aload_n hx dX5_layLoop_0 0 rfl ?_
  refine k_get (v := vR g 118) hx fX5_57 dX5_layLoop_1 n_0 L_0 rfl ?_
  refine k_aload_n hx dX5_layLoop_4 1 rfl ?_
  refine k_vv (rest := []) hx vX5_106 dX5_layLoop_5 (c_X4_copyFrom isW_118 hJ hv hcj (by omega) (by omega)) n_118 L_118 rfl rfl rfl ⟨rfl, rfl⟩ ⟨by decide, by decide⟩ (fun M_5 p_5 => ?_)
  refine k_aload_n hx dX5_layLoop_8 0 rfl ?_
  refine k_get (v := vR g 118) hx fX5_57 dX5_layLoop_9 n_0 L_0 rfl ?_
  refine k_vv (rest := []) hx vX5_218 dX5_layLoop_12 (c_X4_tighten isW_118 p_5.1 (by omega)) n_118 L_118 rfl rfl rfl ⟨rfl, rfl⟩ ⟨by decide, by decide⟩ (fun M_12 p_12 => ?_)
  refine k_rv hx hr dX5_layLoop_15 ?_
  exact ⟨p_12.1, p_5.2.tr p_12.2⟩
theorem leastS_lt {w : List Int} : leastS w < w.length ∨ (w.length = 0 ∧ leastS w = 0) := by
  unfold leastS
  cases h : w.length with
  | zero => exact Or.inr ⟨rfl, rfl⟩
  | succ n => have := lsF_lt w n; exact Or.inl (by omega)
abbrev lst (v : List Int) : List Int := least (tight (red v))
theorem lst_len (v : List Int) : (lst v).length ≤ v.length := by
  have h1 := tight_len (red v); have h2 := red_len_le v; rw [least_len]; omega
theorem c_X5_layLeast {g : GE} {l : Launch} {M : Mem} {j cj : Nat} {v : List Int} (hJ : IsW j cj) (hv : Wd M j v) (hcj : v.length ≤ cj) (hj : j < 117) {k : Nat} (hk : k = 114 ∨ k = 116) : Cv g l μX5_layLeast [vR g 0, vR g j, vR g k] M (fun M' => Wd M' k (lst v) ∧ ∀ a, a ≠ k → a ≠ k + 1 → a ≠ 118 → a ≠ 119 → M' a = M a) := by
  refine Cv.of (by decide +kernel) rfl rfl (fun x hx hr => ?_)
  have h480 := hJ.2.2.2.2
  have hK : IsW k 480 := by rcases hk with rfl | rfl; exact isW_114; exact isW_116
  have htl := tight_len (red v)
  have hrl := red_len_le v
  refine k_aload_n hx dX5_layLeast_0 0 rfl ?_
  refine k_get (v := vR g 118) hx fX5_57 dX5_layLeast_1 n_0 L_0 rfl ?_
  refine k_aload_n hx dX5_layLeast_4 1 rfl ?_
  refine k_vv (rest := []) hx vX5_106 dX5_layLeast_5 (c_X4_copyFrom isW_118 hJ hv hcj (by omega) (by omega)) n_118 L_118 rfl rfl rfl ⟨rfl, rfl⟩ ⟨by decide, by decide⟩ (fun M_5 p_5 => ?_)
  refine k_aload_n hx dX5_layLeast_8 0 rfl ?_
  refine k_get (v := vR g 118) hx fX5_57 dX5_layLeast_9 n_0 L_0 rfl ?_
  refine k_vv (rest := []) hx vX5_218 dX5_layLeast_12 (c_X4_tighten isW_118 p_5.1 (by omega)) n_118 L_118 rfl rfl rfl ⟨rfl, rfl⟩ ⟨by decide, by decide⟩ (fun M_12 p_12 => ?_)
  refine k_aload_n hx dX5_layLeast_15 2 rfl ?_
  refine k_aload_n hx dX5_layLeast_16 0 rfl ?_
  refine k_get (v := vR g 118) hx fX5_57 dX5_layLeast_17 n_0 L_0 rfl ?_
  refine k_aload_n hx dX5_layLeast_20 0 rfl ?_
  refine k_get (v := vR g 118) hx fX5_57 dX5_layLeast_21 n_0 L_0 rfl ?_
  refine k_vp (rest := [vR g 118, vR g k]) (e := (leastS (tight (red v)) : Nat)) hx vX5_221 dX5_layLeast_24 (c_X4_leastStart isW_118 p_12.1 (by omega)) n_118 L_118 rfl rfl rfl ⟨rfl, rfl⟩ ⟨by decide, by decide⟩ ?_
  refine k_vv (rest := []) hx vX5_224 dX5_layLeast_27 (c_X4_copyFromStart hK isW_118 p_12.1 (by omega) (by omega) (by omega) leastS_lt) hK.2.2.1 hK.1 rfl rfl rfl ⟨rfl, rfl⟩ ⟨by decide, by decide⟩ (fun M_27 p_27 => ?_)
  refine k_rv hx hr dX5_layLeast_30 ?_
  exact ⟨p_27.1, fun a h1 h2 h3 h4 => by rw [p_27.2 a h1 h2, p_12.2 a h3 h4, p_5.2 a h3 h4]⟩
theorem c_X5_addSwapped {g : GE} {l : Launch} {M : Mem} {s : List Int} (hs : Wd M 114 s) (hsl : s.length + 3 ≤ 480) {p b : Int} (hp : 0 ≤ p ∧ p < 5) (hb : 0 ≤ b ∧ b < 2) {c : Int} (hc : 0 ≤ c ∧ c < 12) : Cv g l μX5_addSwapped [vR g 0, vI c, vI p, vI b] M (fun M' => Wd M' 114 ((swp p b c).foldl psh s) ∧ Off 114 M M') := by
  refine Cv.of (by decide +kernel) rfl rfl (fun x hx hr => ?_)
  have h6 := pst_rg hc
  have hsd : c - pst c = 0 ∨ c - pst c = 6 := by unfold pst; split <;> omega
  have ho := op_rg (c := p + b) (by omega)
  obtain ⟨b1, hb1⟩ : ∃ b1, b1 = (if b = 0 then p + b else op (p + b)) := ⟨_, rfl⟩
  obtain ⟨b2, hb2⟩ : ∃ b2, b2 = p + 1 - b + (c - pst c) := ⟨_, rfl⟩
  have hc1 : 0 ≤ b1 ∧ b1 < 12 := by rw [hb1]; split <;> omega
  have hc2 : 0 ≤ b2 ∧ b2 < 12 := by omega
  have hc3 := op_rg hc1
  have hl1 := psh_len (w := s) (c := b1)
  have hl2 := psh_len (w := psh s b1) (c := b2)
  have join : ∀ (y : Int), pst c = p + b → y = b1 → K x g 0 0 LAY NN M 47 [(0, vR g 0), (1, vI c), (2, vI p), (3, vI b), (4, vI (p + b)), (5, vI (p + 1 - b)), (6, vI (pst c)), (7, vI (c - pst c)), (8, vI y)] [] := by
    intro y hpc hy
    subst hy
    refine k_aload_n hx dX5_addSwapped_47 0 rfl ?_
    refine k_get (v := vR g 114) hx fX5_50 dX5_addSwapped_48 n_0 L_0 rfl ?_
    refine k_iload hx dX5_addSwapped_51 8 rfl ?_
    refine k_vi (rest := []) hx vX5_238 dX5_addSwapped_53 (c_X4_addPulled isW_114 hs (by omega) (by omega) (c := y) hc1) n_114 L_114 rfl rfl rfl ⟨rfl, rfl⟩ ⟨by decide, by decide⟩ (fun z_53 M_53 p_53 => ?_)
    obtain ⟨-, q1, q2, -⟩ := p_53
    refine k_pop hx dX5_addSwapped_56 rfl ?_
    refine k_aload_n hx dX5_addSwapped_57 0 rfl ?_
    refine k_get (v := vR g 114) hx fX5_50 dX5_addSwapped_58 n_0 L_0 rfl ?_
    refine k_iload hx dX5_addSwapped_61 5 rfl ?_
    refine k_iload hx dX5_addSwapped_63 7 rfl ?_
    refine k_iadd hx dX5_addSwapped_65 ?_
    rw [← hb2]
    refine k_vi (rest := []) hx vX5_238 dX5_addSwapped_66 (c_X4_addPulled isW_114 q1 (by omega) (by omega) (c := b2) hc2) n_114 L_114 rfl rfl rfl ⟨rfl, rfl⟩ ⟨by decide, by decide⟩ (fun z_66 M_66 p_66 => ?_)
    obtain ⟨-, r1, r2, -⟩ := p_66
    refine k_pop hx dX5_addSwapped_69 rfl ?_
    refine k_aload_n hx dX5_addSwapped_70 0 rfl ?_
    refine k_get (v := vR g 114) hx fX5_50 dX5_addSwapped_71 n_0 L_0 rfl ?_
    refine k_iload hx dX5_addSwapped_74 8 rfl ?_
    refine k_sp (rest := [vR g 114]) (e := (op y)) hx sX5_235 dX5_addSwapped_76 (c_X5_opposite (z := y) (by omega)) rfl rfl rfl ⟨rfl, rfl⟩ ⟨by decide, by decide⟩ ?_
    refine k_vi (rest := []) hx vX5_238 dX5_addSwapped_79 (c_X4_addPulled isW_114 r1 (by omega) (by omega) (c := op y) hc3) n_114 L_114 rfl rfl rfl ⟨rfl, rfl⟩ ⟨by decide, by decide⟩ (fun z_79 M_79 p_79 => ?_)
    obtain ⟨-, t1, t2, -⟩ := p_79
    refine k_pop hx dX5_addSwapped_82 rfl ?_
    refine k_goto hx dX5_addSwapped_83 ?_
    refine k_rv hx hr dX5_addSwapped_118 ?_
    refine ⟨?_, q2.tr (r2.tr t2)⟩
    unfold swp
    rw [if_pos hpc, ← hb1, ← hb2]
    exact t1
  refine k_iload_n hx dX5_addSwapped_0 2 rfl ?_
  refine k_iload_n hx dX5_addSwapped_1 3 rfl ?_
  refine k_iadd hx dX5_addSwapped_2 ?_
  refine k_istore (ls' := [(0, vR g 0), (1, vI c), (2, vI p), (3, vI b), (4, vI (p + b))]) hx dX5_addSwapped_3 rfl rfl (by decide) ?_
  refine k_iload_n hx dX5_addSwapped_5 2 rfl ?_
  refine k_iconst hx dX5_addSwapped_6 ?_
  refine k_iadd hx dX5_addSwapped_7 ?_
  refine k_iload_n hx dX5_addSwapped_8 3 rfl ?_
  refine k_isub hx dX5_addSwapped_9 ?_
  refine k_istore (ls' := [(0, vR g 0), (1, vI c), (2, vI p), (3, vI b), (4, vI (p + b)), (5, vI ((p + 1) - b))]) hx dX5_addSwapped_10 rfl rfl (by decide) ?_
  refine k_iload_n hx dX5_addSwapped_12 1 rfl ?_
  refine k_sp (rest := []) (e := (pst c)) hx sX5_232 dX5_addSwapped_13 (c_X5_postOf (z := c) (by omega)) rfl rfl rfl ⟨rfl, rfl⟩ ⟨by decide, by decide⟩ ?_
  refine k_istore (ls' := [(0, vR g 0), (1, vI c), (2, vI p), (3, vI b), (4, vI (p + b)), (5, vI ((p + 1) - b)), (6, vI (pst c))]) hx dX5_addSwapped_16 rfl rfl (by decide) ?_
  refine k_iload_n hx dX5_addSwapped_18 1 rfl ?_
  refine k_iload hx dX5_addSwapped_19 6 rfl ?_
  refine k_isub hx dX5_addSwapped_21 ?_
  refine k_istore (ls' := [(0, vR g 0), (1, vI c), (2, vI p), (3, vI b), (4, vI (p + b)), (5, vI ((p + 1) - b)), (6, vI (pst c)), (7, vI (c - (pst c)))]) hx dX5_addSwapped_22 rfl rfl (by decide) ?_
  refine k_iload hx dX5_addSwapped_24 6 rfl ?_
  refine k_iload hx dX5_addSwapped_26 4 rfl ?_
  refine k_icmp_ne hx dX5_addSwapped_28 (by omega) (fun h_28 => ?_) (fun h_28 => ?_)
  · refine k_iload hx dX5_addSwapped_86 6 rfl ?_
    refine k_iload hx dX5_addSwapped_88 5 rfl ?_
    refine k_icmp_ne hx dX5_addSwapped_90 (by omega) (fun h_90 => ?_) (fun h_90 => ?_)
    · refine k_aload_n hx dX5_addSwapped_109 0 rfl ?_
      refine k_get (v := vR g 114) hx fX5_50 dX5_addSwapped_110 n_0 L_0 rfl ?_
      refine k_iload_n hx dX5_addSwapped_113 1 rfl ?_
      refine k_vi (rest := []) hx vX5_238 dX5_addSwapped_114 (c_X4_addPulled isW_114 hs (by omega) (by omega) (c := c) hc) n_114 L_114 rfl rfl rfl ⟨rfl, rfl⟩ ⟨by decide, by decide⟩ (fun z_114 M_114 p_114 => ?_)
      obtain ⟨-, q1, q2, -⟩ := p_114
      refine k_pop hx dX5_addSwapped_117 rfl ?_
      refine k_rv hx hr dX5_addSwapped_118 ?_
      refine ⟨?_, q2⟩
      unfold swp
      rw [if_neg h_28, if_neg h_90]
      exact q1
    · refine k_aload_n hx dX5_addSwapped_93 0 rfl ?_
      refine k_get (v := vR g 114) hx fX5_50 dX5_addSwapped_94 n_0 L_0 rfl ?_
      refine k_iload hx dX5_addSwapped_97 4 rfl ?_
      refine k_iload hx dX5_addSwapped_99 7 rfl ?_
      refine k_iadd hx dX5_addSwapped_101 ?_
      refine k_vi (rest := []) hx vX5_238 dX5_addSwapped_102 (c_X4_addPulled isW_114 hs (by omega) (by omega) (c := p + b + (c - pst c)) (by omega)) n_114 L_114 rfl rfl rfl ⟨rfl, rfl⟩ ⟨by decide, by decide⟩ (fun z_102 M_102 p_102 => ?_)
      obtain ⟨-, q1, q2, -⟩ := p_102
      refine k_pop hx dX5_addSwapped_105 rfl ?_
      refine k_goto hx dX5_addSwapped_106 ?_
      refine k_rv hx hr dX5_addSwapped_118 ?_
      refine ⟨?_, q2⟩
      unfold swp
      rw [if_neg h_28, if_pos h_90]
      exact q1
  · refine k_iload_n hx dX5_addSwapped_31 3 rfl ?_
    refine k_ifne hx dX5_addSwapped_32 (by omega) (fun h_32 => ?_) (fun h_32 => ?_)
    · refine k_iload hx dX5_addSwapped_40 4 rfl ?_
      refine k_sp (rest := []) (e := (op (p + b))) hx sX5_235 dX5_addSwapped_42 (c_X5_opposite (z := (p + b)) (by omega)) rfl rfl rfl ⟨rfl, rfl⟩ ⟨by decide, by decide⟩ ?_
      refine k_istore (ls' := [(0, vR g 0), (1, vI c), (2, vI p), (3, vI b), (4, vI (p + b)), (5, vI ((p + 1) - b)), (6, vI (pst c)), (7, vI (c - (pst c))), (8, vI (op (p + b)))]) hx dX5_addSwapped_45 rfl rfl (by decide) ?_
      exact join _ h_28 (by rw [hb1, if_neg h_32])
    · refine k_iload hx dX5_addSwapped_35 4 rfl ?_
      refine k_goto hx dX5_addSwapped_37 ?_
      refine k_istore (ls' := [(0, vR g 0), (1, vI c), (2, vI p), (3, vI b), (4, vI (p + b)), (5, vI ((p + 1) - b)), (6, vI (pst c)), (7, vI (c - (pst c))), (8, vI (p + b))]) hx dX5_addSwapped_45 rfl rfl (by decide) ?_
      exact join _ h_28 (by rw [hb1, if_pos h_32])
theorem c_X5_laySwapped {g : GE} {l : Launch} {M : Mem} {j cj : Nat} {v : List Int} (hJ : IsW j cj) (hv : Wd M j v) (hcj : v.length ≤ cj) (hj : j < 113) (h120 : v.length ≤ 120) {p b : Int} (hp : 0 ≤ p ∧ p < 5) (hb : 0 ≤ b ∧ b < 2) : Cv g l μX5_laySwapped [vR g 0, vR g j, vI p, vI b] M (fun M' => Wd M' 114 (swF p b v) ∧ Off 114 M M') := by
  refine Cv.of (by decide +kernel) rfl rfl (fun x hx hr => ?_)
  have h480 := hJ.2.2.2.2
  have loop : ∀ (f : Nat), ∀ (k : Nat) (z : Int) (M' : Mem), z = k → k ≤ v.length → v.length - k < f → Wd M' 114 (red ((v.take k).flatMap (swp p b))) → Off 114 M M' → K x g 0 0 LAY NN M' 10 [(0, vR g 0), (1, vR g j), (2, vI p), (3, vI b), (4, vI z)] [] := by
    intro f
    induction f with
    | zero => intro k z M' hz hk hf hwd ho; omega
    | succ f ih =>
      intro k z M' hz hk hf hwd ho
      have hv' := hv.off ho (by omega) (by omega) (by omega)
      refine k_iload hx dX5_laySwapped_10 4 rfl ?_
      refine k_aload_n hx dX5_laySwapped_12 1 rfl ?_
      refine k_get (v := vI v.length) hx fX5_79 dX5_laySwapped_13 hJ.2.2.1 hJ.1 (congrArg vI (show M' j 1 = v.length from hv'.1)) ?_
      refine k_icmp_ge hx dX5_laySwapped_16 (by omega) (fun h_16 => ?_) (fun h_16 => ?_)
      · refine k_rv hx hr dX5_laySwapped_37 ?_
        exact ⟨by rwa [List.take_of_length_le (by omega)] at hwd, ho⟩
      · have e1 : at0 v z = at0 v k := by rw [hz]
        have c1 := op_cr hv.2.2 (k := k) (by omega)
        rw [← e1] at c1
        have hln : (red ((v.take k).flatMap (swp p b))).length ≤ 3 * k := by
          have h1 := red_len_le ((v.take k).flatMap (swp p b)); have h2 := flat_len (swp_len p b) (v.take k); rw [List.length_take] at h2; omega
        refine k_aload_n hx dX5_laySwapped_19 0 rfl ?_
        refine k_aload_n hx dX5_laySwapped_20 1 rfl ?_
        refine k_iload hx dX5_laySwapped_21 4 rfl ?_
        refine k_vp (rest := [vR g 0]) (e := (at0 v z)) hx vX5_215 dX5_laySwapped_23 (c_X4_at hJ hv' hcj (z := z) (by omega)) hJ.2.2.1 hJ.1 rfl rfl rfl ⟨rfl, rfl⟩ ⟨by decide, by decide⟩ ?_
        refine k_iload_n hx dX5_laySwapped_26 2 rfl ?_
        refine k_iload_n hx dX5_laySwapped_27 3 rfl ?_
        refine k_vv (rest := []) hx vX5_228 dX5_laySwapped_28 (c_X5_addSwapped hwd (by omega) hp hb c1) n_0 L_0 rfl rfl rfl ⟨rfl, rfl⟩ ⟨by decide, by decide⟩ (fun M_28 p_28 => ?_)
        obtain ⟨q1, q2⟩ := p_28
        rw [← red_app, e1, ← flat_snoc (by omega)] at q1
        refine k_iinc (ls' := [(0, vR g 0), (1, vR g j), (2, vI p), (3, vI b), (4, vI (z + 1))]) hx dX5_laySwapped_31 4 rfl rfl rfl (by decide) ?_
        refine k_goto hx dX5_laySwapped_34 ?_
        exact ih (k + 1) (z + 1) M_28 (by omega) (by omega) (by omega) q1 (ho.tr q2)
  refine k_aload_n hx dX5_laySwapped_0 0 rfl ?_
  refine k_get (v := vR g 114) hx fX5_50 dX5_laySwapped_1 n_0 L_0 rfl ?_
  refine k_vv (rest := []) hx vX5_100 dX5_laySwapped_4 (c_X4_clear isW_114) n_114 L_114 rfl rfl rfl ⟨rfl, rfl⟩ ⟨by decide, by decide⟩ (fun M_4 p_4 => ?_)
  refine k_iconst hx dX5_laySwapped_7 ?_
  refine k_istore (ls' := [(0, vR g 0), (1, vR g j), (2, vI p), (3, vI b), (4, vI 0)]) hx dX5_laySwapped_8 rfl rfl (by decide) ?_
  exact loop (v.length + 1) 0 0 M_4 rfl (by omega) (by omega) (by subst p_4; exact Wd.nil) (by rw [p_4]; exact off_up)
def csw (A : Ab) (p b : Int) : Int := (swF p b (A.2.getD 0 [])).length + (swF p b (A.2.getD 1 [])).length + (swF p b (A.2.getD 2 [])).length + (swF p b (A.2.getD 3 [])).length
theorem csw_rg {A : Ab} (hA : OkA A) (p b : Int) : 0 ≤ csw A p b ∧ csw A p b ≤ 1440 := by
  have h0 := swF_len p b (A.2.getD 0 []); have h1 := swF_len p b (A.2.getD 1 []); have h2 := swF_len p b (A.2.getD 2 []); have h3 := swF_len p b (A.2.getD 3 [])
  have m0 := (hA.2.2.2 0 (by decide)).2; have m1 := (hA.2.2.2 1 (by decide)).2; have m2 := (hA.2.2.2 2 (by decide)).2; have m3 := (hA.2.2.2 3 (by decide)).2
  unfold csw; omega
theorem c_X5_crossingsIfSwapped {g : GE} {l : Launch} {M : Mem} {A : Ab} (hA : Sd M 1 A) {p b : Int} (hp : 0 ≤ p ∧ p < 5) (hb : 0 ≤ b ∧ b < 2) : Ci g l μX5_crossingsIfSwapped [vR g 0, vI p, vI b] M (fun z M' => z = csw A p b ∧ Off 114 M M') := by
  refine Ci.of (by decide +kernel) rfl rfl (fun x hx hr => ?_)
  have loop : ∀ (f : Nat), ∀ (k : Nat) (y z : Int) (M' : Mem), z = k → k ≤ 4 → 4 - k < f → y = (if 0 < k then ((swF p b (A.2.getD 0 [])).length : Int) else 0) + (if 1 < k then ((swF p b (A.2.getD 1 [])).length : Int) else 0) + (if 2 < k then ((swF p b (A.2.getD 2 [])).length : Int) else 0) + (if 3 < k then ((swF p b (A.2.getD 3 [])).length : Int) else 0) → Off 114 M M' → K x g 0 0 LAY NN M' 5 [(0, vR g 0), (1, vI p), (2, vI b), (3, vI y), (4, vI z)] [] := by
    intro f
    induction f with
    | zero => intro k y z M' hz hk hf hy ho; omega
    | succ f ih =>
      intro k y z M' hz hk hf hy ho
      refine k_iload hx dX5_crossingsIfSwapped_5 4 rfl ?_
      refine k_iconst hx dX5_crossingsIfSwapped_7 ?_
      refine k_icmp_ge hx dX5_crossingsIfSwapped_8 (by omega) (fun h_8 => ?_) (fun h_8 => ?_)
      · refine k_iload_n hx dX5_crossingsIfSwapped_43 3 rfl ?_
        refine k_ri hx hr dX5_crossingsIfSwapped_44 ?_
        refine ⟨?_, ho⟩
        rw [hy, show k = 4 by omega]; simp [csw]
      · have hk4 : k < 4 := by omega
        have hv := (hA.2.2 k hk4).off ho (by omega) (by omega) (by omega)
        have hvl := (hA.1.2.2.2 k hk4).2
        refine k_aload_n hx dX5_crossingsIfSwapped_11 0 rfl ?_
        refine k_aload_n hx dX5_crossingsIfSwapped_12 0 rfl ?_
        refine k_get (v := vR g 1) hx fX5_12 dX5_crossingsIfSwapped_13 n_0 L_0 rfl ?_
        refine k_get (v := vR g 3) hx fX5_75 dX5_crossingsIfSwapped_16 n_1 L_1 rfl ?_
        refine k_iload hx dX5_crossingsIfSwapped_19 4 rfl ?_
        refine k_aald (q := (1 + 3 + 2 * k)) hx dX5_crossingsIfSwapped_21 n_3 L_3 (by decide) (by simp only [List.length_cons, List.length_nil]; omega) (by decide) (ropes_at (s := 1) hz hk4) ?_
        refine k_iload_n hx dX5_crossingsIfSwapped_22 1 rfl ?_
        refine k_iload_n hx dX5_crossingsIfSwapped_23 2 rfl ?_
        refine k_vv (rest := []) hx vX5_115 dX5_crossingsIfSwapped_24 (c_X5_laySwapped (isS_1.w hk4) hv hvl (by omega) hvl hp hb) n_0 L_0 rfl rfl rfl ⟨rfl, rfl⟩ ⟨by decide, by decide⟩ (fun M_24 p_24 => ?_)
        refine k_iload_n hx dX5_crossingsIfSwapped_27 3 rfl ?_
        refine k_aload_n hx dX5_crossingsIfSwapped_28 0 rfl ?_
        refine k_get (v := vR g 114) hx fX5_50 dX5_crossingsIfSwapped_29 n_0 L_0 rfl ?_
        refine k_get (v := vI ((swF p b (A.2.getD k [])).length)) hx fX5_79 dX5_crossingsIfSwapped_32 n_114 L_114 (congrArg vI (show M_24 114 1 = ((swF p b (A.2.getD k [])).length) from p_24.1.1)) ?_
        refine k_iadd hx dX5_crossingsIfSwapped_35 ?_
        refine k_istore_n (ls' := [(0, vR g 0), (1, vI p), (2, vI b), (3, vI (y + ((swF p b (A.2.getD k [])).length))), (4, vI z)]) hx dX5_crossingsIfSwapped_36 rfl rfl (by decide) ?_
        refine k_iinc (ls' := [(0, vR g 0), (1, vI p), (2, vI b), (3, vI (y + ((swF p b (A.2.getD k [])).length))), (4, vI (z + 1))]) hx dX5_crossingsIfSwapped_37 4 rfl rfl rfl (by decide) ?_
        refine k_goto hx dX5_crossingsIfSwapped_40 ?_
        refine ih (k + 1) _ (z + 1) M_24 (by omega) (by omega) (by omega) ?_ (ho.tr p_24.2)
        rw [hy]
        rcases (show k = 0 ∨ k = 1 ∨ k = 2 ∨ k = 3 by omega) with rfl | rfl | rfl | rfl <;> simp <;> omega
  refine k_iconst hx dX5_crossingsIfSwapped_0 ?_
  refine k_istore_n (ls' := [(0, vR g 0), (1, vI p), (2, vI b), (3, vI 0)]) hx dX5_crossingsIfSwapped_1 rfl rfl (by decide) ?_
  refine k_iconst hx dX5_crossingsIfSwapped_2 ?_
  refine k_istore (ls' := [(0, vR g 0), (1, vI p), (2, vI b), (3, vI 0), (4, vI 0)]) hx dX5_crossingsIfSwapped_3 rfl rfl (by decide) ?_
  exact loop 5 0 0 0 M rfl (by omega) (by omega) (by simp) Off.rf
theorem c_X5_fallsWithout {g : GE} {l : Launch} {M : Mem} {j cj : Nat} {v : List Int} (hJ : IsW j cj) (hv : Wd M j v) (hcj : v.length ≤ cj) (hj : j < 113) {S : Int} (hS : 0 ≤ S ∧ S < 64) : Ci g l μX5_fallsWithout [vR g 0, vR g j, vI S] M (fun z M' => z = b2i (decide (wF S v = [])) ∧ Off 114 M M') := by
  refine Ci.of (by decide +kernel) rfl rfl (fun x hx hr => ?_)
  have h480 := hJ.2.2.2.2
  have loop : ∀ (f : Nat), ∀ (k : Nat) (z : Int) (M' : Mem), z = k → k ≤ v.length → v.length - k < f → Wd M' 114 (red ((v.take k).filter (fun c => decide (bit S (pst c) = 0)))) → Off 114 M M' → K x g 0 0 LAY NN M' 9 [(0, vR g 0), (1, vR g j), (2, vI S), (3, vI z)] [] := by
    intro f
    induction f with
    | zero => intro k z M' hz hk hf hwd ho; omega
    | succ f ih =>
      intro k z M' hz hk hf hwd ho
      have hv' := hv.off ho (by omega) (by omega) (by omega)
      refine k_iload_n hx dX5_fallsWithout_9 3 rfl ?_
      refine k_aload_n hx dX5_fallsWithout_10 1 rfl ?_
      refine k_get (v := vI v.length) hx fX5_79 dX5_fallsWithout_11 hJ.2.2.1 hJ.1 (congrArg vI (show M' j 1 = v.length from hv'.1)) ?_
      refine k_icmp_ge hx dX5_fallsWithout_14 (by omega) (fun h_14 => ?_) (fun h_14 => ?_)
      · have hkv : v.take k = v := List.take_of_length_le (by omega)
        rw [hkv] at hwd
        refine k_aload_n hx dX5_fallsWithout_52 0 rfl ?_
        refine k_get (v := vR g 114) hx fX5_50 dX5_fallsWithout_53 n_0 L_0 rfl ?_
        refine k_get (v := vI ((wF S v).length)) hx fX5_79 dX5_fallsWithout_56 n_114 L_114 (congrArg vI (show M' 114 1 = ((wF S v).length) from hwd.1)) ?_
        refine k_ifne hx dX5_fallsWithout_59 (by have := hwd.1; have : (wF S v).length ≤ v.length := Nat.le_trans (red_len_le _) (List.length_filter_le _ _); omega) (fun h_59 => ?_) (fun h_59 => ?_)
        · refine k_iconst hx dX5_fallsWithout_66 ?_
          refine k_rz hx hr dX5_fallsWithout_67 (by first | exact Or.inl rfl | exact Or.inr rfl | exact b2i_or _) ?_
          exact ⟨b2i_f (fun q => h_59 (by rw [q]; rfl)), ho⟩
        · refine k_iconst hx dX5_fallsWithout_62 ?_
          refine k_goto hx dX5_fallsWithout_63 ?_
          refine k_rz hx hr dX5_fallsWithout_67 (by first | exact Or.inl rfl | exact Or.inr rfl | exact b2i_or _) ?_
          exact ⟨b2i_t (List.length_eq_zero_iff.mp (by omega)), ho⟩
      · have e1 : at0 v z = at0 v k := by rw [hz]
        have c1 := op_cr hv.2.2 (k := k) (by omega)
        rw [← e1] at c1
        have c2 := pst_rg c1
        have hbr := bit_rg S (pst (at0 v z))
        have hsn := filt_snoc (f := fun c => decide (bit S (pst c) = 0)) (v := v) (k := k) (by omega)
        have hln : (red ((v.take k).filter (fun c => decide (bit S (pst c) = 0)))).length ≤ k := by
          have h1 := red_len_le ((v.take k).filter (fun c => decide (bit S (pst c) = 0))); have h2 := List.length_filter_le (fun c => decide (bit S (pst c) = 0)) (v.take k); rw [List.length_take] at h2; omega
        refine k_aload_n hx dX5_fallsWithout_17 1 rfl ?_
        refine k_iload_n hx dX5_fallsWithout_18 3 rfl ?_
        refine k_vp (rest := []) (e := (at0 v z)) hx vX5_215 dX5_fallsWithout_19 (c_X4_at hJ hv' hcj (z := z) (by omega)) hJ.2.2.1 hJ.1 rfl rfl rfl ⟨rfl, rfl⟩ ⟨by decide, by decide⟩ ?_
        refine k_istore (ls' := [(0, vR g 0), (1, vR g j), (2, vI S), (3, vI z), (4, vI (at0 v z))]) hx dX5_fallsWithout_22 rfl rfl (by decide) ?_
        refine k_iload_n hx dX5_fallsWithout_24 2 rfl ?_
        refine k_iload hx dX5_fallsWithout_25 4 rfl ?_
        refine k_sp (rest := [vI S]) (e := (pst (at0 v z))) hx sX5_232 dX5_fallsWithout_27 (c_X5_postOf (z := (at0 v z)) (by omega)) rfl rfl rfl ⟨rfl, rfl⟩ ⟨by decide, by decide⟩ ?_
        refine k_ishr (v := zI ((zI S >>> (zI (pst (at0 v z)) &&& 31)).toInt)) hx dX5_fallsWithout_30 ((zI_of _).symm) ?_
        refine k_iconst hx dX5_fallsWithout_31 ?_
        refine k_iand (v := zI (bit S (pst (at0 v z)))) hx dX5_fallsWithout_32 (by rw [zI_of]; exact bit_ok hS c2) ?_
        refine k_ifne hx dX5_fallsWithout_33 (by omega) (fun h_33 => ?_) (fun h_33 => ?_)
        · refine k_iinc (ls' := [(0, vR g 0), (1, vR g j), (2, vI S), (3, vI (z + 1)), (4, vI (at0 v z))]) hx dX5_fallsWithout_46 3 rfl rfl rfl (by decide) ?_
          refine k_goto hx dX5_fallsWithout_49 ?_
          refine K.sub [0, 1, 2, 3] rfl ?_
          rw [if_neg (by rw [← e1]; simpa using h_33), List.append_nil] at hsn
          exact ih (k + 1) (z + 1) M' (by omega) (by omega) (by omega) (by rw [hsn]; exact hwd) ho
        · refine k_aload_n hx dX5_fallsWithout_36 0 rfl ?_
          refine k_get (v := vR g 114) hx fX5_50 dX5_fallsWithout_37 n_0 L_0 rfl ?_
          refine k_iload hx dX5_fallsWithout_40 4 rfl ?_
          refine k_vi (rest := []) hx vX5_238 dX5_fallsWithout_42 (c_X4_addPulled isW_114 hwd (by omega) (by omega) (c := at0 v z) c1) n_114 L_114 rfl rfl rfl ⟨rfl, rfl⟩ ⟨by decide, by decide⟩ (fun z_42 M_42 p_42 => ?_)
          obtain ⟨-, q1, q2, -⟩ := p_42
          rw [if_pos (by rw [← e1]; simpa using h_33)] at hsn
          have q3 : Wd M_42 114 (red ((v.take (k + 1)).filter (fun c => decide (bit S (pst c) = 0)))) := by rw [hsn, red_app, ← e1]; exact q1
          refine k_pop hx dX5_fallsWithout_45 rfl ?_
          refine k_iinc (ls' := [(0, vR g 0), (1, vR g j), (2, vI S), (3, vI (z + 1)), (4, vI (at0 v z))]) hx dX5_fallsWithout_46 3 rfl rfl rfl (by decide) ?_
          refine k_goto hx dX5_fallsWithout_49 ?_
          refine K.sub [0, 1, 2, 3] rfl ?_
          exact ih (k + 1) (z + 1) M_42 (by omega) (by omega) (by omega) q3 (ho.tr q2)
  refine k_aload_n hx dX5_fallsWithout_0 0 rfl ?_
  refine k_get (v := vR g 114) hx fX5_50 dX5_fallsWithout_1 n_0 L_0 rfl ?_
  refine k_vv (rest := []) hx vX5_100 dX5_fallsWithout_4 (c_X4_clear isW_114) n_114 L_114 rfl rfl rfl ⟨rfl, rfl⟩ ⟨by decide, by decide⟩ (fun M_4 p_4 => ?_)
  refine k_iconst hx dX5_fallsWithout_7 ?_
  refine k_istore_n (ls' := [(0, vR g 0), (1, vR g j), (2, vI S), (3, vI 0)]) hx dX5_fallsWithout_8 rfl rfl (by decide) ?_
  exact loop (v.length + 1) 0 0 M_4 rfl (by omega) (by omega) (by subst p_4; exact Wd.nil) (by rw [p_4]; exact off_up)
theorem c_X5_areAlike {g : GE} {l : Launch} {M : Mem} {j cj : Nat} {v : List Int} (hJ : IsW j cj) (hv : Wd M j v) (hcj : v.length ≤ cj) {k ck : Nat} {u : List Int} (hK : IsW k ck) (hu : Wd M k u) (hck : u.length ≤ ck) (hj : j < 113) (hk : k < 113 ∨ k = 116) : Ci g l μX5_areAlike [vR g 0, vR g j, vR g k] M (fun z M' => z = b2i (decide (lst v = lst u)) ∧ OffW M M') := by
  refine Ci.of (by decide +kernel) rfl rfl (fun x hx hr => ?_)
  have h480 := hJ.2.2.2.2; have h480k := hK.2.2.2.2; have hlv := lst_len v; have hlu := lst_len u
  refine k_aload_n hx dX5_areAlike_0 0 rfl ?_
  refine k_aload_n hx dX5_areAlike_1 2 rfl ?_
  refine k_aload_n hx dX5_areAlike_2 0 rfl ?_
  refine k_get (v := vR g 116) hx fX5_54 dX5_areAlike_3 n_0 L_0 rfl ?_
  refine k_vv (rest := []) hx vX5_174 dX5_areAlike_6 (c_X5_layLeast hK hu hck (by omega) (Or.inr rfl)) n_0 L_0 rfl rfl rfl ⟨rfl, rfl⟩ ⟨by decide, by decide⟩ (fun M_6 p_6 => ?_)
  have hv' := hv.same (p_6.2 j (by omega) (by omega) (by omega) (by omega)) (p_6.2 (j + 1) (by omega) (by omega) (by omega) (by omega))
  refine k_aload_n hx dX5_areAlike_9 0 rfl ?_
  refine k_aload_n hx dX5_areAlike_10 1 rfl ?_
  refine k_aload_n hx dX5_areAlike_11 0 rfl ?_
  refine k_get (v := vR g 114) hx fX5_50 dX5_areAlike_12 n_0 L_0 rfl ?_
  refine k_vv (rest := []) hx vX5_174 dX5_areAlike_15 (c_X5_layLeast hJ hv' hcj (by omega) (Or.inl rfl)) n_0 L_0 rfl rfl rfl ⟨rfl, rfl⟩ ⟨by decide, by decide⟩ (fun M_15 p_15 => ?_)
  have hu' := p_6.1.same (p_15.2 116 (by omega) (by omega) (by omega) (by omega)) (p_15.2 117 (by omega) (by omega) (by omega) (by omega))
  refine k_aload_n hx dX5_areAlike_18 0 rfl ?_
  refine k_get (v := vR g 114) hx fX5_50 dX5_areAlike_19 n_0 L_0 rfl ?_
  refine k_aload_n hx dX5_areAlike_22 0 rfl ?_
  refine k_get (v := vR g 116) hx fX5_54 dX5_areAlike_23 n_0 L_0 rfl ?_
  refine k_vp (rest := []) (e := (b2i (decide (lst v = lst u)))) hx vX5_241 dX5_areAlike_26 (c_X4_isSameAs isW_114 p_15.1 (by omega) isW_116 hu' (by omega)) n_114 L_114 rfl rfl rfl ⟨rfl, rfl⟩ ⟨by decide, by decide⟩ ?_
  refine k_rz hx hr dX5_areAlike_29 (by first | exact Or.inl rfl | exact Or.inr rfl | exact b2i_or _) ?_
  exact ⟨rfl, fun a ha => by rw [p_15.2 a (by omega) (by omega) (by omega) (by omega), p_6.2 a (by omega) (by omega) (by omega) (by omega)]⟩
theorem c_X5_doCommute {g : GE} {l : Launch} {M : Mem} {j cj : Nat} {v : List Int} (hJ : IsW j cj) (hv : Wd M j v) (hcj : v.length ≤ cj) {k ck : Nat} {u : List Int} (hK : IsW k ck) (hu : Wd M k u) (hck : u.length ≤ ck) (hj : j < 113) (hk : k < 113) (h1 : v.length ≤ 120) (h2 : u.length ≤ 120) : Ci g l μX5_doCommute [vR g 0, vR g j, vR g k] M (fun z M' => z = b2i (decide (red (v ++ u) = red (u ++ v))) ∧ OffW M M') := by
  refine Ci.of (by decide +kernel) rfl rfl (fun x hx hr => ?_)
  have h480 := hJ.2.2.2.2; have h480k := hK.2.2.2.2
  have l1 : (v ++ u).length = v.length + u.length := List.length_append
  have l2 : (u ++ v).length = u.length + v.length := List.length_append
  have l3 := red_len_le (v ++ u); have l4 := red_len_le (u ++ v)
  refine k_aload_n hx dX5_doCommute_0 0 rfl ?_
  refine k_get (v := vR g 114) hx fX5_50 dX5_doCommute_1 n_0 L_0 rfl ?_
  refine k_aload_n hx dX5_doCommute_4 1 rfl ?_
  refine k_vv (rest := []) hx vX5_106 dX5_doCommute_5 (c_X4_copyFrom isW_114 hJ hv hcj (by omega) (by omega)) n_114 L_114 rfl rfl rfl ⟨rfl, rfl⟩ ⟨by decide, by decide⟩ (fun M_5 p_5 => ?_)
  refine k_aload_n hx dX5_doCommute_8 0 rfl ?_
  refine k_get (v := vR g 114) hx fX5_50 dX5_doCommute_9 n_0 L_0 rfl ?_
  refine k_aload_n hx dX5_doCommute_12 2 rfl ?_
  refine k_vv (rest := []) hx vX5_93 dX5_doCommute_13 (c_X4_addWord isW_114 p_5.1 (by omega) hK (hu.off p_5.2 (by omega) (by omega) (by omega)) hck (fun _ => by omega) (fun h => by omega) (by omega)) n_114 L_114 rfl rfl rfl ⟨rfl, rfl⟩ ⟨by decide, by decide⟩ (fun M_13 p_13 => ?_)
  refine k_aload_n hx dX5_doCommute_16 0 rfl ?_
  refine k_get (v := vR g 114) hx fX5_50 dX5_doCommute_17 n_0 L_0 rfl ?_
  refine k_vi (rest := []) hx vX5_89 dX5_doCommute_20 (c_X4_cancelPairs isW_114 p_13.1 (by omega)) n_114 L_114 rfl rfl rfl ⟨rfl, rfl⟩ ⟨by decide, by decide⟩ (fun z_20 M_20 p_20 => ?_)
  have ho1 := p_5.2.tr (p_13.2.tr p_20.2.2)
  have hv' := hv.off ho1 (by omega) (by omega) (by omega)
  have hu' := hu.off ho1 (by omega) (by omega) (by omega)
  refine k_pop hx dX5_doCommute_23 rfl ?_
  refine k_aload_n hx dX5_doCommute_24 0 rfl ?_
  refine k_get (v := vR g 116) hx fX5_54 dX5_doCommute_25 n_0 L_0 rfl ?_
  refine k_aload_n hx dX5_doCommute_28 2 rfl ?_
  refine k_vv (rest := []) hx vX5_106 dX5_doCommute_29 (c_X4_copyFrom isW_116 hK hu' hck (by omega) (by omega)) n_116 L_116 rfl rfl rfl ⟨rfl, rfl⟩ ⟨by decide, by decide⟩ (fun M_29 p_29 => ?_)
  refine k_aload_n hx dX5_doCommute_32 0 rfl ?_
  refine k_get (v := vR g 116) hx fX5_54 dX5_doCommute_33 n_0 L_0 rfl ?_
  refine k_aload_n hx dX5_doCommute_36 1 rfl ?_
  refine k_vv (rest := []) hx vX5_93 dX5_doCommute_37 (c_X4_addWord isW_116 p_29.1 (by omega) hJ (hv'.off p_29.2 (by omega) (by omega) (by omega)) hcj (fun _ => by omega) (fun h => by omega) (by omega)) n_116 L_116 rfl rfl rfl ⟨rfl, rfl⟩ ⟨by decide, by decide⟩ (fun M_37 p_37 => ?_)
  refine k_aload_n hx dX5_doCommute_40 0 rfl ?_
  refine k_get (v := vR g 116) hx fX5_54 dX5_doCommute_41 n_0 L_0 rfl ?_
  refine k_vi (rest := []) hx vX5_89 dX5_doCommute_44 (c_X4_cancelPairs isW_116 p_37.1 (by omega)) n_116 L_116 rfl rfl rfl ⟨rfl, rfl⟩ ⟨by decide, by decide⟩ (fun z_44 M_44 p_44 => ?_)
  have ho2 := p_29.2.tr (p_37.2.tr p_44.2.2)
  have hw' := p_20.2.1.off ho2 (by omega) (by omega) (by omega)
  refine k_pop hx dX5_doCommute_47 rfl ?_
  refine k_aload_n hx dX5_doCommute_48 0 rfl ?_
  refine k_get (v := vR g 114) hx fX5_50 dX5_doCommute_49 n_0 L_0 rfl ?_
  refine k_aload_n hx dX5_doCommute_52 0 rfl ?_
  refine k_get (v := vR g 116) hx fX5_54 dX5_doCommute_53 n_0 L_0 rfl ?_
  refine k_vp (rest := []) (e := (b2i (decide (red (v ++ u) = red (u ++ v))))) hx vX5_241 dX5_doCommute_56 (c_X4_isSameAs isW_114 hw' (by omega) isW_116 p_44.2.1 (by omega)) n_114 L_114 rfl rfl rfl ⟨rfl, rfl⟩ ⟨by decide, by decide⟩ ?_
  refine k_rz hx hr dX5_doCommute_59 (by first | exact Or.inl rfl | exact Or.inr rfl | exact b2i_or _) ?_
  exact ⟨rfl, (ho1.w (by omega)).tr (ho2.w (by omega))⟩
theorem c_X5_arePulledTheSame {g : GE} {l : Launch} {M : Mem} {j cj : Nat} {v : List Int} (hJ : IsW j cj) (hv : Wd M j v) (hcj : v.length ≤ cj) {k ck : Nat} {u : List Int} (hK : IsW k ck) (hu : Wd M k u) (hck : u.length ≤ ck) (hj : j < 113) (hk : k < 113) : Ci g l μX5_arePulledTheSame [vR g 0, vR g j, vR g k] M (fun z M' => z = b2i (decide (red v = red u)) ∧ OffW M M') := by
  refine Ci.of (by decide +kernel) rfl rfl (fun x hx hr => ?_)
  have h480 := hJ.2.2.2.2; have h480k := hK.2.2.2.2
  have l3 := red_len_le v; have l4 := red_len_le u
  refine k_aload_n hx dX5_arePulledTheSame_0 0 rfl ?_
  refine k_aload_n hx dX5_arePulledTheSame_1 1 rfl ?_
  refine k_vv (rest := []) hx vX5_147 dX5_arePulledTheSame_2 (c_X5_layPulled hJ hv hcj (by omega)) n_0 L_0 rfl rfl rfl ⟨rfl, rfl⟩ ⟨by decide, by decide⟩ (fun M_2 p_2 => ?_)
  have hu' := hu.off p_2.2 (by omega) (by omega) (by omega)
  refine k_aload_n hx dX5_arePulledTheSame_5 0 rfl ?_
  refine k_get (v := vR g 116) hx fX5_54 dX5_arePulledTheSame_6 n_0 L_0 rfl ?_
  refine k_aload_n hx dX5_arePulledTheSame_9 2 rfl ?_
  refine k_vv (rest := []) hx vX5_106 dX5_arePulledTheSame_10 (c_X4_copyFrom isW_116 hK hu' hck (by omega) (by omega)) n_116 L_116 rfl rfl rfl ⟨rfl, rfl⟩ ⟨by decide, by decide⟩ (fun M_10 p_10 => ?_)
  refine k_aload_n hx dX5_arePulledTheSame_13 0 rfl ?_
  refine k_get (v := vR g 116) hx fX5_54 dX5_arePulledTheSame_14 n_0 L_0 rfl ?_
  refine k_vi (rest := []) hx vX5_89 dX5_arePulledTheSame_17 (c_X4_cancelPairs isW_116 p_10.1 (by omega)) n_116 L_116 rfl rfl rfl ⟨rfl, rfl⟩ ⟨by decide, by decide⟩ (fun z_17 M_17 p_17 => ?_)
  have ho2 := p_10.2.tr p_17.2.2
  have hw' := p_2.1.off ho2 (by omega) (by omega) (by omega)
  refine k_pop hx dX5_arePulledTheSame_20 rfl ?_
  refine k_aload_n hx dX5_arePulledTheSame_21 0 rfl ?_
  refine k_get (v := vR g 114) hx fX5_50 dX5_arePulledTheSame_22 n_0 L_0 rfl ?_
  refine k_aload_n hx dX5_arePulledTheSame_25 0 rfl ?_
  refine k_get (v := vR g 116) hx fX5_54 dX5_arePulledTheSame_26 n_0 L_0 rfl ?_
  refine k_vp (rest := []) (e := (b2i (decide (red v = red u)))) hx vX5_241 dX5_arePulledTheSame_29 (c_X4_isSameAs isW_114 hw' (by omega) isW_116 p_17.2.1 (by omega)) n_114 L_114 rfl rfl rfl ⟨rfl, rfl⟩ ⟨by decide, by decide⟩ ?_
  refine k_rz hx hr dX5_arePulledTheSame_32 (by first | exact Or.inl rfl | exact Or.inr rfl | exact b2i_or _) ?_
  exact ⟨rfl, (p_2.2.w (by omega)).tr (ho2.w (by omega))⟩
end
section
/-! words, purely: pulled words, their turned ones, filters; the most crossings that can stay -/
def Rd (s : List Int) : Prop := ∀ (t : List Int) (c d : Int) (u : List Int), s = t ++ c :: d :: u → c ≠ op d
theorem Rd.nil : Rd [] := fun t c d u h => by simp at h
theorem Rd.pre {s t : List Int} (h : Rd (s ++ t)) : Rd s := fun a c d u e => h a c d (u ++ t) (by rw [e]; simp)
theorem Rd.snoc {s : List Int} {c : Int} (h : Rd s) (hc : s.getLast? ≠ some (op c)) : Rd (s ++ [c]) := by
  intro t a d u e
  rcases List.eq_nil_or_concat u with rfl | ⟨u', x, rfl⟩
  · have e2 : s ++ [c] = (t ++ [a]) ++ [d] := by rw [e]; simp
    have h1 := List.append_inj' e2 rfl
    have hd : c = d := by simpa using h1.2
    subst hd
    intro q
    apply hc
    rw [h1.1, List.getLast?_append, q]; simp
  · have e2 : s ++ [c] = (t ++ a :: d :: u') ++ [x] := by rw [e]; simp
    have h1 := List.append_inj' e2 rfl
    exact h t a d u' h1.1
theorem rd_psh {s : List Int} (h : Rd s) (c : Int) : Rd (psh s c) := by
  unfold psh
  split
  · rename_i hl
    rcases List.eq_nil_or_concat s with rfl | ⟨s', x, rfl⟩
    · exact Rd.nil
    · rw [List.concat_eq_append] at h ⊢
      rw [List.dropLast_concat]
      exact h.pre
  · rename_i hl
    exact h.snoc hl
def act (s w : List Int) : List Int := w.foldl psh s
theorem act_app (s a b : List Int) : act s (a ++ b) = act (act s a) b := by unfold act; rw [List.foldl_append]
theorem rd_act {s : List Int} (h : Rd s) : ∀ w : List Int, Rd (act s w)
  | [] => h
  | c :: w => rd_act (rd_psh h c) w
theorem red_act (w : List Int) : red w = act [] w := rfl
theorem rd_red (w : List Int) : Rd (red w) := rd_act Rd.nil w
theorem cr_act {s : List Int} (h : Cr s) : ∀ w : List Int, Cr w → Cr (act s w)
  | [], _ => h
  | c :: w, hw => cr_act (cr_psh h (hw c List.mem_cons_self)) w (fun d hd => hw d (List.mem_cons_of_mem _ hd))
theorem psh_psh {s : List Int} {c : Int} (h : Rd s) (hc : 0 ≤ c ∧ c < 12) : psh (psh s c) (op c) = s := by
  by_cases hl : s.getLast? = some (op c)
  · have e1 : psh s c = s.dropLast := by unfold psh; rw [if_pos hl]
    rw [e1]
    rcases List.eq_nil_or_concat s with rfl | ⟨s', x, rfl⟩
    · simp at hl
    · rw [List.concat_eq_append] at h hl ⊢
      rw [List.dropLast_concat]
      have hx : x = op c := by simpa using hl
      subst hx
      unfold psh
      rw [if_neg]
      rw [op_op hc]
      intro q
      rcases List.eq_nil_or_concat s' with rfl | ⟨s2, y, rfl⟩
      · simp at q
      · rw [List.concat_eq_append] at h q
        have hy : y = c := by simpa using q
        subst hy
        exact h s2 y (op y) [] (by simp) (op_op hc).symm
  · have e1 : psh s c = s ++ [c] := by unfold psh; rw [if_neg hl]
    rw [e1]
    unfold psh
    rw [if_pos (by rw [op_op hc]; simp), List.dropLast_concat]
theorem trn_snoc (w : List Int) (c : Int) : trn (w ++ [c]) = op c :: trn w := by simp [trn]
theorem trn_cons (w : List Int) (c : Int) : trn (c :: w) = trn w ++ [op c] := by simp [trn]
theorem trn_app (a b : List Int) : trn (a ++ b) = trn b ++ trn a := by simp [trn]
theorem trn_trn {w : List Int} (h : Cr w) : trn (trn w) = w := by
  induction w with
  | nil => rfl
  | cons c w ih => rw [trn_cons, trn_snoc, op_op (h c List.mem_cons_self), ih (fun d hd => h d (List.mem_cons_of_mem _ hd))]
theorem act_trn {w : List Int} (hw : Cr w) : ∀ {s : List Int}, Rd s → act (act s w) (trn w) = s := by
  induction w with
  | nil => intro s _; rfl
  | cons c w ih =>
    intro s hs
    have hc := hw c List.mem_cons_self
    rw [trn_cons, act_app]
    have h1 : act s (c :: w) = act (psh s c) w := rfl
    rw [h1, ih (fun d hd => hw d (List.mem_cons_of_mem _ hd)) (rd_psh hs c)]
    exact psh_psh hs hc
theorem red_trn_nil {a b : List Int} (hb : Cr b) : red (a ++ trn b) = [] ↔ red a = red b := by
  rw [red_act, act_app, ← red_act]
  constructor
  · intro h
    have h2 := act_trn (cr_trn hb) (rd_red a)
    rw [h, trn_trn hb] at h2
    exact h2.symm
  · intro h
    rw [h]
    exact act_trn hb Rd.nil
/-- a filter that doesn't part a crossing from its opposite -/
theorem red_filter {f : Int → Bool} (hf : ∀ c, 0 ≤ c ∧ c < 12 → f (op c) = f c) : ∀ (w s : List Int), Cr w → Cr s → Rd s → act (red (s.filter f)) (w.filter f) = red ((act s w).filter f)
  | [], s, _, _, _ => rfl
  | c :: w, s, hw, hs, hr => by
    have hc := hw c List.mem_cons_self
    have hw' : Cr w := fun d hd => hw d (List.mem_cons_of_mem _ hd)
    have key : act (red (s.filter f)) ([c].filter f) = red ((psh s c).filter f) := by
      by_cases hl : s.getLast? = some (op c)
      · have e1 : psh s c = s.dropLast := by unfold psh; rw [if_pos hl]
        rw [e1]
        rcases List.eq_nil_or_concat s with rfl | ⟨s', x, rfl⟩
        · simp at hl
        · rw [List.concat_eq_append] at hl ⊢
          rw [List.dropLast_concat]
          have hx : x = op c := by simpa using hl
          subst hx
          rw [List.filter_append]
          cases hfc : f c with
          | false =>
            have h1 : [c].filter f = [] := by simp [hfc]
            have h2 : [op c].filter f = [] := by simp [hf c hc, hfc]
            rw [h1, h2, List.append_nil]; rfl
          | true =>
            have h1 : [c].filter f = [c] := by simp [hfc]
            have h2 : [op c].filter f = [op c] := by simp [hf c hc, hfc]
            rw [h1, h2]
            have h3 : red (s'.filter f ++ [op c]) = psh (red (s'.filter f)) (op c) := by unfold red; rw [List.foldl_append]; rfl
            rw [h3]
            show psh (psh (red (s'.filter f)) (op c)) c = _
            have h4 := psh_psh (c := op c) (rd_red (s'.filter f)) (op_rg hc)
            rwa [op_op hc] at h4
      · have e1 : psh s c = s ++ [c] := by unfold psh; rw [if_neg hl]
        rw [e1, List.filter_append]
        unfold red
        rw [List.foldl_append]; rfl
    have e2 : (c :: w).filter f = [c].filter f ++ w.filter f := by rw [← List.filter_append]; rfl
    rw [e2, act_app, key]
    exact red_filter hf w (psh s c) hw' (cr_psh hs hc) (rd_psh hr c)
theorem red_filter_nil {f : Int → Bool} (hf : ∀ c, 0 ≤ c ∧ c < 12 → f (op c) = f c) {w : List Int} (hw : Cr w) (h : red w = []) : red (w.filter f) = [] := by
  have h1 := red_filter hf w [] hw (fun c hc => by cases hc) Rd.nil
  rw [← red_act, h] at h1
  exact h1
theorem pst_op {c : Int} (h : 0 ≤ c ∧ c < 12) : pst (op c) = pst c := by unfold pst op; split <;> split <;> omega
/-- a rope that falls by a set falls by every larger one -/
theorem wF_mono {S S' : Int} {v : List Int} (hv : Cr v) (hsub : ∀ p : Int, 0 ≤ p ∧ p < 6 → bit S' p = 0 → bit S p = 0) (h : wF S v = []) : wF S' v = [] := by
  unfold wF at h ⊢
  have e : v.filter (fun c => decide (bit S' (pst c) = 0)) = (v.filter (fun c => decide (bit S (pst c) = 0))).filter (fun c => decide (bit S' (pst c) = 0)) := by
    rw [List.filter_filter]
    apply List.filter_congr
    intro c hc
    by_cases h1 : bit S' (pst c) = 0
    · simp [h1, hsub _ (pst_rg (hv c hc)) h1]
    · simp [h1]
  rw [e]
  exact red_filter_nil (fun c hc => by rw [pst_op hc]) (fun c hc => hv c (List.mem_filter.mp hc).1) h
/-! the most crossings that can stay -/
def mxS (t : List Int) (c : Int) (g : Nat → Nat) (m k : Nat) : Nat := if at0 t k = op c then max m (g k) else m
def mst : Nat → List Int → Nat
  | 0, _ => 0
  | _ + 1, [] => 0
  | f + 1, c :: t => (List.range t.length).foldl (mxS t c (fun k => 2 + mst f (t.take k) + mst f (t.drop (k + 1)))) (mst f t)
theorem foldl_max {t : List Int} {c : Int} {g : Nat → Nat} (l : List Nat) : ∀ m0 : Nat, (m0 ≤ l.foldl (mxS t c g) m0) ∧ (∀ k ∈ l, at0 t k = op c → g k ≤ l.foldl (mxS t c g) m0) ∧ (l.foldl (mxS t c g) m0 = m0 ∨ ∃ k ∈ l, at0 t k = op c ∧ l.foldl (mxS t c g) m0 = g k) := by
  induction l with
  | nil => intro m0; exact ⟨Nat.le_refl _, (fun k hk => by cases hk), Or.inl rfl⟩
  | cons a l ih =>
    intro m0
    rw [List.foldl_cons]
    by_cases hq : at0 t a = op c
    · have e : mxS t c g m0 a = max m0 (g a) := if_pos hq
      rw [e]
      obtain ⟨h1, h2, h3⟩ := ih (max m0 (g a))
      refine ⟨by omega, fun k hk hqk => ?_, ?_⟩
      · rcases List.mem_cons.mp hk with rfl | hk
        · omega
        · exact h2 k hk hqk
      · rcases h3 with h3 | ⟨k, hk, hqk, h3⟩
        · by_cases hm : m0 ≤ g a
          · exact Or.inr ⟨a, List.mem_cons_self, hq, by rw [h3]; omega⟩
          · exact Or.inl (by rw [h3]; omega)
        · exact Or.inr ⟨k, List.mem_cons_of_mem _ hk, hqk, h3⟩
    · have e : mxS t c g m0 a = m0 := if_neg hq
      rw [e]
      obtain ⟨h1, h2, h3⟩ := ih m0
      refine ⟨h1, fun k hk hqk => ?_, ?_⟩
      · rcases List.mem_cons.mp hk with rfl | hk
        · exact absurd hqk hq
        · exact h2 k hk hqk
      · rcases h3 with h3 | ⟨k, hk, hqk, h3⟩
        · exact Or.inl h3
        · exact Or.inr ⟨k, List.mem_cons_of_mem _ hk, hqk, h3⟩
theorem mst_fuel : ∀ (f f' : Nat) (w : List Int), w.length ≤ f → w.length ≤ f' → mst f w = mst f' w
  | 0, 0, _, _, _ => rfl
  | 0, f' + 1, w, h, _ => by have : w = [] := List.length_eq_zero_iff.mp (by omega); subst this; rfl
  | f + 1, 0, w, _, h => by have : w = [] := List.length_eq_zero_iff.mp (by omega); subst this; rfl
  | f + 1, f' + 1, [], _, _ => rfl
  | f + 1, f' + 1, c :: t, h, h' => by
    rw [List.length_cons] at h h'
    unfold mst
    rw [mst_fuel f f' t (by omega) (by omega)]
    have e : (fun k => 2 + mst f (t.take k) + mst f (t.drop (k + 1))) = (fun k => 2 + mst f' (t.take k) + mst f' (t.drop (k + 1))) := funext fun k => by
      rw [mst_fuel f f' (t.take k) (by rw [List.length_take]; omega) (by rw [List.length_take]; omega), mst_fuel f f' (t.drop (k + 1)) (by rw [List.length_drop]; omega) (by rw [List.length_drop]; omega)]
    rw [e]
def Mx (w : List Int) : Nat := mst w.length w
theorem mx_nil : Mx [] = 0 := rfl
theorem mx_cons (c : Int) (t : List Int) : Mx (c :: t) = (List.range t.length).foldl (mxS t c (fun k => 2 + Mx (t.take k) + Mx (t.drop (k + 1)))) (Mx t) := by
  have h : Mx (c :: t) = (List.range t.length).foldl (mxS t c (fun k => 2 + mst t.length (t.take k) + mst t.length (t.drop (k + 1)))) (mst t.length t) := rfl
  rw [h]
  have e : (fun k => 2 + mst t.length (t.take k) + mst t.length (t.drop (k + 1))) = (fun k => 2 + Mx (t.take k) + Mx (t.drop (k + 1))) := funext fun k => by
    unfold Mx
    rw [mst_fuel t.length _ (t.take k) (by rw [List.length_take]; omega) (Nat.le_refl _), mst_fuel t.length _ (t.drop (k + 1)) (by rw [List.length_drop]; omega) (Nat.le_refl _)]
  rw [e]
  rfl
theorem mx_tail (c : Int) (t : List Int) : Mx t ≤ Mx (c :: t) := by rw [mx_cons]; exact (foldl_max _ _).1
theorem mx_pair (c : Int) (p q : List Int) : 2 + Mx p + Mx q ≤ Mx (c :: (p ++ op c :: q)) := by
  rw [mx_cons]
  have h := (foldl_max (t := p ++ op c :: q) (c := c) (g := fun k => 2 + Mx ((p ++ op c :: q).take k) + Mx ((p ++ op c :: q).drop (k + 1))) (List.range (p ++ op c :: q).length) (Mx (p ++ op c :: q))).2.1 p.length (by simp) (by rw [at0_n (by simp)]; simp)
  simpa using h
theorem mx_cases (c : Int) (t : List Int) : Mx (c :: t) = Mx t ∨ ∃ p q, t = p ++ op c :: q ∧ Mx (c :: t) = 2 + Mx p + Mx q := by
  rw [mx_cons]
  rcases (foldl_max (t := t) (c := c) (g := fun k => 2 + Mx (t.take k) + Mx (t.drop (k + 1))) (List.range t.length) (Mx t)).2.2 with h | ⟨k, hk, hq, h⟩
  · exact Or.inl h
  · have hk2 : k < t.length := List.mem_range.mp hk
    refine Or.inr ⟨t.take k, t.drop (k + 1), ?_, h⟩
    rw [← hq, at0_n hk2, ← List.drop_eq_getElem_cons hk2, List.take_append_drop]
theorem mx_app : ∀ (n : Nat) (a b : List Int), a.length ≤ n → Mx a + Mx b ≤ Mx (a ++ b)
  | 0, a, b, h => by have : a = [] := List.length_eq_zero_iff.mp (by omega); subst this; simp [mx_nil]
  | n + 1, [], b, _ => by simp [mx_nil]
  | n + 1, c :: t, b, h => by
    rw [List.length_cons] at h
    rcases mx_cases c t with e | ⟨p, q, rfl, e⟩
    · have h1 := mx_app n t b (by omega)
      have h2 := mx_tail c (t ++ b)
      rw [List.cons_append]; omega
    · rw [List.length_append, List.length_cons] at h
      have h1 := mx_app n q b (by omega)
      have h2 := mx_pair c p (q ++ b)
      rw [e, List.cons_append, List.append_assoc, List.cons_append]; omega
theorem mx_ap (a b : List Int) : Mx a + Mx b ≤ Mx (a ++ b) := mx_app _ a b (Nat.le_refl _)
/-- one crossing more, anywhere -/
theorem mx_ins : ∀ (n : Nat) (a b : List Int) (x : Int), a.length + b.length ≤ n → Mx (a ++ b) ≤ Mx (a ++ x :: b)
  | _, [], b, x, _ => mx_tail x b
  | 0, c :: t, b, x, h => by simp at h
  | n + 1, c :: t, b, x, h => by
    rw [List.length_cons] at h
    rw [List.cons_append, List.cons_append]
    rcases mx_cases c (t ++ b) with e | ⟨p, q, e1, e⟩
    · have h1 := mx_ins n t b x (by omega)
      have h2 := mx_tail c (t ++ x :: b)
      omega
    · rcases List.append_eq_append_iff.mp e1 with ⟨a', h1, h2⟩ | ⟨c', h1, h2⟩
      · -- p = t ++ a', b = a' ++ op c :: q
        subst h1; subst h2
        have h3 := mx_ins n t a' x (by simp at h; omega)
        have h4 := mx_pair c (t ++ x :: a') q
        have h5 : t ++ x :: (a' ++ op c :: q) = (t ++ x :: a') ++ op c :: q := by simp
        rw [h5]; omega
      · cases c' with
        | nil =>
          rw [List.append_nil] at h1
          rw [List.nil_append] at h2
          subst h1; subst h2
          have h3 := mx_ins n t [] x (by simp at h; simp; omega)
          rw [List.append_nil] at h3
          have h4 := mx_pair c (t ++ [x]) q
          have h5 : t ++ x :: op c :: q = (t ++ [x]) ++ op c :: q := by simp
          rw [h5]; omega
        | cons y c' =>
          rw [List.cons_append] at h2
          injection h2 with h6 h7
          subst h6; subst h1; subst h7
          have h3 := mx_ins n c' b x (by simp at h; omega)
          have h4 := mx_pair c p (c' ++ x :: b)
          have h5 : p ++ op c :: c' ++ x :: b = p ++ op c :: (c' ++ x :: b) := by simp
          rw [h5]; omega
theorem mx_in (a b : List Int) (x : Int) : Mx (a ++ b) ≤ Mx (a ++ x :: b) := mx_ins _ a b x (Nat.le_refl _)
theorem mx_ap3 (a b c : List Int) : Mx a + Mx b + Mx c ≤ Mx (a ++ b ++ c) := by have := mx_ap a b; have := mx_ap (a ++ b) c; omega
/-- the first crossing goes behind -/
theorem mx_r1 {c : Int} (hc : 0 ≤ c ∧ c < 12) (t : List Int) : Mx (c :: t) ≤ Mx (t ++ [c]) := by
  rcases mx_cases c t with e | ⟨p, q, rfl, e⟩
  · have := mx_in t [] c; rw [List.append_nil] at this; omega
  · have h1 := mx_pair (op c) q []
    rw [op_op hc, mx_nil] at h1
    have h2 := mx_ap p (op c :: (q ++ [c]))
    have h3 : p ++ op c :: q ++ [c] = p ++ op c :: (q ++ [c]) := by simp
    rw [h3]; omega
theorem mx_r2 {c : Int} (hc : 0 ≤ c ∧ c < 12) : ∀ (n : Nat) (t : List Int), t.length ≤ n → Cr t → Mx (t ++ [c]) ≤ Mx (c :: t)
  | _, [], _, _ => Nat.le_refl _
  | 0, d :: t, h, _ => by simp at h
  | n + 1, d :: t, h, ht => by
    rw [List.length_cons] at h
    have hd := ht d List.mem_cons_self
    have ht' : Cr t := fun x hx => ht x (List.mem_cons_of_mem _ hx)
    rw [List.cons_append]
    rcases mx_cases d (t ++ [c]) with e | ⟨p, q, e1, e⟩
    · have h1 := mx_r2 hc n t (by omega) ht'
      have h2 := mx_in [c] t d
      have h3 : [c] ++ t = c :: t := rfl
      have h4 : [c] ++ d :: t = c :: d :: t := rfl
      rw [h3, h4] at h2
      omega
    · rcases List.eq_nil_or_concat q with rfl | ⟨q', x, rfl⟩
      · have h1 := List.append_inj' e1 rfl
        have h2 : c = op d := by simpa using h1.2
        have h3 := h1.1
        subst h3
        have h4 := mx_pair c [] t
        rw [h2, op_op hd] at h4
        rw [mx_nil] at e
        rw [List.nil_append, mx_nil, ← h2] at h4
        omega
      · rw [List.concat_eq_append] at e1 e
        have e2 : t ++ [c] = (p ++ op d :: q') ++ [x] := by rw [e1]; simp
        have h1 := List.append_inj' e2 rfl
        have h2 : c = x := by simpa using h1.2
        subst h2
        have h3 := h1.1
        subst h3
        rw [List.length_append, List.length_cons] at h
        have h4 := mx_r2 hc n q' (by omega) (fun y hy => ht' y (by simp [hy]))
        have h5 := mx_pair d p q'
        rcases mx_cases c q' with e3 | ⟨p3, q3, rfl, e3⟩
        · have h6 := mx_tail c (d :: (p ++ op d :: q'))
          omega
        · have h6 := mx_pair c (d :: (p ++ op d :: p3)) q3
          have h7 := mx_pair d p p3
          have h8 : d :: (p ++ op d :: (p3 ++ op c :: q3)) = (d :: (p ++ op d :: p3)) ++ op c :: q3 := by simp
          rw [h8]; omega
/-- a pair that cancels -/
theorem mx_pr1 {a : Int} (ha : 0 ≤ a ∧ a < 12) : ∀ (n : Nat) (u v : List Int), u.length + v.length ≤ n → Mx (u ++ v) + 2 ≤ Mx (u ++ a :: op a :: v)
  | _, [], v, _ => by have := mx_pair a [] v; rw [mx_nil, List.nil_append] at this; rw [List.nil_append, List.nil_append]; omega
  | 0, c :: u, v, h => by simp at h
  | n + 1, c :: u, v, h => by
    rw [List.length_cons] at h
    rw [List.cons_append, List.cons_append]
    rcases mx_cases c (u ++ v) with e | ⟨p, q, e1, e⟩
    · have h1 := mx_pr1 ha n u v (by omega)
      have h2 := mx_tail c (u ++ a :: op a :: v)
      omega
    · rcases List.append_eq_append_iff.mp e1 with ⟨a', h1, h2⟩ | ⟨c', h1, h2⟩
      · subst h1; subst h2
        have h3 := mx_pr1 ha n u a' (by simp at h; omega)
        have h4 := mx_pair c (u ++ a :: op a :: a') q
        have h5 : u ++ a :: op a :: (a' ++ op c :: q) = (u ++ a :: op a :: a') ++ op c :: q := by simp
        rw [h5]; omega
      · cases c' with
        | nil =>
          rw [List.append_nil] at h1
          rw [List.nil_append] at h2
          subst h1; subst h2
          have h3 := mx_pr1 ha n u [] (by simp at h; simp; omega)
          rw [List.append_nil] at h3
          have h4 := mx_pair c (u ++ [a, op a]) q
          have h5 : u ++ a :: op a :: op c :: q = (u ++ [a, op a]) ++ op c :: q := by simp
          rw [h5]; omega
        | cons y c' =>
          rw [List.cons_append] at h2
          injection h2 with h6 h7
          subst h6; subst h1; subst h7
          have h3 := mx_pr1 ha n c' v (by simp at h; omega)
          have h4 := mx_pair c p (c' ++ a :: op a :: v)
          have h5 : p ++ op c :: c' ++ a :: op a :: v = p ++ op c :: (c' ++ a :: op a :: v) := by simp
          rw [h5]; omega
theorem mx_c2 {c : Int} (hc : 0 ≤ c ∧ c < 12) (t : List Int) : Mx (c :: t) ≤ Mx t + 2 := by
  rcases mx_cases c t with e | ⟨p, q, rfl, e⟩
  · omega
  · have h1 := mx_ap p q
    have h2 := mx_in p q (op c)
    omega
theorem op_inj {a b : Int} (ha : 0 ≤ a ∧ a < 12) (hb : 0 ≤ b ∧ b < 12) (h : op a = op b) : a = b := by rw [← op_op ha, h, op_op hb]
theorem mx_pr2 {a : Int} (ha : 0 ≤ a ∧ a < 12) : ∀ (n : Nat) (u v : List Int), u.length + v.length ≤ n → Cr u → Cr v → Mx (u ++ a :: op a :: v) ≤ Mx (u ++ v) + 2
  | _, [], v, _, _, hv => by
    rw [List.nil_append, List.nil_append]
    have hA := op_rg ha
    rcases mx_cases a (op a :: v) with e | ⟨p, q, e1, e⟩
    · have := mx_c2 hA v; omega
    · cases p with
      | nil => rw [List.nil_append] at e1; injection e1 with h1 h2; subst h2; rw [mx_nil] at e; omega
      | cons y p =>
        rw [List.cons_append] at e1
        injection e1 with h1 h2
        subst h1; subst h2
        have h3 := mx_r1 hA p
        have h4 := mx_ap (p ++ [op a]) q
        have h5 : p ++ op a :: q = p ++ [op a] ++ q := by simp
        rw [← h5] at h4; omega
  | 0, c :: u, v, h, _, _ => by simp at h
  | n + 1, c :: u, v, h, hu, hv => by
    rw [List.length_cons] at h
    have hA := op_rg ha
    have hc := hu c List.mem_cons_self
    have hu' : Cr u := fun x hx => hu x (List.mem_cons_of_mem _ hx)
    rw [List.cons_append, List.cons_append]
    rcases mx_cases c (u ++ a :: op a :: v) with e | ⟨p, q, e1, e⟩
    · have h1 := mx_pr2 ha n u v (by omega) hu' hv
      have h2 := mx_tail c (u ++ v)
      omega
    · rcases List.append_eq_append_iff.mp e1 with ⟨a', h1, h2⟩ | ⟨c', h1, h2⟩
      · -- p = u ++ a', a :: op a :: v = a' ++ op c :: q
        cases a' with
        | nil =>
          rw [List.nil_append] at h2
          rw [List.append_nil] at h1
          injection h2 with h3 h4
          subst h1; subst h4
          -- op c = a, c = op a
          have hca : c = op a := by rw [h3, op_op hc]
          have h5 : Mx p + Mx (op a :: v) ≤ Mx (op a :: (p ++ v)) := by
            rcases mx_cases (op a) v with e3 | ⟨p2, q2, rfl, e3⟩
            · have := mx_ap p v; have := mx_tail (op a) (p ++ v); omega
            · rw [op_op ha] at e3 ⊢
              have h6 := mx_pair (op a) (p ++ p2) q2
              rw [op_op ha] at h6
              have h7 := mx_ap p p2
              have h8 : p ++ (p2 ++ a :: q2) = p ++ p2 ++ a :: q2 := by simp
              rw [h8]; omega
          rw [hca] at e ⊢; omega
        | cons y a' =>
          rw [List.cons_append] at h2
          injection h2 with h3 h4
          subst h3
          cases a' with
          | nil =>
            rw [List.nil_append] at h4
            injection h4 with h5 h6
            subst h6
            have hca : a = c := op_inj ha hc h5
            subst hca
            subst h1
            have h7 := mx_r2 ha _ u (Nat.le_refl _) hu'
            have h8 := mx_ap (a :: u) v
            rw [List.cons_append] at h8
            omega
          | cons y2 a' =>
            rw [List.cons_append] at h4
            injection h4 with h5 h6
            subst h5; subst h6; subst h1
            have h7 := mx_pr2 ha n u a' (by simp at h; omega) hu' (fun x hx => hv x (by simp [hx]))
            have h8 := mx_pair c (u ++ a') q
            have h9 : u ++ (a' ++ op c :: q) = u ++ a' ++ op c :: q := by simp
            rw [h9]; omega
      · cases c' with
        | nil =>
          rw [List.append_nil] at h1
          rw [List.nil_append] at h2
          injection h2 with h3 h4
          subst h1; subst h4
          have hca : c = op a := by rw [← h3, op_op hc]
          have h5 : Mx u + Mx (op a :: v) ≤ Mx (op a :: (u ++ v)) := by
            rcases mx_cases (op a) v with e3 | ⟨p2, q2, rfl, e3⟩
            · have := mx_ap u v; have := mx_tail (op a) (u ++ v); omega
            · rw [op_op ha] at e3 ⊢
              have h6 := mx_pair (op a) (u ++ p2) q2
              rw [op_op ha] at h6
              have h7 := mx_ap u p2
              have h8 : u ++ (p2 ++ a :: q2) = u ++ p2 ++ a :: q2 := by simp
              rw [h8]; omega
          rw [hca] at e ⊢; omega
        | cons y c' =>
          rw [List.cons_append] at h2
          injection h2 with h3 h4
          subst h3; subst h1; subst h4
          have h5 := mx_pr2 ha n c' v (by simp at h; omega) (fun x hx => hu' x (by simp [hx])) hv
          have h6 := mx_pair c p (c' ++ v)
          have h7 : p ++ op c :: c' ++ v = p ++ op c :: (c' ++ v) := by simp
          rw [h7]; omega
/-- as many are to be cut of a word as of it pulled -/
theorem mx_red : ∀ (w s : List Int), Cr w → Cr s → ((s ++ w).length : Int) - Mx (s ++ w) = ((act s w).length : Int) - Mx (act s w)
  | [], s, _, _ => by rw [List.append_nil]; rfl
  | c :: w, s, hw, hs => by
    have hc := hw c List.mem_cons_self
    have hw' : Cr w := fun d hd => hw d (List.mem_cons_of_mem _ hd)
    have ih := mx_red w (psh s c) hw' (cr_psh hs hc)
    have e0 : act s (c :: w) = act (psh s c) w := rfl
    rw [e0, ← ih]
    by_cases hl : s.getLast? = some (op c)
    · have e1 : psh s c = s.dropLast := by unfold psh; rw [if_pos hl]
      rw [e1]
      rcases List.eq_nil_or_concat s with rfl | ⟨s', x, rfl⟩
      · simp at hl
      · rw [List.concat_eq_append] at hl hs ⊢
        rw [List.dropLast_concat]
        have hx : x = op c := by simpa using hl
        subst hx
        have hs' : Cr s' := fun d hd => hs d (by simp [hd])
        have h1 := mx_pr1 (op_rg hc) _ s' w (Nat.le_refl _)
        have h2 := mx_pr2 (op_rg hc) _ s' w (Nat.le_refl _) hs' hw'
        rw [op_op hc] at h1 h2
        have h3 : s' ++ [op c] ++ c :: w = s' ++ op c :: c :: w := by simp
        have h4 : (s' ++ op c :: c :: w).length = (s' ++ w).length + 2 := by simp; omega
        rw [h3]; omega
    · have e1 : psh s c = s ++ [c] := by unfold psh; rw [if_neg hl]
      rw [e1]
      have h3 : s ++ c :: w = s ++ [c] ++ w := by simp
      rw [h3]
theorem mx_cut {w : List Int} (hw : Cr w) : (w.length : Int) - Mx w = ((red w).length : Int) - Mx (red w) := mx_red w [] hw (fun c hc => by cases hc)
theorem mx_le : ∀ (n : Nat) (w : List Int), w.length ≤ n → Mx w ≤ w.length
  | _, [], _ => Nat.le_refl _
  | 0, c :: t, h => by simp at h
  | n + 1, c :: t, h => by
    rw [List.length_cons] at h ⊢
    rcases mx_cases c t with e | ⟨p, q, rfl, e⟩
    · have := mx_le n t (by omega); omega
    · rw [List.length_append, List.length_cons] at h ⊢
      have := mx_le n p (by omega); have := mx_le n q (by omega); omega
end
section
/-! the scissors -/
def tri : Nat → Nat
  | 0 => 0
  | n + 1 => tri n + n
theorem tri_int (n : Nat) : (n : Int) * (n - 1) = 2 * (tri n : Int) := by
  induction n with
  | zero => simp [tri]
  | succ n ih =>
    have e : ((n + 1 : Nat) : Int) * (((n + 1 : Nat) : Int) - 1) = (n : Int) * (n - 1) + 2 * n := by
      rw [show ((n + 1 : Nat) : Int) - 1 = n by omega, show ((n + 1 : Nat) : Int) = n + 1 by omega, Int.add_mul, Int.mul_sub]; omega
    rw [e, ih, tri]; omega
theorem tri_mono {a b : Nat} (h : a ≤ b) : tri a ≤ tri b := by
  induction b with
  | zero => have : a = 0 := by omega
            subst this; exact Nat.le_refl _
  | succ b ih =>
    by_cases h2 : a = b + 1
    · subst h2; exact Nat.le_refl _
    · have := ih (by omega); rw [tri]; omega
theorem tri_121 : tri 121 = 7260 := by decide +kernel
theorem tri_in {a b : Nat} (h : a < b) (hb : b ≤ 120) : tri b + a < 7260 := by
  have h1 : tri (b + 1) = tri b + b := rfl
  have h2 := tri_mono (show b + 1 ≤ 121 by omega)
  rw [tri_121] at h2; omega
theorem tri_lt {a b b' : Nat} (h : a < b) (hb : b < b') : tri b + a < tri b' := by
  have h1 : tri (b + 1) = tri b + b := rfl
  have h2 := tri_mono (show b + 1 ≤ b' by omega)
  omega
theorem tri_le120 {b : Nat} (hb : b ≤ 120) : tri b ≤ 7140 := by
  have h2 := tri_mono hb
  have : tri 120 = 7140 := by decide +kernel
  omega

theorem c_X2_placeOf {g : GE} {l : Launch} {M : Mem} {a b : Nat} (hb : b ≤ 120) (ha : a ≤ 120) : Cp g l μX2_placeOf [vI a, vI b] M (tri b + a : Nat) := by
  refine Ci.of (by decide +kernel) rfl rfl (fun x hx hr => ?_)
  have h1 := tri_int b
  have h2 := tri_le120 hb
  refine k_iload_n hx dX2_placeOf_0 1 rfl ?_
  refine k_iload_n hx dX2_placeOf_1 1 rfl ?_
  refine k_iconst hx dX2_placeOf_2 ?_
  refine k_isub hx dX2_placeOf_3 ?_
  refine k_imul hx dX2_placeOf_4 ?_
  refine k_iconst hx dX2_placeOf_5 ?_
  refine k_idiv hx dX2_placeOf_6 (by rw [h1]; omega) ?_
  refine k_iload_n hx dX2_placeOf_7 0 rfl ?_
  refine k_iadd hx dX2_placeOf_8 ?_
  refine k_ri hx hr dX2_placeOf_9 ?_
  exact ⟨by rw [h1]; omega, rfl⟩
theorem xor12 : ∀ a : Fin 12, 0 ≤ (zI ((a : Nat) : Int) ^^^ zI 12).toInt := by decide +kernel
theorem c_floorMod {g : GE} {l : Launch} {M : Mem} {a : Int} (h : 0 ≤ a ∧ a < 12) : Cp g l μJ9_floorMod_7cf53 [vI a, vI 12] M a := by
  refine Ci.ofJ (by decide +kernel) rfl rfl (fun x hx hr => ?_)
  have hx12 : 0 ≤ (zI a ^^^ zI 12).toInt := by
    have := xor12 ⟨a.toNat, by omega⟩
    simpa [Int.max_eq_left h.1] using this
  have hrg := i32_rg (zI a ^^^ zI 12)
  refine k_iload_n hx dJ9_floorMod_7cf53_0 0 rfl ?_
  refine k_iload_n hx dJ9_floorMod_7cf53_1 1 rfl ?_
  refine k_irem hx dJ9_floorMod_7cf53_2 (by omega) ?_
  refine k_istore_n (ls' := [(0, vI a), (1, vI 12), (2, vI (a % 12))]) hx dJ9_floorMod_7cf53_3 rfl rfl (by decide) ?_
  refine k_iload_n hx dJ9_floorMod_7cf53_4 0 rfl ?_
  refine k_iload_n hx dJ9_floorMod_7cf53_5 1 rfl ?_
  refine k_ixor (v := zI ((zI a ^^^ zI 12).toInt)) hx dJ9_floorMod_7cf53_6 ((zI_of _).symm) ?_
  refine k_ifge hx dJ9_floorMod_7cf53_7 (by omega) (fun h_7 => ?_) (fun h_7 => absurd h_7 (by omega))
  refine k_iload_n hx dJ9_floorMod_7cf53_18 2 rfl ?_
  refine k_ri hx hr dJ9_floorMod_7cf53_19 ?_
  exact ⟨by omega, rfl⟩
theorem c_X2_staying {g : GE} {l : Launch} {M : Mem} {r : List Int} {a b : Nat} (hr : r.length ≤ 120) (ha : a ≤ r.length + 1) (hb : b ≤ r.length) (hs : a < b → M 110 (tri b + a : Nat) = (Mx (slc r a b) : Int)) : Cp g l μX2_staying [vR g 109, vI a, vI b] M (Mx (slc r a b)) := by
  refine Ci.of (by decide +kernel) rfl rfl (fun x hx hrx => ?_)
  by_cases hab : a < b
  · have h1 := tri_in hab (by omega)
    refine k_iload_n hx dX2_staying_0 1 rfl ?_
    refine k_iload_n hx dX2_staying_1 2 rfl ?_
    refine k_icmp_ge hx dX2_staying_2 (by omega) (fun h_2 => absurd h_2 (by omega)) (fun h_2 => ?_)
    refine k_aload_n hx dX2_staying_5 0 rfl ?_
    refine k_get (v := vR g 110) hx fX2_9 dX2_staying_6 n_109 L_109 rfl ?_
    refine k_iload_n hx dX2_staying_9 1 rfl ?_
    refine k_iload_n hx dX2_staying_10 2 rfl ?_
    refine k_sp (rest := [vR g 110]) (e := (tri b + a : Nat)) hx sX2_40 dX2_staying_11 (c_X2_placeOf (a := a) (b := b) (by omega) (by omega)) rfl rfl rfl ⟨rfl, rfl⟩ ⟨by decide, by decide⟩ ?_
    refine k_iald (v := (Mx (slc r a b) : Nat)) hx dX2_staying_14 n_110 L_110 (by omega) (by decide) (hs hab) ?_
    refine k_goto hx dX2_staying_15 ?_
    refine k_ri hx hrx dX2_staying_19 ?_
    exact ⟨rfl, rfl⟩
  · have e : slc r a b = [] := by unfold slc; rw [List.drop_eq_nil_of_le]; rw [List.length_take]; omega
    refine k_iload_n hx dX2_staying_0 1 rfl ?_
    refine k_iload_n hx dX2_staying_1 2 rfl ?_
    refine k_icmp_ge hx dX2_staying_2 (by omega) (fun h_2 => ?_) (fun h_2 => absurd h_2 (by omega))
    refine k_iconst hx dX2_staying_18 ?_
    refine k_ri hx hrx dX2_staying_19 ?_
    exact ⟨by rw [e]; rfl, rfl⟩
/-- q is the first place from m on that holds c (the length, if none) -/
def Nxe (r : List Int) (m : Nat) (c : Int) (q : Nat) : Prop := m ≤ q ∧ q ≤ r.length ∧ (∀ j, m ≤ j → j < q → at0 r j ≠ c) ∧ (q < r.length → at0 r q = c)
/-- the links of the place k -/
def Lk (M : Mem) (r : List Int) (k : Nat) : Prop := (∃ q : Nat, M 111 k = q ∧ Nxe r (k + 1) (op (at0 r k)) q) ∧ (∃ q : Nat, M 112 k = q ∧ Nxe r (k + 1) (at0 r k) q)
theorem Nxe.down {r : List Int} {m : Nat} {c : Int} {q : Nat} (h : Nxe r (m + 1) c q) (hm : at0 r m ≠ c) : Nxe r m c q :=
  ⟨by have := h.1; omega, h.2.1, fun j h1 h2 => by
    by_cases hj : j = m
    · subst hj; exact hm
    · exact h.2.2.1 j (by omega) h2, h.2.2.2⟩
def Off4 (M M' : Mem) : Prop := ∀ a, (a < 110 ∨ 114 ≤ a) → M' a = M a
theorem Off4.tr {M M' M'' : Mem} (h : Off4 M M') (k : Off4 M' M'') : Off4 M M'' := fun a h1 => (k a h1).trans (h a h1)
theorem off4_up {M : Mem} {i : Nat} {k z : Int} (h : 110 ≤ i ∧ i < 114) : Off4 M (up M i k z) := fun a ha => up_i (by omega)

theorem c_X2_linkPlaces {g : GE} {l : Launch} {M : Mem} {r : List Int} (hw : Wd M 114 r) (hl : r.length ≤ 120) : Cv g l μX2_linkPlaces [vR g 109, vR g 114, vI r.length] M (fun M' => (∀ k, k < r.length → Lk M' r k) ∧ ∀ a, a ≠ 111 → a ≠ 112 → a ≠ 113 → M' a = M a) := by
  refine Cv.of (by decide +kernel) rfl rfl (fun x hx hr => ?_)
  have loop2 : ∀ (f : Nat), ∀ (m : Nat) (z : Int) (M' : Mem), z = (m : Int) - 1 → m ≤ r.length → m < f → (∀ c : Nat, c < 12 → ∃ q : Nat, M' 113 c = q ∧ Nxe r m c q) → (∀ k, m ≤ k → k < r.length → Lk M' r k) → (∀ a, a ≠ 111 → a ≠ 112 → a ≠ 113 → M' a = M a) → K x g 0 0 LAY NN M' 25 [(0, vR g 109), (1, vR g 114), (2, vI r.length), (3, vI z)] [] := by
    intro f
    induction f with
    | zero => intro m z M' hz hm hf hn hk ho; omega
    | succ f ih =>
      intro m z M' hz hm hf hn hk ho
      refine k_iload_n hx dX2_linkPlaces_25 3 rfl ?_
      refine k_iflt hx dX2_linkPlaces_26 (by omega) (fun h_26 => ?_) (fun h_26 => ?_)
      · refine k_rv hx hr dX2_linkPlaces_84 ?_
        exact ⟨fun k h => hk k (by omega) h, ho⟩
      · obtain ⟨p, rfl⟩ : ∃ p, m = p + 1 := ⟨m - 1, by omega⟩
        have hzp : z = p := by omega
        have hw' : Wd M' 114 r := hw.same (ho 114 (by omega) (by omega) (by omega)) (ho 115 (by omega) (by omega) (by omega))
        have e1 : at0 r z = at0 r p := by rw [hzp]
        have c1 := op_cr hw.2.2 (k := p) (by omega)
        have c2 := op_rg c1
        obtain ⟨q1, hq1, hx1⟩ := hn (op (at0 r p)).toNat (by omega)
        obtain ⟨q2, hq2, hx2⟩ := hn (at0 r p).toNat (by omega)
        rw [show (((op (at0 r p)).toNat : Nat) : Int) = op (at0 r p) by omega] at hq1 hx1
        rw [show (((at0 r p).toNat : Nat) : Int) = at0 r p by omega] at hq2 hx2
        refine k_aload_n hx dX2_linkPlaces_29 1 rfl ?_
        refine k_iload_n hx dX2_linkPlaces_30 3 rfl ?_
        refine k_vp (rest := []) (e := (at0 r z)) hx vX2_49 dX2_linkPlaces_31 (c_X4_at isW_114 hw' (by omega) (z := z) (by omega)) n_114 L_114 rfl rfl rfl ⟨rfl, rfl⟩ ⟨by decide, by decide⟩ ?_
        rw [e1]
        refine k_bipush hx dX2_linkPlaces_34 (by decide +kernel) ?_
        refine k_sp (rest := []) (e := (at0 r p)) hx sX2_53 dX2_linkPlaces_36 (c_floorMod c1) rfl rfl rfl ⟨rfl, rfl⟩ ⟨by decide, by decide⟩ ?_
        refine k_istore (ls' := [(0, vR g 109), (1, vR g 114), (2, vI r.length), (3, vI z), (4, vI (at0 r p))]) hx dX2_linkPlaces_39 rfl rfl (by decide) ?_
        refine k_aload_n hx dX2_linkPlaces_41 0 rfl ?_
        refine k_get (v := vR g 111) hx fX2_15 dX2_linkPlaces_42 n_109 L_109 rfl ?_
        refine k_iload_n hx dX2_linkPlaces_45 3 rfl ?_
        refine k_aload_n hx dX2_linkPlaces_46 0 rfl ?_
        refine k_get (v := vR g 113) hx fX2_21 dX2_linkPlaces_47 n_109 L_109 rfl ?_
        refine k_iload hx dX2_linkPlaces_50 4 rfl ?_
        refine k_np (rest := [vR g 113, vI z, vR g 111]) (e := (op (at0 r p))) hx nX2_56 dX2_linkPlaces_52 (c_X5_opposite (z := (at0 r p)) (by omega)) rfl rfl rfl ⟨rfl, rfl⟩ ⟨by decide, by decide⟩ ?_
        refine k_iald (v := q1) hx dX2_linkPlaces_55 n_113 L_113 (by omega) (by decide) (hq1) ?_
        refine k_iastN hx dX2_linkPlaces_56 n_111 L_111 (by omega) (by decide) (fun M_56 hM_56 => ?_)
        refine k_aload_n hx dX2_linkPlaces_57 0 rfl ?_
        refine k_get (v := vR g 112) hx fX2_18 dX2_linkPlaces_58 n_109 L_109 rfl ?_
        refine k_iload_n hx dX2_linkPlaces_61 3 rfl ?_
        refine k_aload_n hx dX2_linkPlaces_62 0 rfl ?_
        refine k_get (v := vR g 113) hx fX2_21 dX2_linkPlaces_63 n_109 L_109 rfl ?_
        refine k_iload hx dX2_linkPlaces_66 4 rfl ?_
        refine k_iald (v := q2) hx dX2_linkPlaces_68 n_113 L_113 (by omega) (by decide) (by rw [hM_56, up_i (by omega)]; exact hq2) ?_
        refine k_iastN hx dX2_linkPlaces_69 n_112 L_112 (by omega) (by decide) (fun M_69 hM_69 => ?_)
        refine k_aload_n hx dX2_linkPlaces_70 0 rfl ?_
        refine k_get (v := vR g 113) hx fX2_21 dX2_linkPlaces_71 n_109 L_109 rfl ?_
        refine k_iload hx dX2_linkPlaces_74 4 rfl ?_
        refine k_iload_n hx dX2_linkPlaces_76 3 rfl ?_
        refine k_iastN hx dX2_linkPlaces_77 n_113 L_113 (by omega) (by decide) (fun M_77 hM_77 => ?_)
        refine k_iinc (ls' := [(0, vR g 109), (1, vR g 114), (2, vI r.length), (3, vI (z + (-1))), (4, vI (at0 r p))]) hx dX2_linkPlaces_78 3 rfl rfl rfl (by decide) ?_
        refine k_goto hx dX2_linkPlaces_81 ?_
        refine K.sub [0, 1, 2, 3] rfl ?_
        have hne : ∀ a, a ≠ 111 → a ≠ 112 → a ≠ 113 → M_77 a = M a := fun a h1 h2 h3 => by rw [hM_77, hM_69, hM_56, up_i h3, up_i h2, up_i h1]; exact ho a h1 h2 h3
        refine ih p (z + -1) M_77 (by omega) (by omega) (by omega) (fun c hc => ?_) (fun k h1 h2 => ?_) hne
        · obtain ⟨q, hq, hx⟩ := hn c hc
          by_cases hcp : (c : Int) = at0 r p
          · refine ⟨p, by rw [hM_77, hcp, up_s]; exact hzp, Nat.le_refl _, by omega, fun j h1 h2 => absurd h1 (by omega), fun _ => by rw [hcp]⟩
          · exact ⟨q, by rw [hM_77, up_k hcp, hM_69, up_i (by omega), hM_56, up_i (by omega)]; exact hq, hx.down (fun h => hcp h.symm)⟩
        · by_cases hkp : k = p
          · subst hkp
            exact ⟨⟨q1, by rw [hM_77, up_i (by omega), hM_69, up_i (by omega), hM_56, ← hzp, up_s], hx1⟩, ⟨q2, by rw [hM_77, up_i (by omega), hM_69, ← hzp, up_s], hx2⟩⟩
          · obtain ⟨⟨a1, b1, d1⟩, ⟨a2, b2, d2⟩⟩ := hk k (by omega) h2
            exact ⟨⟨a1, by rw [hM_77, up_i (by omega), hM_69, up_i (by omega), hM_56, up_k (by omega)]; exact b1, d1⟩, ⟨a2, by rw [hM_77, up_i (by omega), hM_69, up_k (by omega), hM_56, up_i (by omega)]; exact b2, d2⟩⟩
  have loop1 : ∀ (f : Nat), ∀ (k : Nat) (z : Int) (M' : Mem), z = k → k ≤ 12 → 12 - k < f → (∀ c : Nat, c < k → M' 113 c = r.length) → (∀ a, a ≠ 111 → a ≠ 112 → a ≠ 113 → M' a = M a) → K x g 0 0 LAY NN M' 2 [(0, vR g 109), (1, vR g 114), (2, vI r.length), (3, vI z)] [] := by
    intro f
    induction f with
    | zero => intro k z M' hz hk hf hn ho; omega
    | succ f ih =>
      intro k z M' hz hk hf hn ho
      refine k_iload_n hx dX2_linkPlaces_2 3 rfl ?_
      refine k_bipush hx dX2_linkPlaces_3 (by decide +kernel) ?_
      refine k_icmp_ge hx dX2_linkPlaces_5 (by omega) (fun h_5 => ?_) (fun h_5 => ?_)
      · refine k_iload_n hx dX2_linkPlaces_21 2 rfl ?_
        refine k_iconst hx dX2_linkPlaces_22 ?_
        refine k_isub hx dX2_linkPlaces_23 ?_
        refine k_istore_n (ls' := [(0, vR g 109), (1, vR g 114), (2, vI r.length), (3, vI (r.length - 1))]) hx dX2_linkPlaces_24 rfl rfl (by decide) ?_
        exact loop2 (r.length + 1) r.length _ M' rfl (by omega) (by omega) (fun c hc => ⟨r.length, hn c (by omega), Nat.le_refl _, Nat.le_refl _, fun j h1 h2 => absurd h1 (by omega), fun h => absurd h (by omega)⟩) (fun k h1 h2 => absurd h1 (by omega)) ho
      · refine k_aload_n hx dX2_linkPlaces_8 0 rfl ?_
        refine k_get (v := vR g 113) hx fX2_21 dX2_linkPlaces_9 n_109 L_109 rfl ?_
        refine k_iload_n hx dX2_linkPlaces_12 3 rfl ?_
        refine k_iload_n hx dX2_linkPlaces_13 2 rfl ?_
        refine k_iastN hx dX2_linkPlaces_14 n_113 L_113 (by omega) (by decide) (fun M_14 hM_14 => ?_)
        refine k_iinc (ls' := [(0, vR g 109), (1, vR g 114), (2, vI r.length), (3, vI (z + 1))]) hx dX2_linkPlaces_15 3 rfl rfl rfl (by decide) ?_
        refine k_goto hx dX2_linkPlaces_18 ?_
        refine ih (k + 1) (z + 1) M_14 (by omega) (by omega) (by omega) (fun c hc => ?_) (fun a h1 h2 h3 => by rw [hM_14, up_i h3]; exact ho a h1 h2 h3)
        rw [hM_14]
        by_cases hck : c = k
        · subst hck; rw [← hz, up_s]
        · rw [up_k (by omega)]; exact hn c (by omega)
  refine k_iconst hx dX2_linkPlaces_0 ?_
  refine k_istore_n (ls' := [(0, vR g 109), (1, vR g 114), (2, vI r.length), (3, vI 0)]) hx dX2_linkPlaces_1 rfl rfl (by decide) ?_
  exact loop1 13 0 0 M rfl (by omega) (by omega) (fun c hc => absurd hc (by omega)) (fun _ _ _ _ => rfl)
/-- the best of the first m places -/
def FM (t : List Int) (c : Int) (m : Nat) : Nat := (List.range m).foldl (mxS t c (fun k => 2 + Mx (t.take k) + Mx (t.drop (k + 1)))) (Mx t)
theorem FM_succ (t : List Int) (c : Int) (m : Nat) : FM t c (m + 1) = if at0 t m = op c then max (FM t c m) (2 + Mx (t.take m) + Mx (t.drop (m + 1))) else FM t c m := by
  unfold FM; rw [List.range_succ, List.foldl_append]; rfl
theorem FM_skip {t : List Int} {c : Int} {m : Nat} : ∀ (d : Nat), (∀ k, m ≤ k → k < m + d → at0 t k ≠ op c) → FM t c (m + d) = FM t c m
  | 0, _ => rfl
  | d + 1, h => by
    rw [show m + (d + 1) = (m + d) + 1 by omega, FM_succ, if_neg (h (m + d) (by omega) (by omega)), FM_skip d (fun k h1 h2 => h k h1 (by omega))]
theorem FM_mono (t : List Int) (c : Int) {m n : Nat} (h : m ≤ n) : FM t c m ≤ FM t c n := by
  induction n with
  | zero => have : m = 0 := by omega
            subst this; exact Nat.le_refl _
  | succ n ih =>
    by_cases h2 : m = n + 1
    · subst h2; exact Nat.le_refl _
    · have h3 := ih (by omega)
      rw [FM_succ]; split <;> omega
theorem FM_all (c : Int) (t : List Int) : FM t c t.length = Mx (c :: t) := (mx_cons c t).symm
theorem slc_cons {r : List Int} {a b : Nat} (h : a < b) (hb : b ≤ r.length) : slc r a b = at0 r a :: slc r (a + 1) b := by
  unfold slc
  rw [List.drop_eq_getElem_cons (by rw [List.length_take]; omega), at0_n (by omega)]
  simp
theorem slc_take {r : List Int} {a b k : Nat} (h : a + k ≤ b) : (slc r a b).take k = slc r a (a + k) := by
  unfold slc
  rw [List.take_drop, List.take_take, Nat.min_eq_left (by omega)]
theorem slc_drop {r : List Int} {a b k : Nat} : (slc r a b).drop k = slc r (a + k) b := by
  unfold slc
  rw [List.drop_drop]

theorem c_X2_mostStaying {g : GE} {l : Launch} {M : Mem} {r : List Int} (hcr : Cr r) (hl : r.length ≤ 120) {a b : Nat} (hab : a < b) (hb : b ≤ r.length) (hlk : ∀ k, k < r.length → Lk M r k) (hs : ∀ a' b', a' < b' → b' ≤ b → (b' < b ∨ a < a') → M 110 (tri b' + a' : Nat) = (Mx (slc r a' b') : Int)) : Cp g l μX2_mostStaying [vR g 109, vI a, vI b] M (Mx (slc r a b)) := by
  refine Ci.of (by decide +kernel) rfl rfl (fun x hx hr => ?_)
  obtain ⟨t, ht⟩ : ∃ t, t = slc r (a + 1) b := ⟨_, rfl⟩
  obtain ⟨c, hc⟩ : ∃ c, c = at0 r a := ⟨_, rfl⟩
  have htl : t.length = b - (a + 1) := by rw [ht]; exact slc_len hb
  have hfin : FM t c t.length = Mx (slc r a b) := by rw [FM_all, slc_cons hab hb, ht, hc]
  have hat : ∀ k, a < k → k < b → at0 t (k - a - 1 : Nat) = at0 r k := fun k h1 h2 => by
    rw [ht, slc_at hb (by omega)]; congr 2; omega
  have hmx : ∀ a' b', b' ≤ r.length → Mx (slc r a' b') ≤ 120 := fun a' b' h => by
    have h1 := mx_le _ (slc r a' b') (Nat.le_refl _); rw [slc_len h] at h1; omega
  have hcc := op_cr hcr (k := a) (by omega)
  rw [← hc] at hcc
  have hFb : ∀ m, m ≤ t.length → FM t c m ≤ 120 := fun m h => by
    have h1 := FM_mono t c h; rw [hfin] at h1; have := hmx a b hb; omega
  have loop : ∀ (f : Nat), ∀ (q : Nat) (y z : Int), z = q → a < q → q ≤ r.length → r.length - q < f → y = FM t c (min q b - a - 1) → (q < b → at0 r q = op c) → K x g 0 0 LAY NN M 17 [(0, vR g 109), (1, vI a), (2, vI b), (3, vI y), (4, vI z)] [] := by
    intro f
    induction f with
    | zero => intro q y z hz hq hqr hf hy hop; omega
    | succ f ih =>
      intro q y z hz hq hqr hf hy hop
      refine k_iload hx dX2_mostStaying_17 4 rfl ?_
      refine k_iload_n hx dX2_mostStaying_19 2 rfl ?_
      refine k_icmp_ge hx dX2_mostStaying_20 (by omega) (fun h_20 => ?_) (fun h_20 => ?_)
      · refine k_iload_n hx dX2_mostStaying_68 3 rfl ?_
        refine k_ri hx hr dX2_mostStaying_69 ?_
        exact ⟨by rw [hy, Nat.min_eq_right (by omega), ← hfin, htl]; congr 2, rfl⟩
      · subst hz
        have hqb : q < b := by omega
        have hoq := hop hqb
        have e1 : (a : Int) + 1 = ((a + 1 : Nat) : Int) := by omega
        have hg1 := hmx (a + 1) q (by omega)
        have hg2 := hmx (q + 1) b hb
        obtain ⟨q', hq', hx'⟩ := (hlk q (by omega)).2
        have hq'2 := hx'.2.1
        have hfb1 := hFb (q - a - 1) (by omega)
        have hstep : FM t c (q + 1 - a - 1) = max (FM t c (q - a - 1)) (2 + Mx (slc r (a + 1) q) + Mx (slc r (q + 1) b)) := by
          rw [show q + 1 - a - 1 = (q - a - 1) + 1 by omega, FM_succ, if_pos (by rw [hat q hq hqb]; exact hoq), ht, slc_take (by omega), slc_drop, show a + 1 + (q - a - 1) = q by omega, show a + 1 + (q - a - 1 + 1) = q + 1 by omega]
        rw [Nat.min_eq_left (by omega)] at hy
        refine k_iload_n hx dX2_mostStaying_23 3 rfl ?_
        refine k_iconst hx dX2_mostStaying_24 ?_
        refine k_aload_n hx dX2_mostStaying_25 0 rfl ?_
        refine k_iload_n hx dX2_mostStaying_26 1 rfl ?_
        refine k_iconst hx dX2_mostStaying_27 ?_
        refine k_iadd hx dX2_mostStaying_28 ?_
        refine k_iload hx dX2_mostStaying_29 4 rfl ?_
        rw [e1]
        refine k_vp (rest := [vI 2, vI y]) (e := (Mx (slc r (a + 1) q) : Nat)) hx vX2_46 dX2_mostStaying_31 (c_X2_staying (r := r) (a := a + 1) (b := q) hl (by omega) (by omega) (fun h => hs _ _ h (by omega) (by omega))) n_109 L_109 rfl rfl rfl ⟨rfl, rfl⟩ ⟨by decide, by decide⟩ ?_
        refine k_iadd hx dX2_mostStaying_34 ?_
        refine k_aload_n hx dX2_mostStaying_35 0 rfl ?_
        refine k_iload hx dX2_mostStaying_36 4 rfl ?_
        refine k_iconst hx dX2_mostStaying_38 ?_
        refine k_iadd hx dX2_mostStaying_39 ?_
        refine k_iload_n hx dX2_mostStaying_40 2 rfl ?_
        
        refine k_vp (rest := [vI (2 + (Mx (slc r (a + 1) q) : Nat)), vI y]) (e := (Mx (slc r (q + 1) b) : Nat)) hx vX2_46 dX2_mostStaying_41 (c_X2_staying (r := r) (a := q + 1) (b := b) hl (by omega) hb (fun h => hs _ _ h (by omega) (by omega))) n_109 L_109 rfl rfl rfl ⟨rfl, rfl⟩ ⟨by decide, by decide⟩ ?_
        refine k_iadd hx dX2_mostStaying_44 ?_
        refine k_sp (rest := []) (e := (max y ((2 + (Mx (slc r (a + 1) q) : Nat)) + (Mx (slc r (q + 1) b) : Nat)))) hx sX2_59 dX2_mostStaying_45 (c_max (a := y) (b := ((2 + (Mx (slc r (a + 1) q) : Nat)) + (Mx (slc r (q + 1) b) : Nat))) (by omega)) rfl rfl rfl ⟨rfl, rfl⟩ ⟨by decide, by decide⟩ ?_
        refine k_istore_n (ls' := [(0, vR g 109), (1, vI a), (2, vI b), (3, vI (max y ((2 + (Mx (slc r (a + 1) q) : Nat)) + (Mx (slc r (q + 1) b) : Nat)))), (4, vI (q : Nat))]) hx dX2_mostStaying_48 rfl rfl (by decide) ?_
        refine k_iload hx dX2_mostStaying_49 4 rfl ?_
        refine k_iconst hx dX2_mostStaying_51 ?_
        refine k_iadd hx dX2_mostStaying_52 ?_
        refine k_aload_n hx dX2_mostStaying_53 0 rfl ?_
        refine k_get (v := vR g 112) hx fX2_18 dX2_mostStaying_54 n_109 L_109 rfl ?_
        refine k_iload hx dX2_mostStaying_57 4 rfl ?_
        refine k_iald (v := q') hx dX2_mostStaying_59 n_112 L_112 (by omega) (by decide) (hq') ?_
        refine k_sp (rest := []) (e := (max ((q : Nat) + 1) q')) hx sX2_59 dX2_mostStaying_60 (c_max (a := ((q : Nat) + 1)) (b := q') (by omega)) rfl rfl rfl ⟨rfl, rfl⟩ ⟨by decide, by decide⟩ ?_
        refine k_istore (ls' := [(0, vR g 109), (1, vI a), (2, vI b), (3, vI (max y ((2 + (Mx (slc r (a + 1) q) : Nat)) + (Mx (slc r (q + 1) b) : Nat)))), (4, vI (max ((q : Nat) + 1) q'))]) hx dX2_mostStaying_63 rfl rfl (by decide) ?_
        refine k_goto hx dX2_mostStaying_65 ?_
        have hq'1 : q < q' := hx'.1
        have e5 : max ((q : Int) + 1) q' = q' := by omega
        rw [e5]
        have hsk : FM t c (min q' b - a - 1) = FM t c (q + 1 - a - 1) := by
          have h1 := FM_skip (t := t) (c := c) (m := q + 1 - a - 1) (min q' b - (q + 1)) (fun k h1 h2 => by
            have h3 := hat (k + a + 1) (by omega) (by omega)
            rw [show k + a + 1 - a - 1 = k by omega] at h3
            rw [h3, ← hoq]
            exact hx'.2.2.1 _ (by omega) (by omega))
          rwa [show q + 1 - a - 1 + (min q' b - (q + 1)) = min q' b - a - 1 by omega] at h1
        exact ih q' _ q' rfl (by omega) hx'.2.1 (by omega) (by rw [hsk, hstep, hy]; omega) (fun h => by rw [hx'.2.2.2 (by omega), hoq])
  refine k_aload_n hx dX2_mostStaying_0 0 rfl ?_
  refine k_iload_n hx dX2_mostStaying_1 1 rfl ?_
  refine k_iconst hx dX2_mostStaying_2 ?_
  refine k_iadd hx dX2_mostStaying_3 ?_
  refine k_iload_n hx dX2_mostStaying_4 2 rfl ?_
  have e1 : (a : Int) + 1 = ((a + 1 : Nat) : Int) := by omega
  rw [e1]
  refine k_vp (rest := []) (e := (Mx (slc r (a + 1) b) : Nat)) hx vX2_46 dX2_mostStaying_5 (c_X2_staying (r := r) (a := a + 1) (b := b) hl (by omega) hb (fun h => hs _ _ h (by omega) (by omega))) n_109 L_109 rfl rfl rfl ⟨rfl, rfl⟩ ⟨by decide, by decide⟩ ?_
  refine k_istore_n (ls' := [(0, vR g 109), (1, vI a), (2, vI b), (3, vI (Mx (slc r (a + 1) b) : Nat))]) hx dX2_mostStaying_8 rfl rfl (by decide) ?_
  obtain ⟨q0, hq0, hx0⟩ := (hlk a (by omega)).1
  have hm0 := hmx (a + 1) b hb
  refine k_aload_n hx dX2_mostStaying_9 0 rfl ?_
  refine k_get (v := vR g 111) hx fX2_15 dX2_mostStaying_10 n_109 L_109 rfl ?_
  refine k_iload_n hx dX2_mostStaying_13 1 rfl ?_
  refine k_iald (v := q0) hx dX2_mostStaying_14 n_111 L_111 (by omega) (by decide) (hq0) ?_
  refine k_istore (ls' := [(0, vR g 109), (1, vI a), (2, vI b), (3, vI (Mx (slc r (a + 1) b) : Nat)), (4, vI q0)]) hx dX2_mostStaying_15 rfl rfl (by decide) ?_
  have hq01 : a < q0 := hx0.1
  rw [← hc] at hx0
  have hsk : FM t c (min q0 b - a - 1) = FM t c 0 := by
    have h1 := FM_skip (t := t) (c := c) (m := 0) (min q0 b - (a + 1)) (fun k h1 h2 => by
      have h3 := hat (k + a + 1) (by omega) (by omega)
      rw [show k + a + 1 - a - 1 = k by omega] at h3
      rw [h3]
      exact hx0.2.2.1 _ (by omega) (by omega))
    rwa [show 0 + (min q0 b - (a + 1)) = min q0 b - a - 1 by omega] at h1
  have h00 : FM t c 0 = Mx (slc r (a + 1) b) := by rw [← ht]; rfl
  exact loop (r.length + 1) q0 _ q0 rfl hq01 hx0.2.1 (by omega) (by rw [hsk, h00]) (fun h => hx0.2.2.2 (by omega))
theorem c_X2_fewestCuts {g : GE} {l : Launch} {M : Mem} {r : List Int} (hw : Wd M 114 r) (hl : r.length ≤ 120) : Ci g l μX2_fewestCuts [vR g 109, vR g 114] M (fun z M' => z = (r.length : Int) - Mx r ∧ Off4 M M') := by
  refine Ci.of (by decide +kernel) rfl rfl (fun x hx hr => ?_)
  have hwl := hw.1
  have hmx : ∀ a' b', b' ≤ r.length → Mx (slc r a' b') ≤ 120 := fun a' b' h => by
    have h1 := mx_le _ (slc r a' b') (Nat.le_refl _); rw [slc_len h] at h1; omega
  have loop : ∀ (f : Nat), ∀ (e s : Nat) (z : Int) (M' : Mem), e ≤ r.length → s ≤ e → z = (s : Int) - 1 → (r.length - e) * 200 + s < f → (∀ k, k < r.length → Lk M' r k) → (∀ a' b', a' < b' → b' ≤ e → (b' < e ∨ s ≤ a') → M' 110 (tri b' + a' : Nat) = (Mx (slc r a' b') : Int)) → Off4 M M' → K x g 0 0 LAY NN M' 28 [(0, vR g 109), (1, vR g 114), (2, vI r.length), (3, vI e), (4, vI z)] [] := by
    intro f
    induction f with
    | zero => intro e s z M' he hse hz hf hk hs ho; omega
    | succ f ih =>
      intro e s z M' he hse hz hf hk hs ho
      refine k_iload hx dX2_fewestCuts_28 4 rfl ?_
      refine k_iflt hx dX2_fewestCuts_30 (by omega) (fun h_30 => ?_) (fun h_30 => ?_)
      · refine K.sub [0, 1, 2, 3] rfl ?_
        refine k_iinc (ls' := [(0, vR g 109), (1, vR g 114), (2, vI r.length), (3, vI (e + 1))]) hx dX2_fewestCuts_57 3 rfl rfl rfl (by decide) ?_
        refine k_goto hx dX2_fewestCuts_60 ?_
        refine k_iload_n hx dX2_fewestCuts_18 3 rfl ?_
        refine k_iload_n hx dX2_fewestCuts_19 2 rfl ?_
        refine k_icmp_gt hx dX2_fewestCuts_20 (by omega) (fun h_20 => ?_) (fun h_20 => ?_)
        · have hen : e = r.length := by omega
          subst hen
          have hm2 := hmx 0 r.length (Nat.le_refl _)
          refine k_iload_n hx dX2_fewestCuts_63 2 rfl ?_
          refine k_aload_n hx dX2_fewestCuts_64 0 rfl ?_
          refine k_iconst hx dX2_fewestCuts_65 ?_
          refine k_iload_n hx dX2_fewestCuts_66 2 rfl ?_
          refine k_vp (rest := [vI r.length]) (e := (Mx (slc r 0 r.length) : Nat)) hx vX2_46 dX2_fewestCuts_67 (c_X2_staying (r := r) (a := 0) (b := r.length) hl (by omega) (by omega) (fun h => hs _ _ h (by omega) (by omega))) n_109 L_109 rfl rfl rfl ⟨rfl, rfl⟩ ⟨by decide, by decide⟩ ?_
          refine k_isub hx dX2_fewestCuts_70 ?_
          refine k_ri hx hr dX2_fewestCuts_71 ?_
          exact ⟨by rw [slc_all], ho⟩
        · refine k_iload_n hx dX2_fewestCuts_23 3 rfl ?_
          refine k_iconst hx dX2_fewestCuts_24 ?_
          refine k_isub hx dX2_fewestCuts_25 ?_
          refine k_istore (ls' := [(0, vR g 109), (1, vR g 114), (2, vI r.length), (3, vI (e + 1)), (4, vI ((e + 1) - 1))]) hx dX2_fewestCuts_26 rfl rfl (by decide) ?_
          exact ih (e + 1) (e + 1) _ M' (by omega) (by omega) (by omega) (by omega) hk (fun a1 b1 h1 h2 h3 => hs a1 b1 h1 (by omega) (by omega)) ho
      · obtain ⟨s, rfl⟩ : ∃ p, s = p + 1 := ⟨s - 1, by omega⟩
        have hzs : z = s := by omega
        subst hzs
        have htb := tri_in (a := s) (b := e) (by omega) (by omega)
        have hm1 := hmx s e he
        refine k_aload_n hx dX2_fewestCuts_33 0 rfl ?_
        refine k_get (v := vR g 110) hx fX2_9 dX2_fewestCuts_34 n_109 L_109 rfl ?_
        refine k_iload hx dX2_fewestCuts_37 4 rfl ?_
        refine k_iload_n hx dX2_fewestCuts_39 3 rfl ?_
        refine k_sp (rest := [vR g 110]) (e := (tri e + s : Nat)) hx sX2_40 dX2_fewestCuts_40 (c_X2_placeOf (a := s) (b := e) (by omega) (by omega)) rfl rfl rfl ⟨rfl, rfl⟩ ⟨by decide, by decide⟩ ?_
        refine k_aload_n hx dX2_fewestCuts_43 0 rfl ?_
        refine k_iload hx dX2_fewestCuts_44 4 rfl ?_
        refine k_iload_n hx dX2_fewestCuts_46 3 rfl ?_
        refine k_vp (rest := [vI (tri e + s : Nat), vR g 110]) (e := (Mx (slc r s e) : Nat)) hx vX2_43 dX2_fewestCuts_47 (c_X2_mostStaying (r := r) hw.2.2 hl (a := s) (b := e) (by omega) he hk (fun a1 b1 h1 h2 h3 => hs a1 b1 h1 h2 (by omega))) n_109 L_109 rfl rfl rfl ⟨rfl, rfl⟩ ⟨by decide, by decide⟩ ?_
        refine k_iastN hx dX2_fewestCuts_50 n_110 L_110 (by omega) (by decide) (fun M_50 hM_50 => ?_)
        refine k_iinc (ls' := [(0, vR g 109), (1, vR g 114), (2, vI r.length), (3, vI e), (4, vI ((s : Nat) + (-1)))]) hx dX2_fewestCuts_51 4 rfl rfl rfl (by decide) ?_
        refine k_goto hx dX2_fewestCuts_54 ?_
        refine ih e s _ M_50 he (by omega) (by omega) (by omega) (fun k h => ?_) (fun a1 b1 h1 h2 h3 => ?_) (ho.tr (by rw [hM_50]; exact off4_up (by omega)))
        · obtain ⟨⟨q1, u1, v1⟩, ⟨q2, u2, v2⟩⟩ := hk k h
          exact ⟨⟨q1, by rw [hM_50, up_i (by omega)]; exact u1, v1⟩, ⟨q2, by rw [hM_50, up_i (by omega)]; exact u2, v2⟩⟩
        · rw [hM_50]
          by_cases hb1 : b1 = e
          · subst hb1
            by_cases ha1 : a1 = s
            · subst ha1; rw [up_s]
            · rw [up_k (by omega)]; exact hs a1 b1 h1 h2 (by omega)
          · have := tri_lt h1 (show b1 < e by omega)
            rw [up_k (by omega)]; exact hs a1 b1 h1 h2 (by omega)
  refine k_aload_n hx dX2_fewestCuts_0 1 rfl ?_
  refine k_get (v := vI r.length) hx fX2_24 dX2_fewestCuts_1 n_114 L_114 (congrArg vI (show M 114 1 = r.length from hwl)) ?_
  refine k_bipush hx dX2_fewestCuts_4 (by decide +kernel) ?_
  refine k_sp (rest := []) (e := (min r.length 120)) hx sX2_30 dX2_fewestCuts_6 (c_min (a := r.length) (b := 120) (by omega)) rfl rfl rfl ⟨rfl, rfl⟩ ⟨by decide, by decide⟩ ?_
  have hmn : min (r.length : Int) 120 = r.length := by omega
  rw [hmn]
  refine k_istore_n (ls' := [(0, vR g 109), (1, vR g 114), (2, vI r.length)]) hx dX2_fewestCuts_9 rfl rfl (by decide) ?_
  refine k_aload_n hx dX2_fewestCuts_10 0 rfl ?_
  refine k_aload_n hx dX2_fewestCuts_11 1 rfl ?_
  refine k_iload_n hx dX2_fewestCuts_12 2 rfl ?_
  refine k_vv (rest := []) hx vX2_36 dX2_fewestCuts_13 (c_X2_linkPlaces hw hl) n_109 L_109 rfl rfl rfl ⟨rfl, rfl⟩ ⟨by decide, by decide⟩ (fun M_13 p_13 => ?_)
  obtain ⟨q1, q2⟩ := p_13
  have ho1 : Off4 M M_13 := fun a ha => q2 a (by omega) (by omega) (by omega)
  refine k_iconst hx dX2_fewestCuts_16 ?_
  refine k_istore_n (ls' := [(0, vR g 109), (1, vR g 114), (2, vI r.length), (3, vI 1)]) hx dX2_fewestCuts_17 rfl rfl (by decide) ?_
  refine k_iload_n hx dX2_fewestCuts_18 3 rfl ?_
  refine k_iload_n hx dX2_fewestCuts_19 2 rfl ?_
  refine k_icmp_gt hx dX2_fewestCuts_20 (by omega) (fun h_20 => ?_) (fun h_20 => ?_)
  · refine k_iload_n hx dX2_fewestCuts_63 2 rfl ?_
    refine k_aload_n hx dX2_fewestCuts_64 0 rfl ?_
    refine k_iconst hx dX2_fewestCuts_65 ?_
    refine k_iload_n hx dX2_fewestCuts_66 2 rfl ?_
    refine k_vp (rest := [vI r.length]) (e := (Mx (slc r 0 r.length) : Nat)) hx vX2_46 dX2_fewestCuts_67 (c_X2_staying (r := r) (a := 0) (b := r.length) hl (by omega) (by omega) (fun h => absurd h (by omega))) n_109 L_109 rfl rfl rfl ⟨rfl, rfl⟩ ⟨by decide, by decide⟩ ?_
    refine k_isub hx dX2_fewestCuts_70 ?_
    refine k_ri hx hr dX2_fewestCuts_71 ?_
    exact ⟨by rw [slc_all], ho1⟩
  · refine k_iload_n hx dX2_fewestCuts_23 3 rfl ?_
    refine k_iconst hx dX2_fewestCuts_24 ?_
    refine k_isub hx dX2_fewestCuts_25 ?_
    refine k_istore (ls' := [(0, vR g 109), (1, vR g 114), (2, vI r.length), (3, vI 1), (4, vI (1 - 1))]) hx dX2_fewestCuts_26 rfl rfl (by decide) ?_
    exact loop (r.length * 200 + 1000) 1 1 0 M_13 (by omega) (by omega) (by omega) (by omega) q1 (fun a1 b1 h1 h2 h3 => absurd h1 (by omega)) ho1
end
section
/-! sets of posts: their sizes, and by which a rope falls -/
section LDC
variable {x : Fx} {g : GE} {cc : ByteArray} {own : String} {nL : Nat} {R : Room} {cs sl : Nat} {L : Lay} {n : Nat} {M : Mem} {pc pc' : Nat} {ls : List (Nat × Value)} {st : List Value}
theorem k_ldcw (hx : Cx x g cc own nL R) {index : Nat} {v : Int} (hd : At cc pc (.ldc_w index) 3 pc') (hc : Cond.constant own index (zI v) ∈ TB) (kk : K x g cs sl L n M pc' ls (vI v :: st)) : K x g cs sl L n M pc ls st := by
  intro H locs la hR hS hl
  obtain ⟨hex, hcc, hnl, how, hts, hK, -⟩ := hx
  obtain ⟨hd1, hd2⟩ := hd
  subst hd2
  exact lv_ldcw hex hcc how (hts _ hc) hd1 (kk H locs la hR hS hl)
theorem k_lcmpI (hx : Cx x g cc own nL R) {a b : Int64} {v : Int} (hd : At cc pc .lcmp 1 pc') (hv : lg_cmp a b = zI v) (k : K x g cs sl L n M pc' ls (vI v :: st)) : K x g cs sl L n M pc ls (.long b :: .long a :: st) := k_lcmp hx hd (by rw [hv]; exact k)
end LDC
theorem q265 : Cond.constant RJ6 265 (zI 1431655765) ∈ TB := tb_of 491 (by decide +kernel) (by decide +kernel)
theorem q266 : Cond.constant RJ6 266 (zI 858993459) ∈ TB := tb_of 492 (by decide +kernel) (by decide +kernel)
theorem q267 : Cond.constant RJ6 267 (zI 252645135) ∈ TB := tb_of 493 (by decide +kernel) (by decide +kernel)
def ush (a k : Int) : Int32 := ((zI a).toUInt32 >>> ((zI k).toUInt32 &&& Int32.toUInt32 31)).toInt32
def bc1 (a : Int) : Int := a - (ush a 1 &&& zI 1431655765).toInt
def bc2 (a : Int) : Int := (zI a &&& zI 858993459).toInt + (ush a 2 &&& zI 858993459).toInt
def bc3 (a : Int) : Int := (zI (a + (ush a 4).toInt) &&& zI 252645135).toInt
def bc4 (a : Int) : Int := a + (ush a 8).toInt
def bc5 (a : Int) : Int := a + (ush a 16).toInt
def bc6 (a : Int) : Int := (zI a &&& zI 63).toInt
/-- how many posts a set has -/
def bcn (S : Int) : Int := bit S 0 + bit S 1 + bit S 2 + bit S 3 + bit S 4 + bit S 5
theorem bcn_fin : ∀ S : Fin 64, bc6 (bc5 (bc4 (bc3 (bc2 (bc1 ((S : Nat) : Int)))))) = bcn ((S : Nat) : Int) := by decide +kernel
theorem bcn_ok {S : Int} (h : 0 ≤ S ∧ S < 64) : bc6 (bc5 (bc4 (bc3 (bc2 (bc1 S))))) = bcn S := by
  have := bcn_fin ⟨S.toNat, by omega⟩
  simpa [Int.max_eq_left h.1] using this
theorem bcn_rg (S : Int) : 0 ≤ bcn S ∧ bcn S ≤ 6 := by
  have h0 := bit_rg S 0; have h1 := bit_rg S 1; have h2 := bit_rg S 2; have h3 := bit_rg S 3; have h4 := bit_rg S 4; have h5 := bit_rg S 5
  unfold bcn; omega

theorem c_bitCount {g : GE} {l : Launch} {M : Mem} {S : Int} (hS : 0 ≤ S ∧ S < 64) : Cp g l μJ6_bitCount_0f7a4 [vI S] M (bcn S) := by
  refine Ci.ofJ (by decide +kernel) rfl rfl (fun x hx hr => ?_)
  refine k_iload_n hx dJ6_bitCount_0f7a4_0 0 rfl ?_
  refine k_iload_n hx dJ6_bitCount_0f7a4_1 0 rfl ?_
  refine k_iconst hx dJ6_bitCount_0f7a4_2 ?_
  refine k_iushr (v := zI ((ush S 1).toInt)) hx dJ6_bitCount_0f7a4_3 ((zI_of _).symm) ?_
  refine k_ldcw (v := 1431655765) hx dJ6_bitCount_0f7a4_4 q265 ?_
  refine k_iand (v := zI ((ush S 1 &&& zI 1431655765).toInt)) hx dJ6_bitCount_0f7a4_7 (by rw [zI_of, zI_of]) ?_
  refine k_isub hx dJ6_bitCount_0f7a4_8 ?_
  refine k_istore_n (ls' := [(0, vI (bc1 S))]) hx dJ6_bitCount_0f7a4_9 rfl rfl (by decide) ?_
  refine k_iload_n hx dJ6_bitCount_0f7a4_10 0 rfl ?_
  refine k_ldcw (v := 858993459) hx dJ6_bitCount_0f7a4_11 q266 ?_
  refine k_iand (v := zI ((zI (bc1 S) &&& zI 858993459).toInt)) hx dJ6_bitCount_0f7a4_14 ((zI_of _).symm) ?_
  refine k_iload_n hx dJ6_bitCount_0f7a4_15 0 rfl ?_
  refine k_iconst hx dJ6_bitCount_0f7a4_16 ?_
  refine k_iushr (v := zI ((ush (bc1 S) 2).toInt)) hx dJ6_bitCount_0f7a4_17 ((zI_of _).symm) ?_
  refine k_ldcw (v := 858993459) hx dJ6_bitCount_0f7a4_18 q266 ?_
  refine k_iand (v := zI ((ush (bc1 S) 2 &&& zI 858993459).toInt)) hx dJ6_bitCount_0f7a4_21 (by rw [zI_of, zI_of]) ?_
  refine k_iadd hx dJ6_bitCount_0f7a4_22 ?_
  refine k_istore_n (ls' := [(0, vI (bc2 (bc1 S)))]) hx dJ6_bitCount_0f7a4_23 rfl rfl (by decide) ?_
  refine k_iload_n hx dJ6_bitCount_0f7a4_24 0 rfl ?_
  refine k_iload_n hx dJ6_bitCount_0f7a4_25 0 rfl ?_
  refine k_iconst hx dJ6_bitCount_0f7a4_26 ?_
  refine k_iushr (v := zI ((ush (bc2 (bc1 S)) 4).toInt)) hx dJ6_bitCount_0f7a4_27 ((zI_of _).symm) ?_
  refine k_iadd hx dJ6_bitCount_0f7a4_28 ?_
  refine k_ldcw (v := 252645135) hx dJ6_bitCount_0f7a4_29 q267 ?_
  refine k_iand (v := zI (bc3 (bc2 (bc1 S)))) hx dJ6_bitCount_0f7a4_32 ((zI_of _).symm) ?_
  refine k_istore_n (ls' := [(0, vI (bc3 (bc2 (bc1 S))))]) hx dJ6_bitCount_0f7a4_33 rfl rfl (by decide) ?_
  refine k_iload_n hx dJ6_bitCount_0f7a4_34 0 rfl ?_
  refine k_iload_n hx dJ6_bitCount_0f7a4_35 0 rfl ?_
  refine k_bipush hx dJ6_bitCount_0f7a4_36 (by decide +kernel) ?_
  refine k_iushr (v := zI ((ush (bc3 (bc2 (bc1 S))) 8).toInt)) hx dJ6_bitCount_0f7a4_38 ((zI_of _).symm) ?_
  refine k_iadd hx dJ6_bitCount_0f7a4_39 ?_
  refine k_istore_n (ls' := [(0, vI (bc4 (bc3 (bc2 (bc1 S)))))]) hx dJ6_bitCount_0f7a4_40 rfl rfl (by decide) ?_
  refine k_iload_n hx dJ6_bitCount_0f7a4_41 0 rfl ?_
  refine k_iload_n hx dJ6_bitCount_0f7a4_42 0 rfl ?_
  refine k_bipush hx dJ6_bitCount_0f7a4_43 (by decide +kernel) ?_
  refine k_iushr (v := zI ((ush (bc4 (bc3 (bc2 (bc1 S)))) 16).toInt)) hx dJ6_bitCount_0f7a4_45 ((zI_of _).symm) ?_
  refine k_iadd hx dJ6_bitCount_0f7a4_46 ?_
  refine k_istore_n (ls' := [(0, vI (bc5 (bc4 (bc3 (bc2 (bc1 S))))))]) hx dJ6_bitCount_0f7a4_47 rfl rfl (by decide) ?_
  refine k_iload_n hx dJ6_bitCount_0f7a4_48 0 rfl ?_
  refine k_bipush hx dJ6_bitCount_0f7a4_49 (by decide +kernel) ?_
  refine k_iand (v := zI (bc6 (bc5 (bc4 (bc3 (bc2 (bc1 S))))))) hx dJ6_bitCount_0f7a4_51 ((zI_of _).symm) ?_
  refine k_ri hx hr dJ6_bitCount_0f7a4_52 ?_
  exact ⟨bcn_ok hS, rfl⟩
/-- bits of a long -/
def lb (F : Int64) (q : Nat) : Bool := F.toBitVec.getLsbD q
theorem sh_fin : ∀ q : Fin 64, (((zI ((q : Nat) : Int)).toInt64 &&& 63).toBitVec.smod 64).toNat = (q : Nat) := by decide +kernel
theorem sh_ok {q : Nat} (h : q < 64) : (((zI (q : Int)).toInt64 &&& 63).toBitVec.smod 64).toNat = q := sh_fin ⟨q, h⟩
theorem lb_shr {F : Int64} {q : Nat} (h : q < 64) : (F >>> ((zI (q : Int)).toInt64 &&& 63)) &&& 1 = if lb F q = true then 1 else 0 := by
  apply Int64.toBitVec.inj
  apply BitVec.eq_of_getLsbD_eq
  intro i hi
  have e1 : (F >>> ((zI (q : Int)).toInt64 &&& 63)).toBitVec = F.toBitVec.sshiftRight q := by
    show BitVec.sshiftRight' F.toBitVec (((zI (q : Int)).toInt64 &&& 63).toBitVec.smod 64) = _
    unfold BitVec.sshiftRight'
    rw [sh_ok h]
  rw [Int64.toBitVec_and, BitVec.getLsbD_and, e1, BitVec.getLsbD_sshiftRight]
  have h1 : (1 : Int64).toBitVec = 1#64 := rfl
  rw [h1]
  by_cases hi0 : i = 0
  · subst hi0
    have : F.toBitVec.getLsbD q = lb F q := rfl
    by_cases hb : lb F q = true
    · rw [if_pos hb]; simp [h, this, hb]
    · rw [if_neg hb]
      have hb2 : F.toBitVec.getLsbD q = false := by rw [this]; simpa using hb
      simp [h]; simpa [BitVec.getLsbD_eq_getElem h] using hb2
  · have h2 : (1#64).getLsbD i = false := by simp [BitVec.getLsbD_one, hi0]
    rw [h2, Bool.and_false]
    split
    · rw [h1, h2]
    · simp
theorem lb_or {F : Int64} {s q : Nat} (hs : s < 64) (hq : q < 64) : lb (F ||| (1 <<< ((zI (s : Int)).toInt64 &&& 63))) q = (lb F q || decide (q = s)) := by
  unfold lb
  have e1 : ((1 : Int64) <<< ((zI (s : Int)).toInt64 &&& 63)).toBitVec = (1#64) <<< s := by
    show (1#64) <<< (((zI (s : Int)).toInt64 &&& 63).toBitVec.smod 64) = _
    rw [BitVec.shiftLeft_eq', sh_ok hs]
  rw [Int64.toBitVec_or, BitVec.getLsbD_or, e1, BitVec.getLsbD_shiftLeft]
  by_cases h : q = s
  · subst h; simp [hq]
  · by_cases h2 : q < s
    · simp [h, h2]
    · have : q - s ≠ 0 := by omega
      simp [h, h2, BitVec.getLsbD_one, this]
theorem lb_0 (q : Nat) : lb 0 q = false := by unfold lb; have : (0 : Int64).toBitVec = 0#64 := rfl
                                              rw [this]; simp
theorem shl_fin : ∀ p : Fin 6, zI 1 <<< (zI ((p : Nat) : Int) &&& 31) = zI (2 ^ (p : Nat)) := by decide +kernel
theorem lgc (b : Bool) : lg_cmp (if b = true then 1 else 0) 1 = zI (if b = true then 0 else -1) := by cases b <;> decide +kernel
theorem bit_sub_fin : ∀ S : Fin 64, ∀ p : Fin 6, bit ((S : Nat) : Int) ((p : Nat) : Int) = 1 → 2 ^ (p : Nat) ≤ (S : Nat) ∧ ∀ q : Fin 6, bit (((S : Nat) - 2 ^ (p : Nat) : Nat) : Int) ((q : Nat) : Int) = if p = q then 0 else bit ((S : Nat) : Int) ((q : Nat) : Int) := by decide +kernel
theorem bit_sub {S p : Nat} (hS : S < 64) (hp : p < 6) (h : bit S p = 1) : 2 ^ p ≤ S := (bit_sub_fin ⟨S, hS⟩ ⟨p, hp⟩ h).1
theorem bit_sub0 {S p q : Nat} (hS : S < 64) (hp : p < 6) (hq : q < 6) (h : bit S p = 1) (h2 : bit S q = 0) : bit ((S - 2 ^ p : Nat) : Int) q = 0 := by
  have := (bit_sub_fin ⟨S, hS⟩ ⟨p, hp⟩ h).2 ⟨q, hq⟩
  simp only at this
  rw [this]
  split
  · rfl
  · exact h2
theorem bit_ok2 {S p : Int} (hS : 0 ≤ S ∧ S < 64) (hp : 0 ≤ p ∧ p < 6) : zI ((zI S >>> (zI p &&& 31)).toInt) &&& zI 1 = zI (bit S p) := by rw [zI_of]; exact bit_ok hS hp
/-- a part with one post less for which f holds -/
def hfp (f : Nat → Bool) (S : Nat) : Nat → Bool
  | 0 => false
  | k + 1 => hfp f S k || (decide (bit S k = 1) && f (S - 2 ^ k))

theorem c_X5_holdsFallingPart {g : GE} {l : Launch} {M : Mem} {F : Int64} {S : Nat} {f : Nat → Bool} (hS : S < 64) (hF : ∀ q, q < S → lb F q = f q) : Cp g l μX5_holdsFallingPart [.long F, vI S] M (b2i (hfp f S 6)) := by
  refine Ci.of (by decide +kernel) rfl rfl (fun x hx hr => ?_)
  have loop : ∀ (e : Nat), ∀ (k : Nat) (z : Int), z = k → k ≤ 6 → 6 - k < e → hfp f S k = false → K x g 0 0 LAY NN M 2 [(0, .long F), (2, vI S), (3, vI z)] [] := by
    intro e
    induction e with
    | zero => intro k z hz hk hf hh; omega
    | succ e ih =>
      intro k z hz hk hf hh
      have join : ∀ y : Int, k < 6 → (y = if bit S k = 1 then 1 else 0) → K x g 0 0 LAY NN M 22 [(0, .long F), (2, vI S), (3, vI z)] [vI y] := by
        intro y hk6 hy
        have hhs : hfp f S (k + 1) = (decide (bit S k = 1) && f (S - 2 ^ k)) := by rw [hfp, hh]; simp
        refine k_istore (ls' := [(0, .long F), (2, vI S), (3, vI z), (4, vI y)]) hx dX5_holdsFallingPart_22 rfl rfl (by decide) ?_
        refine k_iload hx dX5_holdsFallingPart_24 3 rfl ?_
        refine k_ifeq hx dX5_holdsFallingPart_26 (by rw [hy]; split <;> omega) (fun h_26 => ?_) (fun h_26 => ?_)
        · refine k_iinc (ls' := [(0, .long F), (2, vI S), (3, vI (z + 1)), (4, vI y)]) hx dX5_holdsFallingPart_45 2 rfl rfl rfl (by decide) ?_
          refine k_goto hx dX5_holdsFallingPart_48 ?_
          refine K.sub [0, 1, 2] rfl ?_
          refine ih (k + 1) (z + 1) (by omega) (by omega) (by omega) ?_
          rw [hhs]
          first
          | (have hft : f (S - 2 ^ k) = false := by
               rw [← hF _ (by omega)]
               cases h : lb F (S - 2 ^ k) with
               | false => rfl
               | true => rw [h] at h_40; exact absurd rfl h_40
             simp [hft])
          | (have : ¬ bit S k = 1 := fun h => by rw [hy, if_pos h] at h_26; omega
             simp [this])
        · have hb1 : bit S k = 1 := by
            by_cases h : bit S k = 1
            · exact h
            · exact absurd (by rw [hy, if_neg h]) h_26
          have h2p := bit_sub hS hk6 hb1
          have hsh : zI 1 <<< (zI z &&& 31) = zI (2 ^ k : Nat) := by
            have := shl_fin ⟨k, hk6⟩
            rw [hz]; simpa using this
          have h2pos : 0 < 2 ^ k := Nat.pos_of_ne_zero (by simp)
          have e3 : (S : Int) - (2 ^ k : Nat) = ((S - 2 ^ k : Nat) : Int) := by omega
          refine k_lload_n hx dX5_holdsFallingPart_29 0 rfl ?_
          refine k_iload_n hx dX5_holdsFallingPart_30 1 rfl ?_
          refine k_iconst hx dX5_holdsFallingPart_31 ?_
          refine k_iload_n hx dX5_holdsFallingPart_32 2 rfl ?_
          refine k_ishl (v := zI (2 ^ k : Nat)) hx dX5_holdsFallingPart_33 (hsh) ?_
          refine k_isub hx dX5_holdsFallingPart_34 ?_
          rw [e3]
          refine k_lshr hx dX5_holdsFallingPart_35 ?_
          refine k_lconst (v := 1) hx dX5_holdsFallingPart_36 rfl ?_
          refine k_land hx dX5_holdsFallingPart_37 ?_
          rw [lb_shr (by omega)]
          refine k_lconst (v := 1) hx dX5_holdsFallingPart_38 rfl ?_
          refine k_lcmpI (v := (if lb F (S - 2 ^ k) = true then 0 else -1)) hx dX5_holdsFallingPart_39 (lgc _) ?_
          refine k_ifne hx dX5_holdsFallingPart_40 (by split <;> omega) (fun h_40 => ?_) (fun h_40 => ?_)
          · refine k_iinc (ls' := [(0, .long F), (2, vI S), (3, vI (z + 1)), (4, vI y)]) hx dX5_holdsFallingPart_45 2 rfl rfl rfl (by decide) ?_
            refine k_goto hx dX5_holdsFallingPart_48 ?_
            refine K.sub [0, 1, 2] rfl ?_
            refine ih (k + 1) (z + 1) (by omega) (by omega) (by omega) ?_
            rw [hhs]
            first
            | (have hft : f (S - 2 ^ k) = false := by
                 rw [← hF _ (by omega)]
                 cases h : lb F (S - 2 ^ k) with
                 | false => rfl
                 | true => rw [h] at h_40; exact absurd rfl h_40
               simp [hft])
            | (have : ¬ bit S k = 1 := fun h => by rw [hy, if_pos h] at h_26; omega
               simp [this])
          · refine k_iconst hx dX5_holdsFallingPart_43 ?_
            refine k_rz hx hr dX5_holdsFallingPart_44 (by first | exact Or.inl rfl | exact Or.inr rfl | exact b2i_or _) ?_
            refine ⟨?_, rfl⟩
            have hft : f (S - 2 ^ k) = true := by
              rw [← hF _ (by omega)]
              cases h : lb F (S - 2 ^ k) with
              | true => rfl
              | false => rw [h] at h_40; exact absurd h_40 (by decide)
            have : ∀ m, k + 1 ≤ m → hfp f S m = true := by
              intro m
              induction m with
              | zero => intro h; omega
              | succ m ihm =>
                intro h
                by_cases hm : m = k
                · subst hm; rw [hhs]; simp [hb1, hft]
                · rw [hfp, ihm (by omega)]; simp
            rw [this 6 (by omega)]; rfl
      refine k_iload_n hx dX5_holdsFallingPart_2 2 rfl ?_
      refine k_bipush hx dX5_holdsFallingPart_3 (by decide +kernel) ?_
      refine k_icmp_ge hx dX5_holdsFallingPart_5 (by omega) (fun h_5 => ?_) (fun h_5 => ?_)
      · refine k_iconst hx dX5_holdsFallingPart_51 ?_
        refine k_rz hx hr dX5_holdsFallingPart_52 (by first | exact Or.inl rfl | exact Or.inr rfl | exact b2i_or _) ?_
        exact ⟨by rw [show k = 6 by omega] at hh; rw [hh]; rfl, rfl⟩
      · have hbr := bit_rg S z
        have hbz : bit S z = bit S k := by rw [hz]
        refine k_iload_n hx dX5_holdsFallingPart_8 1 rfl ?_
        refine k_iload_n hx dX5_holdsFallingPart_9 2 rfl ?_
        refine k_ishr (v := zI ((zI S >>> (zI z &&& 31)).toInt)) hx dX5_holdsFallingPart_10 ((zI_of _).symm) ?_
        refine k_iconst hx dX5_holdsFallingPart_11 ?_
        refine k_iand (v := zI (bit S z)) hx dX5_holdsFallingPart_12 (bit_ok2 (by omega) (by omega)) ?_
        refine k_iconst hx dX5_holdsFallingPart_13 ?_
        refine k_icmp_ne hx dX5_holdsFallingPart_14 (by omega) (fun h_14 => ?_) (fun h_14 => ?_)
        · refine k_iconst hx dX5_holdsFallingPart_21 ?_
          exact join _ (by omega) (by rw [if_neg (by omega)])
        · refine k_iconst hx dX5_holdsFallingPart_17 ?_
          refine k_goto hx dX5_holdsFallingPart_18 ?_
          exact join _ (by omega) (by rw [if_pos (by omega)])
  refine k_iconst hx dX5_holdsFallingPart_0 ?_
  refine k_istore_n (ls' := [(0, .long F), (2, vI S), (3, vI 0)]) hx dX5_holdsFallingPart_1 rfl rfl (by decide) ?_
  exact loop 7 0 0 rfl (by omega) (by omega) rfl
def fl (v : List Int) (S : Nat) : Bool := decide (wF S v = [])
/-- a rope falls by a set, but by no smaller part of it -/
def mn (v : List Int) (S : Nat) : Bool := fl v S && !hfp (fl v) S 6
theorem hfp_iff {f : Nat → Bool} {S : Nat} : ∀ m, hfp f S m = true ↔ ∃ p, p < m ∧ bit S p = 1 ∧ f (S - 2 ^ p) = true
  | 0 => by simp [hfp]
  | m + 1 => by
    rw [hfp, Bool.or_eq_true, hfp_iff m, Bool.and_eq_true, decide_eq_true_eq]
    constructor
    · rintro (⟨p, h1, h2⟩ | h)
      · exact ⟨p, by omega, h2⟩
      · exact ⟨m, by omega, h⟩
    · rintro ⟨p, h1, h2⟩
      by_cases hp : p = m
      · subst hp; exact Or.inr h2
      · exact Or.inl ⟨p, by omega, h2⟩
theorem fl_mono {v : List Int} (hv : Cr v) {S : Nat} (hS : S < 64) (h : hfp (fl v) S 6 = true) : fl v S = true := by
  obtain ⟨p, hp, hb, hf⟩ := (hfp_iff 6).mp h
  unfold fl at hf ⊢
  have h1 := of_decide_eq_true hf
  refine decide_eq_true (wF_mono hv (fun q hq h0 => ?_) h1)
  have := bit_sub0 (q := q.toNat) hS hp (by omega) hb (by rw [show ((q.toNat : Nat) : Int) = q by omega]; exact h0)
  rwa [show ((q.toNat : Nat) : Int) = q by omega] at this
def cF (v : List Int) : Nat → Nat
  | 0 => 0
  | k + 1 => if mn v k = true then cF v k + 1 else cF v k
def bF (v : List Int) : Nat → Nat
  | 0 => 63
  | k + 1 => if mn v k = true ∧ bcn k < bcn (bF v k) then k else bF v k
theorem bF_lt (v : List Int) : ∀ k, k ≤ 64 → bF v k < 64
  | 0, _ => by simp [bF]
  | k + 1, h => by have := bF_lt v k (by omega); rw [bF]; split <;> omega
theorem cF_le (v : List Int) : ∀ k, cF v k ≤ k
  | 0 => Nat.le_refl _
  | k + 1 => by have := cF_le v k; rw [cF]; split <;> omega
abbrev rope (A : Ab) (z : Int) : List Int := A.2.getD z.toNat []
theorem isS1w {z : Int} (h : 0 ≤ z ∧ z < 4) : IsW (4 + 2 * z.toNat) 120 := by
  have := isS_1.w (k := z.toNat) (by omega)
  rwa [show 1 + 3 + 2 * z.toNat = 4 + 2 * z.toNat by omega] at this
theorem rope_at {z : Int} (h : 0 ≤ z ∧ z < 4) : ([some 4, some 6, some 8, some 10] : List (Option Nat)).getD z.toNat none = some (4 + 2 * z.toNat) := by
  have := ropes_at (s := 1) (k := z.toNat) (z := z) (by omega) (by omega)
  rwa [show 1 + 3 + 2 * z.toNat = 4 + 2 * z.toNat by omega] at this
theorem Sd.rope {M : Mem} {A : Ab} (h : Sd M 1 A) {z : Int} (hz : 0 ≤ z ∧ z < 4) : Wd M (4 + 2 * z.toNat) (rope A z) ∧ (rope A z).length ≤ 120 := by
  have h1 := h.2.2 z.toNat (by omega)
  rw [show 1 + 3 + 2 * z.toNat = 4 + 2 * z.toNat by omega] at h1
  exact ⟨h1, (h.1.2.2.2 z.toNat (by omega)).2⟩
def fellA (A : Ab) (z w : Int) : Int := if 0 ≤ z ∧ z < 4 then (if w < 0 ∨ 1 < w then -2 else if w = 0 then cF (rope A z) 64 else bF (rope A z) 64) else -1

theorem c_X5_felling {g : GE} {l : Launch} {M : Mem} {A : Ab} (hA : Sd M 1 A) {z w : Int} (hzr : -2147483648 ≤ z ∧ z < 2147483648) (hwr : -2147483648 ≤ w ∧ w < 2147483648) : Ci g l μX5_felling [vR g 0, vI z, vI w] M (fun y M' => y = fellA A z w ∧ Off 114 M M') := by
  refine Ci.of (by decide +kernel) rfl rfl (fun x hx hr => ?_)
  have hloop : 0 ≤ z ∧ z < 4 → ¬ (w < 0 ∨ 1 < w) → ∀ (f k : Nat) (F : Int64) (y u : Int) (M' : Mem), u = k → k ≤ 64 → 64 - k < f → (∀ q, q < 64 → lb F q = (decide (q < k) && fl (rope A z) q)) → y = cF (rope A z) k → Off 114 M M' → K x g 0 0 LAY NN M' 33 [(0, vR g 0), (1, vI z), (2, vI w), (3, .long F), (5, vI y), (6, vI (bF (rope A z) k)), (7, vI u)] [] := by
    intro hz hw
    obtain ⟨hv, hvl⟩ := hA.rope hz
    obtain ⟨v, hve⟩ : ∃ v, v = rope A z := ⟨_, rfl⟩
    rw [← hve] at hv hvl ⊢
    intro f
    induction f with
    | zero => intro k F y u M' _ _ hf; omega
    | succ f ih =>
      intro k F y u M' hu hk hf hF hy ho
      have hck := cF_le v k
      have hbk := bF_lt v k hk
      have hv' := hv.off ho (by omega) (by omega) (by omega)
      refine k_iload hx dX5_felling_33 6 rfl ?_
      refine k_bipush hx dX5_felling_35 (by decide +kernel) ?_
      refine k_icmp_ge hx dX5_felling_37 (by omega) (fun h_37 => ?_) (fun h_37 => ?_)
      · have hk64 : k = 64 := by omega
        subst hk64
        refine k_iload_n hx dX5_felling_115 2 rfl ?_
        refine k_ifne hx dX5_felling_116 (by omega) (fun h_116 => ?_) (fun h_116 => ?_)
        · refine k_iload hx dX5_felling_124 5 rfl ?_
          refine k_ri hx hr dX5_felling_126 ?_
          refine ⟨?_, ho⟩
          unfold fellA
          rw [if_pos hz, if_neg hw, ← hve, if_neg h_116]
        · refine k_iload hx dX5_felling_119 4 rfl ?_
          refine k_goto hx dX5_felling_121 ?_
          refine k_ri hx hr dX5_felling_126 ?_
          refine ⟨?_, ho⟩
          unfold fellA
          rw [if_pos hz, if_neg hw, ← hve, if_pos h_116]; exact hy
      · subst hu
        have hk64 : k < 64 := by omega
        have hbn := bF_lt v (k + 1) (by omega)
        have hcs : cF v (k + 1) = if mn v k = true then cF v k + 1 else cF v k := rfl
        have hbs : bF v (k + 1) = if mn v k = true ∧ bcn k < bcn (bF v k) then k else bF v k := rfl
        have hbit : ∀ b : Bool, fl v k = b → (∀ q, q < 64 → lb (if b = true then F ||| (1 <<< ((zI (k : Int)).toInt64 &&& 63)) else F) q = (decide (q < k + 1) && fl v q)) := by
          intro b hb q hq
          have h1 := hF q hq
          cases b with
          | true =>
            rw [if_pos rfl, lb_or hk64 hq, h1]
            by_cases hqk : q = k
            · subst hqk; simp [hb]
            · by_cases h2 : q < k
              · simp [h2, show q < k + 1 by omega, hqk]
              · simp [h2, show ¬ q < k + 1 by omega, hqk]
          | false =>
            rw [if_neg (by decide), h1]
            by_cases hqk : q = k
            · subst hqk; simp [hb]
            · by_cases h2 : q < k
              · simp [h2, show q < k + 1 by omega]
              · simp [h2, show ¬ q < k + 1 by omega]
        refine k_lload_n hx dX5_felling_40 3 rfl ?_
        refine k_iload hx dX5_felling_41 6 rfl ?_
        refine k_sp (rest := []) (e := (b2i (hfp (fl v) k 6))) hx sX5_181 dX5_felling_43 (c_X5_holdsFallingPart (F := F) (S := k) (f := fl v) hk64 (fun q h => by rw [hF q (by omega)]; simp [h])) rfl rfl rfl ⟨rfl, rfl⟩ ⟨by decide, by decide⟩ ?_
        refine k_ceq hx dX5_felling_46 (fun h_46 => ?_) (fun h_46 => ?_)
        · refine k_aload_n hx dX5_felling_59 0 rfl ?_
          refine k_aload_n hx dX5_felling_60 0 rfl ?_
          refine k_get (v := vR g 1) hx fX5_12 dX5_felling_61 n_0 L_0 rfl ?_
          refine k_get (v := vR g 3) hx fX5_75 dX5_felling_64 n_1 L_1 rfl ?_
          refine k_iload_n hx dX5_felling_67 1 rfl ?_
          refine k_aald (q := (4 + 2 * z.toNat)) hx dX5_felling_68 n_3 L_3 (by decide) (by simp only [List.length_cons, List.length_nil]; omega) (by decide) (rope_at hz) ?_
          refine k_iload hx dX5_felling_69 6 rfl ?_
          refine k_vi (rest := []) hx vX5_162 dX5_felling_71 (c_X5_fallsWithout (isS1w hz) hv' hvl (by omega) (S := (k : Int)) (by omega)) n_0 L_0 rfl rfl rfl ⟨rfl, rfl⟩ ⟨by decide, by decide⟩ (fun z_71 M_71 p_71 => ?_)
          obtain ⟨hz71, ho71⟩ := p_71
          subst hz71
          show K x g 0 0 LAY NN M_71 74 _ [vI (b2i (fl v k))]
          refine k_ceq hx dX5_felling_74 (fun h_74 => ?_) (fun h_74 => ?_)
          · refine k_iinc (ls' := [(0, vR g 0), (1, vI z), (2, vI w), (3, .long F), (5, vI y), (6, vI (bF v k : Nat)), (7, vI ((k : Nat) + 1))]) hx dX5_felling_109 6 rfl rfl rfl (by decide) ?_
            refine k_goto hx dX5_felling_112 ?_
            have hmn : mn v k = false := by unfold mn; rw [h_74]; rfl
            have hbe : bF v (k + 1) = bF v k := by rw [hbs, if_neg (by rw [hmn]; simp)]
            refine (show ((bF v k : Nat) : Int) = (bF v (k + 1) : Nat) by rw [hbe]) ▸ ih (k + 1) F _ _ M_71 (by omega) (by omega) (by omega) (hbit false h_74) (by rw [hcs, hmn]; exact hy) (ho.tr ho71)
          · refine k_lload_n hx dX5_felling_77 3 rfl ?_
            refine k_lconst (v := 1) hx dX5_felling_78 rfl ?_
            refine k_iload hx dX5_felling_79 6 rfl ?_
            refine k_lshl hx dX5_felling_81 ?_
            refine k_lor hx dX5_felling_82 ?_
            refine k_lstore_n (ls' := [(0, vR g 0), (1, vI z), (2, vI w), (3, .long (F ||| (1 <<< ((zI (k : Nat)).toInt64 &&& 63)))), (5, vI y), (6, vI (bF v k : Nat)), (7, vI (k : Nat))]) hx dX5_felling_83 rfl rfl (by decide) ?_
            have hmn : mn v k = true := by unfold mn; rw [h_46, h_74]; rfl
            refine k_iinc (ls' := [(0, vR g 0), (1, vI z), (2, vI w), (3, .long (F ||| (1 <<< ((zI (k : Nat)).toInt64 &&& 63)))), (5, vI (y + 1)), (6, vI (bF v k : Nat)), (7, vI (k : Nat))]) hx dX5_felling_84 4 rfl rfl rfl (by decide) ?_
            refine k_iload hx dX5_felling_87 6 rfl ?_
            refine k_sp (rest := []) (e := (bcn (k : Nat))) hx sX5_185 dX5_felling_89 (c_bitCount (S := (k : Int)) (by omega)) rfl rfl rfl ⟨rfl, rfl⟩ ⟨by decide, by decide⟩ ?_
            have hb1 := bcn_rg (k : Nat)
            have hb2 := bcn_rg (bF v k : Nat)
            refine k_iload hx dX5_felling_92 5 rfl ?_
            refine k_sp (rest := [vI (bcn (k : Nat))]) (e := (bcn (bF v k : Nat))) hx sX5_185 dX5_felling_94 (c_bitCount (S := ((bF v k : Nat) : Int)) (by omega)) rfl rfl rfl ⟨rfl, rfl⟩ ⟨by decide, by decide⟩ ?_
            refine k_icmp_ge hx dX5_felling_97 (by omega) (fun h_97 => ?_) (fun h_97 => ?_)
            · refine k_iload hx dX5_felling_105 5 rfl ?_
              refine k_istore (ls' := [(0, vR g 0), (1, vI z), (2, vI w), (3, .long (F ||| (1 <<< ((zI (k : Nat)).toInt64 &&& 63)))), (5, vI (y + 1)), (6, vI (bF v k : Nat)), (7, vI (k : Nat))]) hx dX5_felling_107 rfl rfl (by decide) ?_
              refine k_iinc (ls' := [(0, vR g 0), (1, vI z), (2, vI w), (3, .long (F ||| (1 <<< ((zI (k : Nat)).toInt64 &&& 63)))), (5, vI (y + 1)), (6, vI (bF v k : Nat)), (7, vI ((k : Nat) + 1))]) hx dX5_felling_109 6 rfl rfl rfl (by decide) ?_
              refine k_goto hx dX5_felling_112 ?_
              have hbe : bF v (k + 1) = bF v k := by rw [hbs, if_neg (fun q => by omega)]
              refine (show ((bF v k : Nat) : Int) = (bF v (k + 1) : Nat) by rw [hbe]) ▸ ih (k + 1) _ _ _ M_71 (by omega) (by omega) (by omega) (hbit true h_74) (by rw [hcs, hmn, hy]; simp) (ho.tr ho71)
            · refine k_iload hx dX5_felling_100 6 rfl ?_
              refine k_goto hx dX5_felling_102 ?_
              refine k_istore (ls' := [(0, vR g 0), (1, vI z), (2, vI w), (3, .long (F ||| (1 <<< ((zI (k : Nat)).toInt64 &&& 63)))), (5, vI (y + 1)), (6, vI (k : Nat)), (7, vI (k : Nat))]) hx dX5_felling_107 rfl rfl (by decide) ?_
              refine k_iinc (ls' := [(0, vR g 0), (1, vI z), (2, vI w), (3, .long (F ||| (1 <<< ((zI (k : Nat)).toInt64 &&& 63)))), (5, vI (y + 1)), (6, vI (k : Nat)), (7, vI ((k : Nat) + 1))]) hx dX5_felling_109 6 rfl rfl rfl (by decide) ?_
              refine k_goto hx dX5_felling_112 ?_
              have hbe : bF v (k + 1) = k := by rw [hbs, if_pos ⟨hmn, by omega⟩]
              refine (show (k : Int) = (bF v (k + 1) : Nat) by rw [hbe]) ▸ ih (k + 1) _ _ ((k : Int) + 1) M_71 (by omega) (by omega) (by omega) (hbit true h_74) (by rw [hcs, hmn, hy]; simp) (ho.tr ho71)
        · refine k_lload_n hx dX5_felling_49 3 rfl ?_
          refine k_lconst (v := 1) hx dX5_felling_50 rfl ?_
          refine k_iload hx dX5_felling_51 6 rfl ?_
          refine k_lshl hx dX5_felling_53 ?_
          refine k_lor hx dX5_felling_54 ?_
          have hfk := fl_mono hv.2.2 hk64 h_46
          have hmn : mn v k = false := by unfold mn; rw [h_46]; simp
          refine k_lstore_n (ls' := [(0, vR g 0), (1, vI z), (2, vI w), (3, .long (F ||| (1 <<< ((zI (k : Nat)).toInt64 &&& 63)))), (5, vI y), (6, vI (bF v k : Nat)), (7, vI (k : Nat))]) hx dX5_felling_55 rfl rfl (by decide) ?_
          refine k_goto hx dX5_felling_56 ?_
          refine k_iinc (ls' := [(0, vR g 0), (1, vI z), (2, vI w), (3, .long (F ||| (1 <<< ((zI (k : Nat)).toInt64 &&& 63)))), (5, vI y), (6, vI (bF v k : Nat)), (7, vI ((k : Nat) + 1))]) hx dX5_felling_109 6 rfl rfl rfl (by decide) ?_
          refine k_goto hx dX5_felling_112 ?_
          have hbe : bF v (k + 1) = bF v k := by rw [hbs, if_neg (by rw [hmn]; simp)]
          refine (show ((bF v k : Nat) : Int) = (bF v (k + 1) : Nat) by rw [hbe]) ▸ ih (k + 1) _ _ _ M' (by omega) (by omega) (by omega) (hbit true hfk) (by rw [hcs, hmn]; exact hy) ho
  refine k_iload_n hx dX5_felling_0 1 rfl ?_
  refine k_sp (rest := []) (e := (b2i (decide (0 ≤ z ∧ z < 4)))) hx sX5_72 dX5_felling_1 (c_X5_isRope (z := z) (by omega)) rfl rfl rfl ⟨rfl, rfl⟩ ⟨by decide, by decide⟩ ?_
  refine k_bne hx dX5_felling_4 (fun h_4 => ?_) (fun h_4 => ?_)
  · refine k_iload_n hx dX5_felling_9 2 rfl ?_
    refine k_iflt hx dX5_felling_10 (by omega) (fun h_10 => ?_) (fun h_10 => ?_)
    · refine k_bipush hx dX5_felling_18 (by decide +kernel) ?_
      refine k_ri hx hr dX5_felling_20 ?_
      exact ⟨by unfold fellA; rw [if_pos h_4, if_pos (by omega)], Off.rf⟩
    · refine k_iload_n hx dX5_felling_13 2 rfl ?_
      refine k_iconst hx dX5_felling_14 ?_
      refine k_icmp_le hx dX5_felling_15 (by omega) (fun h_15 => ?_) (fun h_15 => ?_)
      · refine k_lconst (v := 0) hx dX5_felling_21 rfl ?_
        refine k_lstore_n (ls' := [(0, vR g 0), (1, vI z), (2, vI w), (3, .long 0)]) hx dX5_felling_22 rfl rfl (by decide) ?_
        refine k_iconst hx dX5_felling_23 ?_
        refine k_istore (ls' := [(0, vR g 0), (1, vI z), (2, vI w), (3, .long 0), (5, vI 0)]) hx dX5_felling_24 rfl rfl (by decide) ?_
        refine k_bipush hx dX5_felling_26 (by decide +kernel) ?_
        refine k_istore (ls' := [(0, vR g 0), (1, vI z), (2, vI w), (3, .long 0), (5, vI 0), (6, vI 63)]) hx dX5_felling_28 rfl rfl (by decide) ?_
        refine k_iconst hx dX5_felling_30 ?_
        refine k_istore (ls' := [(0, vR g 0), (1, vI z), (2, vI w), (3, .long 0), (5, vI 0), (6, vI 63), (7, vI 0)]) hx dX5_felling_31 rfl rfl (by decide) ?_
        exact hloop h_4 (by omega) 65 0 0 0 0 M rfl (by omega) (by omega) (fun q _ => by rw [lb_0]; simp) rfl Off.rf
      · refine k_bipush hx dX5_felling_18 (by decide +kernel) ?_
        refine k_ri hx hr dX5_felling_20 ?_
        exact ⟨by unfold fellA; rw [if_pos h_4, if_pos (by omega)], Off.rf⟩
  · refine k_iconst hx dX5_felling_7 ?_
    refine k_ri hx hr dX5_felling_8 ?_
    exact ⟨by unfold fellA; rw [if_neg h_4], Off.rf⟩
end

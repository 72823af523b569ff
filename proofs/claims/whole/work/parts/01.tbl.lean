-- begun from the skeleton and the printed names: the tables' words
-- ===== PART A: goes FIRST, ahead of the names: the tables' words, and 'selects' of the private methods out of them =====
/-- a private method of a class that the tables say can be made, by its rows of tables_1 -/
def lw_okq (q : MethodName × Nat) : Prop := (q.1.cls ≠ "java/lang/invoke/MethodHandle" ∧ q.1.cls ≠ "java/lang/invoke/VarHandle") ∧ Cond.instantiable q.1.cls q.2 ∈ tables_1 ∧ Cond.privateMethod q.1 ∈ tables_1 ∧ Cond.instanceMethod q.1 ∈ tables_1
theorem lw_p0 : lw_okq (⟨"PostRopes", "laySwapped", "(LPostRopes$Word;II)V"⟩, 9) := ⟨⟨by decide +kernel, by decide +kernel⟩, List.mem_of_getElem? (i := 11) (by decide +kernel), List.mem_of_getElem? (i := 257) (by decide +kernel), List.mem_of_getElem? (i := 258) (by decide +kernel)⟩
theorem lw_p1 : lw_okq (⟨"PostRopes", "addSwapped", "(III)V"⟩, 9) := ⟨⟨by decide +kernel, by decide +kernel⟩, List.mem_of_getElem? (i := 11) (by decide +kernel), List.mem_of_getElem? (i := 262) (by decide +kernel), List.mem_of_getElem? (i := 263) (by decide +kernel)⟩
theorem lw_p2 : lw_okq (⟨"PostRopes", "layPulled", "(LPostRopes$Word;)V"⟩, 9) := ⟨⟨by decide +kernel, by decide +kernel⟩, List.mem_of_getElem? (i := 11) (by decide +kernel), List.mem_of_getElem? (i := 366) (by decide +kernel), List.mem_of_getElem? (i := 367) (by decide +kernel)⟩
theorem lw_p3 : lw_okq (⟨"PostRopes", "layLoop", "(LPostRopes$Word;)V"⟩, 9) := ⟨⟨by decide +kernel, by decide +kernel⟩, List.mem_of_getElem? (i := 11) (by decide +kernel), List.mem_of_getElem? (i := 370) (by decide +kernel), List.mem_of_getElem? (i := 371) (by decide +kernel)⟩
theorem lw_p4 : lw_okq (⟨"PostRopes", "fallsWithout", "(LPostRopes$Word;I)Z"⟩, 9) := ⟨⟨by decide +kernel, by decide +kernel⟩, List.mem_of_getElem? (i := 11) (by decide +kernel), List.mem_of_getElem? (i := 396) (by decide +kernel), List.mem_of_getElem? (i := 397) (by decide +kernel)⟩
theorem lw_p5 : lw_okq (⟨"PostRopes", "layLeast", "(LPostRopes$Word;LPostRopes$Word;)V"⟩, 9) := ⟨⟨by decide +kernel, by decide +kernel⟩, List.mem_of_getElem? (i := 11) (by decide +kernel), List.mem_of_getElem? (i := 415) (by decide +kernel), List.mem_of_getElem? (i := 416) (by decide +kernel)⟩
theorem lw_p6 : lw_okq (⟨"PostRopes", "areAlike", "(LPostRopes$Word;LPostRopes$Word;)Z"⟩, 9) := ⟨⟨by decide +kernel, by decide +kernel⟩, List.mem_of_getElem? (i := 11) (by decide +kernel), List.mem_of_getElem? (i := 460) (by decide +kernel), List.mem_of_getElem? (i := 461) (by decide +kernel)⟩
theorem lw_p7 : lw_okq (⟨"PostRopes", "doCommute", "(LPostRopes$Word;LPostRopes$Word;)Z"⟩, 9) := ⟨⟨by decide +kernel, by decide +kernel⟩, List.mem_of_getElem? (i := 11) (by decide +kernel), List.mem_of_getElem? (i := 468) (by decide +kernel), List.mem_of_getElem? (i := 469) (by decide +kernel)⟩
theorem lw_p8 : lw_okq (⟨"PostRopes", "arePulledTheSame", "(LPostRopes$Word;LPostRopes$Word;)Z"⟩, 9) := ⟨⟨by decide +kernel, by decide +kernel⟩, List.mem_of_getElem? (i := 11) (by decide +kernel), List.mem_of_getElem? (i := 472) (by decide +kernel), List.mem_of_getElem? (i := 473) (by decide +kernel)⟩
theorem lw_p9 : lw_okq (⟨"PostRopes", "crossingsIfSwapped", "(II)I"⟩, 9) := ⟨⟨by decide +kernel, by decide +kernel⟩, List.mem_of_getElem? (i := 11) (by decide +kernel), List.mem_of_getElem? (i := 510) (by decide +kernel), List.mem_of_getElem? (i := 511) (by decide +kernel)⟩
theorem lw_p10 : lw_okq (⟨"PostRopesModel", "record", "()V"⟩, 20) := ⟨⟨by decide +kernel, by decide +kernel⟩, List.mem_of_getElem? (i := 539) (by decide +kernel), List.mem_of_getElem? (i := 613) (by decide +kernel), List.mem_of_getElem? (i := 614) (by decide +kernel)⟩
theorem lw_p11 : lw_okq (⟨"PostRopesModel", "many", "(I)I"⟩, 20) := ⟨⟨by decide +kernel, by decide +kernel⟩, List.mem_of_getElem? (i := 539) (by decide +kernel), List.mem_of_getElem? (i := 624) (by decide +kernel), List.mem_of_getElem? (i := 625) (by decide +kernel)⟩
theorem lw_p12 : lw_okq (⟨"PostRopesModel", "layPulled", "(IZ)V"⟩, 20) := ⟨⟨by decide +kernel, by decide +kernel⟩, List.mem_of_getElem? (i := 539) (by decide +kernel), List.mem_of_getElem? (i := 636) (by decide +kernel), List.mem_of_getElem? (i := 637) (by decide +kernel)⟩
theorem lw_p13 : lw_okq (⟨"PostRopesModel", "pushRope", "(IZ)V"⟩, 20) := ⟨⟨by decide +kernel, by decide +kernel⟩, List.mem_of_getElem? (i := 539) (by decide +kernel), List.mem_of_getElem? (i := 640) (by decide +kernel), List.mem_of_getElem? (i := 641) (by decide +kernel)⟩
theorem lw_p14 : lw_okq (⟨"PostRopesModel", "at", "(II)I"⟩, 20) := ⟨⟨by decide +kernel, by decide +kernel⟩, List.mem_of_getElem? (i := 539) (by decide +kernel), List.mem_of_getElem? (i := 644) (by decide +kernel), List.mem_of_getElem? (i := 645) (by decide +kernel)⟩
theorem lw_p15 : lw_okq (⟨"PostRopesModel", "push", "(I)V"⟩, 20) := ⟨⟨by decide +kernel, by decide +kernel⟩, List.mem_of_getElem? (i := 539) (by decide +kernel), List.mem_of_getElem? (i := 651) (by decide +kernel), List.mem_of_getElem? (i := 652) (by decide +kernel)⟩
def lw_privs_1 : List (MethodName × Nat) := [(⟨"PostRopes", "laySwapped", "(LPostRopes$Word;II)V"⟩, 9), (⟨"PostRopes", "addSwapped", "(III)V"⟩, 9), (⟨"PostRopes", "layPulled", "(LPostRopes$Word;)V"⟩, 9), (⟨"PostRopes", "layLoop", "(LPostRopes$Word;)V"⟩, 9), (⟨"PostRopes", "fallsWithout", "(LPostRopes$Word;I)Z"⟩, 9), (⟨"PostRopes", "layLeast", "(LPostRopes$Word;LPostRopes$Word;)V"⟩, 9), (⟨"PostRopes", "areAlike", "(LPostRopes$Word;LPostRopes$Word;)Z"⟩, 9), (⟨"PostRopes", "doCommute", "(LPostRopes$Word;LPostRopes$Word;)Z"⟩, 9), (⟨"PostRopes", "arePulledTheSame", "(LPostRopes$Word;LPostRopes$Word;)Z"⟩, 9), (⟨"PostRopes", "crossingsIfSwapped", "(II)I"⟩, 9), (⟨"PostRopesModel", "record", "()V"⟩, 20), (⟨"PostRopesModel", "many", "(I)I"⟩, 20), (⟨"PostRopesModel", "layPulled", "(IZ)V"⟩, 20), (⟨"PostRopesModel", "pushRope", "(IZ)V"⟩, 20), (⟨"PostRopesModel", "at", "(II)I"⟩, 20), (⟨"PostRopesModel", "push", "(I)V"⟩, 20)]
theorem lw_r1 : ∀ q ∈ lw_privs_1, lw_okq q := List.forall_mem_cons.mpr ⟨lw_p0, List.forall_mem_cons.mpr ⟨lw_p1, List.forall_mem_cons.mpr ⟨lw_p2, List.forall_mem_cons.mpr ⟨lw_p3, List.forall_mem_cons.mpr ⟨lw_p4, List.forall_mem_cons.mpr ⟨lw_p5, List.forall_mem_cons.mpr ⟨lw_p6, List.forall_mem_cons.mpr ⟨lw_p7, List.forall_mem_cons.mpr ⟨lw_p8, List.forall_mem_cons.mpr ⟨lw_p9, List.forall_mem_cons.mpr ⟨lw_p10, List.forall_mem_cons.mpr ⟨lw_p11, List.forall_mem_cons.mpr ⟨lw_p12, List.forall_mem_cons.mpr ⟨lw_p13, List.forall_mem_cons.mpr ⟨lw_p14, List.forall_mem_cons.mpr ⟨lw_p15, fun _ h => absurd h List.not_mem_nil⟩⟩⟩⟩⟩⟩⟩⟩⟩⟩⟩⟩⟩⟩⟩⟩
theorem lw_p16 : lw_okq (⟨"PostRopesModel", "take", "(I)V"⟩, 20) := ⟨⟨by decide +kernel, by decide +kernel⟩, List.mem_of_getElem? (i := 539) (by decide +kernel), List.mem_of_getElem? (i := 658) (by decide +kernel), List.mem_of_getElem? (i := 659) (by decide +kernel)⟩
theorem lw_p17 : lw_okq (⟨"PostRopesModel", "laySwapped", "(III)V"⟩, 20) := ⟨⟨by decide +kernel, by decide +kernel⟩, List.mem_of_getElem? (i := 539) (by decide +kernel), List.mem_of_getElem? (i := 678) (by decide +kernel), List.mem_of_getElem? (i := 679) (by decide +kernel)⟩
theorem lw_p18 : lw_okq (⟨"PostRopesModel", "pushSwapped", "(III)V"⟩, 20) := ⟨⟨by decide +kernel, by decide +kernel⟩, List.mem_of_getElem? (i := 539) (by decide +kernel), List.mem_of_getElem? (i := 682) (by decide +kernel), List.mem_of_getElem? (i := 683) (by decide +kernel)⟩
theorem lw_p19 : lw_okq (⟨"PostRopesModel", "all", "()I"⟩, 20) := ⟨⟨by decide +kernel, by decide +kernel⟩, List.mem_of_getElem? (i := 539) (by decide +kernel), List.mem_of_getElem? (i := 686) (by decide +kernel), List.mem_of_getElem? (i := 687) (by decide +kernel)⟩
theorem lw_p20 : lw_okq (⟨"PostRopesModel", "read", "()I"⟩, 20) := ⟨⟨by decide +kernel, by decide +kernel⟩, List.mem_of_getElem? (i := 539) (by decide +kernel), List.mem_of_getElem? (i := 703) (by decide +kernel), List.mem_of_getElem? (i := 704) (by decide +kernel)⟩
theorem lw_p21 : lw_okq (⟨"PostRopesModel", "tell", "(I)V"⟩, 20) := ⟨⟨by decide +kernel, by decide +kernel⟩, List.mem_of_getElem? (i := 539) (by decide +kernel), List.mem_of_getElem? (i := 707) (by decide +kernel), List.mem_of_getElem? (i := 708) (by decide +kernel)⟩
theorem lw_p22 : lw_okq (⟨"PostRopesModel", "turnTold", "(I)V"⟩, 20) := ⟨⟨by decide +kernel, by decide +kernel⟩, List.mem_of_getElem? (i := 539) (by decide +kernel), List.mem_of_getElem? (i := 711) (by decide +kernel), List.mem_of_getElem? (i := 712) (by decide +kernel)⟩
theorem lw_p23 : lw_okq (⟨"PostRopesModel", "repeat", "(II)V"⟩, 20) := ⟨⟨by decide +kernel, by decide +kernel⟩, List.mem_of_getElem? (i := 539) (by decide +kernel), List.mem_of_getElem? (i := 715) (by decide +kernel), List.mem_of_getElem? (i := 716) (by decide +kernel)⟩
theorem lw_p24 : lw_okq (⟨"PostRopesModel", "tellAgain", "(IIZ)V"⟩, 20) := ⟨⟨by decide +kernel, by decide +kernel⟩, List.mem_of_getElem? (i := 539) (by decide +kernel), List.mem_of_getElem? (i := 719) (by decide +kernel), List.mem_of_getElem? (i := 720) (by decide +kernel)⟩
theorem lw_p25 : lw_okq (⟨"PostRopesModel", "layForm", "(IZ)V"⟩, 20) := ⟨⟨by decide +kernel, by decide +kernel⟩, List.mem_of_getElem? (i := 539) (by decide +kernel), List.mem_of_getElem? (i := 735) (by decide +kernel), List.mem_of_getElem? (i := 736) (by decide +kernel)⟩
theorem lw_p26 : lw_okq (⟨"PostRopesModel", "tighten", "()V"⟩, 20) := ⟨⟨by decide +kernel, by decide +kernel⟩, List.mem_of_getElem? (i := 539) (by decide +kernel), List.mem_of_getElem? (i := 739) (by decide +kernel), List.mem_of_getElem? (i := 740) (by decide +kernel)⟩
theorem lw_p27 : lw_okq (⟨"PostRopesModel", "isLess", "(II)Z"⟩, 20) := ⟨⟨by decide +kernel, by decide +kernel⟩, List.mem_of_getElem? (i := 539) (by decide +kernel), List.mem_of_getElem? (i := 743) (by decide +kernel), List.mem_of_getElem? (i := 744) (by decide +kernel)⟩
theorem lw_p28 : lw_okq (⟨"PostRopesModel", "ofWord", "(I)I"⟩, 20) := ⟨⟨by decide +kernel, by decide +kernel⟩, List.mem_of_getElem? (i := 539) (by decide +kernel), List.mem_of_getElem? (i := 747) (by decide +kernel), List.mem_of_getElem? (i := 748) (by decide +kernel)⟩
theorem lw_p29 : lw_okq (⟨"PostRopesModel", "power", "()I"⟩, 20) := ⟨⟨by decide +kernel, by decide +kernel⟩, List.mem_of_getElem? (i := 539) (by decide +kernel), List.mem_of_getElem? (i := 751) (by decide +kernel), List.mem_of_getElem? (i := 752) (by decide +kernel)⟩
theorem lw_p30 : lw_okq (⟨"PostRopesModel", "posts", "()I"⟩, 20) := ⟨⟨by decide +kernel, by decide +kernel⟩, List.mem_of_getElem? (i := 539) (by decide +kernel), List.mem_of_getElem? (i := 755) (by decide +kernel), List.mem_of_getElem? (i := 756) (by decide +kernel)⟩
theorem lw_p31 : lw_okq (⟨"PostRopesModel", "firstPair", "(I)I"⟩, 20) := ⟨⟨by decide +kernel, by decide +kernel⟩, List.mem_of_getElem? (i := 539) (by decide +kernel), List.mem_of_getElem? (i := 759) (by decide +kernel), List.mem_of_getElem? (i := 760) (by decide +kernel)⟩
def lw_privs_2 : List (MethodName × Nat) := [(⟨"PostRopesModel", "take", "(I)V"⟩, 20), (⟨"PostRopesModel", "laySwapped", "(III)V"⟩, 20), (⟨"PostRopesModel", "pushSwapped", "(III)V"⟩, 20), (⟨"PostRopesModel", "all", "()I"⟩, 20), (⟨"PostRopesModel", "read", "()I"⟩, 20), (⟨"PostRopesModel", "tell", "(I)V"⟩, 20), (⟨"PostRopesModel", "turnTold", "(I)V"⟩, 20), (⟨"PostRopesModel", "repeat", "(II)V"⟩, 20), (⟨"PostRopesModel", "tellAgain", "(IIZ)V"⟩, 20), (⟨"PostRopesModel", "layForm", "(IZ)V"⟩, 20), (⟨"PostRopesModel", "tighten", "()V"⟩, 20), (⟨"PostRopesModel", "isLess", "(II)Z"⟩, 20), (⟨"PostRopesModel", "ofWord", "(I)I"⟩, 20), (⟨"PostRopesModel", "power", "()I"⟩, 20), (⟨"PostRopesModel", "posts", "()I"⟩, 20), (⟨"PostRopesModel", "firstPair", "(I)I"⟩, 20)]
theorem lw_r2 : ∀ q ∈ lw_privs_2, lw_okq q := List.forall_mem_cons.mpr ⟨lw_p16, List.forall_mem_cons.mpr ⟨lw_p17, List.forall_mem_cons.mpr ⟨lw_p18, List.forall_mem_cons.mpr ⟨lw_p19, List.forall_mem_cons.mpr ⟨lw_p20, List.forall_mem_cons.mpr ⟨lw_p21, List.forall_mem_cons.mpr ⟨lw_p22, List.forall_mem_cons.mpr ⟨lw_p23, List.forall_mem_cons.mpr ⟨lw_p24, List.forall_mem_cons.mpr ⟨lw_p25, List.forall_mem_cons.mpr ⟨lw_p26, List.forall_mem_cons.mpr ⟨lw_p27, List.forall_mem_cons.mpr ⟨lw_p28, List.forall_mem_cons.mpr ⟨lw_p29, List.forall_mem_cons.mpr ⟨lw_p30, List.forall_mem_cons.mpr ⟨lw_p31, fun _ h => absurd h List.not_mem_nil⟩⟩⟩⟩⟩⟩⟩⟩⟩⟩⟩⟩⟩⟩⟩⟩
theorem lw_p32 : lw_okq (⟨"PostRopesModel", "widths", "()I"⟩, 20) := ⟨⟨by decide +kernel, by decide +kernel⟩, List.mem_of_getElem? (i := 539) (by decide +kernel), List.mem_of_getElem? (i := 763) (by decide +kernel), List.mem_of_getElem? (i := 764) (by decide +kernel)⟩
theorem lw_p33 : lw_okq (⟨"PostRopesModel", "fallsBy", "(II)Z"⟩, 20) := ⟨⟨by decide +kernel, by decide +kernel⟩, List.mem_of_getElem? (i := 539) (by decide +kernel), List.mem_of_getElem? (i := 783) (by decide +kernel), List.mem_of_getElem? (i := 784) (by decide +kernel)⟩
theorem lw_p34 : lw_okq (⟨"PostRopesModel", "isFelling", "(II)Z"⟩, 20) := ⟨⟨by decide +kernel, by decide +kernel⟩, List.mem_of_getElem? (i := 539) (by decide +kernel), List.mem_of_getElem? (i := 791) (by decide +kernel), List.mem_of_getElem? (i := 792) (by decide +kernel)⟩
theorem lw_p35 : lw_okq (⟨"PostRopesModel", "keepForm", "()V"⟩, 20) := ⟨⟨by decide +kernel, by decide +kernel⟩, List.mem_of_getElem? (i := 539) (by decide +kernel), List.mem_of_getElem? (i := 802) (by decide +kernel), List.mem_of_getElem? (i := 803) (by decide +kernel)⟩
theorem lw_p36 : lw_okq (⟨"PostRopesModel", "areFormsAlike", "()Z"⟩, 20) := ⟨⟨by decide +kernel, by decide +kernel⟩, List.mem_of_getElem? (i := 539) (by decide +kernel), List.mem_of_getElem? (i := 806) (by decide +kernel), List.mem_of_getElem? (i := 807) (by decide +kernel)⟩
theorem lw_p37 : lw_okq (⟨"PostRopesModel", "areSame", "(IIII)Z"⟩, 20) := ⟨⟨by decide +kernel, by decide +kernel⟩, List.mem_of_getElem? (i := 539) (by decide +kernel), List.mem_of_getElem? (i := 810) (by decide +kernel), List.mem_of_getElem? (i := 811) (by decide +kernel)⟩
theorem lw_p38 : lw_okq (⟨"PostRopesModel", "swapped", "(II)I"⟩, 20) := ⟨⟨by decide +kernel, by decide +kernel⟩, List.mem_of_getElem? (i := 539) (by decide +kernel), List.mem_of_getElem? (i := 822) (by decide +kernel), List.mem_of_getElem? (i := 823) (by decide +kernel)⟩
def lw_privs_3 : List (MethodName × Nat) := [(⟨"PostRopesModel", "widths", "()I"⟩, 20), (⟨"PostRopesModel", "fallsBy", "(II)Z"⟩, 20), (⟨"PostRopesModel", "isFelling", "(II)Z"⟩, 20), (⟨"PostRopesModel", "keepForm", "()V"⟩, 20), (⟨"PostRopesModel", "areFormsAlike", "()Z"⟩, 20), (⟨"PostRopesModel", "areSame", "(IIII)Z"⟩, 20), (⟨"PostRopesModel", "swapped", "(II)I"⟩, 20)]
theorem lw_r3 : ∀ q ∈ lw_privs_3, lw_okq q := List.forall_mem_cons.mpr ⟨lw_p32, List.forall_mem_cons.mpr ⟨lw_p33, List.forall_mem_cons.mpr ⟨lw_p34, List.forall_mem_cons.mpr ⟨lw_p35, List.forall_mem_cons.mpr ⟨lw_p36, List.forall_mem_cons.mpr ⟨lw_p37, List.forall_mem_cons.mpr ⟨lw_p38, fun _ h => absurd h List.not_mem_nil⟩⟩⟩⟩⟩⟩⟩
def lw_privs : List (MethodName × Nat) := lw_privs_1 ++ (lw_privs_2 ++ (lw_privs_3))
def lw_tbl : List Cond := k2_sels lw_privs ++ tables_1
theorem lw_privs_ok : ∀ q ∈ lw_privs, lw_okq q := by
  show ∀ q ∈ lw_privs_1 ++ (lw_privs_2 ++ (lw_privs_3)), lw_okq q
  exact List.forall_mem_append.mpr ⟨lw_r1, List.forall_mem_append.mpr ⟨lw_r2, lw_r3⟩⟩

def TB : List Cond := lw_tbl.filter goodWord
theorem gTB {w : Cond} (h : w ∈ TB) : (w.onTables && w.keeps) = true ∨ ∃ ty, w = .arrayClass ty := good_of_word (List.mem_filter.mp h).2
theorem tb_of {w : Cond} (i : Nat) (h : lw_tbl[i]? = some w) (g : goodWord w = true) : w ∈ TB := List.mem_filter.mpr ⟨List.mem_of_getElem? h, g⟩
def RX0 : String := "PostRopes$Pad"
def RX1 : String := "PostRopes$Past"
def RX2 : String := "PostRopes$Scissors"
def RX3 : String := "PostRopes$State"
def RX4 : String := "PostRopes$Word"
def RX5 : String := "PostRopes"
def RX6 : String := "PostRopesModel"
def RJ6 : String := "java/lang/Integer"
def RJ9 : String := "java/lang/Math"
def RL : String := "PostRopesLaw"
def TX0 : u_T := fun k => match k with
  | 0 => ("PostRopes$Pad", "codes", "[I", true)
  | 1 => ("PostRopes$Pad", "length", "I", false)
  | 2 => ("PostRopes$Pad", "signs", "[I", true)
  | 3 => ("PostRopes$Pad", "starts", "[I", true)
  | 4 => ("PostRopes$Pad", "middles", "[I", true)
  | _ => ("PostRopes$Pad", "depth", "I", false)
def tyX0 : Nat → FieldType := fun k => match k with
  | 0 => .array (.int)
  | 1 => .int
  | 2 => .array (.int)
  | 3 => .array (.int)
  | 4 => .array (.int)
  | _ => .int
theorem nmX0 : ∀ a, a < 6 → ∀ b, b < 6 → a ≠ b → (TX0 a).2.1 ≠ (TX0 b).2.1 := by decide +kernel
theorem tyX0_ok : ∀ k, k < 6 → parseFieldDescriptor (TX0 k).2.2.1 = some (tyX0 k) := by decide +kernel
theorem inX0 : ∀ w ∈ u_ws RX0 TX0 6, w ∈ TB := by decide +kernel
def TX1 : u_T := fun k => match k with
  | 0 => ("PostRopes$Past", "states", "[LPostRopes$State;", true)
  | 1 => ("PostRopes$Past", "next", "I", false)
  | _ => ("PostRopes$Past", "kept", "I", false)
def tyX1 : Nat → FieldType := fun k => match k with
  | 0 => .array (.object "PostRopes$State")
  | 1 => .int
  | _ => .int
theorem nmX1 : ∀ a, a < 3 → ∀ b, b < 3 → a ≠ b → (TX1 a).2.1 ≠ (TX1 b).2.1 := by decide +kernel
theorem tyX1_ok : ∀ k, k < 3 → parseFieldDescriptor (TX1 k).2.2.1 = some (tyX1 k) := by decide +kernel
theorem inX1 : ∀ w ∈ u_ws RX1 TX1 3, w ∈ TB := by decide +kernel
def TX2 : u_T := fun k => match k with
  | 0 => ("PostRopes$Scissors", "stays", "[I", true)
  | 1 => ("PostRopes$Scissors", "nextOpposite", "[I", true)
  | 2 => ("PostRopes$Scissors", "nextSame", "[I", true)
  | _ => ("PostRopes$Scissors", "nextOf", "[I", true)
def tyX2 : Nat → FieldType := fun k => match k with
  | 0 => .array (.int)
  | 1 => .array (.int)
  | 2 => .array (.int)
  | _ => .array (.int)
theorem nmX2 : ∀ a, a < 4 → ∀ b, b < 4 → a ≠ b → (TX2 a).2.1 ≠ (TX2 b).2.1 := by decide +kernel
theorem tyX2_ok : ∀ k, k < 4 → parseFieldDescriptor (TX2 k).2.2.1 = some (tyX2 k) := by decide +kernel
theorem inX2 : ∀ w ∈ u_ws RX2 TX2 4, w ∈ TB := by decide +kernel
def TX3 : u_T := fun k => match k with
  | 0 => ("PostRopes$State", "widths", "[I", true)
  | _ => ("PostRopes$State", "ropes", "[LPostRopes$Word;", true)
def tyX3 : Nat → FieldType := fun k => match k with
  | 0 => .array (.int)
  | _ => .array (.object "PostRopes$Word")
theorem nmX3 : ∀ a, a < 2 → ∀ b, b < 2 → a ≠ b → (TX3 a).2.1 ≠ (TX3 b).2.1 := by decide +kernel
theorem tyX3_ok : ∀ k, k < 2 → parseFieldDescriptor (TX3 k).2.2.1 = some (tyX3 k) := by decide +kernel
theorem inX3 : ∀ w ∈ u_ws RX3 TX3 2, w ∈ TB := by decide +kernel
def TX4 : u_T := fun k => match k with
  | 0 => ("PostRopes$Word", "crossings", "[I", true)
  | _ => ("PostRopes$Word", "length", "I", false)
def tyX4 : Nat → FieldType := fun k => match k with
  | 0 => .array (.int)
  | _ => .int
theorem nmX4 : ∀ a, a < 2 → ∀ b, b < 2 → a ≠ b → (TX4 a).2.1 ≠ (TX4 b).2.1 := by decide +kernel
theorem tyX4_ok : ∀ k, k < 2 → parseFieldDescriptor (TX4 k).2.2.1 = some (tyX4 k) := by decide +kernel
theorem inX4 : ∀ w ∈ u_ws RX4 TX4 2, w ∈ TB := by decide +kernel
def TX5 : u_T := fun k => match k with
  | 0 => ("PostRopes", "now", "LPostRopes$State;", true)
  | 1 => ("PostRopes", "past", "LPostRopes$Past;", true)
  | 2 => ("PostRopes", "slots", "[LPostRopes$State;", true)
  | 3 => ("PostRopes", "filled", "[Z", true)
  | 4 => ("PostRopes", "pad", "LPostRopes$Pad;", true)
  | 5 => ("PostRopes", "scissors", "LPostRopes$Scissors;", true)
  | 6 => ("PostRopes", "work", "LPostRopes$Word;", true)
  | 7 => ("PostRopes", "spare", "LPostRopes$Word;", true)
  | _ => ("PostRopes", "loop", "LPostRopes$Word;", true)
def tyX5 : Nat → FieldType := fun k => match k with
  | 0 => .object "PostRopes$State"
  | 1 => .object "PostRopes$Past"
  | 2 => .array (.object "PostRopes$State")
  | 3 => .array (.boolean)
  | 4 => .object "PostRopes$Pad"
  | 5 => .object "PostRopes$Scissors"
  | 6 => .object "PostRopes$Word"
  | 7 => .object "PostRopes$Word"
  | _ => .object "PostRopes$Word"
theorem nmX5 : ∀ a, a < 9 → ∀ b, b < 9 → a ≠ b → (TX5 a).2.1 ≠ (TX5 b).2.1 := by decide +kernel
theorem tyX5_ok : ∀ k, k < 9 → parseFieldDescriptor (TX5 k).2.2.1 = some (tyX5 k) := by decide +kernel
theorem inX5 : ∀ w ∈ u_ws RX5 TX5 9, w ∈ TB := by decide +kernel
def TX6 : u_T := fun k => match k with
  | 0 => ("PostRopesModel", "now", "[I", true)
  | 1 => ("PostRopesModel", "history", "[I", true)
  | 2 => ("PostRopesModel", "undos", "I", false)
  | 3 => ("PostRopesModel", "saved", "[I", true)
  | 4 => ("PostRopesModel", "isSaved", "[Z", true)
  | 5 => ("PostRopesModel", "pad", "[I", true)
  | 6 => ("PostRopesModel", "signs", "I", false)
  | 7 => ("PostRopesModel", "work", "[I", true)
  | 8 => ("PostRopesModel", "length", "I", false)
  | 9 => ("PostRopesModel", "form", "[I", true)
  | 10 => ("PostRopesModel", "formed", "I", false)
  | 11 => ("PostRopesModel", "form2", "[I", true)
  | 12 => ("PostRopesModel", "formed2", "I", false)
  | 13 => ("PostRopesModel", "told", "[I", true)
  | 14 => ("PostRopesModel", "tolds", "I", false)
  | 15 => ("PostRopesModel", "isLong", "Z", false)
  | 16 => ("PostRopesModel", "openKind", "[I", true)
  | 17 => ("PostRopesModel", "openAt", "[I", true)
  | 18 => ("PostRopesModel", "openSecond", "[I", true)
  | _ => ("PostRopesModel", "left", "[I", true)
def tyX6 : Nat → FieldType := fun k => match k with
  | 0 => .array (.int)
  | 1 => .array (.int)
  | 2 => .int
  | 3 => .array (.int)
  | 4 => .array (.boolean)
  | 5 => .array (.int)
  | 6 => .int
  | 7 => .array (.int)
  | 8 => .int
  | 9 => .array (.int)
  | 10 => .int
  | 11 => .array (.int)
  | 12 => .int
  | 13 => .array (.int)
  | 14 => .int
  | 15 => .boolean
  | 16 => .array (.int)
  | 17 => .array (.int)
  | 18 => .array (.int)
  | _ => .array (.int)
theorem nmX6 : ∀ a, a < 20 → ∀ b, b < 20 → a ≠ b → (TX6 a).2.1 ≠ (TX6 b).2.1 := by decide +kernel
theorem tyX6_ok : ∀ k, k < 20 → parseFieldDescriptor (TX6 k).2.2.1 = some (tyX6 k) := by decide +kernel
theorem inX6 : ∀ w ∈ u_ws RX6 TX6 20, w ∈ TB := by decide +kernel
abbrev classes : List vw_C := [(RX0, TX0, 6), (RX1, TX1, 3), (RX2, TX2, 4), (RX3, TX3, 2), (RX4, TX4, 2), (RX5, TX5, 9), (RX6, TX6, 20)]
abbrev Mu : Type := MethodName × ByteArray × Nat × Option FieldType × Nat × Nat
abbrev cX0_init : ByteArray := prog_2_method_1_code
def yX0_init : MethodName := ⟨RX0, "<init>", "()V"⟩
abbrev μX0_init : Mu := (yX0_init, cX0_init, 1, none, 1, 16)
abbrev cX0_charactersIn : ByteArray := prog_2_method_2_code
def yX0_charactersIn : MethodName := ⟨RX0, "charactersIn", "(J)I"⟩
abbrev μX0_charactersIn : Mu := (yX0_charactersIn, cX0_charactersIn, 6, (some .int), 0, 0)
abbrev cX0_append : ByteArray := prog_2_method_3_code
def yX0_append : MethodName := ⟨RX0, "append", "(JI)V"⟩
abbrev μX0_append : Mu := (yX0_append, cX0_append, 5, none, 0, 0)
abbrev cX0_clear : ByteArray := prog_2_method_4_code
def yX0_clear : MethodName := ⟨RX0, "clear", "()V"⟩
abbrev μX0_clear : Mu := (yX0_clear, cX0_clear, 1, none, 0, 0)
abbrev cX0_crossingOf : ByteArray := prog_2_method_5_code
def yX0_crossingOf : MethodName := ⟨RX0, "crossingOf", "(I)I"⟩
abbrev μX0_crossingOf : Mu := (yX0_crossingOf, cX0_crossingOf, 1, (some .int), 0, 0)
abbrev cX0_isTimes : ByteArray := prog_2_method_6_code
def yX0_isTimes : MethodName := ⟨RX0, "isTimes", "(I)Z"⟩
abbrev μX0_isTimes : Mu := (yX0_isTimes, cX0_isTimes, 1, (some .boolean), 0, 0)
abbrev cX0_findFault : ByteArray := prog_2_method_7_code
def yX0_findFault : MethodName := ⟨RX0, "findFault", "()I"⟩
abbrev μX0_findFault : Mu := (yX0_findFault, cX0_findFault, 3, (some .int), 3, 66)
abbrev cX0_stageAfter : ByteArray := prog_2_method_8_code
def yX0_stageAfter : MethodName := ⟨RX0, "stageAfter", "(II)I"⟩
abbrev μX0_stageAfter : Mu := (yX0_stageAfter, cX0_stageAfter, 3, (some .int), 2, 44)
abbrev cX0_stageAfterClosing : ByteArray := prog_2_method_9_code
def yX0_stageAfterClosing : MethodName := ⟨RX0, "stageAfterClosing", "(I)I"⟩
abbrev μX0_stageAfterClosing : Mu := (yX0_stageAfterClosing, cX0_stageAfterClosing, 4, (some .int), 1, 21)
abbrev cX0_open : ByteArray := prog_2_method_10_code
def yX0_open : MethodName := ⟨RX0, "open", "(II)Z"⟩
abbrev μX0_open : Mu := (yX0_open, cX0_open, 3, (some .boolean), 0, 0)
abbrev cX0_innermostSign : ByteArray := prog_2_method_11_code
def yX0_innermostSign : MethodName := ⟨RX0, "innermostSign", "()I"⟩
abbrev μX0_innermostSign : Mu := (yX0_innermostSign, cX0_innermostSign, 1, (some .int), 0, 0)
abbrev cX0_passComma : ByteArray := prog_2_method_12_code
def yX0_passComma : MethodName := ⟨RX0, "passComma", "(I)V"⟩
abbrev μX0_passComma : Mu := (yX0_passComma, cX0_passComma, 2, none, 0, 0)
abbrev cX0_readInto : ByteArray := prog_2_method_13_code
def yX0_readInto : MethodName := ⟨RX0, "readInto", "(LPostRopes$Word;)Z"⟩
abbrev μX0_readInto : Mu := (yX0_readInto, cX0_readInto, 6, (some .boolean), 3, 68)
abbrev cX0_addTurnedHalves : ByteArray := prog_2_method_14_code
def yX0_addTurnedHalves : MethodName := ⟨RX0, "addTurnedHalves", "(LPostRopes$Word;II)Z"⟩
abbrev μX0_addTurnedHalves : Mu := (yX0_addTurnedHalves, cX0_addTurnedHalves, 4, (some .boolean), 2, 45)
abbrev cX1_init : ByteArray := prog_3_method_1_code
def yX1_init : MethodName := ⟨RX1, "<init>", "()V"⟩
abbrev μX1_init : Mu := (yX1_init, cX1_init, 2, none, 3, 63)
abbrev cX1_remember : ByteArray := prog_3_method_2_code
def yX1_remember : MethodName := ⟨RX1, "remember", "(LPostRopes$State;)V"⟩
abbrev μX1_remember : Mu := (yX1_remember, cX1_remember, 2, none, 4, 87)
abbrev cX1_bringBack : ByteArray := prog_3_method_3_code
def yX1_bringBack : MethodName := ⟨RX1, "bringBack", "(LPostRopes$State;)V"⟩
abbrev μX1_bringBack : Mu := (yX1_bringBack, cX1_bringBack, 2, none, 4, 87)
abbrev cX2_init : ByteArray := prog_4_method_1_code
def yX2_init : MethodName := ⟨RX2, "<init>", "()V"⟩
abbrev μX2_init : Mu := (yX2_init, cX2_init, 1, none, 1, 16)
abbrev cX2_fewestCuts : ByteArray := prog_4_method_2_code
def yX2_fewestCuts : MethodName := ⟨RX2, "fewestCuts", "(LPostRopes$Word;)I"⟩
abbrev μX2_fewestCuts : Mu := (yX2_fewestCuts, cX2_fewestCuts, 5, (some .int), 3, 67)
abbrev cX2_linkPlaces : ByteArray := prog_4_method_3_code
def yX2_linkPlaces : MethodName := ⟨RX2, "linkPlaces", "(LPostRopes$Word;I)V"⟩
abbrev μX2_linkPlaces : Mu := (yX2_linkPlaces, cX2_linkPlaces, 5, none, 1, 22)
abbrev cX2_mostStaying : ByteArray := prog_4_method_4_code
def yX2_mostStaying : MethodName := ⟨RX2, "mostStaying", "(II)I"⟩
abbrev μX2_mostStaying : Mu := (yX2_mostStaying, cX2_mostStaying, 5, (some .int), 2, 43)
abbrev cX2_staying : ByteArray := prog_4_method_5_code
def yX2_staying : MethodName := ⟨RX2, "staying", "(II)I"⟩
abbrev μX2_staying : Mu := (yX2_staying, cX2_staying, 3, (some .int), 1, 21)
abbrev cX2_placeOf : ByteArray := prog_4_method_6_code
def yX2_placeOf : MethodName := ⟨RX2, "placeOf", "(II)I"⟩
abbrev μX2_placeOf : Mu := (yX2_placeOf, cX2_placeOf, 2, (some .int), 0, 0)
abbrev cX3_init : ByteArray := prog_5_method_1_code
def yX3_init : MethodName := ⟨RX3, "<init>", "()V"⟩
abbrev μX3_init : Mu := (yX3_init, cX3_init, 2, none, 2, 42)
abbrev cX3_copyFrom : ByteArray := prog_5_method_2_code
def yX3_copyFrom : MethodName := ⟨RX3, "copyFrom", "(LPostRopes$State;)V"⟩
abbrev μX3_copyFrom : Mu := (yX3_copyFrom, cX3_copyFrom, 3, none, 3, 65)
abbrev cX3_allCrossings : ByteArray := prog_5_method_3_code
def yX3_allCrossings : MethodName := ⟨RX3, "allCrossings", "()I"⟩
abbrev μX3_allCrossings : Mu := (yX3_allCrossings, cX3_allCrossings, 3, (some .int), 0, 0)
abbrev cX3_widthsAlong : ByteArray := prog_5_method_4_code
def yX3_widthsAlong : MethodName := ⟨RX3, "widthsAlong", "(LPostRopes$Word;)I"⟩
abbrev μX3_widthsAlong : Mu := (yX3_widthsAlong, cX3_widthsAlong, 5, (some .int), 1, 21)
abbrev cX4_init : ByteArray := prog_6_method_1_code
def yX4_init : MethodName := ⟨RX4, "<init>", "(I)V"⟩
abbrev μX4_init : Mu := (yX4_init, cX4_init, 2, none, 1, 21)
abbrev cX4_at : ByteArray := prog_6_method_2_code
def yX4_at : MethodName := ⟨RX4, "at", "(I)I"⟩
abbrev μX4_at : Mu := (yX4_at, cX4_at, 2, (some .int), 0, 0)
abbrev cX4_add : ByteArray := prog_6_method_3_code
def yX4_add : MethodName := ⟨RX4, "add", "(I)Z"⟩
abbrev μX4_add : Mu := (yX4_add, cX4_add, 2, (some .boolean), 0, 0)
abbrev cX4_addPulled : ByteArray := prog_6_method_4_code
def yX4_addPulled : MethodName := ⟨RX4, "addPulled", "(I)Z"⟩
abbrev μX4_addPulled : Mu := (yX4_addPulled, cX4_addPulled, 2, (some .boolean), 1, 21)
abbrev cX4_clear : ByteArray := prog_6_method_5_code
def yX4_clear : MethodName := ⟨RX4, "clear", "()V"⟩
abbrev μX4_clear : Mu := (yX4_clear, cX4_clear, 1, none, 0, 0)
abbrev cX4_dropLast : ByteArray := prog_6_method_6_code
def yX4_dropLast : MethodName := ⟨RX4, "dropLast", "(I)V"⟩
abbrev μX4_dropLast : Mu := (yX4_dropLast, cX4_dropLast, 2, none, 1, 21)
abbrev cX4_copyFrom : ByteArray := prog_6_method_7_code
def yX4_copyFrom : MethodName := ⟨RX4, "copyFrom", "(LPostRopes$Word;)V"⟩
abbrev μX4_copyFrom : Mu := (yX4_copyFrom, cX4_copyFrom, 2, none, 2, 44)
abbrev cX4_addWord : ByteArray := prog_6_method_8_code
def yX4_addWord : MethodName := ⟨RX4, "addWord", "(LPostRopes$Word;)V"⟩
abbrev μX4_addWord : Mu := (yX4_addWord, cX4_addWord, 4, none, 1, 21)
abbrev cX4_addTurned : ByteArray := prog_6_method_9_code
def yX4_addTurned : MethodName := ⟨RX4, "addTurned", "(LPostRopes$Word;)V"⟩
abbrev μX4_addTurned : Mu := (yX4_addTurned, cX4_addTurned, 2, none, 2, 45)
abbrev cX4_addTurnedPart : ByteArray := prog_6_method_10_code
def yX4_addTurnedPart : MethodName := ⟨RX4, "addTurnedPart", "(LPostRopes$Word;II)Z"⟩
abbrev μX4_addTurnedPart : Mu := (yX4_addTurnedPart, cX4_addTurnedPart, 5, (some .boolean), 1, 21)
abbrev cX4_repeatFrom : ByteArray := prog_6_method_11_code
def yX4_repeatFrom : MethodName := ⟨RX4, "repeatFrom", "(II)Z"⟩
abbrev μX4_repeatFrom : Mu := (yX4_repeatFrom, cX4_repeatFrom, 6, (some .boolean), 1, 21)
abbrev cX4_turnFrom : ByteArray := prog_6_method_12_code
def yX4_turnFrom : MethodName := ⟨RX4, "turnFrom", "(I)V"⟩
abbrev μX4_turnFrom : Mu := (yX4_turnFrom, cX4_turnFrom, 5, none, 1, 21)
abbrev cX4_cancelPairs : ByteArray := prog_6_method_13_code
def yX4_cancelPairs : MethodName := ⟨RX4, "cancelPairs", "()I"⟩
abbrev μX4_cancelPairs : Mu := (yX4_cancelPairs, cX4_cancelPairs, 3, (some .int), 2, 42)
abbrev cX4_tighten : ByteArray := prog_6_method_14_code
def yX4_tighten : MethodName := ⟨RX4, "tighten", "()V"⟩
abbrev μX4_tighten : Mu := (yX4_tighten, cX4_tighten, 4, none, 3, 64)
abbrev cX4_atRound : ByteArray := prog_6_method_15_code
def yX4_atRound : MethodName := ⟨RX4, "atRound", "(I)I"⟩
abbrev μX4_atRound : Mu := (yX4_atRound, cX4_atRound, 2, (some .int), 1, 21)
abbrev cX4_leastStart : ByteArray := prog_6_method_16_code
def yX4_leastStart : MethodName := ⟨RX4, "leastStart", "()I"⟩
abbrev μX4_leastStart : Mu := (yX4_leastStart, cX4_leastStart, 3, (some .int), 3, 67)
abbrev cX4_isLessFrom : ByteArray := prog_6_method_17_code
def yX4_isLessFrom : MethodName := ⟨RX4, "isLessFrom", "(II)Z"⟩
abbrev μX4_isLessFrom : Mu := (yX4_isLessFrom, cX4_isLessFrom, 6, (some .boolean), 2, 42)
abbrev cX4_copyFromStart : ByteArray := prog_6_method_18_code
def yX4_copyFromStart : MethodName := ⟨RX4, "copyFromStart", "(LPostRopes$Word;I)V"⟩
abbrev μX4_copyFromStart : Mu := (yX4_copyFromStart, cX4_copyFromStart, 4, none, 2, 42)
abbrev cX4_power : ByteArray := prog_6_method_19_code
def yX4_power : MethodName := ⟨RX4, "power", "()I"⟩
abbrev μX4_power : Mu := (yX4_power, cX4_power, 2, (some .int), 2, 43)
abbrev cX4_repeatsAfter : ByteArray := prog_6_method_20_code
def yX4_repeatsAfter : MethodName := ⟨RX4, "repeatsAfter", "(I)Z"⟩
abbrev μX4_repeatsAfter : Mu := (yX4_repeatsAfter, cX4_repeatsAfter, 3, (some .boolean), 1, 21)
abbrev cX4_posts : ByteArray := prog_6_method_21_code
def yX4_posts : MethodName := ⟨RX4, "posts", "()I"⟩
abbrev μX4_posts : Mu := (yX4_posts, cX4_posts, 3, (some .int), 1, 20)
abbrev cX4_firstPair : ByteArray := prog_6_method_22_code
def yX4_firstPair : MethodName := ⟨RX4, "firstPair", "()I"⟩
abbrev μX4_firstPair : Mu := (yX4_firstPair, cX4_firstPair, 2, (some .int), 1, 20)
abbrev cX4_windings : ByteArray := prog_6_method_23_code
def yX4_windings : MethodName := ⟨RX4, "windings", "(I)I"⟩
abbrev μX4_windings : Mu := (yX4_windings, cX4_windings, 4, (some .int), 1, 20)
abbrev cX4_isSameAs : ByteArray := prog_6_method_24_code
def yX4_isSameAs : MethodName := ⟨RX4, "isSameAs", "(LPostRopes$Word;)Z"⟩
abbrev μX4_isSameAs : Mu := (yX4_isSameAs, cX4_isSameAs, 3, (some .boolean), 1, 21)
abbrev cX5_init : ByteArray := prog_1_method_1_code
def yX5_init : MethodName := ⟨RX5, "<init>", "()V"⟩
abbrev μX5_init : Mu := (yX5_init, cX5_init, 2, none, 4, 84)
abbrev cX5_width : ByteArray := prog_1_method_2_code
def yX5_width : MethodName := ⟨RX5, "width", "(II)I"⟩
abbrev μX5_width : Mu := (yX5_width, cX5_width, 4, (some .int), 5, 108)
abbrev cX5_cross : ByteArray := prog_1_method_3_code
def yX5_cross : MethodName := ⟨RX5, "cross", "(II)I"⟩
abbrev μX5_cross : Mu := (yX5_cross, cX5_cross, 4, (some .int), 5, 108)
abbrev cX5_back : ByteArray := prog_1_method_4_code
def yX5_back : MethodName := ⟨RX5, "back", "(II)I"⟩
abbrev μX5_back : Mu := (yX5_back, cX5_back, 4, (some .int), 5, 108)
abbrev cX5_pull : ByteArray := prog_1_method_5_code
def yX5_pull : MethodName := ⟨RX5, "pull", "(I)I"⟩
abbrev μX5_pull : Mu := (yX5_pull, cX5_pull, 2, (some .int), 5, 108)
abbrev cX5_join : ByteArray := prog_1_method_6_code
def yX5_join : MethodName := ⟨RX5, "join", "(II)I"⟩
abbrev μX5_join : Mu := (yX5_join, cX5_join, 4, (some .int), 5, 108)
abbrev cX5_turn : ByteArray := prog_1_method_7_code
def yX5_turn : MethodName := ⟨RX5, "turn", "(I)I"⟩
abbrev μX5_turn : Mu := (yX5_turn, cX5_turn, 3, (some .int), 5, 108)
abbrev cX5_weave : ByteArray := prog_1_method_8_code
def yX5_weave : MethodName := ⟨RX5, "weave", "(II)I"⟩
abbrev μX5_weave : Mu := (yX5_weave, cX5_weave, 4, (some .int), 5, 108)
abbrev cX5_swap : ByteArray := prog_1_method_9_code
def yX5_swap : MethodName := ⟨RX5, "swap", "(II)I"⟩
abbrev μX5_swap : Mu := (yX5_swap, cX5_swap, 4, (some .int), 5, 108)
abbrev cX5_put : ByteArray := prog_1_method_10_code
def yX5_put : MethodName := ⟨RX5, "put", "(J)I"⟩
abbrev μX5_put : Mu := (yX5_put, cX5_put, 4, (some .int), 1, 25)
abbrev cX5_wipe : ByteArray := prog_1_method_11_code
def yX5_wipe : MethodName := ⟨RX5, "wipe", "()I"⟩
abbrev μX5_wipe : Mu := (yX5_wipe, cX5_wipe, 2, (some .int), 1, 20)
abbrev cX5_fault : ByteArray := prog_1_method_12_code
def yX5_fault : MethodName := ⟨RX5, "fault", "()I"⟩
abbrev μX5_fault : Mu := (yX5_fault, cX5_fault, 1, (some .int), 4, 88)
abbrev cX5_load : ByteArray := prog_1_method_13_code
def yX5_load : MethodName := ⟨RX5, "load", "(I)I"⟩
abbrev μX5_load : Mu := (yX5_load, cX5_load, 2, (some .int), 5, 108)
abbrev cX5_crossing : ByteArray := prog_1_method_14_code
def yX5_crossing : MethodName := ⟨RX5, "crossing", "(II)I"⟩
abbrev μX5_crossing : Mu := (yX5_crossing, cX5_crossing, 3, (some .int), 2, 43)
abbrev cX5_ofRope : ByteArray := prog_1_method_15_code
def yX5_ofRope : MethodName := ⟨RX5, "ofRope", "(II)I"⟩
abbrev μX5_ofRope : Mu := (yX5_ofRope, cX5_ofRope, 4, (some .int), 5, 108)
abbrev cX5_winds : ByteArray := prog_1_method_16_code
def yX5_winds : MethodName := ⟨RX5, "winds", "(II)I"⟩
abbrev μX5_winds : Mu := (yX5_winds, cX5_winds, 3, (some .int), 2, 43)
abbrev cX5_least : ByteArray := prog_1_method_17_code
def yX5_least : MethodName := ⟨RX5, "least", "(II)I"⟩
abbrev μX5_least : Mu := (yX5_least, cX5_least, 3, (some .int), 5, 111)
abbrev cX5_count : ByteArray := prog_1_method_18_code
def yX5_count : MethodName := ⟨RX5, "count", "(I)I"⟩
abbrev μX5_count : Mu := (yX5_count, cX5_count, 2, (some .int), 1, 22)
abbrev cX5_falls : ByteArray := prog_1_method_19_code
def yX5_falls : MethodName := ⟨RX5, "falls", "(II)I"⟩
abbrev μX5_falls : Mu := (yX5_falls, cX5_falls, 3, (some .int), 3, 66)
abbrev cX5_felling : ByteArray := prog_1_method_20_code
def yX5_felling : MethodName := ⟨RX5, "felling", "(II)I"⟩
abbrev μX5_felling : Mu := (yX5_felling, cX5_felling, 8, (some .int), 3, 66)
abbrev cX5_both : ByteArray := prog_1_method_21_code
def yX5_both : MethodName := ⟨RX5, "both", "(III)I"⟩
abbrev μX5_both : Mu := (yX5_both, cX5_both, 6, (some .int), 6, 133)
abbrev cX5_cuts : ByteArray := prog_1_method_22_code
def yX5_cuts : MethodName := ⟨RX5, "cuts", "(I)I"⟩
abbrev μX5_cuts : Mu := (yX5_cuts, cX5_cuts, 2, (some .int), 4, 91)
abbrev cX5_ifSwapped : ByteArray := prog_1_method_23_code
def yX5_ifSwapped : MethodName := ⟨RX5, "ifSwapped", "(II)I"⟩
abbrev μX5_ifSwapped : Mu := (yX5_ifSwapped, cX5_ifSwapped, 3, (some .int), 5, 118)
abbrev cX5_bestSwap : ByteArray := prog_1_method_24_code
def yX5_bestSwap : MethodName := ⟨RX5, "bestSwap", "(I)I"⟩
abbrev μX5_bestSwap : Mu := (yX5_bestSwap, cX5_bestSwap, 8, (some .int), 5, 118)
abbrev cX5_undo : ByteArray := prog_1_method_25_code
def yX5_undo : MethodName := ⟨RX5, "undo", "()I"⟩
abbrev μX5_undo : Mu := (yX5_undo, cX5_undo, 1, (some .int), 5, 108)
abbrev cX5_save : ByteArray := prog_1_method_26_code
def yX5_save : MethodName := ⟨RX5, "save", "(I)I"⟩
abbrev μX5_save : Mu := (yX5_save, cX5_save, 2, (some .int), 4, 87)
abbrev cX5_restore : ByteArray := prog_1_method_27_code
def yX5_restore : MethodName := ⟨RX5, "restore", "(I)I"⟩
abbrev μX5_restore : Mu := (yX5_restore, cX5_restore, 2, (some .int), 5, 108)
abbrev cX5_isPost : ByteArray := prog_1_method_28_code
def yX5_isPost : MethodName := ⟨RX5, "isPost", "(I)Z"⟩
abbrev μX5_isPost : Mu := (yX5_isPost, cX5_isPost, 1, (some .boolean), 0, 0)
abbrev cX5_isRope : ByteArray := prog_1_method_29_code
def yX5_isRope : MethodName := ⟨RX5, "isRope", "(I)Z"⟩
abbrev μX5_isRope : Mu := (yX5_isRope, cX5_isRope, 1, (some .boolean), 0, 0)
abbrev cX5_isSwap : ByteArray := prog_1_method_30_code
def yX5_isSwap : MethodName := ⟨RX5, "isSwap", "(I)Z"⟩
abbrev μX5_isSwap : Mu := (yX5_isSwap, cX5_isSwap, 1, (some .boolean), 0, 0)
abbrev cX5_isBack : ByteArray := prog_1_method_31_code
def yX5_isBack : MethodName := ⟨RX5, "isBack", "(I)Z"⟩
abbrev μX5_isBack : Mu := (yX5_isBack, cX5_isBack, 1, (some .boolean), 0, 0)
abbrev cX5_isSlot : ByteArray := prog_1_method_32_code
def yX5_isSlot : MethodName := ⟨RX5, "isSlot", "(I)Z"⟩
abbrev μX5_isSlot : Mu := (yX5_isSlot, cX5_isSlot, 1, (some .boolean), 0, 0)
abbrev cX5_postOf : ByteArray := prog_1_method_33_code
def yX5_postOf : MethodName := ⟨RX5, "postOf", "(I)I"⟩
abbrev μX5_postOf : Mu := (yX5_postOf, cX5_postOf, 1, (some .int), 0, 0)
abbrev cX5_opposite : ByteArray := prog_1_method_34_code
def yX5_opposite : MethodName := ⟨RX5, "opposite", "(I)I"⟩
abbrev μX5_opposite : Mu := (yX5_opposite, cX5_opposite, 1, (some .int), 0, 0)
abbrev cX5_oneIf : ByteArray := prog_1_method_35_code
def yX5_oneIf : MethodName := ⟨RX5, "oneIf", "(Z)I"⟩
abbrev μX5_oneIf : Mu := (yX5_oneIf, cX5_oneIf, 1, (some .int), 0, 0)
abbrev cX5_crossingOrNoSuch : ByteArray := prog_1_method_36_code
def yX5_crossingOrNoSuch : MethodName := ⟨RX5, "crossingOrNoSuch", "(LPostRopes$Word;I)I"⟩
abbrev μX5_crossingOrNoSuch : Mu := (yX5_crossingOrNoSuch, cX5_crossingOrNoSuch, 3, (some .int), 1, 21)
abbrev cX5_layPulled : ByteArray := prog_1_method_37_code
def yX5_layPulled : MethodName := ⟨RX5, "layPulled", "(LPostRopes$Word;)V"⟩
abbrev μX5_layPulled : Mu := (yX5_layPulled, cX5_layPulled, 2, none, 3, 65)
abbrev cX5_layLoop : ByteArray := prog_1_method_38_code
def yX5_layLoop : MethodName := ⟨RX5, "layLoop", "(LPostRopes$Word;)V"⟩
abbrev μX5_layLoop : Mu := (yX5_layLoop, cX5_layLoop, 2, none, 4, 87)
abbrev cX5_layLeast : ByteArray := prog_1_method_39_code
def yX5_layLeast : MethodName := ⟨RX5, "layLeast", "(LPostRopes$Word;LPostRopes$Word;)V"⟩
abbrev μX5_layLeast : Mu := (yX5_layLeast, cX5_layLeast, 3, none, 4, 89)
abbrev cX5_laySwapped : ByteArray := prog_1_method_40_code
def yX5_laySwapped : MethodName := ⟨RX5, "laySwapped", "(LPostRopes$Word;II)V"⟩
abbrev μX5_laySwapped : Mu := (yX5_laySwapped, cX5_laySwapped, 5, none, 3, 70)
abbrev cX5_addSwapped : ByteArray := prog_1_method_41_code
def yX5_addSwapped : MethodName := ⟨RX5, "addSwapped", "(III)V"⟩
abbrev μX5_addSwapped : Mu := (yX5_addSwapped, cX5_addSwapped, 9, none, 2, 42)
abbrev cX5_crossingsIfSwapped : ByteArray := prog_1_method_42_code
def yX5_crossingsIfSwapped : MethodName := ⟨RX5, "crossingsIfSwapped", "(II)I"⟩
abbrev μX5_crossingsIfSwapped : Mu := (yX5_crossingsIfSwapped, cX5_crossingsIfSwapped, 5, (some .int), 4, 94)
abbrev cX5_fallsWithout : ByteArray := prog_1_method_43_code
def yX5_fallsWithout : MethodName := ⟨RX5, "fallsWithout", "(LPostRopes$Word;I)Z"⟩
abbrev μX5_fallsWithout : Mu := (yX5_fallsWithout, cX5_fallsWithout, 5, (some .boolean), 2, 42)
abbrev cX5_holdsFallingPart : ByteArray := prog_1_method_44_code
def yX5_holdsFallingPart : MethodName := ⟨RX5, "holdsFallingPart", "(JI)Z"⟩
abbrev μX5_holdsFallingPart : Mu := (yX5_holdsFallingPart, cX5_holdsFallingPart, 5, (some .boolean), 0, 0)
abbrev cX5_areAlike : ByteArray := prog_1_method_45_code
def yX5_areAlike : MethodName := ⟨RX5, "areAlike", "(LPostRopes$Word;LPostRopes$Word;)Z"⟩
abbrev μX5_areAlike : Mu := (yX5_areAlike, cX5_areAlike, 3, (some .boolean), 5, 111)
abbrev cX5_doCommute : ByteArray := prog_1_method_46_code
def yX5_doCommute : MethodName := ⟨RX5, "doCommute", "(LPostRopes$Word;LPostRopes$Word;)Z"⟩
abbrev μX5_doCommute : Mu := (yX5_doCommute, cX5_doCommute, 3, (some .boolean), 3, 65)
abbrev cX5_arePulledTheSame : ByteArray := prog_1_method_47_code
def yX5_arePulledTheSame : MethodName := ⟨RX5, "arePulledTheSame", "(LPostRopes$Word;LPostRopes$Word;)Z"⟩
abbrev μX5_arePulledTheSame : Mu := (yX5_arePulledTheSame, cX5_arePulledTheSame, 3, (some .boolean), 4, 86)
abbrev cX6_init : ByteArray := prog_8_method_1_code
def yX6_init : MethodName := ⟨RX6, "<init>", "()V"⟩
abbrev μX6_init : Mu := (yX6_init, cX6_init, 2, none, 1, 16)
abbrev cX6_in : ByteArray := prog_8_method_2_code
def yX6_in : MethodName := ⟨RX6, "in", "(III)Z"⟩
abbrev μX6_in : Mu := (yX6_in, cX6_in, 3, (some .boolean), 0, 0)
abbrev cX6_record : ByteArray := prog_8_method_3_code
def yX6_record : MethodName := ⟨RX6, "record", "()V"⟩
abbrev μX6_record : Mu := (yX6_record, cX6_record, 2, none, 0, 0)
abbrev cX6_cancel : ByteArray := prog_8_method_4_code
def yX6_cancel : MethodName := ⟨RX6, "cancel", "(II)Z"⟩
abbrev μX6_cancel : Mu := (yX6_cancel, cX6_cancel, 2, (some .boolean), 0, 0)
abbrev cX6_otherSide : ByteArray := prog_8_method_5_code
def yX6_otherSide : MethodName := ⟨RX6, "otherSide", "(I)I"⟩
abbrev μX6_otherSide : Mu := (yX6_otherSide, cX6_otherSide, 1, (some .int), 0, 0)
abbrev cX6_push : ByteArray := prog_8_method_6_code
def yX6_push : MethodName := ⟨RX6, "push", "(I)V"⟩
abbrev μX6_push : Mu := (yX6_push, cX6_push, 2, none, 1, 21)
abbrev cX6_isRope : ByteArray := prog_8_method_7_code
def yX6_isRope : MethodName := ⟨RX6, "isRope", "(I)Z"⟩
abbrev μX6_isRope : Mu := (yX6_isRope, cX6_isRope, 1, (some .boolean), 1, 22)
abbrev cX6_many : ByteArray := prog_8_method_8_code
def yX6_many : MethodName := ⟨RX6, "many", "(I)I"⟩
abbrev μX6_many : Mu := (yX6_many, cX6_many, 2, (some .int), 0, 0)
abbrev cX6_at : ByteArray := prog_8_method_9_code
def yX6_at : MethodName := ⟨RX6, "at", "(II)I"⟩
abbrev μX6_at : Mu := (yX6_at, cX6_at, 3, (some .int), 0, 0)
abbrev cX6_pushRope : ByteArray := prog_8_method_10_code
def yX6_pushRope : MethodName := ⟨RX6, "pushRope", "(IZ)V"⟩
abbrev μX6_pushRope : Mu := (yX6_pushRope, cX6_pushRope, 4, none, 2, 42)
abbrev cX6_layPulled : ByteArray := prog_8_method_11_code
def yX6_layPulled : MethodName := ⟨RX6, "layPulled", "(IZ)V"⟩
abbrev μX6_layPulled : Mu := (yX6_layPulled, cX6_layPulled, 3, none, 3, 65)
abbrev cX6_take : ByteArray := prog_8_method_12_code
def yX6_take : MethodName := ⟨RX6, "take", "(I)V"⟩
abbrev μX6_take : Mu := (yX6_take, cX6_take, 3, none, 0, 0)
abbrev cX6_tighten : ByteArray := prog_8_method_13_code
def yX6_tighten : MethodName := ⟨RX6, "tighten", "()V"⟩
abbrev μX6_tighten : Mu := (yX6_tighten, cX6_tighten, 3, none, 1, 21)
abbrev cX6_isLess : ByteArray := prog_8_method_14_code
def yX6_isLess : MethodName := ⟨RX6, "isLess", "(II)Z"⟩
abbrev μX6_isLess : Mu := (yX6_isLess, cX6_isLess, 6, (some .boolean), 0, 0)
abbrev cX6_layForm : ByteArray := prog_8_method_15_code
def yX6_layForm : MethodName := ⟨RX6, "layForm", "(IZ)V"⟩
abbrev μX6_layForm : Mu := (yX6_layForm, cX6_layForm, 5, none, 4, 87)
abbrev cX6_keepForm : ByteArray := prog_8_method_16_code
def yX6_keepForm : MethodName := ⟨RX6, "keepForm", "()V"⟩
abbrev μX6_keepForm : Mu := (yX6_keepForm, cX6_keepForm, 2, none, 0, 0)
abbrev cX6_areFormsAlike : ByteArray := prog_8_method_17_code
def yX6_areFormsAlike : MethodName := ⟨RX6, "areFormsAlike", "()Z"⟩
abbrev μX6_areFormsAlike : Mu := (yX6_areFormsAlike, cX6_areFormsAlike, 3, (some .boolean), 0, 0)
abbrev cX6_power : ByteArray := prog_8_method_18_code
def yX6_power : MethodName := ⟨RX6, "power", "()I"⟩
abbrev μX6_power : Mu := (yX6_power, cX6_power, 4, (some .int), 0, 0)
abbrev cX6_width : ByteArray := prog_8_method_19_code
def yX6_width : MethodName := ⟨RX6, "width", "(II)I"⟩
abbrev μX6_width : Mu := (yX6_width, cX6_width, 4, (some .int), 1, 22)
abbrev cX6_cross : ByteArray := prog_8_method_20_code
def yX6_cross : MethodName := ⟨RX6, "cross", "(II)I"⟩
abbrev μX6_cross : Mu := (yX6_cross, cX6_cross, 3, (some .int), 2, 42)
abbrev cX6_back : ByteArray := prog_8_method_21_code
def yX6_back : MethodName := ⟨RX6, "back", "(II)I"⟩
abbrev μX6_back : Mu := (yX6_back, cX6_back, 3, (some .int), 2, 42)
abbrev cX6_pull : ByteArray := prog_8_method_22_code
def yX6_pull : MethodName := ⟨RX6, "pull", "(I)I"⟩
abbrev μX6_pull : Mu := (yX6_pull, cX6_pull, 3, (some .int), 4, 87)
abbrev cX6_join : ByteArray := prog_8_method_23_code
def yX6_join : MethodName := ⟨RX6, "join", "(II)I"⟩
abbrev μX6_join : Mu := (yX6_join, cX6_join, 6, (some .int), 2, 42)
abbrev cX6_turn : ByteArray := prog_8_method_24_code
def yX6_turn : MethodName := ⟨RX6, "turn", "(I)I"⟩
abbrev μX6_turn : Mu := (yX6_turn, cX6_turn, 3, (some .int), 2, 42)
abbrev cX6_weave : ByteArray := prog_8_method_25_code
def yX6_weave : MethodName := ⟨RX6, "weave", "(II)I"⟩
abbrev μX6_weave : Mu := (yX6_weave, cX6_weave, 3, (some .int), 3, 65)
abbrev cX6_pushSwapped : ByteArray := prog_8_method_26_code
def yX6_pushSwapped : MethodName := ⟨RX6, "pushSwapped", "(III)V"⟩
abbrev μX6_pushSwapped : Mu := (yX6_pushSwapped, cX6_pushSwapped, 7, none, 2, 42)
abbrev cX6_laySwapped : ByteArray := prog_8_method_27_code
def yX6_laySwapped : MethodName := ⟨RX6, "laySwapped", "(III)V"⟩
abbrev μX6_laySwapped : Mu := (yX6_laySwapped, cX6_laySwapped, 5, none, 3, 68)
abbrev cX6_swap : ByteArray := prog_8_method_28_code
def yX6_swap : MethodName := ⟨RX6, "swap", "(II)I"⟩
abbrev μX6_swap : Mu := (yX6_swap, cX6_swap, 4, (some .int), 4, 92)
abbrev cX6_all : ByteArray := prog_8_method_29_code
def yX6_all : MethodName := ⟨RX6, "all", "()I"⟩
abbrev μX6_all : Mu := (yX6_all, cX6_all, 1, (some .int), 1, 21)
abbrev cX6_tell : ByteArray := prog_8_method_30_code
def yX6_tell : MethodName := ⟨RX6, "tell", "(I)V"⟩
abbrev μX6_tell : Mu := (yX6_tell, cX6_tell, 2, none, 0, 0)
abbrev cX6_tellAgain : ByteArray := prog_8_method_31_code
def yX6_tellAgain : MethodName := ⟨RX6, "tellAgain", "(IIZ)V"⟩
abbrev μX6_tellAgain : Mu := (yX6_tellAgain, cX6_tellAgain, 5, none, 1, 21)
abbrev cX6_turnTold : ByteArray := prog_8_method_32_code
def yX6_turnTold : MethodName := ⟨RX6, "turnTold", "(I)V"⟩
abbrev μX6_turnTold : Mu := (yX6_turnTold, cX6_turnTold, 5, none, 1, 20)
abbrev cX6_repeat : ByteArray := prog_8_method_33_code
def yX6_repeat : MethodName := ⟨RX6, "repeat", "(II)V"⟩
abbrev μX6_repeat : Mu := (yX6_repeat, cX6_repeat, 5, none, 2, 45)
abbrev cX6_read : ByteArray := prog_8_method_34_code
def yX6_read : MethodName := ⟨RX6, "read", "()I"⟩
abbrev μX6_read : Mu := (yX6_read, cX6_read, 10, (some .int), 3, 69)
abbrev cX6_put : ByteArray := prog_8_method_35_code
def yX6_put : MethodName := ⟨RX6, "put", "(J)I"⟩
abbrev μX6_put : Mu := (yX6_put, cX6_put, 7, (some .int), 1, 22)
abbrev cX6_wipe : ByteArray := prog_8_method_36_code
def yX6_wipe : MethodName := ⟨RX6, "wipe", "()I"⟩
abbrev μX6_wipe : Mu := (yX6_wipe, cX6_wipe, 2, (some .int), 0, 0)
abbrev cX6_fault : ByteArray := prog_8_method_37_code
def yX6_fault : MethodName := ⟨RX6, "fault", "()I"⟩
abbrev μX6_fault : Mu := (yX6_fault, cX6_fault, 1, (some .int), 4, 98)
abbrev cX6_load : ByteArray := prog_8_method_38_code
def yX6_load : MethodName := ⟨RX6, "load", "(I)I"⟩
abbrev μX6_load : Mu := (yX6_load, cX6_load, 3, (some .int), 4, 98)
abbrev cX6_crossing : ByteArray := prog_8_method_39_code
def yX6_crossing : MethodName := ⟨RX6, "crossing", "(II)I"⟩
abbrev μX6_crossing : Mu := (yX6_crossing, cX6_crossing, 3, (some .int), 2, 42)
abbrev cX6_widths : ByteArray := prog_8_method_40_code
def yX6_widths : MethodName := ⟨RX6, "widths", "()I"⟩
abbrev μX6_widths : Mu := (yX6_widths, cX6_widths, 3, (some .int), 0, 0)
abbrev cX6_ofWord : ByteArray := prog_8_method_41_code
def yX6_ofWord : MethodName := ⟨RX6, "ofWord", "(I)I"⟩
abbrev μX6_ofWord : Mu := (yX6_ofWord, cX6_ofWord, 4, (some .int), 1, 22)
abbrev cX6_posts : ByteArray := prog_8_method_42_code
def yX6_posts : MethodName := ⟨RX6, "posts", "()I"⟩
abbrev μX6_posts : Mu := (yX6_posts, cX6_posts, 3, (some .int), 0, 0)
abbrev cX6_firstPair : ByteArray := prog_8_method_43_code
def yX6_firstPair : MethodName := ⟨RX6, "firstPair", "(I)I"⟩
abbrev μX6_firstPair : Mu := (yX6_firstPair, cX6_firstPair, 3, (some .int), 1, 22)
abbrev cX6_ofRope : ByteArray := prog_8_method_44_code
def yX6_ofRope : MethodName := ⟨RX6, "ofRope", "(II)I"⟩
abbrev μX6_ofRope : Mu := (yX6_ofRope, cX6_ofRope, 3, (some .int), 5, 111)
abbrev cX6_winds : ByteArray := prog_8_method_45_code
def yX6_winds : MethodName := ⟨RX6, "winds", "(II)I"⟩
abbrev μX6_winds : Mu := (yX6_winds, cX6_winds, 5, (some .int), 2, 42)
abbrev cX6_least : ByteArray := prog_8_method_46_code
def yX6_least : MethodName := ⟨RX6, "least", "(II)I"⟩
abbrev μX6_least : Mu := (yX6_least, cX6_least, 3, (some .int), 5, 111)
abbrev cX6_count : ByteArray := prog_8_method_47_code
def yX6_count : MethodName := ⟨RX6, "count", "(I)I"⟩
abbrev μX6_count : Mu := (yX6_count, cX6_count, 2, (some .int), 2, 41)
abbrev cX6_fallsBy : ByteArray := prog_8_method_48_code
def yX6_fallsBy : MethodName := ⟨RX6, "fallsBy", "(II)Z"⟩
abbrev μX6_fallsBy : Mu := (yX6_fallsBy, cX6_fallsBy, 5, (some .boolean), 2, 42)
abbrev cX6_falls : ByteArray := prog_8_method_49_code
def yX6_falls : MethodName := ⟨RX6, "falls", "(II)I"⟩
abbrev μX6_falls : Mu := (yX6_falls, cX6_falls, 3, (some .int), 3, 66)
abbrev cX6_size : ByteArray := prog_8_method_50_code
def yX6_size : MethodName := ⟨RX6, "size", "(I)I"⟩
abbrev μX6_size : Mu := (yX6_size, cX6_size, 3, (some .int), 0, 0)
abbrev cX6_isFelling : ByteArray := prog_8_method_51_code
def yX6_isFelling : MethodName := ⟨RX6, "isFelling", "(II)Z"⟩
abbrev μX6_isFelling : Mu := (yX6_isFelling, cX6_isFelling, 5, (some .boolean), 3, 66)
abbrev cX6_felling : ByteArray := prog_8_method_52_code
def yX6_felling : MethodName := ⟨RX6, "felling", "(II)I"⟩
abbrev μX6_felling : Mu := (yX6_felling, cX6_felling, 6, (some .int), 4, 90)
abbrev cX6_areSame : ByteArray := prog_8_method_53_code
def yX6_areSame : MethodName := ⟨RX6, "areSame", "(IIII)Z"⟩
abbrev μX6_areSame : Mu := (yX6_areSame, cX6_areSame, 5, (some .boolean), 3, 65)
abbrev cX6_both : ByteArray := prog_8_method_54_code
def yX6_both : MethodName := ⟨RX6, "both", "(III)I"⟩
abbrev μX6_both : Mu := (yX6_both, cX6_both, 5, (some .int), 5, 111)
abbrev cX6_cuts : ByteArray := prog_8_method_55_code
def yX6_cuts : MethodName := ⟨RX6, "cuts", "(I)I"⟩
abbrev μX6_cuts : Mu := (yX6_cuts, cX6_cuts, 9, (some .int), 2, 42)
abbrev cX6_swapped : ByteArray := prog_8_method_56_code
def yX6_swapped : MethodName := ⟨RX6, "swapped", "(II)I"⟩
abbrev μX6_swapped : Mu := (yX6_swapped, cX6_swapped, 5, (some .int), 4, 92)
abbrev cX6_ifSwapped : ByteArray := prog_8_method_57_code
def yX6_ifSwapped : MethodName := ⟨RX6, "ifSwapped", "(II)I"⟩
abbrev μX6_ifSwapped : Mu := (yX6_ifSwapped, cX6_ifSwapped, 3, (some .int), 5, 116)
abbrev cX6_bestSwap : ByteArray := prog_8_method_58_code
def yX6_bestSwap : MethodName := ⟨RX6, "bestSwap", "(I)I"⟩
abbrev μX6_bestSwap : Mu := (yX6_bestSwap, cX6_bestSwap, 6, (some .int), 5, 116)
abbrev cX6_undo : ByteArray := prog_8_method_59_code
def yX6_undo : MethodName := ⟨RX6, "undo", "()I"⟩
abbrev μX6_undo : Mu := (yX6_undo, cX6_undo, 2, (some .int), 0, 0)
abbrev cX6_save : ByteArray := prog_8_method_60_code
def yX6_save : MethodName := ⟨RX6, "save", "(I)I"⟩
abbrev μX6_save : Mu := (yX6_save, cX6_save, 3, (some .int), 2, 41)
abbrev cX6_restore : ByteArray := prog_8_method_61_code
def yX6_restore : MethodName := ⟨RX6, "restore", "(I)I"⟩
abbrev μX6_restore : Mu := (yX6_restore, cX6_restore, 3, (some .int), 2, 41)
abbrev cJ6_bitCount_0f7a4 : ByteArray := prog_9_method_49_code
def yJ6_bitCount_0f7a4 : MethodName := ⟨RJ6, "bitCount", "(I)I"⟩
abbrev μJ6_bitCount_0f7a4 : Mu := (yJ6_bitCount_0f7a4, cJ6_bitCount_0f7a4, 1, (some .int), 0, 0)
abbrev cJ9_floorMod_7cf53 : ByteArray := prog_10_method_50_code
def yJ9_floorMod_7cf53 : MethodName := ⟨RJ9, "floorMod", "(II)I"⟩
abbrev μJ9_floorMod_7cf53 : Mu := (yJ9_floorMod_7cf53, cJ9_floorMod_7cf53, 3, (some .int), 0, 0)
abbrev cJ9_max_7cf53 : ByteArray := prog_10_method_65_code
def yJ9_max_7cf53 : MethodName := ⟨RJ9, "max", "(II)I"⟩
abbrev μJ9_max_7cf53 : Mu := (yJ9_max_7cf53, cJ9_max_7cf53, 2, (some .int), 0, 0)
abbrev cJ9_min_7cf53 : ByteArray := prog_10_method_69_code
def yJ9_min_7cf53 : MethodName := ⟨RJ9, "min", "(II)I"⟩
abbrev μJ9_min_7cf53 : Mu := (yJ9_min_7cf53, cJ9_min_7cf53, 2, (some .int), 0, 0)
abbrev cL_law : ByteArray := code
def yL_law : MethodName := ⟨RL, "law", "([I)Z"⟩

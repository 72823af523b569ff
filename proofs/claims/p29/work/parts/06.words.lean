/-! words: lists of crossings; the class's own word, and its leaves -/
def b2i (b : Bool) : Int := bif b then 1 else 0
theorem b2i_or (b : Bool) : b2i b = 0 ∨ b2i b = 1 := by cases b <;> simp [b2i]
theorem b2i_t {p : Prop} {_ : Decidable p} (h : p) : 1 = b2i (decide p) := by simp [b2i, h]
theorem b2i_f {p : Prop} {_ : Decidable p} (h : ¬ p) : 0 = b2i (decide p) := by simp [b2i, h]
theorem b2i_rg (b : Bool) : -2147483648 ≤ b2i b ∧ b2i b < 2147483648 := by cases b <;> simp [b2i]
theorem b2i_0 {b : Bool} : b2i b = 0 ↔ b = false := by cases b <;> simp [b2i]
section BROWS
variable {x : Fx} {g : GE} {cc : ByteArray} {own : String} {nL : Nat} {R : Room} {cs sl : Nat} {L : Lay} {n : Nat} {M : Mem} {pc pc' tgt : Nat} {ls : List (Nat × Value)} {st : List Value}
theorem k_ceq (hx : Cx x g cc own nL R) {b : Bool} (hd : Br cc pc (.ifCond .eq) pc' tgt) (kt : b = false → K x g cs sl L n M tgt ls st) (kf : b = true → K x g cs sl L n M pc' ls st) : K x g cs sl L n M pc ls (vI (b2i b) :: st) :=
  k_ifeq hx hd (b2i_rg b) (fun h => kt (b2i_0.mp h)) (fun h => kf (by cases b; exact absurd rfl h; rfl))
theorem k_cne (hx : Cx x g cc own nL R) {b : Bool} (hd : Br cc pc (.ifCond .ne) pc' tgt) (kt : b = true → K x g cs sl L n M tgt ls st) (kf : b = false → K x g cs sl L n M pc' ls st) : K x g cs sl L n M pc ls (vI (b2i b) :: st) :=
  k_ifne hx hd (b2i_rg b) (fun h => kt (by cases b; exact absurd rfl h; rfl)) (fun h => kf (b2i_0.mp h))
theorem k_beq (hx : Cx x g cc own nL R) {p : Prop} {_ : Decidable p} (hd : Br cc pc (.ifCond .eq) pc' tgt) (kt : ¬ p → K x g cs sl L n M tgt ls st) (kf : p → K x g cs sl L n M pc' ls st) : K x g cs sl L n M pc ls (vI (b2i (decide p)) :: st) :=
  k_ceq hx hd (fun h => kt (of_decide_eq_false h)) (fun h => kf (of_decide_eq_true h))
theorem k_bne (hx : Cx x g cc own nL R) {p : Prop} {_ : Decidable p} (hd : Br cc pc (.ifCond .ne) pc' tgt) (kt : p → K x g cs sl L n M tgt ls st) (kf : ¬ p → K x g cs sl L n M pc' ls st) : K x g cs sl L n M pc ls (vI (b2i (decide p)) :: st) :=
  k_cne hx hd (fun h => kt (of_decide_eq_true h)) (fun h => kf (of_decide_eq_false h))
end BROWS
def op (c : Int) : Int := if c < 6 then c + 6 else c - 6
def pst (c : Int) : Int := if c < 6 then c else c - 6
theorem op_rg {c : Int} (h : 0 ≤ c ∧ c < 12) : 0 ≤ op c ∧ op c < 12 := by unfold op; omega
theorem op_op {c : Int} (h : 0 ≤ c ∧ c < 12) : op (op c) = c := by unfold op; omega
def psh (w : List Int) (c : Int) : List Int := if w.getLast? = some (op c) then w.dropLast else w ++ [c]
def red (w : List Int) : List Int := w.foldl psh []
def trn (w : List Int) : List Int := (w.map op).reverse
abbrev Cr (w : List Int) : Prop := ∀ c ∈ w, 0 ≤ c ∧ c < 12
/-- the word w stands at i -/
def Wd (M : Mem) (i : Nat) (w : List Int) : Prop := M i 1 = w.length ∧ (∀ (k : Nat) (c : Int), w[k]? = some c → M (i + 1) (k : Int) = c) ∧ Cr w
def Off (i : Nat) (M M' : Mem) : Prop := ∀ a, a ≠ i → a ≠ i + 1 → M' a = M a
theorem Off.rf {i : Nat} {M : Mem} : Off i M M := fun _ _ _ => rfl
theorem Off.tr {i : Nat} {M M' M'' : Mem} (h : Off i M M') (k : Off i M' M'') : Off i M M'' := fun a h1 h2 => (k a h1 h2).trans (h a h1 h2)
def at0 (w : List Int) (z : Int) : Int := if 0 ≤ z ∧ z < w.length then w.getD z.toNat 0 else -1
theorem Wd.get {M : Mem} {i : Nat} {w : List Int} (h : Wd M i w) {z : Int} (h0 : 0 ≤ z) (h1 : z < w.length) : M (i + 1) z = w.getD z.toNat 0 := by
  have h2 : z.toNat < w.length := by omega
  have := h.2.1 z.toNat (w.getD z.toNat 0) (by simp [List.getD_eq_getElem?_getD, h2])
  rwa [show ((z.toNat : Nat) : Int) = z by omega] at this
theorem Cr.get {w : List Int} (h : Cr w) {k : Nat} (hk : k < w.length) : 0 ≤ w.getD k 0 ∧ w.getD k 0 < 12 := by
  have : w.getD k 0 = w[k] := by simp [List.getD_eq_getElem?_getD, hk]
  rw [this]
  exact h _ (List.getElem_mem hk)
theorem at0_rg {w : List Int} (h : Cr w) (z : Int) : -1 ≤ at0 w z ∧ at0 w z < 12 := by
  unfold at0
  split
  · have := h.get (k := z.toNat) (by omega)
    omega
  · omega
theorem Wd.off {M M' : Mem} {i j : Nat} {w : List Int} (h : Wd M j w) (ho : Off i M M') (h1 : j ≠ i) (h2 : j ≠ i + 1) (h3 : j + 1 ≠ i) : Wd M' j w := by
  unfold Wd
  rw [ho j h1 h2, ho (j + 1) h3 (by omega)]
  exact h

/-- the JDK's own methods -/
theorem Ct.ofJ {g : GE} {l : Launch} {μ : Mu} {mc ms : Nat} {av : List Value} {L : Lay} {n : Nat} {M : Mem} {post : Option Value → Lay → Nat → Mem → Prop} (hy : plainFor μ.1 = true) (hav : Nat.ble (lg_sl av).length μ.2.2.1 = true)
    (body : ∀ x : Fx, xL x = l → Cx x g μ.2.1 μ.1.cls μ.2.2.1 (mRm μ mc ms) → (xT x).name = μ.1.name → Rx x g mc ms μ.2.2.2.1 post → K x g 0 0 L n M 0 (lv_args 0 av) []) : Ct g l μ mc ms av L n M post := by
  show MetFree l μ.1 (headSpec (mW μ) (mRm μ mc ms)) (Pz g av L n M) (fun _ _ _ _ _ => True) (fun a st o t => Qz g post a st o t ∧ ∃ Lc, FrameEnd st o t Lc mc ms ∧ ∀ q ∈ Lc, g.1 ≤ q.base)
  refine MetFree.of_bodySF (code := μ.2.1) (maxLocals := μ.2.2.1) (ret := μ.2.2.2.1) hy ?_ ?_
  · intro args s m h hn
    obtain ⟨meth, c, h1, h2, h3, h4, h5, h6, -, -⟩ := Cond.code_spec hn (atoms_spec (ws := mW μ) h _ List.mem_cons_self)
    exact ⟨meth, c, h1, h2, h3, h4, h5, h6⟩
  · intro p e s m args below meth c s₁ B hml hv _
    obtain ⟨rfl, hR, hK⟩ := hv
    have hts := atoms_spec (ws := mW μ) B.pre
    have hl := lv_entry av (n := μ.2.2.1) (Nat.le_of_ble_eq_true hav)
    have k := body (p, l, e, mRm μ mc ms, s, m, av.toArray, below, meth, c, MQ below (Qz g post) av.toArray s mc ms (fun q => g.1 ≤ q)) rfl
      ⟨B.exec, B.bytes, hml, findClass_of_methodNamed B.named, fun w h => hts w (List.mem_cons_of_mem _ h), hK, rfl⟩ (name_of_methodNamed B.named B.method).1 ⟨B.notSynchronized, B.returns, rfl⟩
    have hh0 : s₁.heap = s.heap := by rw [B.state]; rfl
    have k2 := k s.heap [] _ hR va_S.rf (by show lv_has _ c.maxLocals _; rw [hml]; exact hl)
    rw [← lg_entry_eq] at k2
    obtain ⟨t, a1, o, b1, b2, b3⟩ := k2 s₁ hh0 (Stand.of_body B)
    exact ⟨t, o, a1, b1, b2, ⟨b3.1, b3.2⟩⟩
theorem Ci.ofJ {g : GE} {l : Launch} {μ : Mu} {av : List Value} {M : Mem} {post : Int → Mem → Prop} (hy : plainFor μ.1 = true) (hav : Nat.ble (lg_sl av).length μ.2.2.1 = true) {ls : List (Nat × Value)} (hls : lv_args 0 av = ls)
    (body : ∀ x : Fx, Cx x g μ.2.1 μ.1.cls μ.2.2.1 (mRm μ 0 0) → Rx x g 0 0 μ.2.2.2.1 (Pi g post) → K x g 0 0 LAY (NN g) M 0 ls []) : Ci g l μ av M post := Ct.ofJ hy hav (fun x _ hx _ hr => hls ▸ body x hx hr)

theorem c_X5_isPost {g : GE} {l : Launch} {M : Mem} {z : Int} (hz : -2147483648 ≤ z ∧ z < 2147483648) : Cp g l μX5_isPost [vI z] M (b2i (decide (0 ≤ z ∧ z < 6))) := by
  refine Ci.of (by decide +kernel) rfl rfl (fun x hx hr => ?_)
  refine k_iload_n hx dX5_isPost_0 0 rfl ?_
  refine k_iflt hx dX5_isPost_1 (by omega) (fun h_1 => ?_) (fun h_1 => ?_)
  · refine k_iconst hx dX5_isPost_14 ?_
    refine k_rz hx hr dX5_isPost_15 (by first | exact Or.inl rfl | exact Or.inr rfl | exact b2i_or _) ?_
    first | exact ⟨b2i_t (by omega), rfl⟩ | exact ⟨b2i_f (by omega), rfl⟩
  · refine k_iload_n hx dX5_isPost_4 0 rfl ?_
    refine k_bipush hx dX5_isPost_5 (by decide +kernel) ?_
    refine k_icmp_ge hx dX5_isPost_7 (by omega) (fun h_7 => ?_) (fun h_7 => ?_)
    · refine k_iconst hx dX5_isPost_14 ?_
      refine k_rz hx hr dX5_isPost_15 (by first | exact Or.inl rfl | exact Or.inr rfl | exact b2i_or _) ?_
      first | exact ⟨b2i_t (by omega), rfl⟩ | exact ⟨b2i_f (by omega), rfl⟩
    · refine k_iconst hx dX5_isPost_10 ?_
      refine k_goto hx dX5_isPost_11 ?_
      refine k_rz hx hr dX5_isPost_15 (by first | exact Or.inl rfl | exact Or.inr rfl | exact b2i_or _) ?_
      first | exact ⟨b2i_t (by omega), rfl⟩ | exact ⟨b2i_f (by omega), rfl⟩
theorem c_X5_isRope {g : GE} {l : Launch} {M : Mem} {z : Int} (hz : -2147483648 ≤ z ∧ z < 2147483648) : Cp g l μX5_isRope [vI z] M (b2i (decide (0 ≤ z ∧ z < 4))) := by
  refine Ci.of (by decide +kernel) rfl rfl (fun x hx hr => ?_)
  refine k_iload_n hx dX5_isRope_0 0 rfl ?_
  refine k_iflt hx dX5_isRope_1 (by omega) (fun h_1 => ?_) (fun h_1 => ?_)
  · refine k_iconst hx dX5_isRope_13 ?_
    refine k_rz hx hr dX5_isRope_14 (by first | exact Or.inl rfl | exact Or.inr rfl | exact b2i_or _) ?_
    first | exact ⟨b2i_t (by omega), rfl⟩ | exact ⟨b2i_f (by omega), rfl⟩
  · refine k_iload_n hx dX5_isRope_4 0 rfl ?_
    refine k_iconst hx dX5_isRope_5 ?_
    refine k_icmp_ge hx dX5_isRope_6 (by omega) (fun h_6 => ?_) (fun h_6 => ?_)
    · refine k_iconst hx dX5_isRope_13 ?_
      refine k_rz hx hr dX5_isRope_14 (by first | exact Or.inl rfl | exact Or.inr rfl | exact b2i_or _) ?_
      first | exact ⟨b2i_t (by omega), rfl⟩ | exact ⟨b2i_f (by omega), rfl⟩
    · refine k_iconst hx dX5_isRope_9 ?_
      refine k_goto hx dX5_isRope_10 ?_
      refine k_rz hx hr dX5_isRope_14 (by first | exact Or.inl rfl | exact Or.inr rfl | exact b2i_or _) ?_
      first | exact ⟨b2i_t (by omega), rfl⟩ | exact ⟨b2i_f (by omega), rfl⟩
theorem c_X5_isSwap {g : GE} {l : Launch} {M : Mem} {z : Int} (hz : -2147483648 ≤ z ∧ z < 2147483648) : Cp g l μX5_isSwap [vI z] M (b2i (decide (0 ≤ z ∧ z < 5))) := by
  refine Ci.of (by decide +kernel) rfl rfl (fun x hx hr => ?_)
  refine k_iload_n hx dX5_isSwap_0 0 rfl ?_
  refine k_iflt hx dX5_isSwap_1 (by omega) (fun h_1 => ?_) (fun h_1 => ?_)
  · refine k_iconst hx dX5_isSwap_13 ?_
    refine k_rz hx hr dX5_isSwap_14 (by first | exact Or.inl rfl | exact Or.inr rfl | exact b2i_or _) ?_
    first | exact ⟨b2i_t (by omega), rfl⟩ | exact ⟨b2i_f (by omega), rfl⟩
  · refine k_iload_n hx dX5_isSwap_4 0 rfl ?_
    refine k_iconst hx dX5_isSwap_5 ?_
    refine k_icmp_ge hx dX5_isSwap_6 (by omega) (fun h_6 => ?_) (fun h_6 => ?_)
    · refine k_iconst hx dX5_isSwap_13 ?_
      refine k_rz hx hr dX5_isSwap_14 (by first | exact Or.inl rfl | exact Or.inr rfl | exact b2i_or _) ?_
      first | exact ⟨b2i_t (by omega), rfl⟩ | exact ⟨b2i_f (by omega), rfl⟩
    · refine k_iconst hx dX5_isSwap_9 ?_
      refine k_goto hx dX5_isSwap_10 ?_
      refine k_rz hx hr dX5_isSwap_14 (by first | exact Or.inl rfl | exact Or.inr rfl | exact b2i_or _) ?_
      first | exact ⟨b2i_t (by omega), rfl⟩ | exact ⟨b2i_f (by omega), rfl⟩
theorem c_X5_isBack {g : GE} {l : Launch} {M : Mem} {z : Int} (hz : -2147483648 ≤ z ∧ z < 2147483648) : Cp g l μX5_isBack [vI z] M (b2i (decide (0 ≤ z ∧ z < 2))) := by
  refine Ci.of (by decide +kernel) rfl rfl (fun x hx hr => ?_)
  refine k_iload_n hx dX5_isBack_0 0 rfl ?_
  refine k_ifeq hx dX5_isBack_1 (by omega) (fun h_1 => ?_) (fun h_1 => ?_)
  · refine k_iconst hx dX5_isBack_9 ?_
    refine k_goto hx dX5_isBack_10 ?_
    refine k_rz hx hr dX5_isBack_14 (by first | exact Or.inl rfl | exact Or.inr rfl | exact b2i_or _) ?_
    first | exact ⟨b2i_t (by omega), rfl⟩ | exact ⟨b2i_f (by omega), rfl⟩
  · refine k_iload_n hx dX5_isBack_4 0 rfl ?_
    refine k_iconst hx dX5_isBack_5 ?_
    refine k_icmp_ne hx dX5_isBack_6 (by omega) (fun h_6 => ?_) (fun h_6 => ?_)
    · refine k_iconst hx dX5_isBack_13 ?_
      refine k_rz hx hr dX5_isBack_14 (by first | exact Or.inl rfl | exact Or.inr rfl | exact b2i_or _) ?_
      first | exact ⟨b2i_t (by omega), rfl⟩ | exact ⟨b2i_f (by omega), rfl⟩
    · refine k_iconst hx dX5_isBack_9 ?_
      refine k_goto hx dX5_isBack_10 ?_
      refine k_rz hx hr dX5_isBack_14 (by first | exact Or.inl rfl | exact Or.inr rfl | exact b2i_or _) ?_
      first | exact ⟨b2i_t (by omega), rfl⟩ | exact ⟨b2i_f (by omega), rfl⟩
theorem c_X5_postOf {g : GE} {l : Launch} {M : Mem} {z : Int} (hz : -2147483648 ≤ z ∧ z < 2147483648) : Cp g l μX5_postOf [vI z] M (pst z) := by
  refine Ci.of (by decide +kernel) rfl rfl (fun x hx hr => ?_)
  refine k_iload_n hx dX5_postOf_0 0 rfl ?_
  refine k_bipush hx dX5_postOf_1 (by decide +kernel) ?_
  refine k_icmp_ge hx dX5_postOf_3 (by omega) (fun h_3 => ?_) (fun h_3 => ?_)
  · refine k_iload_n hx dX5_postOf_10 0 rfl ?_
    refine k_bipush hx dX5_postOf_11 (by decide +kernel) ?_
    refine k_isub hx dX5_postOf_13 ?_
    refine k_ri hx hr dX5_postOf_14 ?_
    exact ⟨by unfold pst; omega, rfl⟩
  · refine k_iload_n hx dX5_postOf_6 0 rfl ?_
    refine k_goto hx dX5_postOf_7 ?_
    refine k_ri hx hr dX5_postOf_14 ?_
    exact ⟨by unfold pst; omega, rfl⟩
theorem c_X5_opposite {g : GE} {l : Launch} {M : Mem} {z : Int} (hz : -2147483648 ≤ z ∧ z < 2147483648) : Cp g l μX5_opposite [vI z] M (op z) := by
  refine Ci.of (by decide +kernel) rfl rfl (fun x hx hr => ?_)
  refine k_iload_n hx dX5_opposite_0 0 rfl ?_
  refine k_bipush hx dX5_opposite_1 (by decide +kernel) ?_
  refine k_icmp_ge hx dX5_opposite_3 (by omega) (fun h_3 => ?_) (fun h_3 => ?_)
  · refine k_iload_n hx dX5_opposite_13 0 rfl ?_
    refine k_bipush hx dX5_opposite_14 (by decide +kernel) ?_
    refine k_isub hx dX5_opposite_16 ?_
    refine k_ri hx hr dX5_opposite_17 ?_
    exact ⟨by unfold op; omega, rfl⟩
  · refine k_iload_n hx dX5_opposite_6 0 rfl ?_
    refine k_bipush hx dX5_opposite_7 (by decide +kernel) ?_
    refine k_iadd hx dX5_opposite_9 ?_
    refine k_goto hx dX5_opposite_10 ?_
    refine k_ri hx hr dX5_opposite_17 ?_
    exact ⟨by unfold op; omega, rfl⟩
theorem c_X5_oneIf {g : GE} {l : Launch} {M : Mem} {b : Bool} : Cp g l μX5_oneIf [vI (b2i b)] M (b2i b) := by
  refine Ci.of (by decide +kernel) rfl rfl (fun x hx hr => ?_)
  refine k_iload_n hx dX5_oneIf_0 0 rfl ?_
  refine k_ceq hx dX5_oneIf_1 (fun h_1 => ?_) (fun h_1 => ?_)
  · refine k_iconst hx dX5_oneIf_8 ?_
    refine k_ri hx hr dX5_oneIf_9 ?_
    first | exact ⟨by rw [h_1]; rfl, rfl⟩
  · refine k_iconst hx dX5_oneIf_4 ?_
    refine k_goto hx dX5_oneIf_5 ?_
    refine k_ri hx hr dX5_oneIf_9 ?_
    first | exact ⟨by rw [h_1]; rfl, rfl⟩
theorem c_max {g : GE} {l : Launch} {M : Mem} {a b : Int} (h : (-2147483648 ≤ a ∧ a < 2147483648) ∧ (-2147483648 ≤ b ∧ b < 2147483648)) : Cp g l μJ9_max_7cf53 [vI a, vI b] M (max a b) := by
  refine Ci.ofJ (by decide +kernel) rfl rfl (fun x hx hr => ?_)
  refine k_iload_n hx dJ9_max_7cf53_0 0 rfl ?_
  refine k_iload_n hx dJ9_max_7cf53_1 1 rfl ?_
  refine k_icmp_lt hx dJ9_max_7cf53_2 (by omega) (fun h_2 => ?_) (fun h_2 => ?_)
  · refine k_iload_n hx dJ9_max_7cf53_9 1 rfl ?_
    refine k_ri hx hr dJ9_max_7cf53_10 ?_
    exact ⟨by omega, rfl⟩
  · refine k_iload_n hx dJ9_max_7cf53_5 0 rfl ?_
    refine k_goto hx dJ9_max_7cf53_6 ?_
    refine k_ri hx hr dJ9_max_7cf53_10 ?_
    exact ⟨by omega, rfl⟩
theorem c_min {g : GE} {l : Launch} {M : Mem} {a b : Int} (h : (-2147483648 ≤ a ∧ a < 2147483648) ∧ (-2147483648 ≤ b ∧ b < 2147483648)) : Cp g l μJ9_min_7cf53 [vI a, vI b] M (min a b) := by
  refine Ci.ofJ (by decide +kernel) rfl rfl (fun x hx hr => ?_)
  refine k_iload_n hx dJ9_min_7cf53_0 0 rfl ?_
  refine k_iload_n hx dJ9_min_7cf53_1 1 rfl ?_
  refine k_icmp_gt hx dJ9_min_7cf53_2 (by omega) (fun h_2 => ?_) (fun h_2 => ?_)
  · refine k_iload_n hx dJ9_min_7cf53_9 1 rfl ?_
    refine k_ri hx hr dJ9_min_7cf53_10 ?_
    exact ⟨by omega, rfl⟩
  · refine k_iload_n hx dJ9_min_7cf53_5 0 rfl ?_
    refine k_goto hx dJ9_min_7cf53_6 ?_
    refine k_ri hx hr dJ9_min_7cf53_10 ?_
    exact ⟨by omega, rfl⟩

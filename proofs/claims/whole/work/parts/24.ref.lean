/-! the reference: flat rows of numbers -/
def Ar (M : Mem) (a : Nat) (o : Int) (w : List Int) : Prop := ∀ z : Int, 0 ≤ z → z < w.length → M a (o + z) = at0 w z
/-- a state, laid flat from o on -/
def Fl (M : Mem) (a : Nat) (o : Int) (A : Ab) : Prop := OkA A ∧ (∀ p : Int, 0 ≤ p → p < 6 → M a (o + p) = A.1.getD p.toNat 0) ∧ (∀ r : Int, 0 ≤ r → r < 4 → M a (o + 6 + r) = (rope A r).length) ∧ (∀ r : Int, 0 ≤ r → r < 4 → Ar M a (o + 10 + 120 * r) (rope A r))
theorem Fl.eq {M M' : Mem} {a : Nat} {o : Int} {A : Ab} (h : Fl M a o A) (e : M' a = M a) : Fl M' a o A := by
  unfold Fl Ar; rw [e]; exact h
theorem OkA.rope {A : Ab} (h : OkA A) {r : Int} (hr : 0 ≤ r ∧ r < 4) : Cr (rope A r) ∧ (rope A r).length ≤ 120 := h.2.2.2 r.toNat (by omega)
theorem Fl.many {M : Mem} {A : Ab} (h : Fl M 121 0 A) {r : Int} (hr : 0 ≤ r ∧ r < 4) : M 121 (6 + r) = (rope A r).length := by
  have := h.2.2.1 r hr.1 hr.2
  rwa [show 0 + 6 + r = 6 + r by omega] at this
theorem Fl.at {M : Mem} {A : Ab} (h : Fl M 121 0 A) {r k : Int} (hr : 0 ≤ r ∧ r < 4) (hk : 0 ≤ k ∧ k < (rope A r).length) : M 121 (10 + 120 * r + k) = at0 (rope A r) k := by
  have := h.2.2.2 r hr.1 hr.2 k hk.1 hk.2
  rwa [show 0 + 10 + 120 * r + k = 10 + 120 * r + k by omega] at this
/-- what is worked at -/
def Wk (M : Mem) (w : List Int) : Prop := M 120 8 = w.length ∧ Ar M 126 0 w ∧ Cr w
def OW (M M' : Mem) : Prop := (∀ a, a ≠ 120 → a ≠ 126 → M' a = M a) ∧ ∀ k, k ≠ 8 → M' 120 k = M 120 k
theorem OW.rf {M : Mem} : OW M M := ⟨fun _ _ _ => rfl, fun _ _ => rfl⟩
theorem OW.tr {M M' M'' : Mem} (h : OW M M') (k : OW M' M'') : OW M M'' := ⟨fun a h1 h2 => (k.1 a h1 h2).trans (h.1 a h1 h2), fun j hj => (k.2 j hj).trans (h.2 j hj)⟩
theorem Wk.nil {M : Mem} : Wk (up M 120 8 0) [] := ⟨up_s, fun z h0 h1 => by simp at h1; omega, fun c h => by cases h⟩
theorem OW.len {M : Mem} {z : Int} : OW M (up M 120 8 z) := ⟨fun a h1 _ => up_i h1, fun k hk => up_k hk⟩
theorem Wk.at {M : Mem} {w : List Int} (h : Wk M w) {z : Int} (h0 : 0 ≤ z) (h1 : z < w.length) : M 126 z = at0 w z := by
  have := h.2.1 z h0 h1
  rwa [show (0 : Int) + z = z by omega] at this
theorem at0_takeZ {w : List Int} {m : Nat} {z : Int} (h0 : 0 ≤ z) (h : z < m) (hk : z < w.length) : at0 (w.take m) z = at0 w z := by
  rw [show z = ((z.toNat : Nat) : Int) by omega]; exact at0_take (by omega) (by omega)
theorem at0_appZ {a b : List Int} {z : Int} (h0 : 0 ≤ z) (h : z < a.length) : at0 (a ++ b) z = at0 a z := by
  rw [show z = ((z.toNat : Nat) : Int) by omega]; exact at0_app (by omega)
theorem at0_last {a : List Int} {c : Int} : at0 (a ++ [c]) a.length = c := by
  rw [at0_n (by simp)]; simp
theorem Wk.add {M : Mem} {w : List Int} {c : Int} (h : Wk M w) (hc : 0 ≤ c ∧ c < 12) : Wk (up (up M 126 w.length c) 120 8 (w.length + 1)) (w ++ [c]) := by
  refine ⟨by rw [up_s, List.length_append]; simp, fun z h0 h1 => ?_, h.2.2.app (Cr.one hc)⟩
  rw [List.length_append, List.length_singleton] at h1
  rw [up_i (by decide), show (0 : Int) + z = z by omega]
  by_cases hz : z = w.length
  · subst hz; rw [up_s, at0_last]
  · rw [up_k hz, at0_appZ h0 (by omega)]; exact h.at h0 (by omega)
theorem Wk.cut {M : Mem} {w : List Int} {m : Nat} (h : Wk M w) (hm : m ≤ w.length) : Wk (up M 120 8 m) (w.take m) := by
  have hl : (w.take m).length = m := by rw [List.length_take]; omega
  refine ⟨by rw [up_s, hl], fun z h0 h1 => ?_, h.2.2.take m⟩
  rw [hl] at h1
  rw [up_i (by decide), at0_takeZ h0 h1 (by omega)]
  exact h.2.1 z h0 (by omega)

theorem c_X6_in {g : GE} {l : Launch} {M : Mem} {v a b : Int} (h : (-2147483648 ≤ v ∧ v < 2147483648) ∧ (-2147483648 ≤ a ∧ a < 2147483648) ∧ (-2147483648 ≤ b ∧ b < 2147483648)) : Cp g l μX6_in [vI v, vI a, vI b] M (b2i (decide (a ≤ v ∧ v ≤ b))) := by
  refine Ci.of (by decide +kernel) rfl rfl (fun x hx hr => ?_)
  refine k_iload_n hx dX6_in_0 0 rfl ?_
  refine k_iload_n hx dX6_in_1 1 rfl ?_
  refine k_icmp_lt hx dX6_in_2 (by omega) (fun h_2 => ?_) (fun h_2 => ?_)
  · refine k_iconst hx dX6_in_14 ?_
    refine k_rz hx hr dX6_in_15 (by first | exact Or.inl rfl | exact Or.inr rfl | exact b2i_or _) ?_
    first | exact ⟨b2i_t (by omega), rfl⟩ | exact ⟨b2i_f (by omega), rfl⟩
  · refine k_iload_n hx dX6_in_5 0 rfl ?_
    refine k_iload_n hx dX6_in_6 2 rfl ?_
    refine k_icmp_gt hx dX6_in_7 (by omega) (fun h_7 => ?_) (fun h_7 => ?_)
    · refine k_iconst hx dX6_in_14 ?_
      refine k_rz hx hr dX6_in_15 (by first | exact Or.inl rfl | exact Or.inr rfl | exact b2i_or _) ?_
      first | exact ⟨b2i_t (by omega), rfl⟩ | exact ⟨b2i_f (by omega), rfl⟩
    · refine k_iconst hx dX6_in_10 ?_
      refine k_goto hx dX6_in_11 ?_
      refine k_rz hx hr dX6_in_15 (by first | exact Or.inl rfl | exact Or.inr rfl | exact b2i_or _) ?_
      first | exact ⟨b2i_t (by omega), rfl⟩ | exact ⟨b2i_f (by omega), rfl⟩
theorem c_X6_cancel {g : GE} {l : Launch} {M : Mem} {a b : Int} (h : (0 ≤ a ∧ a < 12) ∧ (0 ≤ b ∧ b < 12)) : Cp g l μX6_cancel [vI a, vI b] M (b2i (decide (a = op b))) := by
  refine Ci.of (by decide +kernel) rfl rfl (fun x hx hr => ?_)
  refine k_iload_n hx dX6_cancel_0 0 rfl ?_
  refine k_bipush hx dX6_cancel_1 (by decide +kernel) ?_
  refine k_irem hx dX6_cancel_3 (by omega) ?_
  refine k_iload_n hx dX6_cancel_4 1 rfl ?_
  refine k_bipush hx dX6_cancel_5 (by decide +kernel) ?_
  refine k_irem hx dX6_cancel_7 (by omega) ?_
  refine k_icmp_ne hx dX6_cancel_8 (by omega) (fun h_8 => ?_) (fun h_8 => ?_)
  · refine k_iconst hx dX6_cancel_20 ?_
    refine k_rz hx hr dX6_cancel_21 (by first | exact Or.inl rfl | exact Or.inr rfl | exact b2i_or _) ?_
    first | exact ⟨b2i_t (by unfold op; omega), rfl⟩ | exact ⟨b2i_f (by unfold op; omega), rfl⟩
  · refine k_iload_n hx dX6_cancel_11 0 rfl ?_
    refine k_iload_n hx dX6_cancel_12 1 rfl ?_
    refine k_icmp_eq hx dX6_cancel_13 (by omega) (fun h_13 => ?_) (fun h_13 => ?_)
    · refine k_iconst hx dX6_cancel_20 ?_
      refine k_rz hx hr dX6_cancel_21 (by first | exact Or.inl rfl | exact Or.inr rfl | exact b2i_or _) ?_
      first | exact ⟨b2i_t (by unfold op; omega), rfl⟩ | exact ⟨b2i_f (by unfold op; omega), rfl⟩
    · refine k_iconst hx dX6_cancel_16 ?_
      refine k_goto hx dX6_cancel_17 ?_
      refine k_rz hx hr dX6_cancel_21 (by first | exact Or.inl rfl | exact Or.inr rfl | exact b2i_or _) ?_
      first | exact ⟨b2i_t (by unfold op; omega), rfl⟩ | exact ⟨b2i_f (by unfold op; omega), rfl⟩
theorem c_X6_otherSide {g : GE} {l : Launch} {M : Mem} {a : Int} (h : 0 ≤ a ∧ a < 12) : Cp g l μX6_otherSide [vI a] M (op a) := by
  refine Ci.of (by decide +kernel) rfl rfl (fun x hx hr => ?_)
  refine k_iload_n hx dX6_otherSide_0 0 rfl ?_
  refine k_bipush hx dX6_otherSide_1 (by decide +kernel) ?_
  refine k_iadd hx dX6_otherSide_3 ?_
  refine k_bipush hx dX6_otherSide_4 (by decide +kernel) ?_
  refine k_irem hx dX6_otherSide_6 (by omega) ?_
  refine k_ri hx hr dX6_otherSide_7 ?_
  exact ⟨by unfold op; omega, rfl⟩
theorem c_X6_isRope {g : GE} {l : Launch} {M : Mem} {z : Int} (h : -2147483648 ≤ z ∧ z < 2147483648) : Cp g l μX6_isRope [vI z] M (b2i (decide (0 ≤ z ∧ z ≤ 3))) := by
  refine Ci.of (by decide +kernel) rfl rfl (fun x hx hr => ?_)
  refine k_iload_n hx dX6_isRope_0 0 rfl ?_
  refine k_iconst hx dX6_isRope_1 ?_
  refine k_iconst hx dX6_isRope_2 ?_
  refine k_sp (rest := []) (e := (b2i (decide (0 ≤ z ∧ z ≤ 3)))) hx sX6_61 dX6_isRope_3 (c_X6_in (v := z) (a := 0) (b := 3) (by omega)) rfl rfl rfl ⟨rfl, rfl⟩ ⟨by decide, by decide⟩ ?_
  refine k_rz hx hr dX6_isRope_6 (by first | exact Or.inl rfl | exact Or.inr rfl | exact b2i_or _) ?_
  exact ⟨rfl, rfl⟩
theorem c_X6_many {g : GE} {l : Launch} {M : Mem} {A : Ab} (hA : Fl M 121 0 A) {r : Int} (hr : 0 ≤ r ∧ r < 4) : Cp g l μX6_many [vR g 120, vI r] M (rope A r).length := by
  refine Ci.of (by decide +kernel) rfl rfl (fun x hx hr2 => ?_)
  refine k_aload_n hx dX6_many_0 0 rfl ?_
  refine k_get (v := vR g 121) hx fX6_7 dX6_many_1 n_120 L_120 rfl ?_
  refine k_bipush hx dX6_many_4 (by decide +kernel) ?_
  refine k_iload_n hx dX6_many_6 1 rfl ?_
  refine k_iadd hx dX6_many_7 ?_
  refine k_iald (v := ((rope A r).length)) hx dX6_many_8 n_121 L_121 (by omega) (by decide) (hA.many hr) ?_
  refine k_ri hx hr2 dX6_many_9 ?_
  exact ⟨rfl, rfl⟩
theorem c_X6_at {g : GE} {l : Launch} {M : Mem} {A : Ab} (hA : Fl M 121 0 A) {r : Int} (hr : 0 ≤ r ∧ r < 4) {k : Int} (hk : 0 ≤ k ∧ k < (rope A r).length) : Cp g l μX6_at [vR g 120, vI r, vI k] M (at0 (rope A r) k) := by
  refine Ci.of (by decide +kernel) rfl rfl (fun x hx hr2 => ?_)
  have hl := (hA.1.rope hr).2
  refine k_aload_n hx dX6_at_0 0 rfl ?_
  refine k_get (v := vR g 121) hx fX6_7 dX6_at_1 n_120 L_120 rfl ?_
  refine k_bipush hx dX6_at_4 (by decide +kernel) ?_
  refine k_bipush hx dX6_at_6 (by decide +kernel) ?_
  refine k_iload_n hx dX6_at_8 1 rfl ?_
  refine k_imul hx dX6_at_9 ?_
  refine k_iadd hx dX6_at_10 ?_
  refine k_iload_n hx dX6_at_11 2 rfl ?_
  refine k_iadd hx dX6_at_12 ?_
  refine k_iald (v := (at0 (rope A r) k)) hx dX6_at_13 n_121 L_121 (by omega) (by decide) (hA.at hr hk) ?_
  refine k_ri hx hr2 dX6_at_14 ?_
  exact ⟨rfl, rfl⟩
theorem c_X6_push {g : GE} {l : Launch} {M : Mem} {w : List Int} (hw : Wk M w) (hl : w.length < 1000) {c : Int} (hc : 0 ≤ c ∧ c < 12) : Cv g l μX6_push [vR g 120, vI c] M (fun M' => Wk M' (psh w c) ∧ OW M M') := by
  refine Cv.of (by decide +kernel) rfl rfl (fun x hx hr => ?_)
  refine k_aload_n hx dX6_push_0 0 rfl ?_
  refine k_get (v := vI w.length) hx fX6_54 dX6_push_1 n_120 L_120 (congrArg vI (show M 120 8 = w.length from hw.1)) ?_
  refine k_ifle hx dX6_push_4 (by omega) (fun h_4 => ?_) (fun h_4 => ?_)
  · refine k_aload_n hx dX6_push_38 0 rfl ?_
    refine k_get (v := vR g 126) hx fX6_26 dX6_push_39 n_120 L_120 rfl ?_
    refine k_aload_n hx dX6_push_42 0 rfl ?_
    refine k_get (v := vI w.length) hx fX6_54 dX6_push_43 n_120 L_120 (congrArg vI (show M 120 8 = w.length from hw.1)) ?_
    refine k_iload_n hx dX6_push_46 1 rfl ?_
    refine k_iastN hx dX6_push_47 n_126 L_126 (by omega) (by decide) (fun M_47 hM_47 => ?_)
    refine k_aload_n hx dX6_push_48 0 rfl ?_
    refine k_dup hx dX6_push_49 rfl ?_
    refine k_get (v := vI w.length) hx fX6_54 dX6_push_50 n_120 L_120 (congrArg vI (show M_47 120 8 = w.length from by rw [hM_47, up_i (by decide)]; exact hw.1)) ?_
    refine k_iconst hx dX6_push_53 ?_
    refine k_iadd hx dX6_push_54 ?_
    refine k_putI (kz := 8) hx fX6_54 dX6_push_55 n_120 L_120 rfl rfl (fun M_55 hM_55 => ?_)
    refine k_rv hx hr dX6_push_58 ?_
    subst hM_55; subst hM_47
    rw [psh_add (fun h => by first | exact h_22 | (exact absurd h (by omega)))]
    exact ⟨hw.add hc, fun a h1 h2 => by rw [up_i h1, up_i h2], fun k hk => by rw [up_k hk, up_i (by decide)]⟩
  · refine k_aload_n hx dX6_push_7 0 rfl ?_
    refine k_get (v := vR g 126) hx fX6_26 dX6_push_8 n_120 L_120 rfl ?_
    refine k_aload_n hx dX6_push_11 0 rfl ?_
    refine k_get (v := vI w.length) hx fX6_54 dX6_push_12 n_120 L_120 (congrArg vI (show M 120 8 = w.length from hw.1)) ?_
    have hcr := at0_in hw.2.2 (z := (w.length : Int) - 1) (by omega) (by omega)
    refine k_iconst hx dX6_push_15 ?_
    refine k_isub hx dX6_push_16 ?_
    refine k_iald (v := (at0 w (w.length - 1))) hx dX6_push_17 n_126 L_126 (by omega) (by decide) (hw.at (by omega) (by omega)) ?_
    refine k_iload_n hx dX6_push_18 1 rfl ?_
    refine k_sp (rest := []) (e := (b2i (decide ((at0 w (w.length - 1)) = op c)))) hx sX6_57 dX6_push_19 (c_X6_cancel (a := (at0 w (w.length - 1))) (b := c) (by omega)) rfl rfl rfl ⟨rfl, rfl⟩ ⟨by decide, by decide⟩ ?_
    refine k_beq hx dX6_push_22 (fun h_22 => ?_) (fun h_22 => ?_)
    · refine k_aload_n hx dX6_push_38 0 rfl ?_
      refine k_get (v := vR g 126) hx fX6_26 dX6_push_39 n_120 L_120 rfl ?_
      refine k_aload_n hx dX6_push_42 0 rfl ?_
      refine k_get (v := vI w.length) hx fX6_54 dX6_push_43 n_120 L_120 (congrArg vI (show M 120 8 = w.length from hw.1)) ?_
      refine k_iload_n hx dX6_push_46 1 rfl ?_
      refine k_iastN hx dX6_push_47 n_126 L_126 (by omega) (by decide) (fun M_47 hM_47 => ?_)
      refine k_aload_n hx dX6_push_48 0 rfl ?_
      refine k_dup hx dX6_push_49 rfl ?_
      refine k_get (v := vI w.length) hx fX6_54 dX6_push_50 n_120 L_120 (congrArg vI (show M_47 120 8 = w.length from by rw [hM_47, up_i (by decide)]; exact hw.1)) ?_
      refine k_iconst hx dX6_push_53 ?_
      refine k_iadd hx dX6_push_54 ?_
      refine k_putI (kz := 8) hx fX6_54 dX6_push_55 n_120 L_120 rfl rfl (fun M_55 hM_55 => ?_)
      refine k_rv hx hr dX6_push_58 ?_
      subst hM_55; subst hM_47
      rw [psh_add (fun h => by first | exact h_22 | (exact absurd h (by omega)))]
      exact ⟨hw.add hc, fun a h1 h2 => by rw [up_i h1, up_i h2], fun k hk => by rw [up_k hk, up_i (by decide)]⟩
    · refine k_aload_n hx dX6_push_25 0 rfl ?_
      refine k_dup hx dX6_push_26 rfl ?_
      refine k_get (v := vI w.length) hx fX6_54 dX6_push_27 n_120 L_120 (congrArg vI (show M 120 8 = w.length from hw.1)) ?_
      refine k_iconst hx dX6_push_30 ?_
      refine k_isub hx dX6_push_31 ?_
      refine k_putI (kz := 8) hx fX6_54 dX6_push_32 n_120 L_120 rfl rfl (fun M_32 hM_32 => ?_)
      refine k_goto hx dX6_push_35 ?_
      refine k_rv hx hr dX6_push_58 ?_
      subst hM_32
      rw [psh_pop (by omega) h_22, show (w.length : Int) - 1 = ((w.length - 1 : Nat) : Int) by omega]
      exact ⟨hw.cut (by omega), OW.len⟩

/-! the pad: what is open, the fault -/
def crs (c : Int) : Int := if 97 ≤ c ∧ c ≤ 102 then c - 97 else if 65 ≤ c ∧ c ≤ 70 then c - 65 + 6 else -1
/-- what is open, the innermost first: sign, start, middle -/
def OpR (M : Mem) (os : List (Int × Int × Int)) : Prop := M 104 5 = os.length ∧ os.length ≤ 4 ∧ ∀ (j : Nat) (e : Int × Int × Int), os[j]? = some e → M 106 (os.length - 1 - j : Nat) = e.1 ∧ M 107 (os.length - 1 - j : Nat) = e.2.1 ∧ M 108 (os.length - 1 - j : Nat) = e.2.2
def OffP (M M' : Mem) : Prop := (∀ a, a ≠ 104 → a ≠ 106 → a ≠ 107 → a ≠ 108 → M' a = M a) ∧ ∀ k, k ≠ 5 → M' 104 k = M 104 k
theorem OffP.rf {M : Mem} : OffP M M := ⟨fun _ _ _ _ _ => rfl, fun _ _ => rfl⟩
theorem OffP.tr {M M' M'' : Mem} (h : OffP M M') (k : OffP M' M'') : OffP M M'' := ⟨fun a h1 h2 h3 h4 => (k.1 a h1 h2 h3 h4).trans (h.1 a h1 h2 h3 h4), fun j hj => (k.2 j hj).trans (h.2 j hj)⟩
theorem OpR.pop {M : Mem} {e : Int × Int × Int} {t : List (Int × Int × Int)} (h : OpR M (e :: t)) {z : Int} (hz : z = t.length) : OpR (up M 104 5 z) t := by
  obtain ⟨h1, h2, h3⟩ := h
  rw [List.length_cons] at h2
  refine ⟨by rw [up_s, hz], by omega, fun j d hj => ?_⟩
  have := h3 (j + 1) d (by rw [List.getElem?_cons_succ]; exact hj)
  have hj2 := (List.getElem?_eq_some_iff.mp hj).1
  rw [List.length_cons, show t.length + 1 - 1 - (j + 1) = t.length - 1 - j by omega] at this
  rw [up_i (by omega), up_i (by omega), up_i (by omega)]
  exact this

theorem c_X0_crossingOf {g : GE} {l : Launch} {M : Mem} {c : Int} (hc : 0 ≤ c ∧ c < 256) : Cp g l μX0_crossingOf [vI c] M (crs c) := by
  refine Ci.of (by decide +kernel) rfl rfl (fun x hx hr => ?_)
  refine k_iload_n hx dX0_crossingOf_0 0 rfl ?_
  refine k_bipush hx dX0_crossingOf_1 (by decide +kernel) ?_
  refine k_icmp_lt hx dX0_crossingOf_3 (by omega) (fun h_3 => ?_) (fun h_3 => ?_)
  · refine k_iload_n hx dX0_crossingOf_17 0 rfl ?_
    refine k_bipush hx dX0_crossingOf_18 (by decide +kernel) ?_
    refine k_icmp_lt hx dX0_crossingOf_20 (by omega) (fun h_20 => ?_) (fun h_20 => ?_)
    · refine k_iconst hx dX0_crossingOf_37 ?_
      refine k_ri hx hr dX0_crossingOf_38 ?_
      exact ⟨by unfold crs; first | (rw [if_pos (by omega)]; done) | (rw [if_neg (by omega), if_pos (by omega)]; done) | (rw [if_neg (by omega), if_neg (by omega)]; done), rfl⟩
    · refine k_iload_n hx dX0_crossingOf_23 0 rfl ?_
      refine k_bipush hx dX0_crossingOf_24 (by decide +kernel) ?_
      refine k_icmp_gt hx dX0_crossingOf_26 (by omega) (fun h_26 => ?_) (fun h_26 => ?_)
      · refine k_iconst hx dX0_crossingOf_37 ?_
        refine k_ri hx hr dX0_crossingOf_38 ?_
        exact ⟨by unfold crs; first | (rw [if_pos (by omega)]; done) | (rw [if_neg (by omega), if_pos (by omega)]; done) | (rw [if_neg (by omega), if_neg (by omega)]; done), rfl⟩
      · refine k_iload_n hx dX0_crossingOf_29 0 rfl ?_
        refine k_bipush hx dX0_crossingOf_30 (by decide +kernel) ?_
        refine k_isub hx dX0_crossingOf_32 ?_
        refine k_bipush hx dX0_crossingOf_33 (by decide +kernel) ?_
        refine k_iadd hx dX0_crossingOf_35 ?_
        refine k_ri hx hr dX0_crossingOf_36 ?_
        exact ⟨by unfold crs; first | (rw [if_pos (by omega)]; done) | (rw [if_neg (by omega), if_pos (by omega)]; done) | (rw [if_neg (by omega), if_neg (by omega)]; done), rfl⟩
  · refine k_iload_n hx dX0_crossingOf_6 0 rfl ?_
    refine k_bipush hx dX0_crossingOf_7 (by decide +kernel) ?_
    refine k_icmp_gt hx dX0_crossingOf_9 (by omega) (fun h_9 => ?_) (fun h_9 => ?_)
    · refine k_iload_n hx dX0_crossingOf_17 0 rfl ?_
      refine k_bipush hx dX0_crossingOf_18 (by decide +kernel) ?_
      refine k_icmp_lt hx dX0_crossingOf_20 (by omega) (fun h_20 => ?_) (fun h_20 => ?_)
      · refine k_iconst hx dX0_crossingOf_37 ?_
        refine k_ri hx hr dX0_crossingOf_38 ?_
        exact ⟨by unfold crs; first | (rw [if_pos (by omega)]; done) | (rw [if_neg (by omega), if_pos (by omega)]; done) | (rw [if_neg (by omega), if_neg (by omega)]; done), rfl⟩
      · refine k_iload_n hx dX0_crossingOf_23 0 rfl ?_
        refine k_bipush hx dX0_crossingOf_24 (by decide +kernel) ?_
        refine k_icmp_gt hx dX0_crossingOf_26 (by omega) (fun h_26 => ?_) (fun h_26 => ?_)
        · refine k_iconst hx dX0_crossingOf_37 ?_
          refine k_ri hx hr dX0_crossingOf_38 ?_
          exact ⟨by unfold crs; first | (rw [if_pos (by omega)]; done) | (rw [if_neg (by omega), if_pos (by omega)]; done) | (rw [if_neg (by omega), if_neg (by omega)]; done), rfl⟩
        · refine k_iload_n hx dX0_crossingOf_29 0 rfl ?_
          refine k_bipush hx dX0_crossingOf_30 (by decide +kernel) ?_
          refine k_isub hx dX0_crossingOf_32 ?_
          refine k_bipush hx dX0_crossingOf_33 (by decide +kernel) ?_
          refine k_iadd hx dX0_crossingOf_35 ?_
          refine k_ri hx hr dX0_crossingOf_36 ?_
          exact ⟨by unfold crs; first | (rw [if_pos (by omega)]; done) | (rw [if_neg (by omega), if_pos (by omega)]; done) | (rw [if_neg (by omega), if_neg (by omega)]; done), rfl⟩
    · refine k_iload_n hx dX0_crossingOf_12 0 rfl ?_
      refine k_bipush hx dX0_crossingOf_13 (by decide +kernel) ?_
      refine k_isub hx dX0_crossingOf_15 ?_
      refine k_ri hx hr dX0_crossingOf_16 ?_
      exact ⟨by unfold crs; first | (rw [if_pos (by omega)]; done) | (rw [if_neg (by omega), if_pos (by omega)]; done) | (rw [if_neg (by omega), if_neg (by omega)]; done), rfl⟩
theorem c_X0_isTimes {g : GE} {l : Launch} {M : Mem} {c : Int} (hc : 0 ≤ c ∧ c < 256) : Cp g l μX0_isTimes [vI c] M (b2i (decide (50 ≤ c ∧ c ≤ 57))) := by
  refine Ci.of (by decide +kernel) rfl rfl (fun x hx hr => ?_)
  refine k_iload_n hx dX0_isTimes_0 0 rfl ?_
  refine k_bipush hx dX0_isTimes_1 (by decide +kernel) ?_
  refine k_icmp_lt hx dX0_isTimes_3 (by omega) (fun h_3 => ?_) (fun h_3 => ?_)
  · refine k_iconst hx dX0_isTimes_16 ?_
    refine k_rz hx hr dX0_isTimes_17 (by first | exact Or.inl rfl | exact Or.inr rfl | exact b2i_or _) ?_
    first | exact ⟨b2i_t (by omega), rfl⟩ | exact ⟨b2i_f (by omega), rfl⟩
  · refine k_iload_n hx dX0_isTimes_6 0 rfl ?_
    refine k_bipush hx dX0_isTimes_7 (by decide +kernel) ?_
    refine k_icmp_gt hx dX0_isTimes_9 (by omega) (fun h_9 => ?_) (fun h_9 => ?_)
    · refine k_iconst hx dX0_isTimes_16 ?_
      refine k_rz hx hr dX0_isTimes_17 (by first | exact Or.inl rfl | exact Or.inr rfl | exact b2i_or _) ?_
      first | exact ⟨b2i_t (by omega), rfl⟩ | exact ⟨b2i_f (by omega), rfl⟩
    · refine k_iconst hx dX0_isTimes_12 ?_
      refine k_goto hx dX0_isTimes_13 ?_
      refine k_rz hx hr dX0_isTimes_17 (by first | exact Or.inl rfl | exact Or.inr rfl | exact b2i_or _) ?_
      first | exact ⟨b2i_t (by omega), rfl⟩ | exact ⟨b2i_f (by omega), rfl⟩
theorem c_X0_open {g : GE} {l : Launch} {M : Mem} {os : List (Int × Int × Int)} (ho : OpR M os) (hl : os.length < 4) {s a : Int} : Ci g l μX0_open [vR g 104, vI s, vI a] M (fun z M' => z = 1 ∧ OpR M' ((s, a, a) :: os) ∧ OffP M M') := by
  refine Ci.of (by decide +kernel) rfl rfl (fun x hx hr => ?_)
  have h5 := ho.1
  refine k_aload_n hx dX0_open_0 0 rfl ?_
  refine k_get (v := vI os.length) hx fX0_28 dX0_open_1 n_104 L_104 (congrArg vI (show M 104 5 = os.length from h5)) ?_
  refine k_iconst hx dX0_open_4 ?_
  refine k_icmp_lt hx dX0_open_5 (by omega) (fun h_5 => ?_) (fun h_5 => absurd h_5 (by omega))
  refine k_aload_n hx dX0_open_10 0 rfl ?_
  refine k_get (v := vR g 106) hx fX0_19 dX0_open_11 n_104 L_104 rfl ?_
  refine k_aload_n hx dX0_open_14 0 rfl ?_
  refine k_get (v := vI os.length) hx fX0_28 dX0_open_15 n_104 L_104 (congrArg vI (show M 104 5 = os.length from h5)) ?_
  refine k_iload_n hx dX0_open_18 1 rfl ?_
  refine k_iastN hx dX0_open_19 n_106 L_106 (by omega) (by decide) (fun M_19 hM_19 => ?_)
  refine k_aload_n hx dX0_open_20 0 rfl ?_
  refine k_get (v := vR g 107) hx fX0_22 dX0_open_21 n_104 L_104 rfl ?_
  refine k_aload_n hx dX0_open_24 0 rfl ?_
  refine k_get (v := vI os.length) hx fX0_28 dX0_open_25 n_104 L_104 (congrArg vI (show M_19 104 5 = os.length from by rw [hM_19, up_i (by omega)]; exact h5)) ?_
  refine k_iload_n hx dX0_open_28 2 rfl ?_
  refine k_iastN hx dX0_open_29 n_107 L_107 (by omega) (by decide) (fun M_29 hM_29 => ?_)
  refine k_aload_n hx dX0_open_30 0 rfl ?_
  refine k_get (v := vR g 108) hx fX0_25 dX0_open_31 n_104 L_104 rfl ?_
  refine k_aload_n hx dX0_open_34 0 rfl ?_
  refine k_get (v := vI os.length) hx fX0_28 dX0_open_35 n_104 L_104 (congrArg vI (show M_29 104 5 = os.length from by rw [hM_29, up_i (by omega), hM_19, up_i (by omega)]; exact h5)) ?_
  refine k_iload_n hx dX0_open_38 2 rfl ?_
  refine k_iastN hx dX0_open_39 n_108 L_108 (by omega) (by decide) (fun M_39 hM_39 => ?_)
  refine k_aload_n hx dX0_open_40 0 rfl ?_
  refine k_dup hx dX0_open_41 rfl ?_
  refine k_get (v := vI os.length) hx fX0_28 dX0_open_42 n_104 L_104 (congrArg vI (show M_39 104 5 = os.length from by rw [hM_39, up_i (by omega), hM_29, up_i (by omega), hM_19, up_i (by omega)]; exact h5)) ?_
  refine k_iconst hx dX0_open_45 ?_
  refine k_iadd hx dX0_open_46 ?_
  refine k_putI (kz := 5) hx fX0_28 dX0_open_47 n_104 L_104 rfl rfl (fun M_47 hM_47 => ?_)
  refine k_iconst hx dX0_open_50 ?_
  refine k_rz hx hr dX0_open_51 (by first | exact Or.inl rfl | exact Or.inr rfl | exact b2i_or _) ?_
  subst hM_47; subst hM_39; subst hM_29; subst hM_19
  refine ⟨rfl, ⟨by rw [up_s, List.length_cons]; omega, by rw [List.length_cons]; omega, fun j e hj => ?_⟩, ⟨fun q h1 h2 h3 h4 => by rw [up_i h1, up_i h4, up_i h3, up_i h2], fun k hk => by rw [up_k hk, up_i (by omega), up_i (by omega), up_i (by omega)]⟩⟩
  rw [List.length_cons, Nat.add_sub_cancel]
  cases j with
  | zero =>
    rw [List.getElem?_cons_zero] at hj
    cases hj
    rw [Nat.sub_zero]
    refine ⟨?_, ?_, ?_⟩
    · rw [up_i (by omega), up_i (by omega), up_i (by omega), up_s]
    · rw [up_i (by omega), up_i (by omega), up_s]
    · rw [up_i (by omega), up_s]
  | succ j =>
    rw [List.getElem?_cons_succ] at hj
    have hj2 := (List.getElem?_eq_some_iff.mp hj).1
    have h6 := ho.2.2 j e hj
    rw [show os.length - (j + 1) = os.length - 1 - j by omega]
    refine ⟨?_, ?_, ?_⟩
    · rw [up_i (by omega), up_i (by omega), up_i (by omega), up_k (by omega)]; exact h6.1
    · rw [up_i (by omega), up_i (by omega), up_k (by omega), up_i (by omega)]; exact h6.2.1
    · rw [up_i (by omega), up_k (by omega), up_i (by omega), up_i (by omega)]; exact h6.2.2
theorem c_X0_openF {g : GE} {l : Launch} {M : Mem} {os : List (Int × Int × Int)} (ho : OpR M os) (hl : os.length = 4) {s a : Int} : Ci g l μX0_open [vR g 104, vI s, vI a] M (fun z M' => z = 0 ∧ M' = M) := by
  refine Ci.of (by decide +kernel) rfl rfl (fun x hx hr => ?_)
  have h5 := ho.1
  refine k_aload_n hx dX0_open_0 0 rfl ?_
  refine k_get (v := vI os.length) hx fX0_28 dX0_open_1 n_104 L_104 (congrArg vI (show M 104 5 = os.length from h5)) ?_
  refine k_iconst hx dX0_open_4 ?_
  refine k_icmp_lt hx dX0_open_5 (by omega) (fun h_5 => absurd h_5 (by omega)) (fun h_5 => ?_)
  refine k_iconst hx dX0_open_8 ?_
  refine k_rz hx hr dX0_open_9 (by first | exact Or.inl rfl | exact Or.inr rfl | exact b2i_or _) ?_
  exact ⟨rfl, rfl⟩
def inn : List (Int × Int × Int) → Int
  | [] => 0
  | e :: _ => e.1
theorem c_X0_innermostSign {g : GE} {l : Launch} {M : Mem} {os : List (Int × Int × Int)} (ho : OpR M os) : Cp g l μX0_innermostSign [vR g 104] M (inn os) := by
  refine Ci.of (by decide +kernel) rfl rfl (fun x hx hr => ?_)
  have h5 := ho.1; have h4 := ho.2.1
  cases os with
  | nil =>
    refine k_aload_n hx dX0_innermostSign_0 0 rfl ?_
    refine k_get (v := vI 0) hx fX0_28 dX0_innermostSign_1 n_104 L_104 (congrArg vI (show M 104 5 = 0 from h5)) ?_
    refine k_ifle hx dX0_innermostSign_4 (by omega) (fun h_4 => ?_) (fun h_4 => absurd h_4 (by omega))
    refine k_iconst hx dX0_innermostSign_21 ?_
    refine k_ri hx hr dX0_innermostSign_22 ?_
    exact ⟨rfl, rfl⟩
  | cons e t =>
    have h6 := (ho.2.2 0 e rfl).1
    rw [List.length_cons] at h5 h4 h6
    rw [show t.length + 1 - 1 - 0 = t.length by omega] at h6
    refine k_aload_n hx dX0_innermostSign_0 0 rfl ?_
    refine k_get (v := vI (t.length + 1)) hx fX0_28 dX0_innermostSign_1 n_104 L_104 (congrArg vI (show M 104 5 = (t.length + 1) from by rw [h5]; rfl)) ?_
    refine k_ifle hx dX0_innermostSign_4 (by omega) (fun h_4 => absurd h_4 (by omega)) (fun h_4 => ?_)
    refine k_aload_n hx dX0_innermostSign_7 0 rfl ?_
    refine k_get (v := vR g 106) hx fX0_19 dX0_innermostSign_8 n_104 L_104 rfl ?_
    refine k_aload_n hx dX0_innermostSign_11 0 rfl ?_
    refine k_get (v := vI (t.length + 1)) hx fX0_28 dX0_innermostSign_12 n_104 L_104 (congrArg vI (show M 104 5 = (t.length + 1) from by rw [h5]; rfl)) ?_
    refine k_iconst hx dX0_innermostSign_15 ?_
    refine k_isub hx dX0_innermostSign_16 ?_
    refine k_iald (v := e.1) hx dX0_innermostSign_17 n_106 L_106 (by omega) (by decide) (by rw [show (t.length : Int) + 1 - 1 = t.length by omega]; exact h6) ?_
    refine k_goto hx dX0_innermostSign_18 ?_
    refine k_ri hx hr dX0_innermostSign_22 ?_
    exact ⟨rfl, rfl⟩
theorem c_X0_passComma {g : GE} {l : Launch} {M : Mem} {e : Int × Int × Int} {t : List (Int × Int × Int)} (ho : OpR M (e :: t)) {m : Int} : Cv g l μX0_passComma [vR g 104, vI m] M (fun M' => OpR M' ((44, e.2.1, m) :: t) ∧ OffP M M') := by
  refine Cv.of (by decide +kernel) rfl rfl (fun x hx hr => ?_)
  have h5 := ho.1; have h4 := ho.2.1
  rw [List.length_cons] at h5 h4
  have hti : (t.length : Int) + 1 - 1 = t.length := by omega
  refine k_aload_n hx dX0_passComma_0 0 rfl ?_
  refine k_get (v := vI (t.length + 1)) hx fX0_28 dX0_passComma_1 n_104 L_104 (congrArg vI (show M 104 5 = (t.length + 1) from by rw [h5]; rfl)) ?_
  refine k_ifle hx dX0_passComma_4 (by omega) (fun h_4 => absurd h_4 (by omega)) (fun h_4 => ?_)
  refine k_aload_n hx dX0_passComma_7 0 rfl ?_
  refine k_get (v := vR g 106) hx fX0_19 dX0_passComma_8 n_104 L_104 rfl ?_
  refine k_aload_n hx dX0_passComma_11 0 rfl ?_
  refine k_get (v := vI (t.length + 1)) hx fX0_28 dX0_passComma_12 n_104 L_104 (congrArg vI (show M 104 5 = (t.length + 1) from by rw [h5]; rfl)) ?_
  refine k_iconst hx dX0_passComma_15 ?_
  refine k_isub hx dX0_passComma_16 ?_
  refine k_bipush hx dX0_passComma_17 (by decide +kernel) ?_
  refine k_iastN hx dX0_passComma_19 n_106 L_106 (by omega) (by decide) (fun M_19 hM_19 => ?_)
  refine k_aload_n hx dX0_passComma_20 0 rfl ?_
  refine k_get (v := vR g 108) hx fX0_25 dX0_passComma_21 n_104 L_104 rfl ?_
  refine k_aload_n hx dX0_passComma_24 0 rfl ?_
  refine k_get (v := vI (t.length + 1)) hx fX0_28 dX0_passComma_25 n_104 L_104 (congrArg vI (show M_19 104 5 = (t.length + 1) from by rw [hM_19, up_i (by omega), h5]; rfl)) ?_
  refine k_iconst hx dX0_passComma_28 ?_
  refine k_isub hx dX0_passComma_29 ?_
  refine k_iload_n hx dX0_passComma_30 1 rfl ?_
  refine k_iastN hx dX0_passComma_31 n_108 L_108 (by omega) (by decide) (fun M_31 hM_31 => ?_)
  refine k_rv hx hr dX0_passComma_32 ?_
  subst hM_31; subst hM_19
  rw [hti]
  refine ⟨⟨by rw [up_i (by omega), up_i (by omega), List.length_cons]; exact h5, by rw [List.length_cons]; omega, fun j d hj => ?_⟩, ⟨fun q h1 h2 h3 h4 => by rw [up_i h4, up_i h2], fun k hk => by rw [up_i (by omega), up_i (by omega)]⟩⟩
  rw [List.length_cons, Nat.add_sub_cancel]
  cases j with
  | zero =>
    rw [List.getElem?_cons_zero] at hj
    cases hj
    have h6 := ho.2.2 0 e rfl
    rw [List.length_cons, show t.length + 1 - 1 - 0 = t.length by omega] at h6
    rw [Nat.sub_zero]
    refine ⟨?_, ?_, ?_⟩
    · rw [up_i (by omega), up_s]
    · rw [up_i (by omega), up_i (by omega)]; exact h6.2.1
    · rw [up_s]
  | succ j =>
    rw [List.getElem?_cons_succ] at hj
    have hj2 := (List.getElem?_eq_some_iff.mp hj).1
    have h6 := ho.2.2 (j + 1) d (by rw [List.getElem?_cons_succ]; exact hj)
    rw [List.length_cons, Nat.add_sub_cancel] at h6
    refine ⟨?_, ?_, ?_⟩
    · rw [up_i (by omega), up_k (by omega)]; exact h6.1
    · rw [up_i (by omega), up_i (by omega)]; exact h6.2.1
    · rw [up_k (by omega), up_i (by omega)]; exact h6.2.2
/-- one character more: the stage and what is open behind it -/
def fcl (os : List (Int × Int × Int)) (c : Int) : Option (Int × List (Int × Int × Int)) := match os with
  | [] => none
  | e :: t => if c = 44 ∧ e.1 = 91 then some (0, (44, e.2.1, 0) :: t) else if (c = 41 ∧ e.1 = 40) ∨ (c = 93 ∧ e.1 = 44) then some (1, t) else none
def fst (sg : Int) (os : List (Int × Int × Int)) (c : Int) : Option (Int × List (Int × Int × Int)) :=
  if crs c ≠ -1 then some (1, os) else if c = 40 ∨ c = 91 then (if os.length < 4 then some (0, (c, 0, 0) :: os) else none) else if sg = 0 then none else if c = 39 then (if sg = 1 then some (2, os) else none) else if 50 ≤ c ∧ c ≤ 57 then (if sg = 3 then none else some (3, os)) else fcl os c
/-- what a step's answer says -/
def FP (M : Mem) (o : Option (Int × List (Int × Int × Int))) (z : Int) (M' : Mem) : Prop := OffP M M' ∧ match o with
  | none => z = -1
  | some q => z = q.1 ∧ OpR M' q.2

theorem c_X0_stageAfterClosing {g : GE} {l : Launch} {M : Mem} {os : List (Int × Int × Int)} (ho : OpR M os) (hs : ∀ e ∈ os, e.1 = 40 ∨ e.1 = 91 ∨ e.1 = 44) {c : Int} (hc : 0 ≤ c ∧ c < 256) : Ci g l μX0_stageAfterClosing [vR g 104, vI c] M (fun z M' => FP M (fcl os c) z M') := by
  refine Ci.of (by decide +kernel) rfl rfl (fun x hx hr => ?_)
  have h5 := ho.1; have h4 := ho.2.1
  cases os with
  | nil =>
    refine k_aload_n hx dX0_stageAfterClosing_0 0 rfl ?_
    refine k_vp (rest := []) (e := 0) hx vX0_52 dX0_stageAfterClosing_1 (c_X0_innermostSign ho) n_104 L_104 rfl rfl rfl ⟨rfl, rfl⟩ ⟨by decide, by decide⟩ ?_
    refine k_istore_n (ls' := [(0, vR g 104), (1, vI c), (2, vI 0)]) hx dX0_stageAfterClosing_4 rfl rfl (by decide) ?_
    refine k_iload_n hx dX0_stageAfterClosing_5 1 rfl ?_
    refine k_bipush hx dX0_stageAfterClosing_6 (by decide +kernel) ?_
    refine k_icmp_ne hx dX0_stageAfterClosing_8 (by omega) (fun h_8 => ?_) (fun h_8 => ?_)
    · refine k_iload_n hx dX0_stageAfterClosing_24 1 rfl ?_
      refine k_bipush hx dX0_stageAfterClosing_25 (by decide +kernel) ?_
      refine k_icmp_ne hx dX0_stageAfterClosing_27 (by omega) (fun h_27 => ?_) (fun h_27 => ?_)
      · refine k_iload_n hx dX0_stageAfterClosing_36 1 rfl ?_
        refine k_bipush hx dX0_stageAfterClosing_37 (by decide +kernel) ?_
        refine k_icmp_ne hx dX0_stageAfterClosing_39 (by omega) (fun h_39 => ?_) (fun h_39 => ?_)
        · refine k_iconst hx dX0_stageAfterClosing_52 ?_
          refine k_istore_n (ls' := [(0, vR g 104), (1, vI c), (2, vI 0), (3, vI 0)]) hx dX0_stageAfterClosing_53 rfl rfl (by decide) ?_
          refine k_iload_n hx dX0_stageAfterClosing_54 3 rfl ?_
          refine k_ifne hx dX0_stageAfterClosing_55 (by omega) (fun h_55 => absurd h_55 (by omega)) (fun h_55 => ?_)
          refine k_iconst hx dX0_stageAfterClosing_58 ?_
          refine k_ri hx hr dX0_stageAfterClosing_59 ?_
          exact ⟨OffP.rf, rfl⟩
        · refine k_iload_n hx dX0_stageAfterClosing_42 2 rfl ?_
          refine k_bipush hx dX0_stageAfterClosing_43 (by decide +kernel) ?_
          refine k_icmp_ne hx dX0_stageAfterClosing_45 (by omega) (fun h_45 => ?_) (fun h_45 => absurd h_45 (by omega))
          refine k_iconst hx dX0_stageAfterClosing_52 ?_
          refine k_istore_n (ls' := [(0, vR g 104), (1, vI c), (2, vI 0), (3, vI 0)]) hx dX0_stageAfterClosing_53 rfl rfl (by decide) ?_
          refine k_iload_n hx dX0_stageAfterClosing_54 3 rfl ?_
          refine k_ifne hx dX0_stageAfterClosing_55 (by omega) (fun h_55 => absurd h_55 (by omega)) (fun h_55 => ?_)
          refine k_iconst hx dX0_stageAfterClosing_58 ?_
          refine k_ri hx hr dX0_stageAfterClosing_59 ?_
          exact ⟨OffP.rf, rfl⟩
      · refine k_iload_n hx dX0_stageAfterClosing_30 2 rfl ?_
        refine k_bipush hx dX0_stageAfterClosing_31 (by decide +kernel) ?_
        refine k_icmp_eq hx dX0_stageAfterClosing_33 (by omega) (fun h_33 => absurd h_33 (by omega)) (fun h_33 => ?_)
        refine k_iload_n hx dX0_stageAfterClosing_36 1 rfl ?_
        refine k_bipush hx dX0_stageAfterClosing_37 (by decide +kernel) ?_
        refine k_icmp_ne hx dX0_stageAfterClosing_39 (by omega) (fun h_39 => ?_) (fun h_39 => ?_)
        · refine k_iconst hx dX0_stageAfterClosing_52 ?_
          refine k_istore_n (ls' := [(0, vR g 104), (1, vI c), (2, vI 0), (3, vI 0)]) hx dX0_stageAfterClosing_53 rfl rfl (by decide) ?_
          refine k_iload_n hx dX0_stageAfterClosing_54 3 rfl ?_
          refine k_ifne hx dX0_stageAfterClosing_55 (by omega) (fun h_55 => absurd h_55 (by omega)) (fun h_55 => ?_)
          refine k_iconst hx dX0_stageAfterClosing_58 ?_
          refine k_ri hx hr dX0_stageAfterClosing_59 ?_
          exact ⟨OffP.rf, rfl⟩
        · refine k_iload_n hx dX0_stageAfterClosing_42 2 rfl ?_
          refine k_bipush hx dX0_stageAfterClosing_43 (by decide +kernel) ?_
          refine k_icmp_ne hx dX0_stageAfterClosing_45 (by omega) (fun h_45 => ?_) (fun h_45 => absurd h_45 (by omega))
          refine k_iconst hx dX0_stageAfterClosing_52 ?_
          refine k_istore_n (ls' := [(0, vR g 104), (1, vI c), (2, vI 0), (3, vI 0)]) hx dX0_stageAfterClosing_53 rfl rfl (by decide) ?_
          refine k_iload_n hx dX0_stageAfterClosing_54 3 rfl ?_
          refine k_ifne hx dX0_stageAfterClosing_55 (by omega) (fun h_55 => absurd h_55 (by omega)) (fun h_55 => ?_)
          refine k_iconst hx dX0_stageAfterClosing_58 ?_
          refine k_ri hx hr dX0_stageAfterClosing_59 ?_
          exact ⟨OffP.rf, rfl⟩
    · refine k_iload_n hx dX0_stageAfterClosing_11 2 rfl ?_
      refine k_bipush hx dX0_stageAfterClosing_12 (by decide +kernel) ?_
      refine k_icmp_ne hx dX0_stageAfterClosing_14 (by omega) (fun h_14 => ?_) (fun h_14 => absurd h_14 (by omega))
      refine k_iload_n hx dX0_stageAfterClosing_24 1 rfl ?_
      refine k_bipush hx dX0_stageAfterClosing_25 (by decide +kernel) ?_
      refine k_icmp_ne hx dX0_stageAfterClosing_27 (by omega) (fun h_27 => ?_) (fun h_27 => ?_)
      · refine k_iload_n hx dX0_stageAfterClosing_36 1 rfl ?_
        refine k_bipush hx dX0_stageAfterClosing_37 (by decide +kernel) ?_
        refine k_icmp_ne hx dX0_stageAfterClosing_39 (by omega) (fun h_39 => ?_) (fun h_39 => ?_)
        · refine k_iconst hx dX0_stageAfterClosing_52 ?_
          refine k_istore_n (ls' := [(0, vR g 104), (1, vI c), (2, vI 0), (3, vI 0)]) hx dX0_stageAfterClosing_53 rfl rfl (by decide) ?_
          refine k_iload_n hx dX0_stageAfterClosing_54 3 rfl ?_
          refine k_ifne hx dX0_stageAfterClosing_55 (by omega) (fun h_55 => absurd h_55 (by omega)) (fun h_55 => ?_)
          refine k_iconst hx dX0_stageAfterClosing_58 ?_
          refine k_ri hx hr dX0_stageAfterClosing_59 ?_
          exact ⟨OffP.rf, rfl⟩
        · refine k_iload_n hx dX0_stageAfterClosing_42 2 rfl ?_
          refine k_bipush hx dX0_stageAfterClosing_43 (by decide +kernel) ?_
          refine k_icmp_ne hx dX0_stageAfterClosing_45 (by omega) (fun h_45 => ?_) (fun h_45 => absurd h_45 (by omega))
          refine k_iconst hx dX0_stageAfterClosing_52 ?_
          refine k_istore_n (ls' := [(0, vR g 104), (1, vI c), (2, vI 0), (3, vI 0)]) hx dX0_stageAfterClosing_53 rfl rfl (by decide) ?_
          refine k_iload_n hx dX0_stageAfterClosing_54 3 rfl ?_
          refine k_ifne hx dX0_stageAfterClosing_55 (by omega) (fun h_55 => absurd h_55 (by omega)) (fun h_55 => ?_)
          refine k_iconst hx dX0_stageAfterClosing_58 ?_
          refine k_ri hx hr dX0_stageAfterClosing_59 ?_
          exact ⟨OffP.rf, rfl⟩
      · refine k_iload_n hx dX0_stageAfterClosing_30 2 rfl ?_
        refine k_bipush hx dX0_stageAfterClosing_31 (by decide +kernel) ?_
        refine k_icmp_eq hx dX0_stageAfterClosing_33 (by omega) (fun h_33 => absurd h_33 (by omega)) (fun h_33 => ?_)
        refine k_iload_n hx dX0_stageAfterClosing_36 1 rfl ?_
        refine k_bipush hx dX0_stageAfterClosing_37 (by decide +kernel) ?_
        refine k_icmp_ne hx dX0_stageAfterClosing_39 (by omega) (fun h_39 => ?_) (fun h_39 => ?_)
        · refine k_iconst hx dX0_stageAfterClosing_52 ?_
          refine k_istore_n (ls' := [(0, vR g 104), (1, vI c), (2, vI 0), (3, vI 0)]) hx dX0_stageAfterClosing_53 rfl rfl (by decide) ?_
          refine k_iload_n hx dX0_stageAfterClosing_54 3 rfl ?_
          refine k_ifne hx dX0_stageAfterClosing_55 (by omega) (fun h_55 => absurd h_55 (by omega)) (fun h_55 => ?_)
          refine k_iconst hx dX0_stageAfterClosing_58 ?_
          refine k_ri hx hr dX0_stageAfterClosing_59 ?_
          exact ⟨OffP.rf, rfl⟩
        · refine k_iload_n hx dX0_stageAfterClosing_42 2 rfl ?_
          refine k_bipush hx dX0_stageAfterClosing_43 (by decide +kernel) ?_
          refine k_icmp_ne hx dX0_stageAfterClosing_45 (by omega) (fun h_45 => ?_) (fun h_45 => absurd h_45 (by omega))
          refine k_iconst hx dX0_stageAfterClosing_52 ?_
          refine k_istore_n (ls' := [(0, vR g 104), (1, vI c), (2, vI 0), (3, vI 0)]) hx dX0_stageAfterClosing_53 rfl rfl (by decide) ?_
          refine k_iload_n hx dX0_stageAfterClosing_54 3 rfl ?_
          refine k_ifne hx dX0_stageAfterClosing_55 (by omega) (fun h_55 => absurd h_55 (by omega)) (fun h_55 => ?_)
          refine k_iconst hx dX0_stageAfterClosing_58 ?_
          refine k_ri hx hr dX0_stageAfterClosing_59 ?_
          exact ⟨OffP.rf, rfl⟩
  | cons e t =>
    have he := hs e List.mem_cons_self
    rw [List.length_cons] at h5 h4
    refine k_aload_n hx dX0_stageAfterClosing_0 0 rfl ?_
    refine k_vp (rest := []) (e := e.1) hx vX0_52 dX0_stageAfterClosing_1 (c_X0_innermostSign ho) n_104 L_104 rfl rfl rfl ⟨rfl, rfl⟩ ⟨by decide, by decide⟩ ?_
    refine k_istore_n (ls' := [(0, vR g 104), (1, vI c), (2, vI e.1)]) hx dX0_stageAfterClosing_4 rfl rfl (by decide) ?_
    refine k_iload_n hx dX0_stageAfterClosing_5 1 rfl ?_
    refine k_bipush hx dX0_stageAfterClosing_6 (by decide +kernel) ?_
    refine k_icmp_ne hx dX0_stageAfterClosing_8 (by omega) (fun h_8 => ?_) (fun h_8 => ?_)
    · refine k_iload_n hx dX0_stageAfterClosing_24 1 rfl ?_
      refine k_bipush hx dX0_stageAfterClosing_25 (by decide +kernel) ?_
      refine k_icmp_ne hx dX0_stageAfterClosing_27 (by omega) (fun h_27 => ?_) (fun h_27 => ?_)
      · refine k_iload_n hx dX0_stageAfterClosing_36 1 rfl ?_
        refine k_bipush hx dX0_stageAfterClosing_37 (by decide +kernel) ?_
        refine k_icmp_ne hx dX0_stageAfterClosing_39 (by omega) (fun h_39 => ?_) (fun h_39 => ?_)
        · refine k_iconst hx dX0_stageAfterClosing_52 ?_
          refine k_istore_n (ls' := [(0, vR g 104), (1, vI c), (2, vI e.1), (3, vI 0)]) hx dX0_stageAfterClosing_53 rfl rfl (by decide) ?_
          refine k_iload_n hx dX0_stageAfterClosing_54 3 rfl ?_
          refine k_ifne hx dX0_stageAfterClosing_55 (by omega) (fun h_55 => absurd h_55 (by omega)) (fun h_55 => ?_)
          refine k_iconst hx dX0_stageAfterClosing_58 ?_
          refine k_ri hx hr dX0_stageAfterClosing_59 ?_
          refine ⟨OffP.rf, ?_⟩
          unfold fcl
          simp only
          rw [if_neg (by omega), if_neg (by omega)]
          exact trivial
        · refine k_iload_n hx dX0_stageAfterClosing_42 2 rfl ?_
          refine k_bipush hx dX0_stageAfterClosing_43 (by decide +kernel) ?_
          refine k_icmp_ne hx dX0_stageAfterClosing_45 (by omega) (fun h_45 => ?_) (fun h_45 => ?_)
          · refine k_iconst hx dX0_stageAfterClosing_52 ?_
            refine k_istore_n (ls' := [(0, vR g 104), (1, vI c), (2, vI e.1), (3, vI 0)]) hx dX0_stageAfterClosing_53 rfl rfl (by decide) ?_
            refine k_iload_n hx dX0_stageAfterClosing_54 3 rfl ?_
            refine k_ifne hx dX0_stageAfterClosing_55 (by omega) (fun h_55 => absurd h_55 (by omega)) (fun h_55 => ?_)
            refine k_iconst hx dX0_stageAfterClosing_58 ?_
            refine k_ri hx hr dX0_stageAfterClosing_59 ?_
            refine ⟨OffP.rf, ?_⟩
            unfold fcl
            simp only
            rw [if_neg (by omega), if_neg (by omega)]
            exact trivial
          · refine k_iconst hx dX0_stageAfterClosing_48 ?_
            refine k_goto hx dX0_stageAfterClosing_49 ?_
            refine k_istore_n (ls' := [(0, vR g 104), (1, vI c), (2, vI e.1), (3, vI 1)]) hx dX0_stageAfterClosing_53 rfl rfl (by decide) ?_
            refine k_iload_n hx dX0_stageAfterClosing_54 3 rfl ?_
            refine k_ifne hx dX0_stageAfterClosing_55 (by omega) (fun h_55 => ?_) (fun h_55 => absurd h_55 (by omega))
            refine k_aload_n hx dX0_stageAfterClosing_60 0 rfl ?_
            refine k_dup hx dX0_stageAfterClosing_61 rfl ?_
            refine k_get (v := vI (t.length + 1)) hx fX0_28 dX0_stageAfterClosing_62 n_104 L_104 (congrArg vI (show M 104 5 = (t.length + 1) from by rw [h5]; rfl)) ?_
            refine k_iconst hx dX0_stageAfterClosing_65 ?_
            refine k_isub hx dX0_stageAfterClosing_66 ?_
            refine k_putI (kz := 5) hx fX0_28 dX0_stageAfterClosing_67 n_104 L_104 rfl rfl (fun M_67 hM_67 => ?_)
            refine k_iconst hx dX0_stageAfterClosing_70 ?_
            refine k_ri hx hr dX0_stageAfterClosing_71 ?_
            subst hM_67
            refine ⟨⟨fun q h1 _ _ _ => up_i h1, fun k hk => up_k hk⟩, ?_⟩
            unfold fcl
            simp only
            rw [if_neg (by omega), if_pos (by omega)]; exact ⟨rfl, ho.pop (by omega)⟩
      · refine k_iload_n hx dX0_stageAfterClosing_30 2 rfl ?_
        refine k_bipush hx dX0_stageAfterClosing_31 (by decide +kernel) ?_
        refine k_icmp_eq hx dX0_stageAfterClosing_33 (by omega) (fun h_33 => ?_) (fun h_33 => ?_)
        · refine k_iconst hx dX0_stageAfterClosing_48 ?_
          refine k_goto hx dX0_stageAfterClosing_49 ?_
          refine k_istore_n (ls' := [(0, vR g 104), (1, vI c), (2, vI e.1), (3, vI 1)]) hx dX0_stageAfterClosing_53 rfl rfl (by decide) ?_
          refine k_iload_n hx dX0_stageAfterClosing_54 3 rfl ?_
          refine k_ifne hx dX0_stageAfterClosing_55 (by omega) (fun h_55 => ?_) (fun h_55 => absurd h_55 (by omega))
          refine k_aload_n hx dX0_stageAfterClosing_60 0 rfl ?_
          refine k_dup hx dX0_stageAfterClosing_61 rfl ?_
          refine k_get (v := vI (t.length + 1)) hx fX0_28 dX0_stageAfterClosing_62 n_104 L_104 (congrArg vI (show M 104 5 = (t.length + 1) from by rw [h5]; rfl)) ?_
          refine k_iconst hx dX0_stageAfterClosing_65 ?_
          refine k_isub hx dX0_stageAfterClosing_66 ?_
          refine k_putI (kz := 5) hx fX0_28 dX0_stageAfterClosing_67 n_104 L_104 rfl rfl (fun M_67 hM_67 => ?_)
          refine k_iconst hx dX0_stageAfterClosing_70 ?_
          refine k_ri hx hr dX0_stageAfterClosing_71 ?_
          subst hM_67
          refine ⟨⟨fun q h1 _ _ _ => up_i h1, fun k hk => up_k hk⟩, ?_⟩
          unfold fcl
          simp only
          rw [if_neg (by omega), if_pos (by omega)]; exact ⟨rfl, ho.pop (by omega)⟩
        · refine k_iload_n hx dX0_stageAfterClosing_36 1 rfl ?_
          refine k_bipush hx dX0_stageAfterClosing_37 (by decide +kernel) ?_
          refine k_icmp_ne hx dX0_stageAfterClosing_39 (by omega) (fun h_39 => ?_) (fun h_39 => ?_)
          · refine k_iconst hx dX0_stageAfterClosing_52 ?_
            refine k_istore_n (ls' := [(0, vR g 104), (1, vI c), (2, vI e.1), (3, vI 0)]) hx dX0_stageAfterClosing_53 rfl rfl (by decide) ?_
            refine k_iload_n hx dX0_stageAfterClosing_54 3 rfl ?_
            refine k_ifne hx dX0_stageAfterClosing_55 (by omega) (fun h_55 => absurd h_55 (by omega)) (fun h_55 => ?_)
            refine k_iconst hx dX0_stageAfterClosing_58 ?_
            refine k_ri hx hr dX0_stageAfterClosing_59 ?_
            refine ⟨OffP.rf, ?_⟩
            unfold fcl
            simp only
            rw [if_neg (by omega), if_neg (by omega)]
            exact trivial
          · refine k_iload_n hx dX0_stageAfterClosing_42 2 rfl ?_
            refine k_bipush hx dX0_stageAfterClosing_43 (by decide +kernel) ?_
            refine k_icmp_ne hx dX0_stageAfterClosing_45 (by omega) (fun h_45 => ?_) (fun h_45 => ?_)
            · refine k_iconst hx dX0_stageAfterClosing_52 ?_
              refine k_istore_n (ls' := [(0, vR g 104), (1, vI c), (2, vI e.1), (3, vI 0)]) hx dX0_stageAfterClosing_53 rfl rfl (by decide) ?_
              refine k_iload_n hx dX0_stageAfterClosing_54 3 rfl ?_
              refine k_ifne hx dX0_stageAfterClosing_55 (by omega) (fun h_55 => absurd h_55 (by omega)) (fun h_55 => ?_)
              refine k_iconst hx dX0_stageAfterClosing_58 ?_
              refine k_ri hx hr dX0_stageAfterClosing_59 ?_
              refine ⟨OffP.rf, ?_⟩
              unfold fcl
              simp only
              rw [if_neg (by omega), if_neg (by omega)]
              exact trivial
            · refine k_iconst hx dX0_stageAfterClosing_48 ?_
              refine k_goto hx dX0_stageAfterClosing_49 ?_
              refine k_istore_n (ls' := [(0, vR g 104), (1, vI c), (2, vI e.1), (3, vI 1)]) hx dX0_stageAfterClosing_53 rfl rfl (by decide) ?_
              refine k_iload_n hx dX0_stageAfterClosing_54 3 rfl ?_
              refine k_ifne hx dX0_stageAfterClosing_55 (by omega) (fun h_55 => ?_) (fun h_55 => absurd h_55 (by omega))
              refine k_aload_n hx dX0_stageAfterClosing_60 0 rfl ?_
              refine k_dup hx dX0_stageAfterClosing_61 rfl ?_
              refine k_get (v := vI (t.length + 1)) hx fX0_28 dX0_stageAfterClosing_62 n_104 L_104 (congrArg vI (show M 104 5 = (t.length + 1) from by rw [h5]; rfl)) ?_
              refine k_iconst hx dX0_stageAfterClosing_65 ?_
              refine k_isub hx dX0_stageAfterClosing_66 ?_
              refine k_putI (kz := 5) hx fX0_28 dX0_stageAfterClosing_67 n_104 L_104 rfl rfl (fun M_67 hM_67 => ?_)
              refine k_iconst hx dX0_stageAfterClosing_70 ?_
              refine k_ri hx hr dX0_stageAfterClosing_71 ?_
              subst hM_67
              refine ⟨⟨fun q h1 _ _ _ => up_i h1, fun k hk => up_k hk⟩, ?_⟩
              unfold fcl
              simp only
              rw [if_neg (by omega), if_pos (by omega)]; exact ⟨rfl, ho.pop (by omega)⟩
    · refine k_iload_n hx dX0_stageAfterClosing_11 2 rfl ?_
      refine k_bipush hx dX0_stageAfterClosing_12 (by decide +kernel) ?_
      refine k_icmp_ne hx dX0_stageAfterClosing_14 (by omega) (fun h_14 => ?_) (fun h_14 => ?_)
      · refine k_iload_n hx dX0_stageAfterClosing_24 1 rfl ?_
        refine k_bipush hx dX0_stageAfterClosing_25 (by decide +kernel) ?_
        refine k_icmp_ne hx dX0_stageAfterClosing_27 (by omega) (fun h_27 => ?_) (fun h_27 => ?_)
        · refine k_iload_n hx dX0_stageAfterClosing_36 1 rfl ?_
          refine k_bipush hx dX0_stageAfterClosing_37 (by decide +kernel) ?_
          refine k_icmp_ne hx dX0_stageAfterClosing_39 (by omega) (fun h_39 => ?_) (fun h_39 => ?_)
          · refine k_iconst hx dX0_stageAfterClosing_52 ?_
            refine k_istore_n (ls' := [(0, vR g 104), (1, vI c), (2, vI e.1), (3, vI 0)]) hx dX0_stageAfterClosing_53 rfl rfl (by decide) ?_
            refine k_iload_n hx dX0_stageAfterClosing_54 3 rfl ?_
            refine k_ifne hx dX0_stageAfterClosing_55 (by omega) (fun h_55 => absurd h_55 (by omega)) (fun h_55 => ?_)
            refine k_iconst hx dX0_stageAfterClosing_58 ?_
            refine k_ri hx hr dX0_stageAfterClosing_59 ?_
            refine ⟨OffP.rf, ?_⟩
            unfold fcl
            simp only
            rw [if_neg (by omega), if_neg (by omega)]
            exact trivial
          · refine k_iload_n hx dX0_stageAfterClosing_42 2 rfl ?_
            refine k_bipush hx dX0_stageAfterClosing_43 (by decide +kernel) ?_
            refine k_icmp_ne hx dX0_stageAfterClosing_45 (by omega) (fun h_45 => ?_) (fun h_45 => ?_)
            · refine k_iconst hx dX0_stageAfterClosing_52 ?_
              refine k_istore_n (ls' := [(0, vR g 104), (1, vI c), (2, vI e.1), (3, vI 0)]) hx dX0_stageAfterClosing_53 rfl rfl (by decide) ?_
              refine k_iload_n hx dX0_stageAfterClosing_54 3 rfl ?_
              refine k_ifne hx dX0_stageAfterClosing_55 (by omega) (fun h_55 => absurd h_55 (by omega)) (fun h_55 => ?_)
              refine k_iconst hx dX0_stageAfterClosing_58 ?_
              refine k_ri hx hr dX0_stageAfterClosing_59 ?_
              refine ⟨OffP.rf, ?_⟩
              unfold fcl
              simp only
              rw [if_neg (by omega), if_neg (by omega)]
              exact trivial
            · refine k_iconst hx dX0_stageAfterClosing_48 ?_
              refine k_goto hx dX0_stageAfterClosing_49 ?_
              refine k_istore_n (ls' := [(0, vR g 104), (1, vI c), (2, vI e.1), (3, vI 1)]) hx dX0_stageAfterClosing_53 rfl rfl (by decide) ?_
              refine k_iload_n hx dX0_stageAfterClosing_54 3 rfl ?_
              refine k_ifne hx dX0_stageAfterClosing_55 (by omega) (fun h_55 => ?_) (fun h_55 => absurd h_55 (by omega))
              refine k_aload_n hx dX0_stageAfterClosing_60 0 rfl ?_
              refine k_dup hx dX0_stageAfterClosing_61 rfl ?_
              refine k_get (v := vI (t.length + 1)) hx fX0_28 dX0_stageAfterClosing_62 n_104 L_104 (congrArg vI (show M 104 5 = (t.length + 1) from by rw [h5]; rfl)) ?_
              refine k_iconst hx dX0_stageAfterClosing_65 ?_
              refine k_isub hx dX0_stageAfterClosing_66 ?_
              refine k_putI (kz := 5) hx fX0_28 dX0_stageAfterClosing_67 n_104 L_104 rfl rfl (fun M_67 hM_67 => ?_)
              refine k_iconst hx dX0_stageAfterClosing_70 ?_
              refine k_ri hx hr dX0_stageAfterClosing_71 ?_
              subst hM_67
              refine ⟨⟨fun q h1 _ _ _ => up_i h1, fun k hk => up_k hk⟩, ?_⟩
              unfold fcl
              simp only
              rw [if_neg (by omega), if_pos (by omega)]; exact ⟨rfl, ho.pop (by omega)⟩
        · refine k_iload_n hx dX0_stageAfterClosing_30 2 rfl ?_
          refine k_bipush hx dX0_stageAfterClosing_31 (by decide +kernel) ?_
          refine k_icmp_eq hx dX0_stageAfterClosing_33 (by omega) (fun h_33 => ?_) (fun h_33 => ?_)
          · refine k_iconst hx dX0_stageAfterClosing_48 ?_
            refine k_goto hx dX0_stageAfterClosing_49 ?_
            refine k_istore_n (ls' := [(0, vR g 104), (1, vI c), (2, vI e.1), (3, vI 1)]) hx dX0_stageAfterClosing_53 rfl rfl (by decide) ?_
            refine k_iload_n hx dX0_stageAfterClosing_54 3 rfl ?_
            refine k_ifne hx dX0_stageAfterClosing_55 (by omega) (fun h_55 => ?_) (fun h_55 => absurd h_55 (by omega))
            refine k_aload_n hx dX0_stageAfterClosing_60 0 rfl ?_
            refine k_dup hx dX0_stageAfterClosing_61 rfl ?_
            refine k_get (v := vI (t.length + 1)) hx fX0_28 dX0_stageAfterClosing_62 n_104 L_104 (congrArg vI (show M 104 5 = (t.length + 1) from by rw [h5]; rfl)) ?_
            refine k_iconst hx dX0_stageAfterClosing_65 ?_
            refine k_isub hx dX0_stageAfterClosing_66 ?_
            refine k_putI (kz := 5) hx fX0_28 dX0_stageAfterClosing_67 n_104 L_104 rfl rfl (fun M_67 hM_67 => ?_)
            refine k_iconst hx dX0_stageAfterClosing_70 ?_
            refine k_ri hx hr dX0_stageAfterClosing_71 ?_
            subst hM_67
            refine ⟨⟨fun q h1 _ _ _ => up_i h1, fun k hk => up_k hk⟩, ?_⟩
            unfold fcl
            simp only
            rw [if_neg (by omega), if_pos (by omega)]; exact ⟨rfl, ho.pop (by omega)⟩
          · refine k_iload_n hx dX0_stageAfterClosing_36 1 rfl ?_
            refine k_bipush hx dX0_stageAfterClosing_37 (by decide +kernel) ?_
            refine k_icmp_ne hx dX0_stageAfterClosing_39 (by omega) (fun h_39 => ?_) (fun h_39 => ?_)
            · refine k_iconst hx dX0_stageAfterClosing_52 ?_
              refine k_istore_n (ls' := [(0, vR g 104), (1, vI c), (2, vI e.1), (3, vI 0)]) hx dX0_stageAfterClosing_53 rfl rfl (by decide) ?_
              refine k_iload_n hx dX0_stageAfterClosing_54 3 rfl ?_
              refine k_ifne hx dX0_stageAfterClosing_55 (by omega) (fun h_55 => absurd h_55 (by omega)) (fun h_55 => ?_)
              refine k_iconst hx dX0_stageAfterClosing_58 ?_
              refine k_ri hx hr dX0_stageAfterClosing_59 ?_
              refine ⟨OffP.rf, ?_⟩
              unfold fcl
              simp only
              rw [if_neg (by omega), if_neg (by omega)]
              exact trivial
            · refine k_iload_n hx dX0_stageAfterClosing_42 2 rfl ?_
              refine k_bipush hx dX0_stageAfterClosing_43 (by decide +kernel) ?_
              refine k_icmp_ne hx dX0_stageAfterClosing_45 (by omega) (fun h_45 => ?_) (fun h_45 => ?_)
              · refine k_iconst hx dX0_stageAfterClosing_52 ?_
                refine k_istore_n (ls' := [(0, vR g 104), (1, vI c), (2, vI e.1), (3, vI 0)]) hx dX0_stageAfterClosing_53 rfl rfl (by decide) ?_
                refine k_iload_n hx dX0_stageAfterClosing_54 3 rfl ?_
                refine k_ifne hx dX0_stageAfterClosing_55 (by omega) (fun h_55 => absurd h_55 (by omega)) (fun h_55 => ?_)
                refine k_iconst hx dX0_stageAfterClosing_58 ?_
                refine k_ri hx hr dX0_stageAfterClosing_59 ?_
                refine ⟨OffP.rf, ?_⟩
                unfold fcl
                simp only
                rw [if_neg (by omega), if_neg (by omega)]
                exact trivial
              · refine k_iconst hx dX0_stageAfterClosing_48 ?_
                refine k_goto hx dX0_stageAfterClosing_49 ?_
                refine k_istore_n (ls' := [(0, vR g 104), (1, vI c), (2, vI e.1), (3, vI 1)]) hx dX0_stageAfterClosing_53 rfl rfl (by decide) ?_
                refine k_iload_n hx dX0_stageAfterClosing_54 3 rfl ?_
                refine k_ifne hx dX0_stageAfterClosing_55 (by omega) (fun h_55 => ?_) (fun h_55 => absurd h_55 (by omega))
                refine k_aload_n hx dX0_stageAfterClosing_60 0 rfl ?_
                refine k_dup hx dX0_stageAfterClosing_61 rfl ?_
                refine k_get (v := vI (t.length + 1)) hx fX0_28 dX0_stageAfterClosing_62 n_104 L_104 (congrArg vI (show M 104 5 = (t.length + 1) from by rw [h5]; rfl)) ?_
                refine k_iconst hx dX0_stageAfterClosing_65 ?_
                refine k_isub hx dX0_stageAfterClosing_66 ?_
                refine k_putI (kz := 5) hx fX0_28 dX0_stageAfterClosing_67 n_104 L_104 rfl rfl (fun M_67 hM_67 => ?_)
                refine k_iconst hx dX0_stageAfterClosing_70 ?_
                refine k_ri hx hr dX0_stageAfterClosing_71 ?_
                subst hM_67
                refine ⟨⟨fun q h1 _ _ _ => up_i h1, fun k hk => up_k hk⟩, ?_⟩
                unfold fcl
                simp only
                rw [if_neg (by omega), if_pos (by omega)]; exact ⟨rfl, ho.pop (by omega)⟩
      · refine k_aload_n hx dX0_stageAfterClosing_17 0 rfl ?_
        refine k_iconst hx dX0_stageAfterClosing_18 ?_
        refine k_vv (rest := []) hx vX0_56 dX0_stageAfterClosing_19 (c_X0_passComma ho (m := 0)) n_104 L_104 rfl rfl rfl ⟨rfl, rfl⟩ ⟨by decide, by decide⟩ (fun M_19 p_19 => ?_)
        refine k_iconst hx dX0_stageAfterClosing_22 ?_
        refine k_ri hx hr dX0_stageAfterClosing_23 ?_
        refine ⟨p_19.2, ?_⟩
        unfold fcl
        simp only
        rw [if_pos (by omega)]; exact ⟨rfl, p_19.1⟩
theorem c_X0_stageAfter {g : GE} {l : Launch} {M : Mem} {os : List (Int × Int × Int)} (ho : OpR M os) (hs : ∀ e ∈ os, e.1 = 40 ∨ e.1 = 91 ∨ e.1 = 44) {sg c : Int} (hsg : 0 ≤ sg ∧ sg ≤ 3) (hc : 0 ≤ c ∧ c < 256) : Ci g l μX0_stageAfter [vR g 104, vI sg, vI c] M (fun z M' => FP M (fst sg os c) z M') := by
  refine Ci.of (by decide +kernel) rfl rfl (fun x hx hr => ?_)
  have h4 := ho.2.1
  have hcr : -1 ≤ crs c ∧ crs c < 12 := by unfold crs; split; omega; split <;> omega
  by_cases hfull : os.length < 4
  · refine k_iload_n hx dX0_stageAfter_0 2 rfl ?_
    refine k_sp (rest := []) (e := (crs c)) hx sX0_37 dX0_stageAfter_1 (c_X0_crossingOf (c := c) (by omega)) rfl rfl rfl ⟨rfl, rfl⟩ ⟨by decide, by decide⟩ ?_
    refine k_iconst hx dX0_stageAfter_4 ?_
    refine k_icmp_eq hx dX0_stageAfter_5 (by omega) (fun h_5 => ?_) (fun h_5 => ?_)
    · refine k_iload_n hx dX0_stageAfter_10 2 rfl ?_
      refine k_bipush hx dX0_stageAfter_11 (by decide +kernel) ?_
      refine k_icmp_eq hx dX0_stageAfter_13 (by omega) (fun h_13 => ?_) (fun h_13 => ?_)
      · refine k_aload_n hx dX0_stageAfter_22 0 rfl ?_
        refine k_iload_n hx dX0_stageAfter_23 2 rfl ?_
        refine k_iconst hx dX0_stageAfter_24 ?_
        refine k_vi (rest := []) hx vX0_41 dX0_stageAfter_25 (c_X0_open ho (hfull) (s := c) (a := 0)) n_104 L_104 rfl rfl rfl ⟨rfl, rfl⟩ ⟨by decide, by decide⟩ (fun z_25 M_25 p_25 => ?_)
        obtain ⟨rfl, q1, q2⟩ := p_25
        refine k_ifeq hx dX0_stageAfter_28 (by omega) (fun h_28 => absurd h_28 (by omega)) (fun h_28 => ?_)
        refine k_iconst hx dX0_stageAfter_31 ?_
        refine k_goto hx dX0_stageAfter_32 ?_
        refine k_ri hx hr dX0_stageAfter_36 ?_
        refine ⟨q2, ?_⟩
        unfold fst
        rw [if_neg (by omega), if_pos (by omega), if_pos hfull]; exact ⟨rfl, q1⟩
      · refine k_iload_n hx dX0_stageAfter_16 2 rfl ?_
        refine k_bipush hx dX0_stageAfter_17 (by decide +kernel) ?_
        refine k_icmp_ne hx dX0_stageAfter_19 (by omega) (fun h_19 => ?_) (fun h_19 => ?_)
        · refine k_iload_n hx dX0_stageAfter_37 1 rfl ?_
          refine k_ifne hx dX0_stageAfter_38 (by omega) (fun h_38 => ?_) (fun h_38 => ?_)
          · refine k_iload_n hx dX0_stageAfter_43 2 rfl ?_
            refine k_bipush hx dX0_stageAfter_44 (by decide +kernel) ?_
            refine k_icmp_ne hx dX0_stageAfter_46 (by omega) (fun h_46 => ?_) (fun h_46 => ?_)
            · refine k_iload_n hx dX0_stageAfter_60 2 rfl ?_
              refine k_sp (rest := []) (e := (b2i (decide (50 ≤ c ∧ c ≤ 57)))) hx sX0_45 dX0_stageAfter_61 (c_X0_isTimes (c := c) (by omega)) rfl rfl rfl ⟨rfl, rfl⟩ ⟨by decide, by decide⟩ ?_
              refine k_beq hx dX0_stageAfter_64 (fun h_64 => ?_) (fun h_64 => ?_)
              · refine k_aload_n hx dX0_stageAfter_78 0 rfl ?_
                refine k_iload_n hx dX0_stageAfter_79 2 rfl ?_
                refine k_vi (rest := []) hx vX0_49 dX0_stageAfter_80 (c_X0_stageAfterClosing ho hs hc) n_104 L_104 rfl rfl rfl ⟨rfl, rfl⟩ ⟨by decide, by decide⟩ (fun z_80 M_80 p_80 => ?_)
                refine k_ri hx hr dX0_stageAfter_83 ?_
                refine ⟨p_80.1, ?_⟩
                have e : fst sg os c = fcl os c := by unfold fst; rw [if_neg (by omega), if_neg (by omega), if_neg (by omega), if_neg (by omega), if_neg (by omega)]
                rw [e]; exact p_80.2
              · refine k_iload_n hx dX0_stageAfter_67 1 rfl ?_
                refine k_iconst hx dX0_stageAfter_68 ?_
                refine k_icmp_ne hx dX0_stageAfter_69 (by omega) (fun h_69 => ?_) (fun h_69 => ?_)
                · refine k_iconst hx dX0_stageAfter_76 ?_
                  refine k_ri hx hr dX0_stageAfter_77 ?_
                  refine ⟨OffP.rf, ?_⟩
                  unfold fst
                  rw [if_neg (by omega), if_neg (by omega), if_neg (by omega), if_neg (by omega), if_pos (by omega), if_neg (by omega)]; exact ⟨rfl, ho⟩
                · refine k_iconst hx dX0_stageAfter_72 ?_
                  refine k_goto hx dX0_stageAfter_73 ?_
                  refine k_ri hx hr dX0_stageAfter_77 ?_
                  refine ⟨OffP.rf, ?_⟩
                  unfold fst
                  rw [if_neg (by omega), if_neg (by omega), if_neg (by omega), if_neg (by omega), if_pos (by omega), if_pos (by omega)]
            · refine k_iload_n hx dX0_stageAfter_49 1 rfl ?_
              refine k_iconst hx dX0_stageAfter_50 ?_
              refine k_icmp_ne hx dX0_stageAfter_51 (by omega) (fun h_51 => ?_) (fun h_51 => ?_)
              · refine k_iconst hx dX0_stageAfter_58 ?_
                refine k_ri hx hr dX0_stageAfter_59 ?_
                refine ⟨OffP.rf, ?_⟩
                unfold fst
                rw [if_neg (by omega), if_neg (by omega), if_neg (by omega), if_pos (by omega), if_neg (by omega)]
              · refine k_iconst hx dX0_stageAfter_54 ?_
                refine k_goto hx dX0_stageAfter_55 ?_
                refine k_ri hx hr dX0_stageAfter_59 ?_
                refine ⟨OffP.rf, ?_⟩
                unfold fst
                rw [if_neg (by omega), if_neg (by omega), if_neg (by omega), if_pos (by omega), if_pos (by omega)]; exact ⟨rfl, ho⟩
          · refine k_iconst hx dX0_stageAfter_41 ?_
            refine k_ri hx hr dX0_stageAfter_42 ?_
            refine ⟨OffP.rf, ?_⟩
            unfold fst
            rw [if_neg (by omega), if_neg (by omega), if_pos (by omega)]
        · refine k_aload_n hx dX0_stageAfter_22 0 rfl ?_
          refine k_iload_n hx dX0_stageAfter_23 2 rfl ?_
          refine k_iconst hx dX0_stageAfter_24 ?_
          refine k_vi (rest := []) hx vX0_41 dX0_stageAfter_25 (c_X0_open ho (hfull) (s := c) (a := 0)) n_104 L_104 rfl rfl rfl ⟨rfl, rfl⟩ ⟨by decide, by decide⟩ (fun z_25 M_25 p_25 => ?_)
          obtain ⟨rfl, q1, q2⟩ := p_25
          refine k_ifeq hx dX0_stageAfter_28 (by omega) (fun h_28 => absurd h_28 (by omega)) (fun h_28 => ?_)
          refine k_iconst hx dX0_stageAfter_31 ?_
          refine k_goto hx dX0_stageAfter_32 ?_
          refine k_ri hx hr dX0_stageAfter_36 ?_
          refine ⟨q2, ?_⟩
          unfold fst
          rw [if_neg (by omega), if_pos (by omega), if_pos hfull]; exact ⟨rfl, q1⟩
    · refine k_iconst hx dX0_stageAfter_8 ?_
      refine k_ri hx hr dX0_stageAfter_9 ?_
      refine ⟨OffP.rf, ?_⟩
      unfold fst
      rw [if_pos (by omega)]; exact ⟨rfl, ho⟩
  · refine k_iload_n hx dX0_stageAfter_0 2 rfl ?_
    refine k_sp (rest := []) (e := (crs c)) hx sX0_37 dX0_stageAfter_1 (c_X0_crossingOf (c := c) (by omega)) rfl rfl rfl ⟨rfl, rfl⟩ ⟨by decide, by decide⟩ ?_
    refine k_iconst hx dX0_stageAfter_4 ?_
    refine k_icmp_eq hx dX0_stageAfter_5 (by omega) (fun h_5 => ?_) (fun h_5 => ?_)
    · refine k_iload_n hx dX0_stageAfter_10 2 rfl ?_
      refine k_bipush hx dX0_stageAfter_11 (by decide +kernel) ?_
      refine k_icmp_eq hx dX0_stageAfter_13 (by omega) (fun h_13 => ?_) (fun h_13 => ?_)
      · refine k_aload_n hx dX0_stageAfter_22 0 rfl ?_
        refine k_iload_n hx dX0_stageAfter_23 2 rfl ?_
        refine k_iconst hx dX0_stageAfter_24 ?_
        refine k_vi (rest := []) hx vX0_41 dX0_stageAfter_25 (c_X0_openF ho (by omega) (s := c) (a := 0)) n_104 L_104 rfl rfl rfl ⟨rfl, rfl⟩ ⟨by decide, by decide⟩ (fun z_25 M_25 p_25 => ?_)
        obtain ⟨rfl, rfl⟩ := p_25
        refine k_ifeq hx dX0_stageAfter_28 (by omega) (fun h_28 => ?_) (fun h_28 => absurd h_28 (by omega))
        refine k_iconst hx dX0_stageAfter_35 ?_
        refine k_ri hx hr dX0_stageAfter_36 ?_
        refine ⟨OffP.rf, ?_⟩
        unfold fst
        rw [if_neg (by omega), if_pos (by omega), if_neg hfull]
      · refine k_iload_n hx dX0_stageAfter_16 2 rfl ?_
        refine k_bipush hx dX0_stageAfter_17 (by decide +kernel) ?_
        refine k_icmp_ne hx dX0_stageAfter_19 (by omega) (fun h_19 => ?_) (fun h_19 => ?_)
        · refine k_iload_n hx dX0_stageAfter_37 1 rfl ?_
          refine k_ifne hx dX0_stageAfter_38 (by omega) (fun h_38 => ?_) (fun h_38 => ?_)
          · refine k_iload_n hx dX0_stageAfter_43 2 rfl ?_
            refine k_bipush hx dX0_stageAfter_44 (by decide +kernel) ?_
            refine k_icmp_ne hx dX0_stageAfter_46 (by omega) (fun h_46 => ?_) (fun h_46 => ?_)
            · refine k_iload_n hx dX0_stageAfter_60 2 rfl ?_
              refine k_sp (rest := []) (e := (b2i (decide (50 ≤ c ∧ c ≤ 57)))) hx sX0_45 dX0_stageAfter_61 (c_X0_isTimes (c := c) (by omega)) rfl rfl rfl ⟨rfl, rfl⟩ ⟨by decide, by decide⟩ ?_
              refine k_beq hx dX0_stageAfter_64 (fun h_64 => ?_) (fun h_64 => ?_)
              · refine k_aload_n hx dX0_stageAfter_78 0 rfl ?_
                refine k_iload_n hx dX0_stageAfter_79 2 rfl ?_
                refine k_vi (rest := []) hx vX0_49 dX0_stageAfter_80 (c_X0_stageAfterClosing ho hs hc) n_104 L_104 rfl rfl rfl ⟨rfl, rfl⟩ ⟨by decide, by decide⟩ (fun z_80 M_80 p_80 => ?_)
                refine k_ri hx hr dX0_stageAfter_83 ?_
                refine ⟨p_80.1, ?_⟩
                have e : fst sg os c = fcl os c := by unfold fst; rw [if_neg (by omega), if_neg (by omega), if_neg (by omega), if_neg (by omega), if_neg (by omega)]
                rw [e]; exact p_80.2
              · refine k_iload_n hx dX0_stageAfter_67 1 rfl ?_
                refine k_iconst hx dX0_stageAfter_68 ?_
                refine k_icmp_ne hx dX0_stageAfter_69 (by omega) (fun h_69 => ?_) (fun h_69 => ?_)
                · refine k_iconst hx dX0_stageAfter_76 ?_
                  refine k_ri hx hr dX0_stageAfter_77 ?_
                  refine ⟨OffP.rf, ?_⟩
                  unfold fst
                  rw [if_neg (by omega), if_neg (by omega), if_neg (by omega), if_neg (by omega), if_pos (by omega), if_neg (by omega)]; exact ⟨rfl, ho⟩
                · refine k_iconst hx dX0_stageAfter_72 ?_
                  refine k_goto hx dX0_stageAfter_73 ?_
                  refine k_ri hx hr dX0_stageAfter_77 ?_
                  refine ⟨OffP.rf, ?_⟩
                  unfold fst
                  rw [if_neg (by omega), if_neg (by omega), if_neg (by omega), if_neg (by omega), if_pos (by omega), if_pos (by omega)]
            · refine k_iload_n hx dX0_stageAfter_49 1 rfl ?_
              refine k_iconst hx dX0_stageAfter_50 ?_
              refine k_icmp_ne hx dX0_stageAfter_51 (by omega) (fun h_51 => ?_) (fun h_51 => ?_)
              · refine k_iconst hx dX0_stageAfter_58 ?_
                refine k_ri hx hr dX0_stageAfter_59 ?_
                refine ⟨OffP.rf, ?_⟩
                unfold fst
                rw [if_neg (by omega), if_neg (by omega), if_neg (by omega), if_pos (by omega), if_neg (by omega)]
              · refine k_iconst hx dX0_stageAfter_54 ?_
                refine k_goto hx dX0_stageAfter_55 ?_
                refine k_ri hx hr dX0_stageAfter_59 ?_
                refine ⟨OffP.rf, ?_⟩
                unfold fst
                rw [if_neg (by omega), if_neg (by omega), if_neg (by omega), if_pos (by omega), if_pos (by omega)]; exact ⟨rfl, ho⟩
          · refine k_iconst hx dX0_stageAfter_41 ?_
            refine k_ri hx hr dX0_stageAfter_42 ?_
            refine ⟨OffP.rf, ?_⟩
            unfold fst
            rw [if_neg (by omega), if_neg (by omega), if_pos (by omega)]
        · refine k_aload_n hx dX0_stageAfter_22 0 rfl ?_
          refine k_iload_n hx dX0_stageAfter_23 2 rfl ?_
          refine k_iconst hx dX0_stageAfter_24 ?_
          refine k_vi (rest := []) hx vX0_41 dX0_stageAfter_25 (c_X0_openF ho (by omega) (s := c) (a := 0)) n_104 L_104 rfl rfl rfl ⟨rfl, rfl⟩ ⟨by decide, by decide⟩ (fun z_25 M_25 p_25 => ?_)
          obtain ⟨rfl, rfl⟩ := p_25
          refine k_ifeq hx dX0_stageAfter_28 (by omega) (fun h_28 => ?_) (fun h_28 => absurd h_28 (by omega))
          refine k_iconst hx dX0_stageAfter_35 ?_
          refine k_ri hx hr dX0_stageAfter_36 ?_
          refine ⟨OffP.rf, ?_⟩
          unfold fst
          rw [if_neg (by omega), if_pos (by omega), if_neg hfull]
    · refine k_iconst hx dX0_stageAfter_8 ?_
      refine k_ri hx hr dX0_stageAfter_9 ?_
      refine ⟨OffP.rf, ?_⟩
      unfold fst
      rw [if_pos (by omega)]; exact ⟨rfl, ho⟩
/-- the fault of a text, from the place n on -/
def fgo : List Int → Int → Int → List (Int × Int × Int) → Int
  | [], n, sg, os => if sg = 0 ∨ os ≠ [] then n else -6
  | c :: cs, n, sg, os => match fst sg os c with
    | none => n
    | some q => fgo cs (n + 1) q.1 q.2
def faultT (w : List Int) : Int := fgo w 0 0 []
/-- the pad holds the text w -/
def Pw (M : Mem) (w : List Int) : Prop := M 104 1 = w.length ∧ w.length ≤ 60 ∧ (∀ k : Nat, k < w.length → M 105 k = w.getD k 0) ∧ ∀ c ∈ w, 33 ≤ c ∧ c ≤ 126
theorem Pw.off {M M' : Mem} {w : List Int} (h : Pw M w) (ho : OffP M M') : Pw M' w := by
  unfold Pw; rw [ho.2 1 (by omega), ho.1 105 (by omega) (by omega) (by omega) (by omega)]; exact h
theorem fst_ok {sg : Int} {os : List (Int × Int × Int)} {c : Int} {q : Int × List (Int × Int × Int)} (hs : ∀ e ∈ os, e.1 = 40 ∨ e.1 = 91 ∨ e.1 = 44) (h : fst sg os c = some q) : (0 ≤ q.1 ∧ q.1 ≤ 3) ∧ ∀ e ∈ q.2, e.1 = 40 ∨ e.1 = 91 ∨ e.1 = 44 := by
  unfold fst at h
  split at h
  · cases h; exact ⟨by omega, hs⟩
  · split at h
    · rename_i hc
      split at h
      · cases h
        refine ⟨by omega, fun e he => ?_⟩
        rcases List.mem_cons.mp he with rfl | he
        · rcases hc with rfl | rfl
          · exact Or.inl rfl
          · exact Or.inr (Or.inl rfl)
        · exact hs e he
      · cases h
    · split at h
      · cases h
      · split at h
        · split at h
          · cases h; exact ⟨by omega, hs⟩
          · cases h
        · split at h
          · split at h
            · cases h
            · cases h; exact ⟨by omega, hs⟩
          · unfold fcl at h
            split at h
            · cases h
            · rename_i e t _
              split at h
              · cases h
                refine ⟨by omega, fun d hd => ?_⟩
                rcases List.mem_cons.mp hd with rfl | hd
                · exact Or.inr (Or.inr rfl)
                · exact hs d (List.mem_cons_of_mem _ hd)
              · split at h
                · cases h; exact ⟨by omega, fun d hd => hs d (List.mem_cons_of_mem _ hd)⟩
                · cases h

theorem c_X0_findFault {g : GE} {l : Launch} {M : Mem} {w : List Int} (hw : Pw M w) : Ci g l μX0_findFault [vR g 104] M (fun z M' => z = faultT w ∧ OffP M M') := by
  refine Ci.of (by decide +kernel) rfl rfl (fun x hx hr => ?_)
  have loop : ∀ (f : Nat), ∀ (k : Nat) (sg z : Int) (os : List (Int × Int × Int)) (M' : Mem), z = k → k ≤ w.length → w.length - k < f → (0 ≤ sg ∧ sg ≤ 3) → (∀ e ∈ os, e.1 = 40 ∨ e.1 = 91 ∨ e.1 = 44) → OpR M' os → fgo (w.drop k) k sg os = faultT w → OffP M M' → K x g 0 0 LAY NN M' 9 [(0, vR g 104), (1, vI sg), (2, vI z)] [] := by
    intro f
    induction f with
    | zero => intro k sg z os M' hz hk hf hsg hs hop hgo ho; omega
    | succ f ih =>
      intro k sg z os M' hz hk hf hsg hs hop hgo ho
      have hw' := hw.off ho
      have hwl := hw'.1
      have hw60 := hw'.2.1
      have h45 := hop.1
      have h44 := hop.2.1
      refine k_iload_n hx dX0_findFault_9 2 rfl ?_
      refine k_aload_n hx dX0_findFault_10 0 rfl ?_
      refine k_get (v := vI w.length) hx fX0_15 dX0_findFault_11 n_104 L_104 (congrArg vI (show M' 104 1 = w.length from hwl)) ?_
      refine k_icmp_ge hx dX0_findFault_14 (by omega) (fun h_14 => ?_) (fun h_14 => ?_)
      · have hdn : w.drop k = [] := List.drop_eq_nil_of_le (by omega)
        rw [hdn, fgo] at hgo
        refine k_iload_n hx dX0_findFault_42 1 rfl ?_
        refine k_ifeq hx dX0_findFault_43 (by omega) (fun h_43 => ?_) (fun h_43 => ?_)
        · refine k_aload_n hx dX0_findFault_53 0 rfl ?_
          refine k_get (v := vI w.length) hx fX0_15 dX0_findFault_54 n_104 L_104 (congrArg vI (show M' 104 1 = w.length from hwl)) ?_
          refine k_goto hx dX0_findFault_57 ?_
          refine k_ri hx hr dX0_findFault_62 ?_
          refine ⟨?_, ho⟩
          rw [← hgo, if_pos ?_]
          · omega
          · first
            | exact Or.inl h_43
            | exact Or.inr (fun h => h_50 (by rw [h]; simp))
        · refine k_aload_n hx dX0_findFault_46 0 rfl ?_
          refine k_get (v := vI os.length) hx fX0_28 dX0_findFault_47 n_104 L_104 (congrArg vI (show M' 104 5 = os.length from h45)) ?_
          refine k_ifle hx dX0_findFault_50 (by omega) (fun h_50 => ?_) (fun h_50 => ?_)
          · refine k_bipush hx dX0_findFault_60 (by decide +kernel) ?_
            refine k_ri hx hr dX0_findFault_62 ?_
            refine ⟨?_, ho⟩
            rw [← hgo, if_neg ?_]
            intro h
            rcases h with h | h
            · exact h_43 h
            · exact h (List.length_eq_zero_iff.mp (by omega))
          · refine k_aload_n hx dX0_findFault_53 0 rfl ?_
            refine k_get (v := vI w.length) hx fX0_15 dX0_findFault_54 n_104 L_104 (congrArg vI (show M' 104 1 = w.length from hwl)) ?_
            refine k_goto hx dX0_findFault_57 ?_
            refine k_ri hx hr dX0_findFault_62 ?_
            refine ⟨?_, ho⟩
            rw [← hgo, if_pos ?_]
            · omega
            · first
              | exact Or.inl h_43
              | exact Or.inr (fun h => h_50 (by rw [h]; simp))
      · have hkl : k < w.length := by omega
        have e1 : M' 105 z = w.getD k 0 := by rw [hz]; exact hw'.2.2.1 k hkl
        have hcm : w.getD k 0 ∈ w := by rw [List.getD_eq_getElem?_getD, List.getElem?_eq_getElem hkl]; exact List.getElem_mem hkl
        have hcr := hw'.2.2.2 _ hcm
        have hdr : w.drop k = w.getD k 0 :: w.drop (k + 1) := by rw [List.drop_eq_getElem_cons hkl, List.getD_eq_getElem?_getD, List.getElem?_eq_getElem hkl]; rfl
        rw [hdr, fgo] at hgo
        refine k_aload_n hx dX0_findFault_17 0 rfl ?_
        refine k_iload_n hx dX0_findFault_18 1 rfl ?_
        refine k_aload_n hx dX0_findFault_19 0 rfl ?_
        refine k_get (v := vR g 105) hx fX0_9 dX0_findFault_20 n_104 L_104 rfl ?_
        refine k_iload_n hx dX0_findFault_23 2 rfl ?_
        refine k_iald (v := (w.getD k 0)) hx dX0_findFault_24 n_105 L_105 (by omega) (by decide) (e1) ?_
        refine k_vi (rest := []) hx vX0_33 dX0_findFault_25 (c_X0_stageAfter hop hs hsg (c := w.getD k 0) (by omega)) n_104 L_104 rfl rfl rfl ⟨rfl, rfl⟩ ⟨by decide, by decide⟩ (fun z_25 M_25 p_25 => ?_)
        obtain ⟨q1, q2⟩ := p_25
        refine k_istore_n (ls' := [(0, vR g 104), (1, vI z_25), (2, vI z)]) hx dX0_findFault_28 rfl rfl (by decide) ?_
        refine k_iload_n hx dX0_findFault_29 1 rfl ?_
        refine k_iconst hx dX0_findFault_30 ?_
        refine k_icmp_ne hx dX0_findFault_31 (by
            cases hq : fst sg os (w.getD k 0) with
            | none => rw [hq] at q2; simp only at q2; omega
            | some q => rw [hq] at q2; simp only at q2; have := (fst_ok hs hq).1; omega) (fun h_31 => ?_) (fun h_31 => ?_)
        · refine k_iinc (ls' := [(0, vR g 104), (1, vI z_25), (2, vI (z + 1))]) hx dX0_findFault_36 2 rfl rfl rfl (by decide) ?_
          refine k_goto hx dX0_findFault_39 ?_
          cases hq : fst sg os (w.getD k 0) with
          | none => rw [hq] at q2; simp only at q2; exact absurd q2 h_31
          | some q =>
            rw [hq] at q2 hgo
            simp only at q2 hgo
            have hok := fst_ok hs hq
            rw [q2.1]
            exact ih (k + 1) q.1 (z + 1) q.2 M_25 (by omega) (by omega) (by omega) hok.1 hok.2 q2.2 (by rw [← hgo]; rfl) (ho.tr q1)
        · refine k_iload_n hx dX0_findFault_34 2 rfl ?_
          refine k_ri hx hr dX0_findFault_35 ?_
          refine ⟨?_, ho.tr q1⟩
          cases hq : fst sg os (w.getD k 0) with
          | none => rw [hq] at hgo; simp only at hgo; rw [← hgo]; exact hz
          | some q => rw [hq] at q2; simp only at q2; have := (fst_ok hs hq).1; omega
  refine k_aload_n hx dX0_findFault_0 0 rfl ?_
  refine k_iconst hx dX0_findFault_1 ?_
  refine k_putI (kz := 5) hx fX0_28 dX0_findFault_2 n_104 L_104 rfl rfl (fun M_2 hM_2 => ?_)
  refine k_iconst hx dX0_findFault_5 ?_
  refine k_istore_n (ls' := [(0, vR g 104), (1, vI 0)]) hx dX0_findFault_6 rfl rfl (by decide) ?_
  refine k_iconst hx dX0_findFault_7 ?_
  refine k_istore_n (ls' := [(0, vR g 104), (1, vI 0), (2, vI 0)]) hx dX0_findFault_8 rfl rfl (by decide) ?_
  exact loop (w.length + 1) 0 0 0 [] M_2 rfl (by omega) (by omega) (by omega) (fun e he => by cases he) ⟨by rw [hM_2, up_s]; rfl, by simp, fun j e hj => by simp at hj⟩ rfl ⟨fun a h1 _ _ _ => by rw [hM_2, up_i h1], fun k hk => by rw [hM_2, up_k hk]⟩

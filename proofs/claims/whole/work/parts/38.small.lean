/-! the reference's own methods: small questions -/
theorem c_X6_crossing {g : GE} {l : Launch} {M : Mem} {σ : Sg} (hI : InvM M σ) {z : Int} (hzr : -2147483648 ≤ z ∧ z < 2147483648) {k : Int} (hkr : -2147483648 ≤ k ∧ k < 2147483648) : Ci g l μX6_crossing [vR g 120, vI z, vI k] M (PM M (aQ σ (qRope z (at0 (rope σ.1 z) k)))) := by
  refine Ci.of (by decide +kernel) rfl rfl (fun x hx hr => ?_)
  refine k_iload_n hx dX6_crossing_0 1 rfl ?_
  refine k_sp (rest := []) (e := (b2i (decide (0 ≤ z ∧ z ≤ 3)))) hx sX6_102 dX6_crossing_1 (c_X6_isRope (z := z) (by omega)) rfl rfl rfl ⟨rfl, rfl⟩ ⟨by decide, by decide⟩ ?_
  refine k_beq hx dX6_crossing_4 (fun h_4 => ?_) (fun h_4 => ?_)
  · refine k_iconst hx dX6_crossing_31 ?_
    refine k_ri hx hr dX6_crossing_32 ?_
    exact ⟨by unfold aQ qRope; first | rw [if_neg (by omega)] | rw [if_pos (by omega), at0_out (by omega)], hI, fun _ _ => rfl⟩
  · have hz4 : 0 ≤ z ∧ z < 4 := by omega
    have hrl := (hI.1.1.rope hz4).2
    refine k_iload_n hx dX6_crossing_7 2 rfl ?_
    refine k_iconst hx dX6_crossing_8 ?_
    refine k_aload_n hx dX6_crossing_9 0 rfl ?_
    refine k_iload_n hx dX6_crossing_10 1 rfl ?_
    refine k_vp (rest := [vI 0, vI k]) (e := ((rope σ.1 z).length)) hx vX6_65 dX6_crossing_11 (c_X6_many hI.1 hz4) n_120 L_120 rfl rfl rfl ⟨rfl, rfl⟩ ⟨by decide, by decide⟩ ?_
    refine k_iconst hx dX6_crossing_14 ?_
    refine k_isub hx dX6_crossing_15 ?_
    refine k_sp (rest := []) (e := (b2i (decide (0 ≤ k ∧ k ≤ (((rope σ.1 z).length) - 1))))) hx sX6_61 dX6_crossing_16 (c_X6_in (v := k) (a := 0) (b := (((rope σ.1 z).length) - 1)) (by omega)) rfl rfl rfl ⟨rfl, rfl⟩ ⟨by decide, by decide⟩ ?_
    refine k_beq hx dX6_crossing_19 (fun h_19 => ?_) (fun h_19 => ?_)
    · refine k_iconst hx dX6_crossing_31 ?_
      refine k_ri hx hr dX6_crossing_32 ?_
      exact ⟨by unfold aQ qRope; first | rw [if_neg (by omega)] | rw [if_pos (by omega), at0_out (by omega)], hI, fun _ _ => rfl⟩
    · refine k_aload_n hx dX6_crossing_22 0 rfl ?_
      refine k_iload_n hx dX6_crossing_23 1 rfl ?_
      refine k_iload_n hx dX6_crossing_24 2 rfl ?_
      refine k_vp (rest := []) (e := (at0 (rope σ.1 z) k)) hx vX6_69 dX6_crossing_25 (c_X6_at hI.1 hz4 (k := k) (by omega)) n_120 L_120 rfl rfl rfl ⟨rfl, rfl⟩ ⟨by decide, by decide⟩ ?_
      refine k_goto hx dX6_crossing_28 ?_
      refine k_ri hx hr dX6_crossing_32 ?_
      exact ⟨by unfold aQ qRope; rw [if_pos hz4], hI, fun _ _ => rfl⟩
theorem c_X6_least {g : GE} {l : Launch} {M : Mem} {σ : Sg} (hI : InvM M σ) {z : Int} (hzr : -2147483648 ≤ z ∧ z < 2147483648) {k : Int} (hkr : -2147483648 ≤ k ∧ k < 2147483648) : Ci g l μX6_least [vR g 120, vI z, vI k] M (PM M (aQ σ (qRope z (at0 (lst (rope σ.1 z)) k)))) := by
  refine Ci.of (by decide +kernel) rfl rfl (fun x hx hr => ?_)
  refine k_iload_n hx dX6_least_0 1 rfl ?_
  refine k_sp (rest := []) (e := (b2i (decide (0 ≤ z ∧ z ≤ 3)))) hx sX6_102 dX6_least_1 (c_X6_isRope (z := z) (by omega)) rfl rfl rfl ⟨rfl, rfl⟩ ⟨by decide, by decide⟩ ?_
  refine k_bne hx dX6_least_4 (fun h_4 => ?_) (fun h_4 => ?_)
  · have hz4 : 0 ≤ z ∧ z < 4 := by omega
    have hrl := (hI.1.1.rope hz4).2
    have hll := lst_len (rope σ.1 z)
    refine k_aload_n hx dX6_least_9 0 rfl ?_
    refine k_iload_n hx dX6_least_10 1 rfl ?_
    refine k_iconst hx dX6_least_11 ?_
    refine k_vv (rest := []) hx vX6_149 dX6_least_12 (c_X6_layForm hI.1 hz4 (t := false)) n_120 L_120 rfl rfl rfl ⟨rfl, rfl⟩ ⟨by decide, by decide⟩ (fun M_12 p_12 => ?_)
    obtain ⟨q1, q2⟩ := p_12
    have q1 : Fo M_12 10 127 (lst (rope σ.1 z)) := q1
    refine k_iload_n hx dX6_least_15 2 rfl ?_
    refine k_iconst hx dX6_least_16 ?_
    refine k_aload_n hx dX6_least_17 0 rfl ?_
    refine k_get (v := vI ((lst (rope σ.1 z)).length)) hx fX6_93 dX6_least_18 n_120 L_120 (congrArg vI (show M_12 120 10 = ((lst (rope σ.1 z)).length) from q1.1)) ?_
    refine k_iconst hx dX6_least_21 ?_
    refine k_isub hx dX6_least_22 ?_
    refine k_sp (rest := []) (e := (b2i (decide (0 ≤ k ∧ k ≤ (((lst (rope σ.1 z)).length) - 1))))) hx sX6_61 dX6_least_23 (c_X6_in (v := k) (a := 0) (b := (((lst (rope σ.1 z)).length) - 1)) (by omega)) rfl rfl rfl ⟨rfl, rfl⟩ ⟨by decide, by decide⟩ ?_
    refine k_beq hx dX6_least_26 (fun h_26 => ?_) (fun h_26 => ?_)
    · refine k_iconst hx dX6_least_38 ?_
      refine k_ri hx hr dX6_least_39 ?_
      exact ⟨by unfold aQ qRope; rw [if_pos hz4, at0_out (by omega)], hI.q q2.q, q2.q.lo⟩
    · refine k_aload_n hx dX6_least_29 0 rfl ?_
      refine k_get (v := vR g 127) hx fX6_29 dX6_least_30 n_120 L_120 rfl ?_
      refine k_iload_n hx dX6_least_33 2 rfl ?_
      refine k_iald (v := (at0 (lst (rope σ.1 z)) k)) hx dX6_least_34 n_127 L_127 (by omega) (by decide) (q1.at (by omega) (by omega)) ?_
      refine k_goto hx dX6_least_35 ?_
      refine k_ri hx hr dX6_least_39 ?_
      exact ⟨by unfold aQ qRope; rw [if_pos hz4], hI.q q2.q, q2.q.lo⟩
  · refine k_iconst hx dX6_least_7 ?_
    refine k_ri hx hr dX6_least_8 ?_
    exact ⟨by unfold aQ qRope; rw [if_neg (by omega)], hI, fun _ _ => rfl⟩
theorem c_X6_winds {g : GE} {l : Launch} {M : Mem} {σ : Sg} (hI : InvM M σ) {z : Int} (hzr : -2147483648 ≤ z ∧ z < 2147483648) {p : Int} (hpr : -2147483648 ≤ p ∧ p < 2147483648) : Ci g l μX6_winds [vR g 120, vI z, vI p] M (PM M (aQ σ (if (0 ≤ z ∧ z < 4) ∧ (0 ≤ p ∧ p < 6) then 1000 + wnd (rope σ.1 z) p else -1))) := by
  refine Ci.of (by decide +kernel) rfl rfl (fun x hx hr => ?_)
  refine k_iload_n hx dX6_winds_0 1 rfl ?_
  refine k_sp (rest := []) (e := (b2i (decide (0 ≤ z ∧ z ≤ 3)))) hx sX6_102 dX6_winds_1 (c_X6_isRope (z := z) (by omega)) rfl rfl rfl ⟨rfl, rfl⟩ ⟨by decide, by decide⟩ ?_
  refine k_beq hx dX6_winds_4 (fun h_4 => ?_) (fun h_4 => ?_)
  · refine k_iconst hx dX6_winds_16 ?_
    refine k_ri hx hr dX6_winds_17 ?_
    exact ⟨by unfold aQ; rw [if_neg (by omega)], hI, fun _ _ => rfl⟩
  · refine k_iload_n hx dX6_winds_7 2 rfl ?_
    refine k_iconst hx dX6_winds_8 ?_
    refine k_iconst hx dX6_winds_9 ?_
    refine k_sp (rest := []) (e := (b2i (decide (0 ≤ p ∧ p ≤ 5)))) hx sX6_61 dX6_winds_10 (c_X6_in (v := p) (a := 0) (b := 5) (by omega)) rfl rfl rfl ⟨rfl, rfl⟩ ⟨by decide, by decide⟩ ?_
    refine k_bne hx dX6_winds_13 (fun h_13 => ?_) (fun h_13 => ?_)
    · have hz4 : 0 ≤ z ∧ z < 4 := by omega
      have hp6 : 0 ≤ p ∧ p < 6 := by omega
      have hrl := (hI.1.1.rope hz4).2
      have hop : op p = p + 6 := by unfold op; rw [if_pos (by omega)]
      refine k_sipush hx dX6_winds_18 (by decide +kernel) ?_
      refine k_istore_n (ls' := [(0, vR g 120), (1, vI z), (2, vI p), (3, vI 1000)]) hx dX6_winds_21 rfl rfl (by decide) ?_
      refine k_iconst hx dX6_winds_22 ?_
      refine k_istore (ls' := [(0, vR g 120), (1, vI z), (2, vI p), (3, vI 1000), (4, vI 0)]) hx dX6_winds_23 rfl rfl (by decide) ?_
      have loop : ∀ (f : Nat) (k : Nat) (y u : Int), u = k → k ≤ (rope σ.1 z).length → (rope σ.1 z).length - k < f → y = 1000 + wndF (rope σ.1 z) p k → K x g 0 0 LAY NN M 25 [(0, vR g 120), (1, vI z), (2, vI p), (3, vI y), (4, vI u)] [] := by
        intro f
        induction f with
        | zero => intro k y u hu hk hf hy; omega
        | succ f ih =>
          intro k y u hu hk hf hy
          have hwr := wndF_rg (rope σ.1 z) p k
          refine k_iload hx dX6_winds_25 4 rfl ?_
          refine k_aload_n hx dX6_winds_27 0 rfl ?_
          refine k_iload_n hx dX6_winds_28 1 rfl ?_
          refine k_vp (rest := [vI u]) (e := ((rope σ.1 z).length)) hx vX6_65 dX6_winds_29 (c_X6_many hI.1 hz4) n_120 L_120 rfl rfl rfl ⟨rfl, rfl⟩ ⟨by decide, by decide⟩ ?_
          refine k_icmp_ge hx dX6_winds_32 (by omega) (fun h_32 => ?_) (fun h_32 => ?_)
          · refine k_iload_n hx dX6_winds_78 3 rfl ?_
            refine k_ri hx hr dX6_winds_79 ?_
            exact ⟨by unfold aQ; rw [if_pos ⟨hz4, hp6⟩, hy, show k = (rope σ.1 z).length by omega]; rfl, hI, fun _ _ => rfl⟩
          · have hw2 : wndF (rope σ.1 z) p (k + 1) = wndF (rope σ.1 z) p k + (if at0 (rope σ.1 z) k = p then 1 else if at0 (rope σ.1 z) k = op p then -1 else 0) := rfl
            have hak : at0 (rope σ.1 z) u = at0 (rope σ.1 z) k := by rw [hu]
            have hcr := at0_in (hI.1.1.rope hz4).1 (z := u) (by omega) (by omega)
            refine k_iload_n hx dX6_winds_35 3 rfl ?_
            refine k_aload_n hx dX6_winds_36 0 rfl ?_
            refine k_iload_n hx dX6_winds_37 1 rfl ?_
            refine k_iload hx dX6_winds_38 4 rfl ?_
            refine k_vp (rest := [vI y]) (e := (at0 (rope σ.1 z) u)) hx vX6_69 dX6_winds_40 (c_X6_at hI.1 hz4 (k := u) (by omega)) n_120 L_120 rfl rfl rfl ⟨rfl, rfl⟩ ⟨by decide, by decide⟩ ?_
            refine k_iload_n hx dX6_winds_43 2 rfl ?_
            refine k_icmp_ne hx dX6_winds_44 (by omega) (fun h_44 => ?_) (fun h_44 => ?_)
            · refine k_aload_n hx dX6_winds_51 0 rfl ?_
              refine k_iload_n hx dX6_winds_52 1 rfl ?_
              refine k_iload hx dX6_winds_53 4 rfl ?_
              refine k_vp (rest := [vI y]) (e := (at0 (rope σ.1 z) u)) hx vX6_69 dX6_winds_55 (c_X6_at hI.1 hz4 (k := u) (by omega)) n_120 L_120 rfl rfl rfl ⟨rfl, rfl⟩ ⟨by decide, by decide⟩ ?_
              refine k_iload_n hx dX6_winds_58 2 rfl ?_
              refine k_bipush hx dX6_winds_59 (by decide +kernel) ?_
              refine k_iadd hx dX6_winds_61 ?_
              refine k_icmp_ne hx dX6_winds_62 (by omega) (fun h_62 => ?_) (fun h_62 => ?_)
              · refine k_iconst hx dX6_winds_69 ?_
                refine k_iadd hx dX6_winds_70 ?_
                refine k_istore_n (ls' := [(0, vR g 120), (1, vI z), (2, vI p), (3, vI (y + 0)), (4, vI u)]) hx dX6_winds_71 rfl rfl (by decide) ?_
                refine k_iinc (ls' := [(0, vR g 120), (1, vI z), (2, vI p), (3, vI (y + 0)), (4, vI (u + 1))]) hx dX6_winds_72 4 rfl rfl rfl (by decide) ?_
                refine k_goto hx dX6_winds_75 ?_
                rw [if_neg (by omega), if_neg (by omega)] at hw2
                exact ih (k + 1) _ (u + 1) (by omega) (by omega) (by omega) (by omega)
              · refine k_iconst hx dX6_winds_65 ?_
                refine k_goto hx dX6_winds_66 ?_
                refine k_iadd hx dX6_winds_70 ?_
                refine k_istore_n (ls' := [(0, vR g 120), (1, vI z), (2, vI p), (3, vI (y + (-1))), (4, vI u)]) hx dX6_winds_71 rfl rfl (by decide) ?_
                refine k_iinc (ls' := [(0, vR g 120), (1, vI z), (2, vI p), (3, vI (y + (-1))), (4, vI (u + 1))]) hx dX6_winds_72 4 rfl rfl rfl (by decide) ?_
                refine k_goto hx dX6_winds_75 ?_
                rw [if_neg (by omega), if_pos (by omega)] at hw2
                exact ih (k + 1) _ (u + 1) (by omega) (by omega) (by omega) (by omega)
            · refine k_iconst hx dX6_winds_47 ?_
              refine k_goto hx dX6_winds_48 ?_
              refine k_iadd hx dX6_winds_70 ?_
              refine k_istore_n (ls' := [(0, vR g 120), (1, vI z), (2, vI p), (3, vI (y + 1)), (4, vI u)]) hx dX6_winds_71 rfl rfl (by decide) ?_
              refine k_iinc (ls' := [(0, vR g 120), (1, vI z), (2, vI p), (3, vI (y + 1)), (4, vI (u + 1))]) hx dX6_winds_72 4 rfl rfl rfl (by decide) ?_
              refine k_goto hx dX6_winds_75 ?_
              rw [if_pos (by omega)] at hw2
              exact ih (k + 1) _ (u + 1) (by omega) (by omega) (by omega) (by omega)
      exact loop ((rope σ.1 z).length + 1) 0 1000 0 rfl (by omega) (by omega) rfl
    · refine k_iconst hx dX6_winds_16 ?_
      refine k_ri hx hr dX6_winds_17 ?_
      exact ⟨by unfold aQ; rw [if_neg (by omega)], hI, fun _ _ => rfl⟩
theorem c_X6_count {g : GE} {l : Launch} {M : Mem} {σ : Sg} (hI : InvM M σ) {k : Int} (hkr : -2147483648 ≤ k ∧ k < 2147483648) : Ci g l μX6_count [vR g 120, vI k] M (PM M (aQ σ (qCount σ k))) := by
  refine Ci.of (by decide +kernel) rfl rfl (fun x hx hr => ?_)
  refine k_iload_n hx dX6_count_0 1 rfl ?_
  refine k_iconst hx dX6_count_1 ?_
  refine k_iconst hx dX6_count_2 ?_
  refine k_sp (rest := []) (e := (b2i (decide (0 ≤ k ∧ k ≤ 5)))) hx sX6_61 dX6_count_3 (c_X6_in (v := k) (a := 0) (b := 5) (by omega)) rfl rfl rfl ⟨rfl, rfl⟩ ⟨by decide, by decide⟩ ?_
  refine k_beq hx dX6_count_6 (fun h_6 => ?_) (fun h_6 => ?_)
  · refine k_iload_n hx dX6_count_16 1 rfl ?_
    refine k_bipush hx dX6_count_17 (by decide +kernel) ?_
    refine k_icmp_ne hx dX6_count_19 (by omega) (fun h_19 => ?_) (fun h_19 => ?_)
    · refine k_iload_n hx dX6_count_29 1 rfl ?_
      refine k_bipush hx dX6_count_30 (by decide +kernel) ?_
      refine k_icmp_ne hx dX6_count_32 (by omega) (fun h_32 => ?_) (fun h_32 => ?_)
      · refine k_iload_n hx dX6_count_42 1 rfl ?_
        refine k_bipush hx dX6_count_43 (by decide +kernel) ?_
        refine k_icmp_ne hx dX6_count_45 (by omega) (fun h_45 => ?_) (fun h_45 => ?_)
        · refine k_bipush hx dX6_count_55 (by decide +kernel) ?_
          refine k_ri hx hr dX6_count_57 ?_
          exact ⟨by unfold aQ qCount; rw [if_neg (by omega), if_neg (by omega), if_neg (by omega), if_neg (by omega)], hI, fun _ _ => rfl⟩
        · refine k_aload_n hx dX6_count_48 0 rfl ?_
          refine k_get (v := vI σ.2.1.length) hx fX6_50 dX6_count_49 n_120 L_120 (congrArg vI (show M 120 2 = σ.2.1.length from hI.2.1.1)) ?_
          refine k_goto hx dX6_count_52 ?_
          refine k_ri hx hr dX6_count_57 ?_
          exact ⟨by unfold aQ qCount; rw [if_neg (by omega), if_neg (by omega), if_neg (by omega), if_pos (by omega)], hI, fun _ _ => rfl⟩
      · refine k_aload_n hx dX6_count_35 0 rfl ?_
        refine k_get (v := vI σ.2.2.2.length) hx fX6_134 dX6_count_36 n_120 L_120 (congrArg vI (show M 120 6 = σ.2.2.2.length from hI.2.2.2.2.1)) ?_
        refine k_goto hx dX6_count_39 ?_
        refine k_ri hx hr dX6_count_57 ?_
        exact ⟨by unfold aQ qCount; rw [if_neg (by omega), if_neg (by omega), if_pos (by omega)], hI, fun _ _ => rfl⟩
    · refine k_aload_n hx dX6_count_22 0 rfl ?_
      refine k_vp (rest := []) (e := (allC σ.1)) hx vX6_116 dX6_count_23 (c_X6_all hI.1) n_120 L_120 rfl rfl rfl ⟨rfl, rfl⟩ ⟨by decide, by decide⟩ ?_
      refine k_goto hx dX6_count_26 ?_
      refine k_ri hx hr dX6_count_57 ?_
      exact ⟨by unfold aQ qCount; rw [if_neg (by omega), if_pos (by omega)], hI, fun _ _ => rfl⟩
  · refine k_aload_n hx dX6_count_9 0 rfl ?_
    refine k_get (v := vR g 121) hx fX6_7 dX6_count_10 n_120 L_120 rfl ?_
    refine k_iload_n hx dX6_count_13 1 rfl ?_
    refine k_iald (v := (σ.1.1.getD k.toNat 0)) hx dX6_count_14 n_121 L_121 (by omega) (by decide) (by have := hI.1.2.1 k (by omega) (by omega); rwa [show 0 + k = k by omega] at this) ?_
    refine k_ri hx hr dX6_count_15 ?_
    exact ⟨by unfold aQ qCount; rw [if_pos (by omega)], hI, fun _ _ => rfl⟩
theorem InvM.pad {M M' : Mem} {A : Ab} {ps : List Ab} {sl : Option Ab × Option Ab} {t t' : List Int} (h : InvM M (A, ps, sl, t)) (ht : Pm M' t') (ho : ∀ a, 120 < a → a < 125 → M' a = M a) (h2 : M' 120 2 = M 120 2) : InvM M' (A, ps, sl, t') := by
  obtain ⟨h1, ⟨k2, k3, k4⟩, h3, h4, h5⟩ := h
  exact ⟨h1.eq (ho 121 (by decide) (by decide)), ⟨by rw [h2]; exact k2, k3, fun j A hj => (k4 j A hj).eq (ho 122 (by decide) (by decide))⟩, fun k hk => by rw [ho 124 (by decide) (by decide)]; exact h3 k hk, fun k A hk hs => (h4 k A hk hs).eq (ho 123 (by decide) (by decide)), ht⟩
theorem Pm.nil {M : Mem} : Pm (up M 120 6 0) [] := ⟨up_s, by decide, fun k h => by simp at h, fun c h => by cases h⟩

theorem c_X6_wipe {g : GE} {l : Launch} {M : Mem} {σ : Sg} (hI : InvM M σ) : Ci g l μX6_wipe [vR g 120] M (PM M (aWipe σ)) := by
  refine Ci.of (by decide +kernel) rfl rfl (fun x hx hr => ?_)
  refine k_aload_n hx dX6_wipe_0 0 rfl ?_
  refine k_get (v := vI σ.2.2.2.length) hx fX6_134 dX6_wipe_1 n_120 L_120 (congrArg vI (show M 120 6 = σ.2.2.2.length from hI.2.2.2.2.1)) ?_
  refine k_istore_n (ls' := [(0, vR g 120), (1, vI σ.2.2.2.length)]) hx dX6_wipe_4 rfl rfl (by decide) ?_
  refine k_aload_n hx dX6_wipe_5 0 rfl ?_
  refine k_iconst hx dX6_wipe_6 ?_
  refine k_putI (kz := 6) hx fX6_134 dX6_wipe_7 n_120 L_120 rfl rfl (fun M_7 hM_7 => ?_)
  refine k_iload_n hx dX6_wipe_10 1 rfl ?_
  refine k_ri hx hr dX6_wipe_11 ?_
  subst hM_7
  exact ⟨rfl, InvM.pad hI Pm.nil (fun a h1 h2 => up_i (by omega)) (up_k (by decide)), fun a ha => up_i (by omega)⟩

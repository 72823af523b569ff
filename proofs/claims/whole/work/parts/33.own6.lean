/-! the reference's own methods, second -/
theorem OW.m {M M' : Mem} (h : OW M M') : OQ M M' := h.f.q
theorem ON.q {M M' : Mem} (h : ON M M') : ∀ a, a < 120 → M' a = M a := fun a ha => h a (by omega)
theorem OQ.lo {M M' : Mem} (h : OQ M M') : ∀ a, a < 120 → M' a = M a := fun a ha => h.1 a (by omega) (by omega)

theorem c_X6_pull {g : GE} {l : Launch} {M : Mem} {σ : Sg} (hI : InvM M σ) {z : Int} (hzr : -2147483648 ≤ z ∧ z < 2147483648) : Ci g l μX6_pull [vR g 120, vI z] M (PM M (aPull σ z)) := by
  refine Ci.of (by decide +kernel) rfl rfl (fun x hx hr => ?_)
  refine k_iload_n hx dX6_pull_0 1 rfl ?_
  refine k_sp (rest := []) (e := (b2i (decide (0 ≤ z ∧ z ≤ 3)))) hx sX6_102 dX6_pull_1 (c_X6_isRope (z := z) (by omega)) rfl rfl rfl ⟨rfl, rfl⟩ ⟨by decide, by decide⟩ ?_
  refine k_bne hx dX6_pull_4 (fun h_4 => ?_) (fun h_4 => ?_)
  · refine k_aload_n hx dX6_pull_9 0 rfl ?_
    refine k_vv (rest := []) hx vX6_99 dX6_pull_10 (c_X6_record hI.1 hI.2.1) n_120 L_120 rfl rfl rfl ⟨rfl, rfl⟩ ⟨by decide, by decide⟩ (fun M_10 p_10 => ?_)
    have hI2 := hI.rec p_10
    have hS2 : Fl M_10 121 0 σ.1 := hI2.1
    have hoM : ∀ a, a < 120 → M_10 a = M a := fun a ha => p_10.2.1 a (by omega) (by omega)
    refine k_aload_n hx dX6_pull_13 0 rfl ?_
    refine k_iload_n hx dX6_pull_14 1 rfl ?_
    have hz4 : 0 ≤ z ∧ z < 4 := by omega
    have hrl := (hS2.1.rope hz4).2
    have hrc := red_len_le (rope σ.1 z)
    refine k_vp (rest := []) (e := ((rope σ.1 z).length)) hx vX6_65 dX6_pull_15 (c_X6_many hS2 (r := z) (by omega)) n_120 L_120 rfl rfl rfl ⟨rfl, rfl⟩ ⟨by decide, by decide⟩ ?_
    refine k_istore_n (ls' := [(0, vR g 120), (1, vI z), (2, vI ((rope σ.1 z).length))]) hx dX6_pull_18 rfl rfl (by decide) ?_
    refine k_aload_n hx dX6_pull_19 0 rfl ?_
    refine k_iload_n hx dX6_pull_20 1 rfl ?_
    refine k_iconst hx dX6_pull_21 ?_
    refine k_vv (rest := []) hx vX6_84 dX6_pull_22 (c_X6_layPulled hS2 (r := z) hz4 (t := false)) n_120 L_120 rfl rfl rfl ⟨rfl, rfl⟩ ⟨by decide, by decide⟩ (fun M_22 p_22 => ?_)
    obtain ⟨q1, q2⟩ := p_22
    have q1 : Wk M_22 (red (rope σ.1 z)) := q1
    have hI3 := hI2.q q2.m
    refine k_aload_n hx dX6_pull_25 0 rfl ?_
    refine k_iload_n hx dX6_pull_26 1 rfl ?_
    refine k_vv (rest := []) hx vX6_106 dX6_pull_27 (c_X6_take (A := σ.1) hI3.1 hz4 q1 (by omega)) n_120 L_120 rfl rfl rfl ⟨rfl, rfl⟩ ⟨by decide, by decide⟩ (fun M_27 p_27 => ?_)
    obtain ⟨q3, q4⟩ := p_27
    refine k_iload_n hx dX6_pull_30 2 rfl ?_
    refine k_aload_n hx dX6_pull_31 0 rfl ?_
    refine k_get (v := vI ((red (rope σ.1 z)).length)) hx fX6_54 dX6_pull_32 n_120 L_120 (congrArg vI (show M_27 120 8 = ((red (rope σ.1 z)).length) from by rw [q4 120 (by decide)]; exact q1.1)) ?_
    refine k_isub hx dX6_pull_35 ?_
    refine k_iconst hx dX6_pull_36 ?_
    refine k_idiv hx dX6_pull_37 (by omega) ?_
    refine k_ri hx hr dX6_pull_38 ?_
    refine ⟨by unfold aPull; rw [if_pos hz4], ?_, fun a ha => by rw [q4 a (by omega), q2.m.lo a ha]; exact hoM a ha⟩
    unfold aPull
    rw [if_pos hz4]
    exact hI3.set q3 q4
  · refine k_iconst hx dX6_pull_7 ?_
    refine k_ri hx hr dX6_pull_8 ?_
    exact ⟨by unfold aPull; rw [if_neg (by omega)], by unfold aPull; rw [if_neg (by omega)]; exact hI, fun _ _ => rfl⟩
theorem c_X6_cross {g : GE} {l : Launch} {M : Mem} {σ : Sg} (hI : InvM M σ) {z : Int} (hzr : -2147483648 ≤ z ∧ z < 2147483648) {c : Int} (hcr : -2147483648 ≤ c ∧ c < 2147483648) : Ci g l μX6_cross [vR g 120, vI z, vI c] M (PM M (aCross σ z c)) := by
  refine Ci.of (by decide +kernel) rfl rfl (fun x hx hr => ?_)
  refine k_iload_n hx dX6_cross_0 1 rfl ?_
  refine k_sp (rest := []) (e := (b2i (decide (0 ≤ z ∧ z ≤ 3)))) hx sX6_102 dX6_cross_1 (c_X6_isRope (z := z) (by omega)) rfl rfl rfl ⟨rfl, rfl⟩ ⟨by decide, by decide⟩ ?_
  refine k_bne hx dX6_cross_4 (fun h_4 => ?_) (fun h_4 => ?_)
  · refine k_iload_n hx dX6_cross_9 2 rfl ?_
    refine k_iconst hx dX6_cross_10 ?_
    refine k_bipush hx dX6_cross_11 (by decide +kernel) ?_
    refine k_sp (rest := []) (e := (b2i (decide (0 ≤ c ∧ c ≤ 11)))) hx sX6_61 dX6_cross_13 (c_X6_in (v := c) (a := 0) (b := 11) (by omega)) rfl rfl rfl ⟨rfl, rfl⟩ ⟨by decide, by decide⟩ ?_
    refine k_bne hx dX6_cross_16 (fun h_16 => ?_) (fun h_16 => ?_)
    · refine k_aload_n hx dX6_cross_22 0 rfl ?_
      refine k_iload_n hx dX6_cross_23 1 rfl ?_
      have hz4 : 0 ≤ z ∧ z < 4 := by omega
      have hrl := (hI.1.1.rope hz4).2
      have hrc := (hI.1.1.rope hz4).1
      refine k_vp (rest := []) (e := ((rope σ.1 z).length)) hx vX6_65 dX6_cross_24 (c_X6_many hI.1 (r := z) (by omega)) n_120 L_120 rfl rfl rfl ⟨rfl, rfl⟩ ⟨by decide, by decide⟩ ?_
      refine k_bipush hx dX6_cross_27 (by decide +kernel) ?_
      refine k_icmp_ne hx dX6_cross_29 (by omega) (fun h_29 => ?_) (fun h_29 => ?_)
      · refine k_aload_n hx dX6_cross_35 0 rfl ?_
        refine k_vv (rest := []) hx vX6_99 dX6_cross_36 (c_X6_record hI.1 hI.2.1) n_120 L_120 rfl rfl rfl ⟨rfl, rfl⟩ ⟨by decide, by decide⟩ (fun M_36 p_36 => ?_)
        have hI2 := hI.rec p_36
        have hS2 : Fl M_36 121 0 σ.1 := hI2.1
        have hoM : ∀ a, a < 120 → M_36 a = M a := fun a ha => p_36.2.1 a (by omega) (by omega)
        refine k_aload_n hx dX6_cross_39 0 rfl ?_
        refine k_get (v := vR g 121) hx fX6_7 dX6_cross_40 n_120 L_120 rfl ?_
        refine k_bipush hx dX6_cross_43 (by decide +kernel) ?_
        refine k_bipush hx dX6_cross_45 (by decide +kernel) ?_
        refine k_iload_n hx dX6_cross_47 1 rfl ?_
        refine k_imul hx dX6_cross_48 ?_
        refine k_iadd hx dX6_cross_49 ?_
        refine k_aload_n hx dX6_cross_50 0 rfl ?_
        refine k_iload_n hx dX6_cross_51 1 rfl ?_
        refine k_vp (rest := [vI (10 + (120 * z)), vR g 121]) (e := ((rope σ.1 z).length)) hx vX6_65 dX6_cross_52 (c_X6_many hS2 (r := z) (by omega)) n_120 L_120 rfl rfl rfl ⟨rfl, rfl⟩ ⟨by decide, by decide⟩ ?_
        refine k_iadd hx dX6_cross_55 ?_
        refine k_iload_n hx dX6_cross_56 2 rfl ?_
        refine k_iastN hx dX6_cross_57 n_121 L_121 (by omega) (by decide) (fun M_57 hM_57 => ?_)
        refine k_aload_n hx dX6_cross_58 0 rfl ?_
        refine k_get (v := vR g 121) hx fX6_7 dX6_cross_59 n_120 L_120 rfl ?_
        refine k_bipush hx dX6_cross_62 (by decide +kernel) ?_
        refine k_iload_n hx dX6_cross_64 1 rfl ?_
        refine k_iadd hx dX6_cross_65 ?_
        refine k_dup2 hx dX6_cross_66 rfl rfl ?_
        refine k_iald (v := ((rope σ.1 z).length)) hx dX6_cross_67 n_121 L_121 (by omega) (by decide) (by rw [hM_57, up_k (by omega)]; exact hS2.many hz4) ?_
        refine k_iconst hx dX6_cross_68 ?_
        refine k_iadd hx dX6_cross_69 ?_
        refine k_iastN hx dX6_cross_70 n_121 L_121 (by omega) (by decide) (fun M_70 hM_70 => ?_)
        refine k_aload_n hx dX6_cross_71 0 rfl ?_
        refine k_iload_n hx dX6_cross_72 1 rfl ?_
        have hal : (rope σ.1 z ++ [c]).length = (rope σ.1 z).length + 1 := by rw [List.length_append]; rfl
        have hF : Fl M_70 121 0 (setR σ.1 z (rope σ.1 z ++ [c])) := by
          refine hS2.wr hz4 (hrc.app (Cr.one (by omega))) (by omega) (by rw [hM_70, up_s, hal]; omega) (fun q q0 q1 => ?_) (fun q h1 h2 => by rw [hM_70, up_k h1, hM_57, up_k (by omega)])
          rw [hM_70, up_k (by omega), hM_57]
          by_cases hq : q = (rope σ.1 z).length
          · rw [hq, up_s, at0_last]
          · rw [up_k (by omega), at0_appZ q0 (by omega)]; exact hS2.at hz4 ⟨q0, by omega⟩
        refine k_vp (rest := []) (e := ((rope (setR σ.1 z (rope σ.1 z ++ [c])) z).length)) hx vX6_65 dX6_cross_73 (c_X6_many hF (r := z) (by omega)) n_120 L_120 rfl rfl rfl ⟨rfl, rfl⟩ ⟨by decide, by decide⟩ ?_
        refine k_ri hx hr dX6_cross_76 ?_
        refine ⟨by unfold aCross; rw [if_pos hz4, if_neg (by omega), if_neg (by omega), rope_setR hS2.1 hz4 hz4, if_pos rfl, hal]; rfl, ?_, fun a ha => by rw [hM_70, up_i (by omega), hM_57, up_i (by omega)]; exact hoM a ha⟩
        unfold aCross
        rw [if_pos hz4, if_neg (by omega), if_neg (by omega)]
        exact hI2.set hF (fun a ha => by rw [hM_70, up_i ha, hM_57, up_i ha])
      · refine k_bipush hx dX6_cross_32 (by decide +kernel) ?_
        refine k_ri hx hr dX6_cross_34 ?_
        exact ⟨by unfold aCross; rw [if_pos (by omega), if_neg (by omega), if_pos (by omega)], by unfold aCross; rw [if_pos (by omega), if_neg (by omega), if_pos (by omega)]; exact hI, fun _ _ => rfl⟩
    · refine k_bipush hx dX6_cross_19 (by decide +kernel) ?_
      refine k_ri hx hr dX6_cross_21 ?_
      exact ⟨by unfold aCross; rw [if_pos (by omega), if_pos (by omega)], by unfold aCross; rw [if_pos (by omega), if_pos (by omega)]; exact hI, fun _ _ => rfl⟩
  · refine k_iconst hx dX6_cross_7 ?_
    refine k_ri hx hr dX6_cross_8 ?_
    exact ⟨by unfold aCross; rw [if_neg (by omega)], by unfold aCross; rw [if_neg (by omega)]; exact hI, fun _ _ => rfl⟩
theorem c_X6_back {g : GE} {l : Launch} {M : Mem} {σ : Sg} (hI : InvM M σ) {z : Int} (hzr : -2147483648 ≤ z ∧ z < 2147483648) {m : Int} (hmr : -2147483648 ≤ m ∧ m < 2147483648) : Ci g l μX6_back [vR g 120, vI z, vI m] M (PM M (aBack σ z m)) := by
  refine Ci.of (by decide +kernel) rfl rfl (fun x hx hr => ?_)
  refine k_iload_n hx dX6_back_0 1 rfl ?_
  refine k_sp (rest := []) (e := (b2i (decide (0 ≤ z ∧ z ≤ 3)))) hx sX6_102 dX6_back_1 (c_X6_isRope (z := z) (by omega)) rfl rfl rfl ⟨rfl, rfl⟩ ⟨by decide, by decide⟩ ?_
  refine k_bne hx dX6_back_4 (fun h_4 => ?_) (fun h_4 => ?_)
  · refine k_iload_n hx dX6_back_9 2 rfl ?_
    refine k_iconst hx dX6_back_10 ?_
    refine k_bipush hx dX6_back_11 (by decide +kernel) ?_
    refine k_sp (rest := []) (e := (b2i (decide (1 ≤ m ∧ m ≤ 120)))) hx sX6_61 dX6_back_13 (c_X6_in (v := m) (a := 1) (b := 120) (by omega)) rfl rfl rfl ⟨rfl, rfl⟩ ⟨by decide, by decide⟩ ?_
    refine k_bne hx dX6_back_16 (fun h_16 => ?_) (fun h_16 => ?_)
    · refine k_iload_n hx dX6_back_22 2 rfl ?_
      refine k_aload_n hx dX6_back_23 0 rfl ?_
      refine k_iload_n hx dX6_back_24 1 rfl ?_
      have hz4 : 0 ≤ z ∧ z < 4 := by omega
      have hrl := (hI.1.1.rope hz4).2
      have hrc := (hI.1.1.rope hz4).1
      refine k_vp (rest := [vI m]) (e := ((rope σ.1 z).length)) hx vX6_65 dX6_back_25 (c_X6_many hI.1 (r := z) (by omega)) n_120 L_120 rfl rfl rfl ⟨rfl, rfl⟩ ⟨by decide, by decide⟩ ?_
      refine k_icmp_le hx dX6_back_28 (by omega) (fun h_28 => ?_) (fun h_28 => ?_)
      · refine k_aload_n hx dX6_back_34 0 rfl ?_
        refine k_vv (rest := []) hx vX6_99 dX6_back_35 (c_X6_record hI.1 hI.2.1) n_120 L_120 rfl rfl rfl ⟨rfl, rfl⟩ ⟨by decide, by decide⟩ (fun M_35 p_35 => ?_)
        have hI2 := hI.rec p_35
        have hS2 : Fl M_35 121 0 σ.1 := hI2.1
        have hoM : ∀ a, a < 120 → M_35 a = M a := fun a ha => p_35.2.1 a (by omega) (by omega)
        refine k_aload_n hx dX6_back_38 0 rfl ?_
        refine k_get (v := vR g 121) hx fX6_7 dX6_back_39 n_120 L_120 rfl ?_
        refine k_bipush hx dX6_back_42 (by decide +kernel) ?_
        refine k_iload_n hx dX6_back_44 1 rfl ?_
        refine k_iadd hx dX6_back_45 ?_
        refine k_dup2 hx dX6_back_46 rfl rfl ?_
        refine k_iald (v := ((rope σ.1 z).length)) hx dX6_back_47 n_121 L_121 (by omega) (by decide) (hS2.many hz4) ?_
        refine k_iload_n hx dX6_back_48 2 rfl ?_
        refine k_isub hx dX6_back_49 ?_
        refine k_iastN hx dX6_back_50 n_121 L_121 (by omega) (by decide) (fun M_50 hM_50 => ?_)
        refine k_aload_n hx dX6_back_51 0 rfl ?_
        refine k_iload_n hx dX6_back_52 1 rfl ?_
        have hal : ((rope σ.1 z).take ((rope σ.1 z).length - m.toNat)).length = (rope σ.1 z).length - m.toNat := by rw [List.length_take]; omega
        have hF : Fl M_50 121 0 (setR σ.1 z ((rope σ.1 z).take ((rope σ.1 z).length - m.toNat))) := by
          refine hS2.wr hz4 (hrc.take _) (by omega) (by rw [hM_50, up_s, hal]; omega) (fun q q0 q1 => ?_) (fun q h1 h2 => by rw [hM_50, up_k h1])
          rw [hM_50, up_k (by omega), at0_takeZ q0 (by omega) (by omega)]
          exact hS2.at hz4 ⟨q0, by omega⟩
        refine k_vp (rest := []) (e := ((rope (setR σ.1 z ((rope σ.1 z).take ((rope σ.1 z).length - m.toNat))) z).length)) hx vX6_65 dX6_back_53 (c_X6_many hF (r := z) (by omega)) n_120 L_120 rfl rfl rfl ⟨rfl, rfl⟩ ⟨by decide, by decide⟩ ?_
        refine k_ri hx hr dX6_back_56 ?_
        refine ⟨by unfold aBack; rw [if_pos hz4, if_neg (by omega), if_neg (by omega), rope_setR hS2.1 hz4 hz4, if_pos rfl, hal]; show (((rope σ.1 z).length - m.toNat : Nat) : Int) = (rope σ.1 z).length - m; omega, ?_, fun a ha => by rw [hM_50, up_i (by omega)]; exact hoM a ha⟩
        unfold aBack
        rw [if_pos hz4, if_neg (by omega), if_neg (by omega)]
        exact hI2.set hF (fun a ha => by rw [hM_50, up_i ha])
      · refine k_bipush hx dX6_back_31 (by decide +kernel) ?_
        refine k_ri hx hr dX6_back_33 ?_
        exact ⟨by unfold aBack; rw [if_pos (by omega), if_neg (by omega), if_pos (by omega)], by unfold aBack; rw [if_pos (by omega), if_neg (by omega), if_pos (by omega)]; exact hI, fun _ _ => rfl⟩
    · refine k_bipush hx dX6_back_19 (by decide +kernel) ?_
      refine k_ri hx hr dX6_back_21 ?_
      exact ⟨by unfold aBack; rw [if_pos (by omega), if_pos (by omega)], by unfold aBack; rw [if_pos (by omega), if_pos (by omega)]; exact hI, fun _ _ => rfl⟩
  · refine k_iconst hx dX6_back_7 ?_
    refine k_ri hx hr dX6_back_8 ?_
    exact ⟨by unfold aBack; rw [if_neg (by omega)], by unfold aBack; rw [if_neg (by omega)]; exact hI, fun _ _ => rfl⟩

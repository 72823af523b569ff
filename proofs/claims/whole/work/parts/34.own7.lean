/-! the reference's own methods: turning, weaving -/
theorem c_X6_weave {g : GE} {l : Launch} {M : Mem} {σ : Sg} (hI : InvM M σ) {z y : Int} (hzr : -2147483648 ≤ z ∧ z < 2147483648) (hyr : -2147483648 ≤ y ∧ y < 2147483648) : Ci g l μX6_weave [vR g 120, vI z, vI y] M (PM M (aWeave σ z y)) := by
  refine Ci.of (by decide +kernel) rfl rfl (fun x hx hr => ?_)
  refine k_iload_n hx dX6_weave_0 1 rfl ?_
  refine k_sp (rest := []) (e := (b2i (decide (0 ≤ z ∧ z ≤ 3)))) hx sX6_102 dX6_weave_1 (c_X6_isRope (z := z) (by omega)) rfl rfl rfl ⟨rfl, rfl⟩ ⟨by decide, by decide⟩ ?_
  refine k_beq hx dX6_weave_4 (fun h_4 => ?_) (fun h_4 => ?_)
  · refine k_iconst hx dX6_weave_19 ?_
    refine k_ri hx hr dX6_weave_20 ?_
    exact ⟨by unfold aWeave; rw [if_neg (by omega)], by unfold aWeave; rw [if_neg (by omega)]; exact hI, fun _ _ => rfl⟩
  · refine k_iload_n hx dX6_weave_7 2 rfl ?_
    refine k_sp (rest := []) (e := (b2i (decide (0 ≤ y ∧ y ≤ 3)))) hx sX6_102 dX6_weave_8 (c_X6_isRope (z := y) (by omega)) rfl rfl rfl ⟨rfl, rfl⟩ ⟨by decide, by decide⟩ ?_
    refine k_beq hx dX6_weave_11 (fun h_11 => ?_) (fun h_11 => ?_)
    · refine k_iconst hx dX6_weave_19 ?_
      refine k_ri hx hr dX6_weave_20 ?_
      exact ⟨by unfold aWeave; rw [if_neg (by omega)], by unfold aWeave; rw [if_neg (by omega)]; exact hI, fun _ _ => rfl⟩
    · refine k_iload_n hx dX6_weave_14 1 rfl ?_
      refine k_iload_n hx dX6_weave_15 2 rfl ?_
      refine k_icmp_ne hx dX6_weave_16 (by omega) (fun h_16 => ?_) (fun h_16 => ?_)
      · have hz4 : 0 ≤ z ∧ z < 4 := by omega
        have hy4 : 0 ≤ y ∧ y < 4 := by omega
        have hzl := (hI.1.1.rope hz4).2
        have hyl := (hI.1.1.rope hy4).2
        have htz := trn_len (rope σ.1 z)
        have hty := trn_len (rope σ.1 y)
        refine k_aload_n hx dX6_weave_21 0 rfl ?_
        refine k_iconst hx dX6_weave_22 ?_
        refine k_putI (kz := 8) hx fX6_54 dX6_weave_23 n_120 L_120 rfl rfl (fun M_23 hM_23 => ?_)
        have o0 : OW M M_23 := by rw [hM_23]; exact OW.len
        have w0 : Wk M_23 [] := by rw [hM_23]; exact Wk.nil
        refine k_aload_n hx dX6_weave_26 0 rfl ?_
        refine k_iload_n hx dX6_weave_27 1 rfl ?_
        refine k_iconst hx dX6_weave_28 ?_
        refine k_vv (rest := []) hx vX6_80 dX6_weave_29 (c_X6_pushRope (A := σ.1) (hI.1.w o0) hz4 (t := false) w0 (by simp)) n_120 L_120 rfl rfl rfl ⟨rfl, rfl⟩ ⟨by decide, by decide⟩ (fun M_29 p_29 => ?_)
        have w1 : Wk M_29 (act [] (rope σ.1 z)) := p_29.1
        have o1 := o0.tr p_29.2
        have l1 := act_len [] (rope σ.1 z)
        rw [List.length_nil] at l1
        refine k_aload_n hx dX6_weave_32 0 rfl ?_
        refine k_iload_n hx dX6_weave_33 2 rfl ?_
        refine k_iconst hx dX6_weave_34 ?_
        refine k_vv (rest := []) hx vX6_80 dX6_weave_35 (c_X6_pushRope (A := σ.1) (hI.1.w o1) hy4 (t := false) w1 (by omega)) n_120 L_120 rfl rfl rfl ⟨rfl, rfl⟩ ⟨by decide, by decide⟩ (fun M_35 p_35 => ?_)
        have w2 : Wk M_35 (act (act [] (rope σ.1 z)) (rope σ.1 y)) := p_35.1
        have o2 := o1.tr p_35.2
        have l2 := act_len (act [] (rope σ.1 z)) (rope σ.1 y)
        refine k_aload_n hx dX6_weave_38 0 rfl ?_
        refine k_iload_n hx dX6_weave_39 1 rfl ?_
        refine k_iconst hx dX6_weave_40 ?_
        refine k_vv (rest := []) hx vX6_80 dX6_weave_41 (c_X6_pushRope (A := σ.1) (hI.1.w o2) hz4 (t := true) w2 (by omega)) n_120 L_120 rfl rfl rfl ⟨rfl, rfl⟩ ⟨by decide, by decide⟩ (fun M_41 p_41 => ?_)
        have w3 : Wk M_41 (act (act (act [] (rope σ.1 z)) (rope σ.1 y)) (trn (rope σ.1 z))) := p_41.1
        have o3 := o2.tr p_41.2
        have l3 := act_len (act (act [] (rope σ.1 z)) (rope σ.1 y)) (trn (rope σ.1 z))
        refine k_aload_n hx dX6_weave_44 0 rfl ?_
        refine k_iload_n hx dX6_weave_45 2 rfl ?_
        refine k_iconst hx dX6_weave_46 ?_
        refine k_vv (rest := []) hx vX6_80 dX6_weave_47 (c_X6_pushRope (A := σ.1) (hI.1.w o3) hy4 (t := true) w3 (by omega)) n_120 L_120 rfl rfl rfl ⟨rfl, rfl⟩ ⟨by decide, by decide⟩ (fun M_47 p_47 => ?_)
        have o4 := o3.tr p_47.2
        have w4 : Wk M_47 (wv σ z y) := by
          have h : Wk M_47 (act (act (act (act [] (rope σ.1 z)) (rope σ.1 y)) (trn (rope σ.1 z))) (trn (rope σ.1 y))) := p_47.1
          rw [← act_app, ← act_app, ← act_app, ← List.append_assoc, ← List.append_assoc] at h
          exact h
        have hwl : (wv σ z y).length ≤ 480 := by
          have h := act_len [] (rope σ.1 z ++ rope σ.1 y ++ trn (rope σ.1 z) ++ trn (rope σ.1 y))
          simp only [List.length_append, List.length_nil] at h
          show (act [] (rope σ.1 z ++ rope σ.1 y ++ trn (rope σ.1 z) ++ trn (rope σ.1 y))).length ≤ 480
          omega
        have hI1 := hI.q o4.m
        refine k_aload_n hx dX6_weave_50 0 rfl ?_
        refine k_get (v := vI ((wv σ z y).length)) hx fX6_54 dX6_weave_51 n_120 L_120 (congrArg vI (show M_47 120 8 = ((wv σ z y).length) from w4.1)) ?_
        refine k_bipush hx dX6_weave_54 (by decide +kernel) ?_
        refine k_icmp_le hx dX6_weave_56 (by omega) (fun h_56 => ?_) (fun h_56 => ?_)
        · refine k_aload_n hx dX6_weave_62 0 rfl ?_
          refine k_vv (rest := []) hx vX6_99 dX6_weave_63 (c_X6_record hI1.1 hI1.2.1) n_120 L_120 rfl rfl rfl ⟨rfl, rfl⟩ ⟨by decide, by decide⟩ (fun M_63 p_63 => ?_)
          have hI2 := hI1.rec p_63
          have w5 : Wk M_63 (wv σ z y) := ⟨by rw [p_63.2.2 8 (by decide)]; exact w4.1, fun q q0 q1 => by rw [p_63.2.1 126 (by decide) (by decide)]; exact w4.2.1 q q0 q1, w4.2.2⟩
          refine k_aload_n hx dX6_weave_66 0 rfl ?_
          refine k_iload_n hx dX6_weave_67 1 rfl ?_
          refine k_vv (rest := []) hx vX6_106 dX6_weave_68 (c_X6_take (A := σ.1) hI2.1 hz4 w5 (by omega)) n_120 L_120 rfl rfl rfl ⟨rfl, rfl⟩ ⟨by decide, by decide⟩ (fun M_68 p_68 => ?_)
          obtain ⟨q3, q4⟩ := p_68
          refine k_aload_n hx dX6_weave_71 0 rfl ?_
          refine k_get (v := vI ((wv σ z y).length)) hx fX6_54 dX6_weave_72 n_120 L_120 (congrArg vI (show M_68 120 8 = ((wv σ z y).length) from by rw [q4 120 (by decide)]; exact w5.1)) ?_
          refine k_ri hx hr dX6_weave_75 ?_
          refine ⟨by unfold aWeave; rw [if_pos (by omega), if_neg (by omega)], ?_, fun a ha => by rw [q4 a (by omega), p_63.2.1 a (by omega) (by omega)]; exact o4.m.lo a ha⟩
          unfold aWeave
          rw [if_pos (by omega), if_neg (by omega)]
          exact hI2.set q3 q4
        · refine k_bipush hx dX6_weave_59 (by decide +kernel) ?_
          refine k_ri hx hr dX6_weave_61 ?_
          exact ⟨by unfold aWeave; rw [if_pos (by omega), if_pos (by omega)], by unfold aWeave; rw [if_pos (by omega), if_pos (by omega)]; exact hI1, o4.m.lo⟩
      · refine k_iconst hx dX6_weave_19 ?_
        refine k_ri hx hr dX6_weave_20 ?_
        exact ⟨by unfold aWeave; rw [if_neg (by omega)], by unfold aWeave; rw [if_neg (by omega)]; exact hI, fun _ _ => rfl⟩

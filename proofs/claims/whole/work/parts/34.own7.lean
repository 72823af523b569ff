/-! the reference's own methods: turning, weaving -/
theorem c_X6_weave {g : GE} {l : Launch} {M : Mem} {σ : Sg} (hI : InvM M σ) {z y : Int} (hzr : -2147483648 ≤ z ∧ z < 2147483648) (hyr : -2147483648 ≤ y ∧ y < 2147483648) : Ci g l μX6_weave [vR g 120, vI z, vI y] M (PM M (aWeave σ z y)) := by
  refine Ci.of (by decide +kernel) rfl rfl (fun x hx hr => ?_)
  refine k_iload_n hx dX6_weave_0 1 rfl ?_
  refine k_sp (rest := []) (e := (b2i (decide (0 ≤ z ∧ z ≤ 3)))) hx sX6_102 dX6_weave_1 (c_X6_isRope (z := z) (by omega)) rfl rfl rfl ⟨rfl, rfl⟩ ⟨by decide, by decide⟩ ?_
  refine k_beq hx dX6_weave_4 (fun h_4 => ?_) (fun h_4 => ?_)
  · refine k_iconst hx dX6_weave_19 ?_
    refine k_ri hx hr dX6_weave_20 ?_
    exact ⟨by unfold aWeave; rw [if_neg (by omega)], by unfold aWeave; rw [if_neg (by omega)]; exact hI, fun _ _ => rfl⟩
  · refine k_iload_n hx dX6_weave_7 2 rfl ?_
    refine k_sp (rest := []) (e := (b2i (decide (0 ≤ y ∧ y ≤ 3)))) hx sX6_102 dX6_weave_8 (c_X6_isRope (z := y) (by omega)) rfl rfl rfl ⟨rfl, rfl⟩ ⟨by decide, by decide⟩ ?_
    refine k_beq hx dX6_weave_11 (fun h_11 => ?_) (fun h_11 => ?_)
    · refine k_iconst hx dX6_weave_19 ?_
      refine k_ri hx hr dX6_weave_20 ?_
      exact ⟨by unfold aWeave; rw [if_neg (by omega)], by unfold aWeave; rw [if_neg (by omega)]; exact hI, fun _ _ => rfl⟩
    · refine k_iload_n hx dX6_weave_14 1 rfl ?_
      refine k_iload_n hx dX6_weave_15 2 rfl ?_
      refine k_icmp_ne hx dX6_weave_16 (by omega) (fun h_16 => ?_) (fun h_16 => ?_)
      · have hz4 : 0 ≤ z ∧ z < 4 := by omega
        have hy4 : 0 ≤ y ∧ y < 4 := by omega
        have hzl := (hI.1.1.rope hz4).2
        have hyl := (hI.1.1.rope hy4).2
        have htz := trn_len (rope σ.1 z)
        have hty := trn_len (rope σ.1 y)
        refine k_aload_n hx dX6_weave_21 0 rfl ?_
        refine k_iconst hx dX6_weave_22 ?_
        refine k_putI (kz := 8) hx fX6_54 dX6_weave_23 n_120 L_120 rfl rfl (fun M_23 hM_23 => ?_)
        have o0 : OW M M_23 := by rw [hM_23]; exact OW.len
        have w0 : Wk M_23 [] := by rw [hM_23]; exact Wk.nil
        refine k_aload_n hx dX6_weave_26 0 rfl ?_
        refine k_iload_n hx dX6_weave_27 1 rfl ?_
        refine k_iconst hx dX6_weave_28 ?_
        refine k_vv (rest := []) hx vX6_80 dX6_weave_29 (c_X6_pushRope (A := σ.1) (hI.1.w o0) hz4 (t := false) w0 (by simp)) n_120 L_120 rfl rfl rfl ⟨rfl, rfl⟩ ⟨by decide, by decide⟩ (fun M_29 p_29 => ?_)
        have w1 : Wk M_29 (act [] (rope σ.1 z)) := p_29.1
        have o1 := o0.tr p_29.2
        have l1 := act_len [] (rope σ.1 z)
        rw [List.length_nil] at l1
        refine k_aload_n hx dX6_weave_32 0 rfl ?_
        refine k_iload_n hx dX6_weave_33 2 rfl ?_
        refine k_iconst hx dX6_weave_34 ?_
        refine k_vv (rest := []) hx vX6_80 dX6_weave_35 (c_X6_pushRope (A := σ.1) (hI.1.w o1) hy4 (t := false) w1 (by omega)) n_120 L_120 rfl rfl rfl ⟨rfl, rfl⟩ ⟨by decide, by decide⟩ (fun M_35 p_35 => ?_)
        have w2 : Wk M_35 (act (act [] (rope σ.1 z)) (rope σ.1 y)) := p_35.1
        have o2 := o1.tr p_35.2
        have l2 := act_len (act [] (rope σ.1 z)) (rope σ.1 y)
        refine k_aload_n hx dX6_weave_38 0 rfl ?_
        refine k_iload_n hx dX6_weave_39 1 rfl ?_
        refine k_iconst hx dX6_weave_40 ?_
        refine k_vv (rest := []) hx vX6_80 dX6_weave_41 (c_X6_pushRope (A := σ.1) (hI.1.w o2) hz4 (t := true) w2 (by omega)) n_120 L_120 rfl rfl rfl ⟨rfl, rfl⟩ ⟨by decide, by decide⟩ (fun M_41 p_41 => ?_)
        have w3 : Wk M_41 (act (act (act [] (rope σ.1 z)) (rope σ.1 y)) (trn (rope σ.1 z))) := p_41.1
        have o3 := o2.tr p_41.2
        have l3 := act_len (act (act [] (rope σ.1 z)) (rope σ.1 y)) (trn (rope σ.1 z))
        refine k_aload_n hx dX6_weave_44 0 rfl ?_
        refine k_iload_n hx dX6_weave_45 2 rfl ?_
        refine k_iconst hx dX6_weave_46 ?_
        refine k_vv (rest := []) hx vX6_80 dX6_weave_47 (c_X6_pushRope (A := σ.1) (hI.1.w o3) hy4 (t := true) w3 (by omega)) n_120 L_120 rfl rfl rfl ⟨rfl, rfl⟩ ⟨by decide, by decide⟩ (fun M_47 p_47 => ?_)
        have o4 := o3.tr p_47.2
        have w4 : Wk M_47 (wv σ z y) := by
          have h : Wk M_47 (act (act (act (act [] (rope σ.1 z)) (rope σ.1 y)) (trn (rope σ.1 z))) (trn (rope σ.1 y))) := p_47.1
          rw [← act_app, ← act_app, ← act_app, ← List.append_assoc, ← List.append_assoc] at h
          exact h
        have hwl : (wv σ z y).length ≤ 480 := by
          have h := act_len [] (rope σ.1 z ++ rope σ.1 y ++ trn (rope σ.1 z) ++ trn (rope σ.1 y))
          simp only [List.length_append, List.length_nil] at h
          show (act [] (rope σ.1 z ++ rope σ.1 y ++ trn (rope σ.1 z) ++ trn (rope σ.1 y))).length ≤ 480
          omega
        have hI1 := hI.q o4.m
        refine k_aload_n hx dX6_weave_50 0 rfl ?_
        refine k_get (v := vI ((wv σ z y).length)) hx fX6_54 dX6_weave_51 n_120 L_120 (congrArg vI (show M_47 120 8 = ((wv σ z y).length) from w4.1)) ?_
        refine k_bipush hx dX6_weave_54 (by decide +kernel) ?_
        refine k_icmp_le hx dX6_weave_56 (by omega) (fun h_56 => ?_) (fun h_56 => ?_)
        · refine k_aload_n hx dX6_weave_62 0 rfl ?_
          refine k_vv (rest := []) hx vX6_99 dX6_weave_63 (c_X6_record hI1.1 hI1.2.1) n_120 L_120 rfl rfl rfl ⟨rfl, rfl⟩ ⟨by decide, by decide⟩ (fun M_63 p_63 => ?_)
          have hI2 := hI1.rec p_63
          have w5 : Wk M_63 (wv σ z y) := ⟨by rw [p_63.2.2 8 (by decide)]; exact w4.1, fun q q0 q1 => by rw [p_63.2.1 126 (by decide) (by decide)]; exact w4.2.1 q q0 q1, w4.2.2⟩
          refine k_aload_n hx dX6_weave_66 0 rfl ?_
          refine k_iload_n hx dX6_weave_67 1 rfl ?_
          refine k_vv (rest := []) hx vX6_106 dX6_weave_68 (c_X6_take (A := σ.1) hI2.1 hz4 w5 (by omega)) n_120 L_120 rfl rfl rfl ⟨rfl, rfl⟩ ⟨by decide, by decide⟩ (fun M_68 p_68 => ?_)
          obtain ⟨q3, q4⟩ := p_68
          refine k_aload_n hx dX6_weave_71 0 rfl ?_
          refine k_get (v := vI ((wv σ z y).length)) hx fX6_54 dX6_weave_72 n_120 L_120 (congrArg vI (show M_68 120 8 = ((wv σ z y).length) from by rw [q4 120 (by decide)]; exact w5.1)) ?_
          refine k_ri hx hr dX6_weave_75 ?_
          refine ⟨by unfold aWeave; rw [if_pos (by omega), if_neg (by omega)], ?_, fun a ha => by rw [q4 a (by omega), p_63.2.1 a (by omega) (by omega)]; exact o4.m.lo a ha⟩
          unfold aWeave
          rw [if_pos (by omega), if_neg (by omega)]
          exact hI2.set q3 q4
        · refine k_bipush hx dX6_weave_59 (by decide +kernel) ?_
          refine k_ri hx hr dX6_weave_61 ?_
          exact ⟨by unfold aWeave; rw [if_pos (by omega), if_pos (by omega)], by unfold aWeave; rw [if_pos (by omega), if_pos (by omega)]; exact hI1, o4.m.lo⟩
      · refine k_iconst hx dX6_weave_19 ?_
        refine k_ri hx hr dX6_weave_20 ?_
        exact ⟨by unfold aWeave; rw [if_neg (by omega)], by unfold aWeave; rw [if_neg (by omega)]; exact hI, fun _ _ => rfl⟩
theorem c_X6_turn {g : GE} {l : Launch} {M : Mem} {σ : Sg} (hI : InvM M σ) {z : Int} (hzr : -2147483648 ≤ z ∧ z < 2147483648) : Ci g l μX6_turn [vR g 120, vI z] M (PM M (aTurn σ z)) := by
  refine Ci.of (by decide +kernel) rfl rfl (fun x hx hr => ?_)
  refine k_iload_n hx dX6_turn_0 1 rfl ?_
  refine k_sp (rest := []) (e := (b2i (decide (0 ≤ z ∧ z ≤ 3)))) hx sX6_102 dX6_turn_1 (c_X6_isRope (z := z) (by omega)) rfl rfl rfl ⟨rfl, rfl⟩ ⟨by decide, by decide⟩ ?_
  refine k_bne hx dX6_turn_4 (fun h_4 => ?_) (fun h_4 => ?_)
  · refine k_aload_n hx dX6_turn_9 0 rfl ?_
    refine k_vv (rest := []) hx vX6_99 dX6_turn_10 (c_X6_record hI.1 hI.2.1) n_120 L_120 rfl rfl rfl ⟨rfl, rfl⟩ ⟨by decide, by decide⟩ (fun M_10 p_10 => ?_)
    have hI2 := hI.rec p_10
    have hS2 : Fl M_10 121 0 σ.1 := hI2.1
    have hoM : ∀ a, a < 120 → M_10 a = M a := fun a ha => p_10.2.1 a (by omega) (by omega)
    refine k_aload_n hx dX6_turn_13 0 rfl ?_
    refine k_aload_n hx dX6_turn_14 0 rfl ?_
    refine k_iload_n hx dX6_turn_15 1 rfl ?_
    have hz4 : 0 ≤ z ∧ z < 4 := by omega
    have hrl := (hS2.1.rope hz4).2
    have hrc := (hS2.1.rope hz4).1
    have htl := trn_len (rope σ.1 z)
    refine k_vp (rest := [vR g 120]) (e := ((rope σ.1 z).length)) hx vX6_65 dX6_turn_16 (c_X6_many hS2 (r := z) (by omega)) n_120 L_120 rfl rfl rfl ⟨rfl, rfl⟩ ⟨by decide, by decide⟩ ?_
    refine k_putI (kz := 8) hx fX6_54 dX6_turn_19 n_120 L_120 rfl rfl (fun M_19 hM_19 => ?_)
    refine k_iconst hx dX6_turn_22 ?_
    refine k_istore_n (ls' := [(0, vR g 120), (1, vI z), (2, vI 0)]) hx dX6_turn_23 rfl rfl (by decide) ?_
    have loop : ∀ (f : Nat) (k : Nat) (u : Int) (M' : Mem), u = k → k ≤ (rope σ.1 z).length → (rope σ.1 z).length - k < f → M' 120 8 = (rope σ.1 z).length → (∀ q : Int, 0 ≤ q → q < k → M' 126 q = at0 (trn (rope σ.1 z)) q) → OW M_10 M' → K x g 0 0 LAY NN M' 24 [(0, vR g 120), (1, vI z), (2, vI u)] [] := by
      intro f
      induction f with
      | zero => intro k u M' hu hk hf h8 hin ho; omega
      | succ f ih =>
        intro k u M' hu hk hf h8 hin ho
        refine k_iload_n hx dX6_turn_24 2 rfl ?_
        refine k_aload_n hx dX6_turn_25 0 rfl ?_
        refine k_get (v := vI ((rope σ.1 z).length)) hx fX6_54 dX6_turn_26 n_120 L_120 (congrArg vI (show M' 120 8 = ((rope σ.1 z).length) from h8)) ?_
        refine k_icmp_ge hx dX6_turn_29 (by omega) (fun h_29 => ?_) (fun h_29 => ?_)
        · refine k_aload_n hx dX6_turn_60 0 rfl ?_
          refine k_iload_n hx dX6_turn_61 1 rfl ?_
          refine k_vv (rest := []) hx vX6_106 dX6_turn_62 (c_X6_take (A := σ.1) (w := trn (rope σ.1 z)) (hS2.w ho) hz4 ⟨by rw [h8, htl], fun q q0 q1 => by rw [show (0 : Int) + q = q by omega]; exact hin q q0 (by omega), cr_trn hrc⟩ (by omega)) n_120 L_120 rfl rfl rfl ⟨rfl, rfl⟩ ⟨by decide, by decide⟩ (fun M_62 p_62 => ?_)
          obtain ⟨q3, q4⟩ := p_62
          refine k_aload_n hx dX6_turn_65 0 rfl ?_
          refine k_get (v := vI ((rope σ.1 z).length)) hx fX6_54 dX6_turn_66 n_120 L_120 (congrArg vI (show M_62 120 8 = ((rope σ.1 z).length) from by rw [q4 120 (by decide)]; exact h8)) ?_
          refine k_ri hx hr dX6_turn_69 ?_
          refine ⟨by unfold aTurn; rw [if_pos hz4], ?_, fun a ha => by rw [q4 a (by omega), ho.m.lo a ha]; exact hoM a ha⟩
          unfold aTurn
          rw [if_pos hz4]
          exact (hI2.q ho.m).set q3 q4
        · refine k_aload_n hx dX6_turn_32 0 rfl ?_
          refine k_get (v := vR g 126) hx fX6_26 dX6_turn_33 n_120 L_120 rfl ?_
          refine k_iload_n hx dX6_turn_36 2 rfl ?_
          refine k_aload_n hx dX6_turn_37 0 rfl ?_
          refine k_iload_n hx dX6_turn_38 1 rfl ?_
          refine k_aload_n hx dX6_turn_39 0 rfl ?_
          refine k_get (v := vI ((rope σ.1 z).length)) hx fX6_54 dX6_turn_40 n_120 L_120 (congrArg vI (show M' 120 8 = ((rope σ.1 z).length) from h8)) ?_
          refine k_iconst hx dX6_turn_43 ?_
          refine k_isub hx dX6_turn_44 ?_
          refine k_iload_n hx dX6_turn_45 2 rfl ?_
          refine k_isub hx dX6_turn_46 ?_
          have hac := at0_in hrc (z := (rope σ.1 z).length - 1 - u) (by omega) (by omega)
          have hta : at0 (trn (rope σ.1 z)) k = op (at0 (rope σ.1 z) ((rope σ.1 z).length - 1 - u)) := by
            rw [trn_at (by omega)]; congr 2; omega
          refine k_vp (rest := [vI u, vR g 126]) (e := (at0 (rope σ.1 z) ((rope σ.1 z).length - 1 - u))) hx vX6_69 dX6_turn_47 (c_X6_at (hS2.w ho) hz4 (k := (rope σ.1 z).length - 1 - u) (by omega)) n_120 L_120 rfl rfl rfl ⟨rfl, rfl⟩ ⟨by decide, by decide⟩ ?_
          refine k_sp (rest := [vI u, vR g 126]) (e := (op (at0 (rope σ.1 z) ((rope σ.1 z).length - 1 - u)))) hx sX6_73 dX6_turn_50 (c_X6_otherSide (a := (at0 (rope σ.1 z) ((rope σ.1 z).length - 1 - u))) (by omega)) rfl rfl rfl ⟨rfl, rfl⟩ ⟨by decide, by decide⟩ ?_
          refine k_iastN hx dX6_turn_53 n_126 L_126 (by omega) (by decide) (fun M_53 hM_53 => ?_)
          refine k_iinc (ls' := [(0, vR g 120), (1, vI z), (2, vI (u + 1))]) hx dX6_turn_54 2 rfl rfl rfl (by decide) ?_
          refine k_goto hx dX6_turn_57 ?_
          refine ih (k + 1) (u + 1) M_53 (by omega) (by omega) (by omega) (by rw [hM_53, up_i (by decide)]; exact h8) (fun q q0 q1 => ?_) (ho.tr (by rw [hM_53]; exact ⟨fun a _ h2 => up_i h2, fun k _ => by rw [up_i (by decide)]⟩))
          rw [hM_53]
          by_cases hq : q = u
          · rw [hq, up_s, hu, hta, hu]
          · rw [up_k hq]; exact hin q q0 (by omega)
    exact loop ((rope σ.1 z).length + 1) 0 0 M_19 rfl (by omega) (by omega) (by rw [hM_19, up_s]) (fun q h0 h1 => by omega) (by rw [hM_19]; exact OW.len)
  · refine k_iconst hx dX6_turn_7 ?_
    refine k_ri hx hr dX6_turn_8 ?_
    exact ⟨by unfold aTurn; rw [if_neg (by omega)], by unfold aTurn; rw [if_neg (by omega)]; exact hI, fun _ _ => rfl⟩

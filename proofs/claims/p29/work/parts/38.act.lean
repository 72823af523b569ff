/-! all four ropes; an act out of cells -/
theorem c_L_agree {g : GE} {l : Launch} {M : Mem} {σ : Sg} (hI : Inv M σ) (h60 : OKN σ 60) : Ca g l μL_agree 8 512 [vR g 0] M (fun y M' => y = 1 ∧ Inv M' σ) := by
  refine Ca.of (by decide +kernel) rfl rfl (fun x hx hr => ?_)
  have hall : allC σ.1 = (rope σ.1 0).length + (rope σ.1 1).length + (rope σ.1 2).length + (rope σ.1 3).length := rfl
  have q0 := h60 0 (by decide)
  have q1 := h60 1 (by decide)
  have q2 := h60 2 (by decide)
  have q3 := h60 3 (by decide)
  refine k_iconst hx dL_agree_0 ?_
  refine k_istore_n (ls' := [(0, vR g 0), (1, vI 0)]) hx dL_agree_1 rfl rfl (by decide) ?_
  refine k_iconst hx dL_agree_2 ?_
  refine k_istore_n (ls' := [(0, vR g 0), (1, vI 0), (2, vI 0)]) hx dL_agree_3 rfl rfl (by decide) ?_
  refine k_iload_n hx dL_agree_4 2 rfl ?_
  refine k_iconst hx dL_agree_5 ?_
  refine k_icmp_ge hx dL_agree_6 (by omega) (fun h_6 => absurd h_6 (by omega)) (fun h_6 => ?_)
  refine k_iload_n hx dL_agree_9 1 rfl ?_
  refine k_aload_n hx dL_agree_10 0 rfl ?_
  refine k_iload_n hx dL_agree_11 2 rfl ?_
  refine k_iconst hx dL_agree_12 ?_
  refine k_vi (rest := [vI 0]) hx vL_8 dL_agree_13 (q_len hI (z := 0) (by decide)) n_0 L_0 rfl rfl rfl ⟨rfl, rfl⟩ ⟨by decide, by decide⟩ (fun z_13 M_13 p_13 => ?_)
  obtain ⟨rfl, I_13, o_13⟩ := p_13
  have I_13 : Inv M_13 σ := I_13
  refine k_iadd hx dL_agree_16 ?_
  refine k_istore_n (ls' := [(0, vR g 0), (1, vI (0 + ((rope σ.1 0).length))), (2, vI 0)]) hx dL_agree_17 rfl rfl (by decide) ?_
  refine k_aload_n hx dL_agree_18 0 rfl ?_
  refine k_iload_n hx dL_agree_19 2 rfl ?_
  refine k_sa (ls := fun q => [(0, rf q 0), (1, vI (0 + ((rope σ.1 0).length))), (2, vI 0)]) (As := fun q => [rf q 0, vI 0]) hx sL_55 dL_agree_20 (c_L_isTold I_13 (z := 0) (by decide) (h60 0 (by decide))) rfl rfl ⟨rfl, rfl⟩ ⟨Nat.le_of_ble_eq_true rfl, Nat.le_of_ble_eq_true rfl⟩ (fun g1 z_20 M_20 hs_g1 p_20 => ?_)
  have hx_g1 := hx.sm hs_g1
  have hr_g1 := hr.sm hs_g1
  obtain ⟨rfl, I_20⟩ := p_20
  show K _ _ _ _ _ _ _ 23 [(0, vR g1 0), (1, vI (0 + ((rope σ.1 0).length))), (2, vI 0)] [vI 1]
  refine k_ifne hx_g1 dL_agree_23 (by omega) (fun h_23 => ?_) (fun h_23 => absurd h_23 (by omega))
  refine k_iinc (ls' := [(0, vR g1 0), (1, vI (0 + ((rope σ.1 0).length))), (2, vI (0 + 1))]) hx_g1 dL_agree_28 2 rfl rfl rfl (by decide) ?_
  refine k_goto hx_g1 dL_agree_31 ?_
  refine k_iload_n hx_g1 dL_agree_4 2 rfl ?_
  refine k_iconst hx_g1 dL_agree_5 ?_
  refine k_icmp_ge hx_g1 dL_agree_6 (by omega) (fun h_6 => absurd h_6 (by omega)) (fun h_6 => ?_)
  refine k_iload_n hx_g1 dL_agree_9 1 rfl ?_
  refine k_aload_n hx_g1 dL_agree_10 0 rfl ?_
  refine k_iload_n hx_g1 dL_agree_11 2 rfl ?_
  refine k_iconst hx_g1 dL_agree_12 ?_
  refine k_vi (rest := [vI (0 + ((rope σ.1 0).length))]) hx_g1 vL_8 dL_agree_13 (q_len I_20 (z := 1) (by decide)) n_0 L_0 rfl rfl rfl ⟨rfl, rfl⟩ ⟨by decide, by decide⟩ (fun z_13 M_13 p_13 => ?_)
  obtain ⟨rfl, I_13, o_13⟩ := p_13
  have I_13 : Inv M_13 σ := I_13
  refine k_iadd hx_g1 dL_agree_16 ?_
  refine k_istore_n (ls' := [(0, vR g1 0), (1, vI ((0 + ((rope σ.1 0).length)) + ((rope σ.1 1).length))), (2, vI 1)]) hx_g1 dL_agree_17 rfl rfl (by decide) ?_
  refine k_aload_n hx_g1 dL_agree_18 0 rfl ?_
  refine k_iload_n hx_g1 dL_agree_19 2 rfl ?_
  refine k_sa (ls := fun q => [(0, rf q 0), (1, vI ((0 + ((rope σ.1 0).length)) + ((rope σ.1 1).length))), (2, vI 1)]) (As := fun q => [rf q 0, vI 1]) hx_g1 sL_55 dL_agree_20 (c_L_isTold I_13 (z := 1) (by decide) (h60 1 (by decide))) rfl rfl ⟨rfl, rfl⟩ ⟨Nat.le_of_ble_eq_true rfl, Nat.le_of_ble_eq_true rfl⟩ (fun g2 z_20 M_20 hs_g2 p_20 => ?_)
  have hx_g2 := hx_g1.sm hs_g2
  have hr_g2 := hr_g1.sm hs_g2
  obtain ⟨rfl, I_20⟩ := p_20
  show K _ _ _ _ _ _ _ 23 [(0, vR g2 0), (1, vI ((0 + ((rope σ.1 0).length)) + ((rope σ.1 1).length))), (2, vI 1)] [vI 1]
  refine k_ifne hx_g2 dL_agree_23 (by omega) (fun h_23 => ?_) (fun h_23 => absurd h_23 (by omega))
  refine k_iinc (ls' := [(0, vR g2 0), (1, vI ((0 + ((rope σ.1 0).length)) + ((rope σ.1 1).length))), (2, vI (1 + 1))]) hx_g2 dL_agree_28 2 rfl rfl rfl (by decide) ?_
  refine k_goto hx_g2 dL_agree_31 ?_
  refine k_iload_n hx_g2 dL_agree_4 2 rfl ?_
  refine k_iconst hx_g2 dL_agree_5 ?_
  refine k_icmp_ge hx_g2 dL_agree_6 (by omega) (fun h_6 => absurd h_6 (by omega)) (fun h_6 => ?_)
  refine k_iload_n hx_g2 dL_agree_9 1 rfl ?_
  refine k_aload_n hx_g2 dL_agree_10 0 rfl ?_
  refine k_iload_n hx_g2 dL_agree_11 2 rfl ?_
  refine k_iconst hx_g2 dL_agree_12 ?_
  refine k_vi (rest := [vI ((0 + ((rope σ.1 0).length)) + ((rope σ.1 1).length))]) hx_g2 vL_8 dL_agree_13 (q_len I_20 (z := 2) (by decide)) n_0 L_0 rfl rfl rfl ⟨rfl, rfl⟩ ⟨by decide, by decide⟩ (fun z_13 M_13 p_13 => ?_)
  obtain ⟨rfl, I_13, o_13⟩ := p_13
  have I_13 : Inv M_13 σ := I_13
  refine k_iadd hx_g2 dL_agree_16 ?_
  refine k_istore_n (ls' := [(0, vR g2 0), (1, vI (((0 + ((rope σ.1 0).length)) + ((rope σ.1 1).length)) + ((rope σ.1 2).length))), (2, vI 2)]) hx_g2 dL_agree_17 rfl rfl (by decide) ?_
  refine k_aload_n hx_g2 dL_agree_18 0 rfl ?_
  refine k_iload_n hx_g2 dL_agree_19 2 rfl ?_
  refine k_sa (ls := fun q => [(0, rf q 0), (1, vI (((0 + ((rope σ.1 0).length)) + ((rope σ.1 1).length)) + ((rope σ.1 2).length))), (2, vI 2)]) (As := fun q => [rf q 0, vI 2]) hx_g2 sL_55 dL_agree_20 (c_L_isTold I_13 (z := 2) (by decide) (h60 2 (by decide))) rfl rfl ⟨rfl, rfl⟩ ⟨Nat.le_of_ble_eq_true rfl, Nat.le_of_ble_eq_true rfl⟩ (fun g3 z_20 M_20 hs_g3 p_20 => ?_)
  have hx_g3 := hx_g2.sm hs_g3
  have hr_g3 := hr_g2.sm hs_g3
  obtain ⟨rfl, I_20⟩ := p_20
  show K _ _ _ _ _ _ _ 23 [(0, vR g3 0), (1, vI (((0 + ((rope σ.1 0).length)) + ((rope σ.1 1).length)) + ((rope σ.1 2).length))), (2, vI 2)] [vI 1]
  refine k_ifne hx_g3 dL_agree_23 (by omega) (fun h_23 => ?_) (fun h_23 => absurd h_23 (by omega))
  refine k_iinc (ls' := [(0, vR g3 0), (1, vI (((0 + ((rope σ.1 0).length)) + ((rope σ.1 1).length)) + ((rope σ.1 2).length))), (2, vI (2 + 1))]) hx_g3 dL_agree_28 2 rfl rfl rfl (by decide) ?_
  refine k_goto hx_g3 dL_agree_31 ?_
  refine k_iload_n hx_g3 dL_agree_4 2 rfl ?_
  refine k_iconst hx_g3 dL_agree_5 ?_
  refine k_icmp_ge hx_g3 dL_agree_6 (by omega) (fun h_6 => absurd h_6 (by omega)) (fun h_6 => ?_)
  refine k_iload_n hx_g3 dL_agree_9 1 rfl ?_
  refine k_aload_n hx_g3 dL_agree_10 0 rfl ?_
  refine k_iload_n hx_g3 dL_agree_11 2 rfl ?_
  refine k_iconst hx_g3 dL_agree_12 ?_
  refine k_vi (rest := [vI (((0 + ((rope σ.1 0).length)) + ((rope σ.1 1).length)) + ((rope σ.1 2).length))]) hx_g3 vL_8 dL_agree_13 (q_len I_20 (z := 3) (by decide)) n_0 L_0 rfl rfl rfl ⟨rfl, rfl⟩ ⟨by decide, by decide⟩ (fun z_13 M_13 p_13 => ?_)
  obtain ⟨rfl, I_13, o_13⟩ := p_13
  have I_13 : Inv M_13 σ := I_13
  refine k_iadd hx_g3 dL_agree_16 ?_
  refine k_istore_n (ls' := [(0, vR g3 0), (1, vI ((((0 + ((rope σ.1 0).length)) + ((rope σ.1 1).length)) + ((rope σ.1 2).length)) + ((rope σ.1 3).length))), (2, vI 3)]) hx_g3 dL_agree_17 rfl rfl (by decide) ?_
  refine k_aload_n hx_g3 dL_agree_18 0 rfl ?_
  refine k_iload_n hx_g3 dL_agree_19 2 rfl ?_
  refine k_sa (ls := fun q => [(0, rf q 0), (1, vI ((((0 + ((rope σ.1 0).length)) + ((rope σ.1 1).length)) + ((rope σ.1 2).length)) + ((rope σ.1 3).length))), (2, vI 3)]) (As := fun q => [rf q 0, vI 3]) hx_g3 sL_55 dL_agree_20 (c_L_isTold I_13 (z := 3) (by decide) (h60 3 (by decide))) rfl rfl ⟨rfl, rfl⟩ ⟨Nat.le_of_ble_eq_true rfl, Nat.le_of_ble_eq_true rfl⟩ (fun g4 z_20 M_20 hs_g4 p_20 => ?_)
  have hx_g4 := hx_g3.sm hs_g4
  have hr_g4 := hr_g3.sm hs_g4
  obtain ⟨rfl, I_20⟩ := p_20
  show K _ _ _ _ _ _ _ 23 [(0, vR g4 0), (1, vI ((((0 + ((rope σ.1 0).length)) + ((rope σ.1 1).length)) + ((rope σ.1 2).length)) + ((rope σ.1 3).length))), (2, vI 3)] [vI 1]
  refine k_ifne hx_g4 dL_agree_23 (by omega) (fun h_23 => ?_) (fun h_23 => absurd h_23 (by omega))
  refine k_iinc (ls' := [(0, vR g4 0), (1, vI ((((0 + ((rope σ.1 0).length)) + ((rope σ.1 1).length)) + ((rope σ.1 2).length)) + ((rope σ.1 3).length))), (2, vI (3 + 1))]) hx_g4 dL_agree_28 2 rfl rfl rfl (by decide) ?_
  refine k_goto hx_g4 dL_agree_31 ?_
  refine k_iload_n hx_g4 dL_agree_4 2 rfl ?_
  refine k_iconst hx_g4 dL_agree_5 ?_
  refine k_icmp_ge hx_g4 dL_agree_6 (by omega) (fun h_6 => ?_) (fun h_6 => absurd h_6 (by omega))
  refine k_aload_n hx_g4 dL_agree_34 0 rfl ?_
  refine k_bipush hx_g4 dL_agree_35 (by decide +kernel) ?_
  refine k_vi (rest := []) hx_g4 vL_35 dL_agree_37 (q_all I_20) n_0 L_0 rfl rfl rfl ⟨rfl, rfl⟩ ⟨by decide, by decide⟩ (fun z_37 M_37 p_37 => ?_)
  obtain ⟨rfl, I_37, o_37⟩ := p_37
  have I_37 : Inv M_37 σ := I_37
  refine k_iload_n hx_g4 dL_agree_40 1 rfl ?_
  refine k_icmp_ne hx_g4 dL_agree_41 (by omega) (fun h_41 => absurd h_41 (by omega)) (fun h_41 => ?_)
  refine k_iconst hx_g4 dL_agree_44 ?_
  refine k_goto hx_g4 dL_agree_45 ?_
  refine k_za hx_g4 hr_g4 ⟨by decide, by decide⟩ dL_agree_49 (by first | exact Or.inl rfl | exact Or.inr rfl | exact b2i_or _) ?_
  exact ⟨rfl, I_37⟩
set_option maxHeartbeats 4000000 in
theorem c_L_isAct {g : GE} {l : Launch} {M : Mem} {b Ln : Nat} {xs : Nat → Int32} {σ : Sg} (hI : Inv M σ) (h60 : OKN σ 60) {p0 : Int} (hp0 : 0 ≤ p0 ∧ p0 < 900) : Cts g l μL_isAct 3 192 [vR g 0, .ref b, vI p0] LAY (NN g) M b Ln xs (PA AO) := by
  refine Cts.of (by decide +kernel) rfl rfl (fun x hx hs hr => ?_)
  refine k_aload_n hx dL_isAct_0 1 rfl ?_
  refine k_iload_n hx dL_isAct_1 2 rfl ?_
  refine k_iconst hx dL_isAct_2 ?_
  refine k_iadd hx dL_isAct_3 ?_
  refine k_iconst hx dL_isAct_4 ?_
  refine k_sis (rest := []) hx hs sL_96 dL_isAct_5 (c_L_cell (k := (p0 + 1)) (n := 4) (by omega) (by omega)) rfl rfl rfl ⟨rfl, rfl⟩ ⟨by decide, by decide⟩ (fun z_5 M_5 p_5 => ?_)
  obtain ⟨b_5, e_5⟩ := p_5
  rw [e_5]
  refine k_istore_n (ls' := [(0, vR g 0), (1, .ref b), (2, vI p0), (3, vI z_5)]) hx dL_isAct_8 rfl rfl (by decide) ?_
  refine k_aload_n hx dL_isAct_9 1 rfl ?_
  refine k_iload_n hx dL_isAct_10 2 rfl ?_
  refine k_iconst hx dL_isAct_11 ?_
  refine k_iadd hx dL_isAct_12 ?_
  refine k_iconst hx dL_isAct_13 ?_
  refine k_sis (rest := []) hx hs sL_96 dL_isAct_14 (c_L_cell (k := (p0 + 2)) (n := 4) (by omega) (by omega)) rfl rfl rfl ⟨rfl, rfl⟩ ⟨by decide, by decide⟩ (fun z_14 M_14 p_14 => ?_)
  obtain ⟨b_14, e_14⟩ := p_14
  rw [e_14]
  refine k_istore (ls' := [(0, vR g 0), (1, .ref b), (2, vI p0), (3, vI z_5), (4, vI z_14)]) hx dL_isAct_17 rfl rfl (by decide) ?_
  refine k_aload_n hx dL_isAct_19 1 rfl ?_
  refine k_iload_n hx dL_isAct_20 2 rfl ?_
  refine k_bipush hx dL_isAct_21 (by decide +kernel) ?_
  refine k_sis (rest := []) hx hs sL_96 dL_isAct_23 (c_L_cell (k := p0) (n := 14) (by omega) (by omega)) rfl rfl rfl ⟨rfl, rfl⟩ ⟨by decide, by decide⟩ (fun z_23 M_23 p_23 => ?_)
  obtain ⟨b_23, e_23⟩ := p_23
  rw [e_23]
  obtain ⟨z, hze⟩ : ∃ z, z = z_5 := ⟨_, rfl⟩
  obtain ⟨y, hye⟩ : ∃ y, y = z_14 := ⟨_, rfl⟩
  rw [← hze] at b_5 ⊢
  rw [← hye] at b_14 ⊢
  have hz := b_5
  have hy := b_14
  have hlz := h60 z hz
  have j84 : K x g 0 0 LAY (NN g) M 84 [(0, vR g 0), (1, .ref b), (2, vI p0), (3, vI z), (4, vI y)] [] := by
    refine k_aload_n hx dL_isAct_84 1 rfl ?_
    refine k_iload_n hx dL_isAct_85 2 rfl ?_
    refine k_iconst hx dL_isAct_86 ?_
    refine k_iadd hx dL_isAct_87 ?_
    refine k_aload_n hx dL_isAct_88 1 rfl ?_
    refine k_iload_n hx dL_isAct_89 2 rfl ?_
    refine k_iconst hx dL_isAct_90 ?_
    refine k_iadd hx dL_isAct_91 ?_
    refine k_iconst hx dL_isAct_92 ?_
    refine k_sis (rest := [vI (p0 + 2), .ref b]) hx hs sL_96 dL_isAct_93 (c_L_cell (k := (p0 + 3)) (n := 2) (by omega) (by omega)) rfl rfl rfl ⟨rfl, rfl⟩ ⟨by decide, by decide⟩ (fun z_93 M_93 p_93 => ?_)
    obtain ⟨b_93, e_93⟩ := p_93
    rw [e_93]
    refine k_ifne hx dL_isAct_96 (by omega) (fun h_96 => ?_) (fun h_96 => ?_)
    · refine k_iconst hx dL_isAct_104 ?_
      refine k_sis (rest := []) hx hs sL_96 dL_isAct_105 (c_L_cell (k := (p0 + 2)) (n := 2) (by omega) (by omega)) rfl rfl rfl ⟨rfl, rfl⟩ ⟨by decide, by decide⟩ (fun z_105 M_105 p_105 => ?_)
      obtain ⟨b_105, e_105⟩ := p_105
      rw [e_105]
      refine k_aload_n hx dL_isAct_108 1 rfl ?_
      refine k_iload_n hx dL_isAct_109 2 rfl ?_
      refine k_iconst hx dL_isAct_110 ?_
      refine k_iadd hx dL_isAct_111 ?_
      refine k_iconst hx dL_isAct_112 ?_
      refine k_sis (rest := [vI z_105]) hx hs sL_96 dL_isAct_113 (c_L_cell (k := (p0 + 4)) (n := 3) (by omega) (by omega)) rfl rfl rfl ⟨rfl, rfl⟩ ⟨by decide, by decide⟩ (fun z_113 M_113 p_113 => ?_)
      obtain ⟨b_113, e_113⟩ := p_113
      rw [e_113]
      refine k_ifne hx dL_isAct_116 (by omega) (fun h_116 => ?_) (fun h_116 => ?_)
      · refine k_iconst hx dL_isAct_124 ?_
        refine k_imul hx dL_isAct_125 ?_
        refine k_bipush hx dL_isAct_126 (by decide +kernel) ?_
        refine k_irem hx dL_isAct_128 (by omega) ?_
        refine k_istore (ls' := [(0, vR g 0), (1, .ref b), (2, vI p0), (3, vI z), (4, vI y), (5, vI ((z_105 * 1) % 12))]) hx dL_isAct_129 rfl rfl (by decide) ?_
        refine k_aload_n hx dL_isAct_131 0 rfl ?_
        refine k_iload_n hx dL_isAct_132 3 rfl ?_
        refine k_iconst hx dL_isAct_133 ?_
        refine k_vi (rest := []) hx vL_8 dL_isAct_134 (q_len hI hz) n_0 L_0 rfl rfl rfl ⟨rfl, rfl⟩ ⟨by decide, by decide⟩ (fun z_134 M_134 p_134 => ?_)
        obtain ⟨rfl, I_134, o_134⟩ := p_134
        have I_134 : Inv M_134 σ := I_134
        refine k_bipush hx dL_isAct_137 (by decide +kernel) ?_
        refine k_icmp_gt hx dL_isAct_139 (by omega) (fun h_139 => ?_) (fun h_139 => ?_)
        · refine k_iconst hx dL_isAct_152 ?_
          refine k_goto hx dL_isAct_153 ?_
          refine k_za hx hr ⟨by decide, by decide⟩ dL_isAct_157 (by first | exact Or.inl rfl | exact Or.inr rfl | exact b2i_or _) ?_
          exact ⟨rfl, σ, I_134, h60⟩
        · refine k_aload_n hx dL_isAct_142 0 rfl ?_
          refine k_iload_n hx dL_isAct_143 3 rfl ?_
          refine k_iload hx dL_isAct_144 5 rfl ?_
          refine k_sa (ls := fun q => [(0, rf q 0), (1, .ref b), (2, vI p0), (3, vI z), (4, vI y), (5, vI ((z_105 * 1) % 12))]) (As := fun q => [rf q 0, vI z, vI ((z_105 * 1) % 12)]) hx sL_100 dL_isAct_146 (c_L_isCrossed I_134 hz (by omega) (c := ((z_105 * 1) % 12)) (by omega)) rfl rfl ⟨rfl, rfl⟩ ⟨Nat.le_of_ble_eq_true rfl, Nat.le_of_ble_eq_true rfl⟩ (fun g1 z_146 M_146 hs_g1 p_146 => ?_)
          have hx_g1 := hx.sm hs_g1
          have hr_g1 := hr.sm hs_g1
          obtain ⟨rfl, σ2, I_146, hlen⟩ := p_146
          have hao : OKN σ2 60 := fun r hr => by
            have e1 := hlen r hr
            have e2 := h60 r hr
            by_cases e : r = z
            · rw [if_pos e] at e1; omega
            · rw [if_neg e] at e1; omega
          show K _ _ _ _ _ _ _ 149 [(0, vR g1 0), (1, .ref b), (2, vI p0), (3, vI z), (4, vI y), (5, vI ((z_105 * 1) % 12))] [vI 1]
          refine k_ifeq hx_g1 dL_isAct_149 (by omega) (fun h_149 => absurd h_149 (by omega)) (fun h_149 => ?_)
          refine k_iconst hx_g1 dL_isAct_152 ?_
          refine k_goto hx_g1 dL_isAct_153 ?_
          refine k_za hx_g1 hr_g1 ⟨by decide, by decide⟩ dL_isAct_157 (by first | exact Or.inl rfl | exact Or.inr rfl | exact b2i_or _) ?_
          exact ⟨rfl, σ2, I_146, hao⟩
      · refine k_bipush hx dL_isAct_119 (by decide +kernel) ?_
        refine k_goto hx dL_isAct_121 ?_
        refine k_imul hx dL_isAct_125 ?_
        refine k_bipush hx dL_isAct_126 (by decide +kernel) ?_
        refine k_irem hx dL_isAct_128 (by omega) ?_
        refine k_istore (ls' := [(0, vR g 0), (1, .ref b), (2, vI p0), (3, vI z), (4, vI y), (5, vI ((z_105 * 6) % 12))]) hx dL_isAct_129 rfl rfl (by decide) ?_
        refine k_aload_n hx dL_isAct_131 0 rfl ?_
        refine k_iload_n hx dL_isAct_132 3 rfl ?_
        refine k_iconst hx dL_isAct_133 ?_
        refine k_vi (rest := []) hx vL_8 dL_isAct_134 (q_len hI hz) n_0 L_0 rfl rfl rfl ⟨rfl, rfl⟩ ⟨by decide, by decide⟩ (fun z_134 M_134 p_134 => ?_)
        obtain ⟨rfl, I_134, o_134⟩ := p_134
        have I_134 : Inv M_134 σ := I_134
        refine k_bipush hx dL_isAct_137 (by decide +kernel) ?_
        refine k_icmp_gt hx dL_isAct_139 (by omega) (fun h_139 => ?_) (fun h_139 => ?_)
        · refine k_iconst hx dL_isAct_152 ?_
          refine k_goto hx dL_isAct_153 ?_
          refine k_za hx hr ⟨by decide, by decide⟩ dL_isAct_157 (by first | exact Or.inl rfl | exact Or.inr rfl | exact b2i_or _) ?_
          exact ⟨rfl, σ, I_134, h60⟩
        · refine k_aload_n hx dL_isAct_142 0 rfl ?_
          refine k_iload_n hx dL_isAct_143 3 rfl ?_
          refine k_iload hx dL_isAct_144 5 rfl ?_
          refine k_sa (ls := fun q => [(0, rf q 0), (1, .ref b), (2, vI p0), (3, vI z), (4, vI y), (5, vI ((z_105 * 6) % 12))]) (As := fun q => [rf q 0, vI z, vI ((z_105 * 6) % 12)]) hx sL_100 dL_isAct_146 (c_L_isCrossed I_134 hz (by omega) (c := ((z_105 * 6) % 12)) (by omega)) rfl rfl ⟨rfl, rfl⟩ ⟨Nat.le_of_ble_eq_true rfl, Nat.le_of_ble_eq_true rfl⟩ (fun g1 z_146 M_146 hs_g1 p_146 => ?_)
          have hx_g1 := hx.sm hs_g1
          have hr_g1 := hr.sm hs_g1
          obtain ⟨rfl, σ2, I_146, hlen⟩ := p_146
          have hao : OKN σ2 60 := fun r hr => by
            have e1 := hlen r hr
            have e2 := h60 r hr
            by_cases e : r = z
            · rw [if_pos e] at e1; omega
            · rw [if_neg e] at e1; omega
          show K _ _ _ _ _ _ _ 149 [(0, vR g1 0), (1, .ref b), (2, vI p0), (3, vI z), (4, vI y), (5, vI ((z_105 * 6) % 12))] [vI 1]
          refine k_ifeq hx_g1 dL_isAct_149 (by omega) (fun h_149 => absurd h_149 (by omega)) (fun h_149 => ?_)
          refine k_iconst hx_g1 dL_isAct_152 ?_
          refine k_goto hx_g1 dL_isAct_153 ?_
          refine k_za hx_g1 hr_g1 ⟨by decide, by decide⟩ dL_isAct_157 (by first | exact Or.inl rfl | exact Or.inr rfl | exact b2i_or _) ?_
          exact ⟨rfl, σ2, I_146, hao⟩
    · refine k_bipush hx dL_isAct_99 (by decide +kernel) ?_
      refine k_goto hx dL_isAct_101 ?_
      refine k_sis (rest := []) hx hs sL_96 dL_isAct_105 (c_L_cell (k := (p0 + 2)) (n := 12) (by omega) (by omega)) rfl rfl rfl ⟨rfl, rfl⟩ ⟨by decide, by decide⟩ (fun z_105 M_105 p_105 => ?_)
      obtain ⟨b_105, e_105⟩ := p_105
      rw [e_105]
      refine k_aload_n hx dL_isAct_108 1 rfl ?_
      refine k_iload_n hx dL_isAct_109 2 rfl ?_
      refine k_iconst hx dL_isAct_110 ?_
      refine k_iadd hx dL_isAct_111 ?_
      refine k_iconst hx dL_isAct_112 ?_
      refine k_sis (rest := [vI z_105]) hx hs sL_96 dL_isAct_113 (c_L_cell (k := (p0 + 4)) (n := 3) (by omega) (by omega)) rfl rfl rfl ⟨rfl, rfl⟩ ⟨by decide, by decide⟩ (fun z_113 M_113 p_113 => ?_)
      obtain ⟨b_113, e_113⟩ := p_113
      rw [e_113]
      refine k_ifne hx dL_isAct_116 (by omega) (fun h_116 => ?_) (fun h_116 => ?_)
      · refine k_iconst hx dL_isAct_124 ?_
        refine k_imul hx dL_isAct_125 ?_
        refine k_bipush hx dL_isAct_126 (by decide +kernel) ?_
        refine k_irem hx dL_isAct_128 (by omega) ?_
        refine k_istore (ls' := [(0, vR g 0), (1, .ref b), (2, vI p0), (3, vI z), (4, vI y), (5, vI ((z_105 * 1) % 12))]) hx dL_isAct_129 rfl rfl (by decide) ?_
        refine k_aload_n hx dL_isAct_131 0 rfl ?_
        refine k_iload_n hx dL_isAct_132 3 rfl ?_
        refine k_iconst hx dL_isAct_133 ?_
        refine k_vi (rest := []) hx vL_8 dL_isAct_134 (q_len hI hz) n_0 L_0 rfl rfl rfl ⟨rfl, rfl⟩ ⟨by decide, by decide⟩ (fun z_134 M_134 p_134 => ?_)
        obtain ⟨rfl, I_134, o_134⟩ := p_134
        have I_134 : Inv M_134 σ := I_134
        refine k_bipush hx dL_isAct_137 (by decide +kernel) ?_
        refine k_icmp_gt hx dL_isAct_139 (by omega) (fun h_139 => ?_) (fun h_139 => ?_)
        · refine k_iconst hx dL_isAct_152 ?_
          refine k_goto hx dL_isAct_153 ?_
          refine k_za hx hr ⟨by decide, by decide⟩ dL_isAct_157 (by first | exact Or.inl rfl | exact Or.inr rfl | exact b2i_or _) ?_
          exact ⟨rfl, σ, I_134, h60⟩
        · refine k_aload_n hx dL_isAct_142 0 rfl ?_
          refine k_iload_n hx dL_isAct_143 3 rfl ?_
          refine k_iload hx dL_isAct_144 5 rfl ?_
          refine k_sa (ls := fun q => [(0, rf q 0), (1, .ref b), (2, vI p0), (3, vI z), (4, vI y), (5, vI ((z_105 * 1) % 12))]) (As := fun q => [rf q 0, vI z, vI ((z_105 * 1) % 12)]) hx sL_100 dL_isAct_146 (c_L_isCrossed I_134 hz (by omega) (c := ((z_105 * 1) % 12)) (by omega)) rfl rfl ⟨rfl, rfl⟩ ⟨Nat.le_of_ble_eq_true rfl, Nat.le_of_ble_eq_true rfl⟩ (fun g1 z_146 M_146 hs_g1 p_146 => ?_)
          have hx_g1 := hx.sm hs_g1
          have hr_g1 := hr.sm hs_g1
          obtain ⟨rfl, σ2, I_146, hlen⟩ := p_146
          have hao : OKN σ2 60 := fun r hr => by
            have e1 := hlen r hr
            have e2 := h60 r hr
            by_cases e : r = z
            · rw [if_pos e] at e1; omega
            · rw [if_neg e] at e1; omega
          show K _ _ _ _ _ _ _ 149 [(0, vR g1 0), (1, .ref b), (2, vI p0), (3, vI z), (4, vI y), (5, vI ((z_105 * 1) % 12))] [vI 1]
          refine k_ifeq hx_g1 dL_isAct_149 (by omega) (fun h_149 => absurd h_149 (by omega)) (fun h_149 => ?_)
          refine k_iconst hx_g1 dL_isAct_152 ?_
          refine k_goto hx_g1 dL_isAct_153 ?_
          refine k_za hx_g1 hr_g1 ⟨by decide, by decide⟩ dL_isAct_157 (by first | exact Or.inl rfl | exact Or.inr rfl | exact b2i_or _) ?_
          exact ⟨rfl, σ2, I_146, hao⟩
      · refine k_bipush hx dL_isAct_119 (by decide +kernel) ?_
        refine k_goto hx dL_isAct_121 ?_
        refine k_imul hx dL_isAct_125 ?_
        refine k_bipush hx dL_isAct_126 (by decide +kernel) ?_
        refine k_irem hx dL_isAct_128 (by omega) ?_
        refine k_istore (ls' := [(0, vR g 0), (1, .ref b), (2, vI p0), (3, vI z), (4, vI y), (5, vI ((z_105 * 6) % 12))]) hx dL_isAct_129 rfl rfl (by decide) ?_
        refine k_aload_n hx dL_isAct_131 0 rfl ?_
        refine k_iload_n hx dL_isAct_132 3 rfl ?_
        refine k_iconst hx dL_isAct_133 ?_
        refine k_vi (rest := []) hx vL_8 dL_isAct_134 (q_len hI hz) n_0 L_0 rfl rfl rfl ⟨rfl, rfl⟩ ⟨by decide, by decide⟩ (fun z_134 M_134 p_134 => ?_)
        obtain ⟨rfl, I_134, o_134⟩ := p_134
        have I_134 : Inv M_134 σ := I_134
        refine k_bipush hx dL_isAct_137 (by decide +kernel) ?_
        refine k_icmp_gt hx dL_isAct_139 (by omega) (fun h_139 => ?_) (fun h_139 => ?_)
        · refine k_iconst hx dL_isAct_152 ?_
          refine k_goto hx dL_isAct_153 ?_
          refine k_za hx hr ⟨by decide, by decide⟩ dL_isAct_157 (by first | exact Or.inl rfl | exact Or.inr rfl | exact b2i_or _) ?_
          exact ⟨rfl, σ, I_134, h60⟩
        · refine k_aload_n hx dL_isAct_142 0 rfl ?_
          refine k_iload_n hx dL_isAct_143 3 rfl ?_
          refine k_iload hx dL_isAct_144 5 rfl ?_
          refine k_sa (ls := fun q => [(0, rf q 0), (1, .ref b), (2, vI p0), (3, vI z), (4, vI y), (5, vI ((z_105 * 6) % 12))]) (As := fun q => [rf q 0, vI z, vI ((z_105 * 6) % 12)]) hx sL_100 dL_isAct_146 (c_L_isCrossed I_134 hz (by omega) (c := ((z_105 * 6) % 12)) (by omega)) rfl rfl ⟨rfl, rfl⟩ ⟨Nat.le_of_ble_eq_true rfl, Nat.le_of_ble_eq_true rfl⟩ (fun g1 z_146 M_146 hs_g1 p_146 => ?_)
          have hx_g1 := hx.sm hs_g1
          have hr_g1 := hr.sm hs_g1
          obtain ⟨rfl, σ2, I_146, hlen⟩ := p_146
          have hao : OKN σ2 60 := fun r hr => by
            have e1 := hlen r hr
            have e2 := h60 r hr
            by_cases e : r = z
            · rw [if_pos e] at e1; omega
            · rw [if_neg e] at e1; omega
          show K _ _ _ _ _ _ _ 149 [(0, vR g1 0), (1, .ref b), (2, vI p0), (3, vI z), (4, vI y), (5, vI ((z_105 * 6) % 12))] [vI 1]
          refine k_ifeq hx_g1 dL_isAct_149 (by omega) (fun h_149 => absurd h_149 (by omega)) (fun h_149 => ?_)
          refine k_iconst hx_g1 dL_isAct_152 ?_
          refine k_goto hx_g1 dL_isAct_153 ?_
          refine k_za hx_g1 hr_g1 ⟨by decide, by decide⟩ dL_isAct_157 (by first | exact Or.inl rfl | exact Or.inr rfl | exact b2i_or _) ?_
          exact ⟨rfl, σ2, I_146, hao⟩
  have j158 : K x g 0 0 LAY (NN g) M 158 [(0, vR g 0), (1, .ref b), (2, vI p0), (3, vI z), (4, vI y)] [] := by
    refine k_aload_n hx dL_isAct_158 0 rfl ?_
    refine k_iload_n hx dL_isAct_159 3 rfl ?_
    refine k_iconst hx dL_isAct_160 ?_
    refine k_aload_n hx dL_isAct_161 1 rfl ?_
    refine k_iload_n hx dL_isAct_162 2 rfl ?_
    refine k_iconst hx dL_isAct_163 ?_
    refine k_iadd hx dL_isAct_164 ?_
    refine k_bipush hx dL_isAct_165 (by decide +kernel) ?_
    refine k_sis (rest := [vI 1, vI z, vR g 0]) hx hs sL_96 dL_isAct_167 (c_L_cell (k := (p0 + 2)) (n := 9) (by omega) (by omega)) rfl rfl rfl ⟨rfl, rfl⟩ ⟨by decide, by decide⟩ (fun z_167 M_167 p_167 => ?_)
    obtain ⟨b_167, e_167⟩ := p_167
    rw [e_167]
    refine k_iadd hx dL_isAct_170 ?_
    refine k_sa (ls := fun q => [(0, rf q 0), (1, .ref b), (2, vI p0), (3, vI z), (4, vI y)]) (As := fun q => [rf q 0, vI z, vI (1 + z_167)]) hx sL_104 dL_isAct_171 (c_L_isBack hI h60 hz (m := 1 + z_167) (by omega)) rfl rfl ⟨rfl, rfl⟩ ⟨Nat.le_of_ble_eq_true rfl, Nat.le_of_ble_eq_true rfl⟩ (fun g1 z_171 M_171 hs_g1 p_171 => ?_)
    have hx_g1 := hx.sm hs_g1
    have hr_g1 := hr.sm hs_g1
    obtain ⟨rfl, hao⟩ := p_171
    show K _ _ _ _ _ _ _ 174 [(0, vR g1 0), (1, .ref b), (2, vI p0), (3, vI z), (4, vI y)] [vI 1]
    refine k_za hx_g1 hr_g1 ⟨by decide, by decide⟩ dL_isAct_174 (by first | exact Or.inl rfl | exact Or.inr rfl | exact b2i_or _) ?_
    exact ⟨rfl, hao⟩
  have j175 : K x g 0 0 LAY (NN g) M 175 [(0, vR g 0), (1, .ref b), (2, vI p0), (3, vI z), (4, vI y)] [] := by
    refine k_aload_n hx dL_isAct_175 0 rfl ?_
    refine k_iload_n hx dL_isAct_176 3 rfl ?_
    refine k_sa (ls := fun q => [(0, rf q 0), (1, .ref b), (2, vI p0), (3, vI z), (4, vI y)]) (As := fun q => [rf q 0, vI z]) hx sL_107 dL_isAct_177 (c_L_isPulled hI h60 hz) rfl rfl ⟨rfl, rfl⟩ ⟨Nat.le_of_ble_eq_true rfl, Nat.le_of_ble_eq_true rfl⟩ (fun g1 z_177 M_177 hs_g1 p_177 => ?_)
    have hx_g1 := hx.sm hs_g1
    have hr_g1 := hr.sm hs_g1
    obtain ⟨rfl, hao⟩ := p_177
    show K _ _ _ _ _ _ _ 180 [(0, vR g1 0), (1, .ref b), (2, vI p0), (3, vI z), (4, vI y)] [vI 1]
    refine k_za hx_g1 hr_g1 ⟨by decide, by decide⟩ dL_isAct_180 (by first | exact Or.inl rfl | exact Or.inr rfl | exact b2i_or _) ?_
    exact ⟨rfl, hao⟩
  have j181 : K x g 0 0 LAY (NN g) M 181 [(0, vR g 0), (1, .ref b), (2, vI p0), (3, vI z), (4, vI y)] [] := by
    refine k_aload_n hx dL_isAct_181 0 rfl ?_
    refine k_iload_n hx dL_isAct_182 3 rfl ?_
    refine k_iload hx dL_isAct_183 4 rfl ?_
    refine k_sa (ls := fun q => [(0, rf q 0), (1, .ref b), (2, vI p0), (3, vI z), (4, vI y)]) (As := fun q => [rf q 0, vI z, vI y]) hx sL_110 dL_isAct_185 (c_L_isJoined hI h60 hz hy) rfl rfl ⟨rfl, rfl⟩ ⟨Nat.le_of_ble_eq_true rfl, Nat.le_of_ble_eq_true rfl⟩ (fun g1 z_185 M_185 hs_g1 p_185 => ?_)
    have hx_g1 := hx.sm hs_g1
    have hr_g1 := hr.sm hs_g1
    obtain ⟨rfl, hao⟩ := p_185
    show K _ _ _ _ _ _ _ 188 [(0, vR g1 0), (1, .ref b), (2, vI p0), (3, vI z), (4, vI y)] [vI 1]
    refine k_za hx_g1 hr_g1 ⟨by decide, by decide⟩ dL_isAct_188 (by first | exact Or.inl rfl | exact Or.inr rfl | exact b2i_or _) ?_
    exact ⟨rfl, hao⟩
  have j189 : K x g 0 0 LAY (NN g) M 189 [(0, vR g 0), (1, .ref b), (2, vI p0), (3, vI z), (4, vI y)] [] := by
    refine k_aload_n hx dL_isAct_189 0 rfl ?_
    refine k_iload_n hx dL_isAct_190 3 rfl ?_
    refine k_sa (ls := fun q => [(0, rf q 0), (1, .ref b), (2, vI p0), (3, vI z), (4, vI y)]) (As := fun q => [rf q 0, vI z]) hx sL_113 dL_isAct_191 (c_L_isTurned hI h60 hz) rfl rfl ⟨rfl, rfl⟩ ⟨Nat.le_of_ble_eq_true rfl, Nat.le_of_ble_eq_true rfl⟩ (fun g1 z_191 M_191 hs_g1 p_191 => ?_)
    have hx_g1 := hx.sm hs_g1
    have hr_g1 := hr.sm hs_g1
    obtain ⟨rfl, hao⟩ := p_191
    show K _ _ _ _ _ _ _ 194 [(0, vR g1 0), (1, .ref b), (2, vI p0), (3, vI z), (4, vI y)] [vI 1]
    refine k_za hx_g1 hr_g1 ⟨by decide, by decide⟩ dL_isAct_194 (by first | exact Or.inl rfl | exact Or.inr rfl | exact b2i_or _) ?_
    exact ⟨rfl, hao⟩
  have j195 : K x g 0 0 LAY (NN g) M 195 [(0, vR g 0), (1, .ref b), (2, vI p0), (3, vI z), (4, vI y)] [] := by
    refine k_aload_n hx dL_isAct_195 0 rfl ?_
    refine k_iload_n hx dL_isAct_196 3 rfl ?_
    refine k_iload hx dL_isAct_197 4 rfl ?_
    refine k_sa (ls := fun q => [(0, rf q 0), (1, .ref b), (2, vI p0), (3, vI z), (4, vI y)]) (As := fun q => [rf q 0, vI z, vI y]) hx sL_116 dL_isAct_199 (c_L_isWoven hI h60 hz hy) rfl rfl ⟨rfl, rfl⟩ ⟨Nat.le_of_ble_eq_true rfl, Nat.le_of_ble_eq_true rfl⟩ (fun g1 z_199 M_199 hs_g1 p_199 => ?_)
    have hx_g1 := hx.sm hs_g1
    have hr_g1 := hr.sm hs_g1
    obtain ⟨rfl, hao⟩ := p_199
    show K _ _ _ _ _ _ _ 202 [(0, vR g1 0), (1, .ref b), (2, vI p0), (3, vI z), (4, vI y)] [vI 1]
    refine k_za hx_g1 hr_g1 ⟨by decide, by decide⟩ dL_isAct_202 (by first | exact Or.inl rfl | exact Or.inr rfl | exact b2i_or _) ?_
    exact ⟨rfl, hao⟩
  have j203 : K x g 0 0 LAY (NN g) M 203 [(0, vR g 0), (1, .ref b), (2, vI p0), (3, vI z), (4, vI y)] [] := by
    refine k_aload_n hx dL_isAct_203 1 rfl ?_
    refine k_iload_n hx dL_isAct_204 2 rfl ?_
    refine k_iconst hx dL_isAct_205 ?_
    refine k_iadd hx dL_isAct_206 ?_
    refine k_bipush hx dL_isAct_207 (by decide +kernel) ?_
    refine k_sis (rest := []) hx hs sL_96 dL_isAct_209 (c_L_cell (k := (p0 + 2)) (n := 6) (by omega) (by omega)) rfl rfl rfl ⟨rfl, rfl⟩ ⟨by decide, by decide⟩ (fun z_209 M_209 p_209 => ?_)
    obtain ⟨b_209, e_209⟩ := p_209
    rw [e_209]
    refine k_istore (ls' := [(0, vR g 0), (1, .ref b), (2, vI p0), (3, vI z), (4, vI y), (6, vI z_209)]) hx dL_isAct_212 rfl rfl (by decide) ?_
    refine k_aload_n hx dL_isAct_214 0 rfl ?_
    refine k_iload hx dL_isAct_215 5 rfl ?_
    refine k_vi (rest := []) hx vL_35 dL_isAct_217 (q_count hI (p := z_209) b_209) n_0 L_0 rfl rfl rfl ⟨rfl, rfl⟩ ⟨by decide, by decide⟩ (fun z_217 M_217 p_217 => ?_)
    obtain ⟨rfl, I_217, o_217⟩ := p_217
    have I_217 : Inv M_217 σ := I_217
    have hw6 := hI.1.1.2.2.1 z_209.toNat (by omega)
    refine k_istore (ls' := [(0, vR g 0), (1, .ref b), (2, vI p0), (3, vI z), (4, vI y), (6, vI z_209), (7, vI (σ.1.1.getD z_209.toNat 0))]) hx dL_isAct_220 rfl rfl (by decide) ?_
    refine k_iconst hx dL_isAct_222 ?_
    refine k_aload_n hx dL_isAct_223 1 rfl ?_
    refine k_iload_n hx dL_isAct_224 2 rfl ?_
    refine k_iconst hx dL_isAct_225 ?_
    refine k_iadd hx dL_isAct_226 ?_
    refine k_bipush hx dL_isAct_227 (by decide +kernel) ?_
    refine k_sis (rest := [vI 1]) hx hs sL_96 dL_isAct_229 (c_L_cell (k := (p0 + 3)) (n := 99) (by omega) (by omega)) rfl rfl rfl ⟨rfl, rfl⟩ ⟨by decide, by decide⟩ (fun z_229 M_229 p_229 => ?_)
    obtain ⟨b_229, e_229⟩ := p_229
    rw [e_229]
    refine k_iadd hx dL_isAct_232 ?_
    refine k_istore (ls' := [(0, vR g 0), (1, .ref b), (2, vI p0), (3, vI z), (4, vI y), (6, vI z_209), (7, vI (σ.1.1.getD z_209.toNat 0)), (8, vI (1 + z_229))]) hx dL_isAct_233 rfl rfl (by decide) ?_
    refine k_aload_n hx dL_isAct_235 0 rfl ?_
    refine k_iload hx dL_isAct_236 5 rfl ?_
    refine k_iload hx dL_isAct_238 7 rfl ?_
    refine k_vi (rest := []) hx vL_119 dL_isAct_240 (s_width I_217 (p := z_209) b_209 (w := 1 + z_229) (by omega)) n_0 L_0 rfl rfl rfl ⟨rfl, rfl⟩ ⟨by decide, by decide⟩ (fun z_240 M_240 p_240 => ?_)
    obtain ⟨rfl, ⟨σ1, I_240, hrp, hwd⟩, o_240⟩ := p_240
    refine k_iload hx dL_isAct_243 6 rfl ?_
    refine k_icmp_ne hx dL_isAct_245 (by omega) (fun h_245 => absurd h_245 (by omega)) (fun h_245 => ?_)
    refine k_aload_n hx dL_isAct_248 0 rfl ?_
    refine k_iload hx dL_isAct_249 5 rfl ?_
    refine k_vi (rest := []) hx vL_35 dL_isAct_251 (q_count I_240 (p := z_209) b_209) n_0 L_0 rfl rfl rfl ⟨rfl, rfl⟩ ⟨by decide, by decide⟩ (fun z_251 M_251 p_251 => ?_)
    obtain ⟨rfl, I_251, o_251⟩ := p_251
    have I_251 : Inv M_251 σ1 := I_251
    rw [hwd]
    refine k_iload hx dL_isAct_254 7 rfl ?_
    refine k_icmp_ne hx dL_isAct_256 (by omega) (fun h_256 => absurd h_256 (by omega)) (fun h_256 => ?_)
    refine k_iconst hx dL_isAct_259 ?_
    refine k_goto hx dL_isAct_260 ?_
    refine k_za hx hr ⟨by decide, by decide⟩ dL_isAct_264 (by first | exact Or.inl rfl | exact Or.inr rfl | exact b2i_or _) ?_
    exact ⟨rfl, σ1, I_251, fun r hr => by rw [hrp r hr]; exact h60 r hr⟩
  have j265 : K x g 0 0 LAY (NN g) M 265 [(0, vR g 0), (1, .ref b), (2, vI p0), (3, vI z), (4, vI y)] [] := by
    refine k_aload_n hx dL_isAct_265 0 rfl ?_
    refine k_aload_n hx dL_isAct_266 1 rfl ?_
    refine k_iload_n hx dL_isAct_267 2 rfl ?_
    refine k_iconst hx dL_isAct_268 ?_
    refine k_iadd hx dL_isAct_269 ?_
    refine k_aload_n hx dL_isAct_270 1 rfl ?_
    refine k_iload_n hx dL_isAct_271 2 rfl ?_
    refine k_iconst hx dL_isAct_272 ?_
    refine k_iadd hx dL_isAct_273 ?_
    refine k_iconst hx dL_isAct_274 ?_
    refine k_sis (rest := [vI (p0 + 2), .ref b, vR g 0]) hx hs sL_96 dL_isAct_275 (c_L_cell (k := (p0 + 3)) (n := 2) (by omega) (by omega)) rfl rfl rfl ⟨rfl, rfl⟩ ⟨by decide, by decide⟩ (fun z_275 M_275 p_275 => ?_)
    obtain ⟨b_275, e_275⟩ := p_275
    rw [e_275]
    refine k_ifne hx dL_isAct_278 (by omega) (fun h_278 => ?_) (fun h_278 => ?_)
    · refine k_iconst hx dL_isAct_285 ?_
      refine k_sis (rest := [vR g 0]) hx hs sL_96 dL_isAct_286 (c_L_cell (k := (p0 + 2)) (n := 1) (by omega) (by omega)) rfl rfl rfl ⟨rfl, rfl⟩ ⟨by decide, by decide⟩ (fun z_286 M_286 p_286 => ?_)
      obtain ⟨b_286, e_286⟩ := p_286
      rw [e_286]
      refine k_aload_n hx dL_isAct_289 1 rfl ?_
      refine k_iload_n hx dL_isAct_290 2 rfl ?_
      refine k_iconst hx dL_isAct_291 ?_
      refine k_iadd hx dL_isAct_292 ?_
      refine k_iconst hx dL_isAct_293 ?_
      refine k_sis (rest := [vI z_286, vR g 0]) hx hs sL_96 dL_isAct_294 (c_L_cell (k := (p0 + 3)) (n := 2) (by omega) (by omega)) rfl rfl rfl ⟨rfl, rfl⟩ ⟨by decide, by decide⟩ (fun z_294 M_294 p_294 => ?_)
      obtain ⟨b_294, e_294⟩ := p_294
      rw [e_294]
      refine k_sa (ls := fun q => [(0, rf q 0), (1, .ref b), (2, vI p0), (3, vI z), (4, vI y)]) (As := fun q => [rf q 0, vI z_286, vI z_294]) hx sL_122 dL_isAct_297 (c_L_isSwapped hI h60 (p := z_286) (b := z_294) (by omega) b_294) rfl rfl ⟨rfl, rfl⟩ ⟨Nat.le_of_ble_eq_true rfl, Nat.le_of_ble_eq_true rfl⟩ (fun g1 z_297 M_297 hs_g1 p_297 => ?_)
      have hx_g1 := hx.sm hs_g1
      have hr_g1 := hr.sm hs_g1
      obtain ⟨rfl, hao⟩ := p_297
      show K _ _ _ _ _ _ _ 300 [(0, vR g1 0), (1, .ref b), (2, vI p0), (3, vI z), (4, vI y)] [vI 1]
      refine k_za hx_g1 hr_g1 ⟨by decide, by decide⟩ dL_isAct_300 (by first | exact Or.inl rfl | exact Or.inr rfl | exact b2i_or _) ?_
      exact ⟨rfl, hao⟩
    · refine k_iconst hx dL_isAct_281 ?_
      refine k_goto hx dL_isAct_282 ?_
      refine k_sis (rest := [vR g 0]) hx hs sL_96 dL_isAct_286 (c_L_cell (k := (p0 + 2)) (n := 5) (by omega) (by omega)) rfl rfl rfl ⟨rfl, rfl⟩ ⟨by decide, by decide⟩ (fun z_286 M_286 p_286 => ?_)
      obtain ⟨b_286, e_286⟩ := p_286
      rw [e_286]
      refine k_aload_n hx dL_isAct_289 1 rfl ?_
      refine k_iload_n hx dL_isAct_290 2 rfl ?_
      refine k_iconst hx dL_isAct_291 ?_
      refine k_iadd hx dL_isAct_292 ?_
      refine k_iconst hx dL_isAct_293 ?_
      refine k_sis (rest := [vI z_286, vR g 0]) hx hs sL_96 dL_isAct_294 (c_L_cell (k := (p0 + 3)) (n := 2) (by omega) (by omega)) rfl rfl rfl ⟨rfl, rfl⟩ ⟨by decide, by decide⟩ (fun z_294 M_294 p_294 => ?_)
      obtain ⟨b_294, e_294⟩ := p_294
      rw [e_294]
      refine k_sa (ls := fun q => [(0, rf q 0), (1, .ref b), (2, vI p0), (3, vI z), (4, vI y)]) (As := fun q => [rf q 0, vI z_286, vI z_294]) hx sL_122 dL_isAct_297 (c_L_isSwapped hI h60 (p := z_286) (b := z_294) (by omega) b_294) rfl rfl ⟨rfl, rfl⟩ ⟨Nat.le_of_ble_eq_true rfl, Nat.le_of_ble_eq_true rfl⟩ (fun g1 z_297 M_297 hs_g1 p_297 => ?_)
      have hx_g1 := hx.sm hs_g1
      have hr_g1 := hr.sm hs_g1
      obtain ⟨rfl, hao⟩ := p_297
      show K _ _ _ _ _ _ _ 300 [(0, vR g1 0), (1, .ref b), (2, vI p0), (3, vI z), (4, vI y)] [vI 1]
      refine k_za hx_g1 hr_g1 ⟨by decide, by decide⟩ dL_isAct_300 (by first | exact Or.inl rfl | exact Or.inr rfl | exact b2i_or _) ?_
      exact ⟨rfl, hao⟩
  rcases (show z_23 = 0 ∨ z_23 = 1 ∨ z_23 = 2 ∨ z_23 = 3 ∨ z_23 = 4 ∨ z_23 = 5 ∨ z_23 = 6 ∨ z_23 = 7 ∨ z_23 = 8 ∨ z_23 = 9 ∨ z_23 = 10 ∨ 10 < z_23 by omega) with rfl | rfl | rfl | rfl | rfl | rfl | rfl | rfl | rfl | rfl | rfl | hbig
  · refine k_tsIn (off := 58) (tgt := 84) hx dL_isAct_26 (by omega) (by omega) (by omega) (rfl) rfl ?_
    exact j84
  · refine k_tsIn (off := 58) (tgt := 84) hx dL_isAct_26 (by omega) (by omega) (by omega) (rfl) rfl ?_
    exact j84
  · refine k_tsIn (off := 58) (tgt := 84) hx dL_isAct_26 (by omega) (by omega) (by omega) (rfl) rfl ?_
    exact j84
  · refine k_tsIn (off := 58) (tgt := 84) hx dL_isAct_26 (by omega) (by omega) (by omega) (rfl) rfl ?_
    exact j84
  · refine k_tsIn (off := 132) (tgt := 158) hx dL_isAct_26 (by omega) (by omega) (by omega) (rfl) rfl ?_
    exact j158
  · refine k_tsIn (off := 149) (tgt := 175) hx dL_isAct_26 (by omega) (by omega) (by omega) (rfl) rfl ?_
    exact j175
  · refine k_tsIn (off := 149) (tgt := 175) hx dL_isAct_26 (by omega) (by omega) (by omega) (rfl) rfl ?_
    exact j175
  · refine k_tsIn (off := 155) (tgt := 181) hx dL_isAct_26 (by omega) (by omega) (by omega) (rfl) rfl ?_
    exact j181
  · refine k_tsIn (off := 163) (tgt := 189) hx dL_isAct_26 (by omega) (by omega) (by omega) (rfl) rfl ?_
    exact j189
  · refine k_tsIn (off := 169) (tgt := 195) hx dL_isAct_26 (by omega) (by omega) (by omega) (rfl) rfl ?_
    exact j195
  · refine k_tsIn (off := 177) (tgt := 203) hx dL_isAct_26 (by omega) (by omega) (by omega) (rfl) rfl ?_
    exact j203
  · refine k_tsOut hx dL_isAct_26 (tgt := 265) rfl (by omega) (by omega) ?_
    exact j265

theorem c_L_isJoined {g : GE} {l : Launch} {M : Mem} {σ : Sg} (hI : Inv M σ) (h60 : OKN σ 60) {z : Int} (hz : 0 ≤ z ∧ z < 4) {y : Int} (hy : 0 ≤ y ∧ y < 4) : Ca g l μL_isJoined 2 128 [vR g 0, vI z, vI y] M AO := by
  refine Ca.of (by decide +kernel) rfl rfl (fun x hx hr => ?_)
  have hl := h60 z hz
  have hl2 := h60 y hy
  refine k_bipush hx dL_isJoined_0 (by decide +kernel) ?_
  refine k_new64 (ls := fun q => [(0, rf q 0), (1, vI z), (2, vI y)]) (st := fun q => []) hx dL_isJoined_2 ⟨by decide, by decide⟩ (fun g1 i1 M_2 hs_g1 hA_i1 ha_g1 ho_i1 => ?_)
  have hx_g1 := hx.sm hs_g1
  have hr_g1 := hr.sm hs_g1
  show K _ _ _ _ _ _ _ 4 [(0, vR g1 0), (1, vI z), (2, vI y)] [vR g1 i1]
  have I_2 : Inv M_2 σ := hI.hi hA_i1.1 ho_i1
  refine k_astore_n (ls' := [(0, vR g1 0), (1, vI z), (2, vI y), (3, vR g1 i1)]) hx_g1 dL_isJoined_4 rfl rfl (by decide) ?_
  refine k_bipush hx_g1 dL_isJoined_5 (by decide +kernel) ?_
  refine k_new64 (ls := fun q => [(0, rf q 0), (1, vI z), (2, vI y), (3, rf q i1)]) (st := fun q => []) hx_g1 dL_isJoined_7 ⟨by decide, by decide⟩ (fun g2 i2 M_7 hs_g2 hA_i2 ha_g2 ho_i2 => ?_)
  have hx_g2 := hx_g1.sm hs_g2
  have hr_g2 := hr_g1.sm hs_g2
  show K _ _ _ _ _ _ _ 9 [(0, vR g2 0), (1, vI z), (2, vI y), (3, vR g2 i1)] [vR g2 i2]
  have I_7 : Inv M_7 σ := I_2.hi hA_i2.1 ho_i2
  have hA1 := (ha_g2 _ hA_i1).1
  have hne : i1 ≠ i2 := (ha_g2 _ hA_i1).2
  refine k_astore (ls' := [(0, vR g2 0), (1, vI z), (2, vI y), (3, vR g2 i1), (4, vR g2 i2)]) hx_g2 dL_isJoined_9 rfl rfl (by decide) ?_
  refine k_aload_n hx_g2 dL_isJoined_11 0 rfl ?_
  refine k_iload_n hx_g2 dL_isJoined_12 1 rfl ?_
  refine k_aload_n hx_g2 dL_isJoined_13 3 rfl ?_
  refine k_sv (rest := []) hx_g2 sL_31 dL_isJoined_14 (c_L_read I_7 hz hA1 (by omega)) rfl rfl rfl ⟨rfl, rfl⟩ ⟨by decide, by decide⟩ (fun M_14 p_14 => ?_)
  obtain ⟨w_14, I_14, o_14⟩ := p_14
  refine k_aload_n hx_g2 dL_isJoined_17 0 rfl ?_
  refine k_iload_n hx_g2 dL_isJoined_18 2 rfl ?_
  refine k_aload hx_g2 dL_isJoined_19 4 rfl ?_
  refine k_sv (rest := []) hx_g2 sL_31 dL_isJoined_21 (c_L_read I_14 hy hA_i2 (by omega)) rfl rfl rfl ⟨rfl, rfl⟩ ⟨by decide, by decide⟩ (fun M_21 p_21 => ?_)
  obtain ⟨w_21, I_21, o_21⟩ := p_21
  have w1 : Wa M_21 i1 (rope σ.1 z) := w_14.same (o_21 i1 hA1.1 hne)
  refine k_aload_n hx_g2 dL_isJoined_24 3 rfl ?_
  refine k_iconst hx_g2 dL_isJoined_25 ?_
  refine k_iald (v := ((rope σ.1 z).length)) hx_g2 dL_isJoined_26 (ha_g2 _ hA_i1).1.2 (LAY_hi (ha_g2 _ hA_i1).1.1) (by omega) (by decide) (w1.1) ?_
  refine k_aload hx_g2 dL_isJoined_27 4 rfl ?_
  refine k_iconst hx_g2 dL_isJoined_29 ?_
  refine k_iald (v := ((rope σ.1 y).length)) hx_g2 dL_isJoined_30 hA_i2.2 (LAY_hi hA_i2.1) (by omega) (by decide) (w_21.1) ?_
  refine k_iadd hx_g2 dL_isJoined_31 ?_
  refine k_bipush hx_g2 dL_isJoined_32 (by decide +kernel) ?_
  refine k_icmp_le hx_g2 dL_isJoined_34 (by omega) (fun h_34 => ?_) (fun h_34 => ?_)
  · refine k_iconst hx_g2 dL_isJoined_39 ?_
    refine k_istore (ls' := [(0, vR g2 0), (1, vI z), (2, vI y), (3, vR g2 i1), (4, vR g2 i2), (5, vI 1)]) hx_g2 dL_isJoined_40 rfl rfl (by decide) ?_
    have loopA : ∀ (fA : Nat), ∀ (k : Nat) (q : Int) (MA : Mem), q = k + 1 → k ≤ (rope σ.1 y).length → (rope σ.1 y).length - k < fA → Wa MA i1 (rope σ.1 z ++ (rope σ.1 y).take k) → OA i1 M_21 MA → K x g2 2 128 LAY (NN g2) MA 42 [(0, vR g2 0), (1, vI z), (2, vI y), (3, vR g2 i1), (4, vR g2 i2), (5, vI q)] [] := by
      intro fA
      induction fA with
      | zero => intro k q MA hq hk hf hwa ho; omega
      | succ fA ihA =>
        intro k q MA hq hk hf hwa ho
        have w_s := w_21.same (ho i2 (Ne.symm hne))
        refine k_iload hx_g2 dL_isJoined_42 5 rfl ?_
        refine k_aload hx_g2 dL_isJoined_44 4 rfl ?_
        refine k_iconst hx_g2 dL_isJoined_46 ?_
        refine k_iald (v := ((rope σ.1 y).length)) hx_g2 dL_isJoined_47 hA_i2.2 (LAY_hi hA_i2.1) (by omega) (by decide) (w_s.1) ?_
        refine k_icmp_gt hx_g2 dL_isJoined_48 (by omega) (fun h_48 => ?_) (fun h_48 => ?_)
        · have hwe : Wa MA i1 (rope σ.1 z ++ rope σ.1 y) := by rw [List.take_of_length_le (by omega)] at hwa; exact hwa
          have hI2 := I_21.hi hA1.1 ho
          refine k_aload_n hx_g2 dL_isJoined_66 0 rfl ?_
          refine k_iload_n hx_g2 dL_isJoined_67 1 rfl ?_
          refine k_iload_n hx_g2 dL_isJoined_68 2 rfl ?_
          refine k_vi (rest := []) hx_g2 vL_71 dL_isJoined_69 (s_join hI2 hz hy (by omega)) n_0 L_0 rfl rfl rfl ⟨rfl, rfl⟩ ⟨by decide, by decide⟩ (fun z_69 M_69 p_69 => ?_)
          obtain ⟨rfl, ⟨σ1, I_69, hrp⟩, o_69⟩ := p_69
          have w_69 := hwe.same (o_69 i1 hA1.1)
          have hrz := hrp z hz
          rw [if_pos rfl] at hrz
          refine k_aload_n hx_g2 dL_isJoined_72 3 rfl ?_
          refine k_iconst hx_g2 dL_isJoined_73 ?_
          refine k_iald (v := ((rope σ.1 z).length + (rope σ.1 y).length)) hx_g2 dL_isJoined_74 hA1.2 (LAY_hi hA1.1) (by omega) (by decide) (by rw [w_69.1, List.length_append]; omega) ?_
          refine k_icmp_ne hx_g2 dL_isJoined_75 (by omega) (fun h_75 => absurd h_75 (by omega)) (fun h_75 => ?_)
          refine k_aload_n hx_g2 dL_isJoined_78 0 rfl ?_
          refine k_iload_n hx_g2 dL_isJoined_79 1 rfl ?_
          refine k_aload_n hx_g2 dL_isJoined_80 3 rfl ?_
          refine k_si (rest := []) hx_g2 sL_62 dL_isJoined_81 (c_L_isWord I_69 hz hA1 (by rw [hrz]; rw [List.length_append]; omega) (by rw [hrz]; exact w_69)) rfl rfl rfl ⟨rfl, rfl⟩ ⟨by decide, by decide⟩ (fun z_81 M_81 p_81 => ?_)
          obtain ⟨rfl, I_81, o_81⟩ := p_81
          refine k_ifeq hx_g2 dL_isJoined_84 (by omega) (fun h_84 => absurd h_84 (by omega)) (fun h_84 => ?_)
          refine k_iconst hx_g2 dL_isJoined_87 ?_
          refine k_goto hx_g2 dL_isJoined_88 ?_
          refine k_za hx_g2 hr_g2 ⟨by decide, by decide⟩ dL_isJoined_92 (by first | exact Or.inl rfl | exact Or.inr rfl | exact b2i_or _) ?_
          exact ⟨rfl, σ1, I_81, CH.ok (M := M) h60 (by rw [List.length_append]; omega) hrp⟩
        · have hc_s := at0_z w_s.2.2 (z := q - 1) (by omega) (by omega)
          refine k_aload_n hx_g2 dL_isJoined_51 3 rfl ?_
          refine k_aload hx_g2 dL_isJoined_52 4 rfl ?_
          refine k_iload hx_g2 dL_isJoined_54 5 rfl ?_
          refine k_iald (v := (at0 (rope σ.1 y) (q - 1))) hx_g2 dL_isJoined_56 hA_i2.2 (LAY_hi hA_i2.1) (by omega) (by decide) (w_s.2.1 _ (by omega) (by omega)) ?_
          refine k_sv (rest := []) hx_g2 sL_17 dL_isJoined_57 (c_L_add hA1 hwa (by simp only [List.length_append, List.length_take]; omega) hc_s) rfl rfl rfl ⟨rfl, rfl⟩ ⟨by decide, by decide⟩ (fun M_57 p_57 => ?_)
          obtain ⟨a_s, b_s⟩ := p_57
          rw [show q - 1 = (k : Int) by omega, List.append_assoc, take_at0 (by omega)] at a_s
          refine k_iinc (ls' := [(0, vR g2 0), (1, vI z), (2, vI y), (3, vR g2 i1), (4, vR g2 i2), (5, vI (q + 1))]) hx_g2 dL_isJoined_60 5 rfl rfl rfl (by decide) ?_
          refine k_goto hx_g2 dL_isJoined_63 ?_
          refine K.sub [0, 1, 2, 3, 4, 5] rfl ?_
          exact ihA (k + 1) (q + 1) M_57 (by omega) (by omega) (by omega) a_s (ho.tr b_s)
    exact loopA ((rope σ.1 y).length + 1) 0 1 M_21 rfl (by omega) (by omega) (by rw [List.take_zero, List.append_nil]; exact w1) OA.rf
  · refine k_iconst hx_g2 dL_isJoined_37 ?_
    refine k_za hx_g2 hr_g2 ⟨by decide, by decide⟩ dL_isJoined_38 (by first | exact Or.inl rfl | exact Or.inr rfl | exact b2i_or _) ?_
    exact ⟨rfl, σ, I_21, h60⟩
theorem c_L_isWoven0 {g : GE} {l : Launch} {M : Mem} {σ : Sg} (hI : Inv M σ) (h60 : OKN σ 60) {z : Int} (hz : 0 ≤ z ∧ z < 4) : Ca g l μL_isWoven 3 192 [vR g 0, vI z, vI z] M AO := by
  refine Ca.of (by decide +kernel) rfl rfl (fun x hx hr => ?_)
  refine k_iload_n hx dL_isWoven_0 1 rfl ?_
  refine k_iload_n hx dL_isWoven_1 2 rfl ?_
  refine k_icmp_ne hx dL_isWoven_2 (by omega) (fun h_2 => absurd h_2 (by omega)) (fun h_2 => ?_)
  refine k_aload_n hx dL_isWoven_5 0 rfl ?_
  refine k_iload_n hx dL_isWoven_6 1 rfl ?_
  refine k_iload_n hx dL_isWoven_7 2 rfl ?_
  refine k_vi (rest := []) hx vL_79 dL_isWoven_8 (s_weaveN hI hz) n_0 L_0 rfl rfl rfl ⟨rfl, rfl⟩ ⟨by decide, by decide⟩ (fun z_8 M_8 p_8 => ?_)
  obtain ⟨rfl, I_8, o_8⟩ := p_8
  refine k_iconst hx dL_isWoven_11 ?_
  refine k_icmp_ne hx dL_isWoven_12 (by omega) (fun h_12 => absurd h_12 (by omega)) (fun h_12 => ?_)
  refine k_iconst hx dL_isWoven_15 ?_
  refine k_goto hx dL_isWoven_16 ?_
  refine k_za hx hr ⟨by decide, by decide⟩ dL_isWoven_20 (by first | exact Or.inl rfl | exact Or.inr rfl | exact b2i_or _) ?_
  exact ⟨rfl, σ, I_8, h60⟩
theorem c_L_isWoven1 {g : GE} {l : Launch} {M : Mem} {σ : Sg} (hI : Inv M σ) (h60 : OKN σ 60) {z : Int} (hz : 0 ≤ z ∧ z < 4) {y : Int} (hy : 0 ≤ y ∧ y < 4) (hzy : z ≠ y) : Ca g l μL_isWoven 3 192 [vR g 0, vI z, vI y] M AO := by
  refine Ca.of (by decide +kernel) rfl rfl (fun x hx hr => ?_)
  have hl := h60 z hz
  have hl2 := h60 y hy
  refine k_iload_n hx dL_isWoven_0 1 rfl ?_
  refine k_iload_n hx dL_isWoven_1 2 rfl ?_
  refine k_icmp_ne hx dL_isWoven_2 (by omega) (fun h_2 => ?_) (fun h_2 => absurd h_2 (by omega))
  refine k_bipush hx dL_isWoven_21 (by decide +kernel) ?_
  refine k_new64 (ls := fun q => [(0, rf q 0), (1, vI z), (2, vI y)]) (st := fun q => []) hx dL_isWoven_23 ⟨by decide, by decide⟩ (fun g1 i1 M_23 hs_g1 hA_i1 ha_g1 ho_i1 => ?_)
  have hx_g1 := hx.sm hs_g1
  have hr_g1 := hr.sm hs_g1
  show K _ _ _ _ _ _ _ 25 [(0, vR g1 0), (1, vI z), (2, vI y)] [vR g1 i1]
  have I_23 : Inv M_23 σ := hI.hi hA_i1.1 ho_i1
  refine k_astore_n (ls' := [(0, vR g1 0), (1, vI z), (2, vI y), (3, vR g1 i1)]) hx_g1 dL_isWoven_25 rfl rfl (by decide) ?_
  refine k_bipush hx_g1 dL_isWoven_26 (by decide +kernel) ?_
  refine k_new64 (ls := fun q => [(0, rf q 0), (1, vI z), (2, vI y), (3, rf q i1)]) (st := fun q => []) hx_g1 dL_isWoven_28 ⟨by decide, by decide⟩ (fun g2 i2 M_28 hs_g2 hA_i2 ha_g2 ho_i2 => ?_)
  have hx_g2 := hx_g1.sm hs_g2
  have hr_g2 := hr_g1.sm hs_g2
  show K _ _ _ _ _ _ _ 30 [(0, vR g2 0), (1, vI z), (2, vI y), (3, vR g2 i1)] [vR g2 i2]
  have I_28 : Inv M_28 σ := I_23.hi hA_i2.1 ho_i2
  have h12 : i1 ≠ i2 := (ha_g2 _ hA_i1).2
  refine k_astore (ls' := [(0, vR g2 0), (1, vI z), (2, vI y), (3, vR g2 i1), (4, vR g2 i2)]) hx_g2 dL_isWoven_30 rfl rfl (by decide) ?_
  refine k_bipush hx_g2 dL_isWoven_32 (by decide +kernel) ?_
  refine k_new64 (ls := fun q => [(0, rf q 0), (1, vI z), (2, vI y), (3, rf q i1), (4, rf q i2)]) (st := fun q => []) hx_g2 dL_isWoven_34 ⟨by decide, by decide⟩ (fun g3 i3 M_34 hs_g3 hA_i3 ha_g3 ho_i3 => ?_)
  have hx_g3 := hx_g2.sm hs_g3
  have hr_g3 := hr_g2.sm hs_g3
  show K _ _ _ _ _ _ _ 36 [(0, vR g3 0), (1, vI z), (2, vI y), (3, vR g3 i1), (4, vR g3 i2)] [vR g3 i3]
  have I_34 : Inv M_34 σ := I_28.hi hA_i3.1 ho_i3
  have hA1 := (ha_g3 _ (ha_g2 _ hA_i1).1).1
  have hA2 := (ha_g3 _ hA_i2).1
  have h13 : i1 ≠ i3 := (ha_g3 _ (ha_g2 _ hA_i1).1).2
  have h23 : i2 ≠ i3 := (ha_g3 _ hA_i2).2
  refine k_astore (ls' := [(0, vR g3 0), (1, vI z), (2, vI y), (3, vR g3 i1), (4, vR g3 i2), (5, vR g3 i3)]) hx_g3 dL_isWoven_36 rfl rfl (by decide) ?_
  refine k_aload_n hx_g3 dL_isWoven_38 0 rfl ?_
  refine k_iload_n hx_g3 dL_isWoven_39 1 rfl ?_
  refine k_aload_n hx_g3 dL_isWoven_40 3 rfl ?_
  refine k_sv (rest := []) hx_g3 sL_31 dL_isWoven_41 (c_L_read I_34 hz hA1 (by omega)) rfl rfl rfl ⟨rfl, rfl⟩ ⟨by decide, by decide⟩ (fun M_41 p_41 => ?_)
  obtain ⟨w_41, I_41, o_41⟩ := p_41
  refine k_aload_n hx_g3 dL_isWoven_44 0 rfl ?_
  refine k_iload_n hx_g3 dL_isWoven_45 2 rfl ?_
  refine k_aload hx_g3 dL_isWoven_46 4 rfl ?_
  refine k_sv (rest := []) hx_g3 sL_31 dL_isWoven_48 (c_L_read I_41 hy hA2 (by omega)) rfl rfl rfl ⟨rfl, rfl⟩ ⟨by decide, by decide⟩ (fun M_48 p_48 => ?_)
  obtain ⟨w_48, I_48, o_48⟩ := p_48
  have w1a : Wa M_48 i1 (rope σ.1 z) := w_41.same (o_48 i1 hA1.1 h12)
  refine k_iconst hx_g3 dL_isWoven_51 ?_
  refine k_aload_n hx_g3 dL_isWoven_52 3 rfl ?_
  refine k_iconst hx_g3 dL_isWoven_53 ?_
  refine k_iald (v := ((rope σ.1 z).length)) hx_g3 dL_isWoven_54 (ha_g3 _ (ha_g2 _ hA_i1).1).1.2 (LAY_hi (ha_g3 _ (ha_g2 _ hA_i1).1).1.1) (by omega) (by decide) (w1a.1) ?_
  refine k_aload hx_g3 dL_isWoven_55 4 rfl ?_
  refine k_iconst hx_g3 dL_isWoven_57 ?_
  refine k_iald (v := ((rope σ.1 y).length)) hx_g3 dL_isWoven_58 (ha_g3 _ hA_i2).1.2 (LAY_hi (ha_g3 _ hA_i2).1.1) (by omega) (by decide) (w_48.1) ?_
  refine k_iadd hx_g3 dL_isWoven_59 ?_
  refine k_imul hx_g3 dL_isWoven_60 ?_
  refine k_bipush hx_g3 dL_isWoven_61 (by decide +kernel) ?_
  refine k_icmp_le hx_g3 dL_isWoven_63 (by omega) (fun h_63 => ?_) (fun h_63 => ?_)
  · refine k_aload_n hx_g3 dL_isWoven_68 3 rfl ?_
    refine k_aload hx_g3 dL_isWoven_69 5 rfl ?_
    refine k_sv (rest := []) hx_g3 sL_82 dL_isWoven_71 (c_L_copy hA1 w1a (by omega) hA_i3 h13) rfl rfl rfl ⟨rfl, rfl⟩ ⟨by decide, by decide⟩ (fun M_71 p_71 => ?_)
    obtain ⟨w_71, o_71⟩ := p_71
    have I_71 := I_48.hi hA_i3.1 o_71
    refine k_aload hx_g3 dL_isWoven_74 5 rfl ?_
    refine k_sv (rest := []) hx_g3 sL_74 dL_isWoven_76 (c_L_turn hA_i3 w_71 (by omega)) rfl rfl rfl ⟨rfl, rfl⟩ ⟨by decide, by decide⟩ (fun M_76 p_76 => ?_)
    obtain ⟨w_76, o_76⟩ := p_76
    have I_76 := I_71.hi hA_i3.1 o_76
    have w1 : Wa M_76 i1 (rope σ.1 z) := (w1a.same (o_71 i1 h13)).same (o_76 i1 h13)
    have w2 : Wa M_76 i2 (rope σ.1 y) := (w_48.same (o_71 i2 h23)).same (o_76 i2 h23)
    have htz := trn_len (rope σ.1 z)
    have hty := trn_len (rope σ.1 y)
    refine k_iconst hx_g3 dL_isWoven_79 ?_
    refine k_istore (ls' := [(0, vR g3 0), (1, vI z), (2, vI y), (3, vR g3 i1), (4, vR g3 i2), (5, vR g3 i3), (6, vI 1)]) hx_g3 dL_isWoven_80 rfl rfl (by decide) ?_
    have loopA : ∀ (fA : Nat), ∀ (k : Nat) (q : Int) (MA : Mem), q = k + 1 → k ≤ (rope σ.1 y).length → (rope σ.1 y).length - k < fA → Wa MA i1 (rope σ.1 z ++ (rope σ.1 y).take k) → OA i1 M_76 MA → K x g3 3 192 LAY (NN g3) MA 82 [(0, vR g3 0), (1, vI z), (2, vI y), (3, vR g3 i1), (4, vR g3 i2), (5, vR g3 i3), (6, vI q)] [] := by
      intro fA
      induction fA with
      | zero => intro k q MA hq hk hf hwa ho; omega
      | succ fA ihA =>
        intro k q MA hq hk hf hwa ho
        have w_s := w2.same (ho i2 (Ne.symm h12))
        refine k_iload hx_g3 dL_isWoven_82 6 rfl ?_
        refine k_aload hx_g3 dL_isWoven_84 4 rfl ?_
        refine k_iconst hx_g3 dL_isWoven_86 ?_
        refine k_iald (v := ((rope σ.1 y).length)) hx_g3 dL_isWoven_87 hA2.2 (LAY_hi hA2.1) (by omega) (by decide) (w_s.1) ?_
        refine k_icmp_gt hx_g3 dL_isWoven_88 (by omega) (fun h_88 => ?_) (fun h_88 => ?_)
        · have hwa2 : Wa MA i1 (rope σ.1 z ++ rope σ.1 y) := by rw [List.take_of_length_le (by omega)] at hwa; exact hwa
          have IA := I_76.hi hA1.1 ho
          have w3A := w_76.same (ho i3 (Ne.symm h13))
          have w2A := w2.same (ho i2 (Ne.symm h12))
          refine k_iconst hx_g3 dL_isWoven_106 ?_
          refine k_istore (ls' := [(0, vR g3 0), (1, vI z), (2, vI y), (3, vR g3 i1), (4, vR g3 i2), (5, vR g3 i3), (6, vI 1)]) hx_g3 dL_isWoven_107 rfl rfl (by decide) ?_
          refine K.sub [0, 1, 2, 3, 4, 5, 6] rfl ?_
          have loopB : ∀ (fB : Nat), ∀ (kB : Nat) (qB : Int) (MB : Mem), qB = kB + 1 → kB ≤ (trn (rope σ.1 z)).length → (trn (rope σ.1 z)).length - kB < fB → Wa MB i1 (rope σ.1 z ++ rope σ.1 y ++ (trn (rope σ.1 z)).take kB) → OA i1 MA MB → K x g3 3 192 LAY (NN g3) MB 109 [(0, vR g3 0), (1, vI z), (2, vI y), (3, vR g3 i1), (4, vR g3 i2), (5, vR g3 i3), (6, vI qB)] [] := by
            intro fB
            induction fB with
            | zero => intro kB qB MB hq hk hf hwa ho; omega
            | succ fB ihB =>
              intro kB qB MB hq hk hf hwa ho
              have w_s := w3A.same (ho i3 (Ne.symm h13))
              refine k_iload hx_g3 dL_isWoven_109 6 rfl ?_
              refine k_aload hx_g3 dL_isWoven_111 5 rfl ?_
              refine k_iconst hx_g3 dL_isWoven_113 ?_
              refine k_iald (v := ((trn (rope σ.1 z)).length)) hx_g3 dL_isWoven_114 hA_i3.2 (LAY_hi hA_i3.1) (by omega) (by decide) (w_s.1) ?_
              refine k_icmp_gt hx_g3 dL_isWoven_115 (by omega) (fun h_115 => ?_) (fun h_115 => ?_)
              · have hwe : Wa MB i1 (rope σ.1 z ++ rope σ.1 y ++ trn (rope σ.1 z)) := by rw [List.take_of_length_le (by omega)] at hwa; exact hwa
                have IB := IA.hi hA1.1 ho
                have w2B := w2A.same (ho i2 (Ne.symm h12))
                refine k_aload hx_g3 dL_isWoven_133 4 rfl ?_
                refine k_sv (rest := []) hx_g3 sL_74 dL_isWoven_135 (c_L_turn hA2 w2B (by omega)) rfl rfl rfl ⟨rfl, rfl⟩ ⟨by decide, by decide⟩ (fun M_135 p_135 => ?_)
                obtain ⟨w2t, o_135⟩ := p_135
                have IB2 := IB.hi hA2.1 o_135
                have w1c := hwe.same (o_135 i1 h12)
                refine k_iconst hx_g3 dL_isWoven_138 ?_
                refine k_istore (ls' := [(0, vR g3 0), (1, vI z), (2, vI y), (3, vR g3 i1), (4, vR g3 i2), (5, vR g3 i3), (6, vI 1)]) hx_g3 dL_isWoven_139 rfl rfl (by decide) ?_
                refine K.sub [0, 1, 2, 3, 4, 5, 6] rfl ?_
                have loopC : ∀ (fC : Nat), ∀ (kC : Nat) (qC : Int) (MC : Mem), qC = kC + 1 → kC ≤ (trn (rope σ.1 y)).length → (trn (rope σ.1 y)).length - kC < fC → Wa MC i1 (rope σ.1 z ++ rope σ.1 y ++ trn (rope σ.1 z) ++ (trn (rope σ.1 y)).take kC) → OA i1 M_135 MC → K x g3 3 192 LAY (NN g3) MC 141 [(0, vR g3 0), (1, vI z), (2, vI y), (3, vR g3 i1), (4, vR g3 i2), (5, vR g3 i3), (6, vI qC)] [] := by
                  intro fC
                  induction fC with
                  | zero => intro kC qC MC hq hk hf hwa ho; omega
                  | succ fC ihC =>
                    intro kC qC MC hq hk hf hwa ho
                    have w_s := w2t.same (ho i2 (Ne.symm h12))
                    refine k_iload hx_g3 dL_isWoven_141 6 rfl ?_
                    refine k_aload hx_g3 dL_isWoven_143 4 rfl ?_
                    refine k_iconst hx_g3 dL_isWoven_145 ?_
                    refine k_iald (v := ((trn (rope σ.1 y)).length)) hx_g3 dL_isWoven_146 hA2.2 (LAY_hi hA2.1) (by omega) (by decide) (w_s.1) ?_
                    refine k_icmp_gt hx_g3 dL_isWoven_147 (by omega) (fun h_147 => ?_) (fun h_147 => ?_)
                    · have hwe : Wa MC i1 (rope σ.1 z ++ rope σ.1 y ++ trn (rope σ.1 z) ++ trn (rope σ.1 y)) := by rw [List.take_of_length_le (by omega)] at hwa; exact hwa
                      have IC := IB2.hi hA1.1 ho
                      refine k_aload_n hx_g3 dL_isWoven_165 3 rfl ?_
                      refine k_sv (rest := []) hx_g3 sL_41 dL_isWoven_166 (c_L_pull hA1 hwe (by simp only [List.length_append]; omega)) rfl rfl rfl ⟨rfl, rfl⟩ ⟨by decide, by decide⟩ (fun M_166 p_166 => ?_)
                      obtain ⟨w_166, o_166⟩ := p_166
                      have I_166 := IC.hi hA1.1 o_166
                      have hwl := wv_len σ z y
                      refine k_aload_n hx_g3 dL_isWoven_169 0 rfl ?_
                      refine k_iload_n hx_g3 dL_isWoven_170 1 rfl ?_
                      refine k_iload_n hx_g3 dL_isWoven_171 2 rfl ?_
                      refine k_vi (rest := []) hx_g3 vL_79 dL_isWoven_172 (s_weave I_166 hz hy hzy (by omega)) n_0 L_0 rfl rfl rfl ⟨rfl, rfl⟩ ⟨by decide, by decide⟩ (fun z_172 M_172 p_172 => ?_)
                      obtain ⟨rfl, ⟨σ1, I_172, hrp⟩, o_172⟩ := p_172
                      have w_172 := w_166.same (o_172 i1 hA1.1)
                      have hrz := hrp z hz
                      rw [if_pos rfl] at hrz
                      refine k_aload_n hx_g3 dL_isWoven_175 3 rfl ?_
                      refine k_iconst hx_g3 dL_isWoven_176 ?_
                      refine k_iald (v := ((wv σ z y).length)) hx_g3 dL_isWoven_177 hA1.2 (LAY_hi hA1.1) (by omega) (by decide) (w_172.1) ?_
                      refine k_icmp_ne hx_g3 dL_isWoven_178 (by omega) (fun h_178 => absurd h_178 (by omega)) (fun h_178 => ?_)
                      refine k_aload_n hx_g3 dL_isWoven_181 0 rfl ?_
                      refine k_iload_n hx_g3 dL_isWoven_182 1 rfl ?_
                      refine k_aload_n hx_g3 dL_isWoven_183 3 rfl ?_
                      refine k_si (rest := []) hx_g3 sL_62 dL_isWoven_184 (c_L_isWord I_172 hz hA1 (by rw [hrz]; omega) (by rw [hrz]; exact w_172)) rfl rfl rfl ⟨rfl, rfl⟩ ⟨by decide, by decide⟩ (fun z_184 M_184 p_184 => ?_)
                      obtain ⟨rfl, I_184, o_184⟩ := p_184
                      refine k_ifeq hx_g3 dL_isWoven_187 (by omega) (fun h_187 => absurd h_187 (by omega)) (fun h_187 => ?_)
                      refine k_iconst hx_g3 dL_isWoven_190 ?_
                      refine k_goto hx_g3 dL_isWoven_191 ?_
                      refine k_za hx_g3 hr_g3 ⟨by decide, by decide⟩ dL_isWoven_195 (by first | exact Or.inl rfl | exact Or.inr rfl | exact b2i_or _) ?_
                      exact ⟨rfl, σ1, I_184, CH.ok (M := M) h60 (by omega) hrp⟩
                    · have hc_s := at0_z w_s.2.2 (z := qC - 1) (by omega) (by omega)
                      refine k_aload_n hx_g3 dL_isWoven_150 3 rfl ?_
                      refine k_aload hx_g3 dL_isWoven_151 4 rfl ?_
                      refine k_iload hx_g3 dL_isWoven_153 6 rfl ?_
                      refine k_iald (v := (at0 (trn (rope σ.1 y)) (qC - 1))) hx_g3 dL_isWoven_155 hA2.2 (LAY_hi hA2.1) (by omega) (by decide) (w_s.2.1 _ (by omega) (by omega)) ?_
                      refine k_sv (rest := []) hx_g3 sL_17 dL_isWoven_156 (c_L_add hA1 hwa (by simp only [List.length_append, List.length_take]; omega) hc_s) rfl rfl rfl ⟨rfl, rfl⟩ ⟨by decide, by decide⟩ (fun M_156 p_156 => ?_)
                      obtain ⟨a_s, b_s⟩ := p_156
                      rw [show qC - 1 = (kC : Int) by omega, List.append_assoc, take_at0 (by omega)] at a_s
                      refine k_iinc (ls' := [(0, vR g3 0), (1, vI z), (2, vI y), (3, vR g3 i1), (4, vR g3 i2), (5, vR g3 i3), (6, vI (qC + 1))]) hx_g3 dL_isWoven_159 6 rfl rfl rfl (by decide) ?_
                      refine k_goto hx_g3 dL_isWoven_162 ?_
                      refine K.sub [0, 1, 2, 3, 4, 5, 6] rfl ?_
                      exact ihC (kC + 1) (qC + 1) M_156 (by omega) (by omega) (by omega) a_s (ho.tr b_s)
                exact loopC ((trn (rope σ.1 y)).length + 1) 0 1 M_135 rfl (by omega) (by omega) (by rw [List.take_zero, List.append_nil]; exact w1c) OA.rf
              · have hc_s := at0_z w_s.2.2 (z := qB - 1) (by omega) (by omega)
                refine k_aload_n hx_g3 dL_isWoven_118 3 rfl ?_
                refine k_aload hx_g3 dL_isWoven_119 5 rfl ?_
                refine k_iload hx_g3 dL_isWoven_121 6 rfl ?_
                refine k_iald (v := (at0 (trn (rope σ.1 z)) (qB - 1))) hx_g3 dL_isWoven_123 hA_i3.2 (LAY_hi hA_i3.1) (by omega) (by decide) (w_s.2.1 _ (by omega) (by omega)) ?_
                refine k_sv (rest := []) hx_g3 sL_17 dL_isWoven_124 (c_L_add hA1 hwa (by simp only [List.length_append, List.length_take]; omega) hc_s) rfl rfl rfl ⟨rfl, rfl⟩ ⟨by decide, by decide⟩ (fun M_124 p_124 => ?_)
                obtain ⟨a_s, b_s⟩ := p_124
                rw [show qB - 1 = (kB : Int) by omega, List.append_assoc, take_at0 (by omega)] at a_s
                refine k_iinc (ls' := [(0, vR g3 0), (1, vI z), (2, vI y), (3, vR g3 i1), (4, vR g3 i2), (5, vR g3 i3), (6, vI (qB + 1))]) hx_g3 dL_isWoven_127 6 rfl rfl rfl (by decide) ?_
                refine k_goto hx_g3 dL_isWoven_130 ?_
                refine K.sub [0, 1, 2, 3, 4, 5, 6] rfl ?_
                exact ihB (kB + 1) (qB + 1) M_124 (by omega) (by omega) (by omega) a_s (ho.tr b_s)
          exact loopB ((trn (rope σ.1 z)).length + 1) 0 1 MA rfl (by omega) (by omega) (by rw [List.take_zero, List.append_nil]; exact hwa2) OA.rf
        · have hc_s := at0_z w_s.2.2 (z := q - 1) (by omega) (by omega)
          refine k_aload_n hx_g3 dL_isWoven_91 3 rfl ?_
          refine k_aload hx_g3 dL_isWoven_92 4 rfl ?_
          refine k_iload hx_g3 dL_isWoven_94 6 rfl ?_
          refine k_iald (v := (at0 (rope σ.1 y) (q - 1))) hx_g3 dL_isWoven_96 hA2.2 (LAY_hi hA2.1) (by omega) (by decide) (w_s.2.1 _ (by omega) (by omega)) ?_
          refine k_sv (rest := []) hx_g3 sL_17 dL_isWoven_97 (c_L_add hA1 hwa (by simp only [List.length_append, List.length_take]; omega) hc_s) rfl rfl rfl ⟨rfl, rfl⟩ ⟨by decide, by decide⟩ (fun M_97 p_97 => ?_)
          obtain ⟨a_s, b_s⟩ := p_97
          rw [show q - 1 = (k : Int) by omega, List.append_assoc, take_at0 (by omega)] at a_s
          refine k_iinc (ls' := [(0, vR g3 0), (1, vI z), (2, vI y), (3, vR g3 i1), (4, vR g3 i2), (5, vR g3 i3), (6, vI (q + 1))]) hx_g3 dL_isWoven_100 6 rfl rfl rfl (by decide) ?_
          refine k_goto hx_g3 dL_isWoven_103 ?_
          refine K.sub [0, 1, 2, 3, 4, 5, 6] rfl ?_
          exact ihA (k + 1) (q + 1) M_97 (by omega) (by omega) (by omega) a_s (ho.tr b_s)
    exact loopA ((rope σ.1 y).length + 1) 0 1 M_76 rfl (by omega) (by omega) (by rw [List.take_zero, List.append_nil]; exact w1) OA.rf
  · refine k_iconst hx_g3 dL_isWoven_66 ?_
    refine k_za hx_g3 hr_g3 ⟨by decide, by decide⟩ dL_isWoven_67 (by first | exact Or.inl rfl | exact Or.inr rfl | exact b2i_or _) ?_
    exact ⟨rfl, σ, I_48, h60⟩
theorem c_L_isWoven {g : GE} {l : Launch} {M : Mem} {σ : Sg} (hI : Inv M σ) (h60 : OKN σ 60) {z : Int} (hz : 0 ≤ z ∧ z < 4) {y : Int} (hy : 0 ≤ y ∧ y < 4) : Ca g l μL_isWoven 3 192 [vR g 0, vI z, vI y] M AO := by
  by_cases h : z = y
  · subst h; exact c_L_isWoven0 hI h60 hz
  · exact c_L_isWoven1 hI h60 hz hy h
def csR (σ : Sg) (p b : Int) : Nat → Int
  | 0 => 0
  | r + 1 => csR σ p b r + (swF p b (rope σ.1 r)).length
theorem csR_4 (σ : Sg) (p b : Int) : csR σ p b 4 = csw σ.1 p b := by
  unfold csw
  simp only [csR, rope, Int.toNat_natCast]
  omega
theorem csR_rg (σ : Sg) (p b : Int) (h : OKN σ 60) : ∀ r : Nat, r ≤ 4 → 0 ≤ csR σ p b r ∧ csR σ p b r ≤ 180 * r
  | 0, _ => by simp [csR]
  | r + 1, hr => by
    have h1 := csR_rg σ p b h r (by omega)
    have h2 := swF_len p b (rope σ.1 r)
    have h3 := h r (by omega)
    rw [csR]
    omega

theorem c_L_isSwapped {g : GE} {l : Launch} {M : Mem} {σ : Sg} (hI : Inv M σ) (h60 : OKN σ 60) {p b : Int} (hp : 0 ≤ p ∧ p < 5) (hb : 0 ≤ b ∧ b < 2) : Ca g l μL_isSwapped 3 192 [vR g 0, vI p, vI b] M AO := by
  refine Ca.of (by decide +kernel) rfl rfl (fun x hx hr => ?_)
  refine k_bipush hx dL_isSwapped_0 (by decide +kernel) ?_
  refine k_new64 (ls := fun q => [(0, rf q 0), (1, vI p), (2, vI b)]) (st := fun q => []) hx dL_isSwapped_2 ⟨by decide, by decide⟩ (fun g1 i1 M_2 hs_g1 hA_i1 ha_g1 ho_i1 => ?_)
  have hx_g1 := hx.sm hs_g1
  have hr_g1 := hr.sm hs_g1
  show K _ _ _ _ _ _ _ 4 [(0, vR g1 0), (1, vI p), (2, vI b)] [vR g1 i1]
  have I_2 : Inv M_2 σ := hI.hi hA_i1.1 ho_i1
  refine k_astore_n (ls' := [(0, vR g1 0), (1, vI p), (2, vI b), (3, vR g1 i1)]) hx_g1 dL_isSwapped_4 rfl rfl (by decide) ?_
  refine k_bipush hx_g1 dL_isSwapped_5 (by decide +kernel) ?_
  refine k_new64 (ls := fun q => [(0, rf q 0), (1, vI p), (2, vI b), (3, rf q i1)]) (st := fun q => []) hx_g1 dL_isSwapped_7 ⟨by decide, by decide⟩ (fun g2 i2 M_7 hs_g2 hA_i2 ha_g2 ho_i2 => ?_)
  have hx_g2 := hx_g1.sm hs_g2
  have hr_g2 := hr_g1.sm hs_g2
  show K _ _ _ _ _ _ _ 9 [(0, vR g2 0), (1, vI p), (2, vI b), (3, vR g2 i1)] [vR g2 i2]
  have I_7 : Inv M_7 σ := I_2.hi hA_i2.1 ho_i2
  have h12 : i1 ≠ i2 := (ha_g2 _ hA_i1).2
  refine k_astore (ls' := [(0, vR g2 0), (1, vI p), (2, vI b), (3, vR g2 i1), (4, vR g2 i2)]) hx_g2 dL_isSwapped_9 rfl rfl (by decide) ?_
  refine k_bipush hx_g2 dL_isSwapped_11 (by decide +kernel) ?_
  refine k_new64 (ls := fun q => [(0, rf q 0), (1, vI p), (2, vI b), (3, rf q i1), (4, rf q i2)]) (st := fun q => []) hx_g2 dL_isSwapped_13 ⟨by decide, by decide⟩ (fun g3 i3 M_13 hs_g3 hA_i3 ha_g3 ho_i3 => ?_)
  have hx_g3 := hx_g2.sm hs_g3
  have hr_g3 := hr_g2.sm hs_g3
  show K _ _ _ _ _ _ _ 15 [(0, vR g3 0), (1, vI p), (2, vI b), (3, vR g3 i1), (4, vR g3 i2)] [vR g3 i3]
  have I_13 : Inv M_13 σ := I_7.hi hA_i3.1 ho_i3
  have hA1 := (ha_g3 _ (ha_g2 _ hA_i1).1).1
  have hA2 := (ha_g3 _ hA_i2).1
  have h13 : i1 ≠ i3 := (ha_g3 _ (ha_g2 _ hA_i1).1).2
  have h23 : i2 ≠ i3 := (ha_g3 _ hA_i2).2
  refine k_astore (ls' := [(0, vR g3 0), (1, vI p), (2, vI b), (3, vR g3 i1), (4, vR g3 i2), (5, vR g3 i3)]) hx_g3 dL_isSwapped_15 rfl rfl (by decide) ?_
  refine k_iconst hx_g3 dL_isSwapped_17 ?_
  refine k_istore (ls' := [(0, vR g3 0), (1, vI p), (2, vI b), (3, vR g3 i1), (4, vR g3 i2), (5, vR g3 i3), (6, vI 0)]) hx_g3 dL_isSwapped_18 rfl rfl (by decide) ?_
  refine k_iconst hx_g3 dL_isSwapped_20 ?_
  refine k_istore (ls' := [(0, vR g3 0), (1, vI p), (2, vI b), (3, vR g3 i1), (4, vR g3 i2), (5, vR g3 i3), (6, vI 0), (7, vI 0)]) hx_g3 dL_isSwapped_21 rfl rfl (by decide) ?_
  have loop : ∀ (f : Nat), ∀ (r : Nat) (al q : Int) (M' : Mem), q = r → r ≤ 4 → 4 - r < f → al = csR σ p b r → (∀ u : Int, 0 ≤ u → u < r → (rope σ.1 u).length ≤ 20) → Inv M' σ → (0 < r → Wa M' i3 (swF p b (rope σ.1 0))) → K x g3 3 192 LAY (NN g3) M' 23 [(0, vR g3 0), (1, vI p), (2, vI b), (3, vR g3 i1), (4, vR g3 i2), (5, vR g3 i3), (6, vI al), (7, vI q)] [] := by
    intro f
    induction f with
    | zero => intro r al q M' hq hr hf hal h20 I' hw3; omega
    | succ f ih =>
      intro r al q M' hq hr hf hal h20 I' hw3
      have har := csR_rg σ p b h60 r hr
      have hlq : q < 4 → (rope σ.1 q).length ≤ 60 := fun e => h60 q (by omega)
      refine k_iload hx_g3 dL_isSwapped_23 7 rfl ?_
      refine k_iconst hx_g3 dL_isSwapped_25 ?_
      refine k_icmp_ge hx_g3 dL_isSwapped_26 (by omega) (fun h_26 => ?_) (fun h_26 => ?_)
      · refine k_aload_n hx_g3 dL_isSwapped_81 0 rfl ?_
        refine k_iload_n hx_g3 dL_isSwapped_82 1 rfl ?_
        refine k_iload_n hx_g3 dL_isSwapped_83 2 rfl ?_
        refine k_vi (rest := []) hx_g3 vL_90 dL_isSwapped_84 (q_ifSwapped I' hp hb) n_0 L_0 rfl rfl rfl ⟨rfl, rfl⟩ ⟨by decide, by decide⟩ (fun z_84 M_84 p_84 => ?_)
        obtain ⟨rfl, I_84, o_84⟩ := p_84
        have I_84 : Inv M_84 σ := I_84
        have h20' : OKN σ 20 := fun u hu => h20 u hu.1 (by omega)
        have hal2 : al = csw σ.1 p b := by rw [hal, show r = 4 by omega, csR_4]
        refine k_iload hx_g3 dL_isSwapped_87 6 rfl ?_
        refine k_icmp_ne hx_g3 dL_isSwapped_89 (by omega) (fun h_89 => absurd h_89 (by omega)) (fun h_89 => ?_)
        refine k_aload_n hx_g3 dL_isSwapped_92 0 rfl ?_
        refine k_iload_n hx_g3 dL_isSwapped_93 1 rfl ?_
        refine k_iload_n hx_g3 dL_isSwapped_94 2 rfl ?_
        refine k_vi (rest := []) hx_g3 vL_93 dL_isSwapped_95 (s_swap I_84 hp hb h20') n_0 L_0 rfl rfl rfl ⟨rfl, rfl⟩ ⟨by decide, by decide⟩ (fun z_95 M_95 p_95 => ?_)
        obtain ⟨rfl, ⟨σ1, I_95, hrp, hall⟩, o_95⟩ := p_95
        refine k_iload hx_g3 dL_isSwapped_98 6 rfl ?_
        refine k_icmp_ne hx_g3 dL_isSwapped_100 (by omega) (fun h_100 => absurd h_100 (by omega)) (fun h_100 => ?_)
        refine k_aload_n hx_g3 dL_isSwapped_103 0 rfl ?_
        refine k_bipush hx_g3 dL_isSwapped_104 (by decide +kernel) ?_
        refine k_vi (rest := []) hx_g3 vL_35 dL_isSwapped_106 (q_all I_95) n_0 L_0 rfl rfl rfl ⟨rfl, rfl⟩ ⟨by decide, by decide⟩ (fun z_106 M_106 p_106 => ?_)
        obtain ⟨rfl, I_106, o_106⟩ := p_106
        have I_106 : Inv M_106 σ1 := I_106
        rw [hall]
        have hr0 := hrp 0 (by decide)
        have hw0 := (((hw3 (by omega)).same (o_84 i3 hA_i3.1)).same (o_95 i3 hA_i3.1)).same (o_106 i3 hA_i3.1)
        have hs0 := swF_len p b (rope σ.1 0)
        have hs1 := h20' 0 (by decide)
        refine k_iload hx_g3 dL_isSwapped_109 6 rfl ?_
        refine k_icmp_ne hx_g3 dL_isSwapped_111 (by omega) (fun h_111 => absurd h_111 (by omega)) (fun h_111 => ?_)
        refine k_aload_n hx_g3 dL_isSwapped_114 0 rfl ?_
        refine k_iconst hx_g3 dL_isSwapped_115 ?_
        refine k_aload hx_g3 dL_isSwapped_116 5 rfl ?_
        refine k_si (rest := []) hx_g3 sL_62 dL_isSwapped_118 (c_L_isWord I_106 (z := 0) (by decide) hA_i3 (by rw [hr0]; omega) (by rw [hr0]; exact hw0)) rfl rfl rfl ⟨rfl, rfl⟩ ⟨by decide, by decide⟩ (fun z_118 M_118 p_118 => ?_)
        obtain ⟨rfl, I_118, o_118⟩ := p_118
        refine k_ifeq hx_g3 dL_isSwapped_121 (by omega) (fun h_121 => absurd h_121 (by omega)) (fun h_121 => ?_)
        refine k_iconst hx_g3 dL_isSwapped_124 ?_
        refine k_goto hx_g3 dL_isSwapped_125 ?_
        refine k_za hx_g3 hr_g3 ⟨by decide, by decide⟩ dL_isSwapped_129 (by first | exact Or.inl rfl | exact Or.inr rfl | exact b2i_or _) ?_
        exact ⟨rfl, σ1, I_118, fun u hu => by rw [hrp u hu]; have e1 := swF_len p b (rope σ.1 u); have e2 := h20' u hu; omega⟩
      · refine k_aload_n hx_g3 dL_isSwapped_29 0 rfl ?_
        refine k_iload hx_g3 dL_isSwapped_30 7 rfl ?_
        refine k_aload_n hx_g3 dL_isSwapped_32 3 rfl ?_
        refine k_sv (rest := []) hx_g3 sL_31 dL_isSwapped_33 (c_L_read I' (z := q) (by omega) hA1 (by omega)) rfl rfl rfl ⟨rfl, rfl⟩ ⟨by decide, by decide⟩ (fun M_33 p_33 => ?_)
        obtain ⟨w_33, I_33, o_33⟩ := p_33
        refine k_aload_n hx_g3 dL_isSwapped_36 3 rfl ?_
        refine k_iconst hx_g3 dL_isSwapped_37 ?_
        refine k_iald (v := ((rope σ.1 q).length)) hx_g3 dL_isSwapped_38 hA1.2 (LAY_hi hA1.1) (by omega) (by decide) (w_33.1) ?_
        refine k_bipush hx_g3 dL_isSwapped_39 (by decide +kernel) ?_
        refine k_icmp_le hx_g3 dL_isSwapped_41 (by omega) (fun h_41 => ?_) (fun h_41 => ?_)
        · refine k_aload_n hx_g3 dL_isSwapped_46 3 rfl ?_
          refine k_iload_n hx_g3 dL_isSwapped_47 1 rfl ?_
          refine k_iload_n hx_g3 dL_isSwapped_48 2 rfl ?_
          refine k_aload hx_g3 dL_isSwapped_49 4 rfl ?_
          refine k_sv (rest := []) hx_g3 sL_86 dL_isSwapped_51 (c_L_change hA1 w_33 (by omega) hA2 h12 hp hb) rfl rfl rfl ⟨rfl, rfl⟩ ⟨by decide, by decide⟩ (fun M_51 p_51 => ?_)
          obtain ⟨w_51, o_51⟩ := p_51
          have I_51 := I_33.hi hA2.1 o_51
          have hsl := swF_len p b (rope σ.1 q)
          refine k_iload hx_g3 dL_isSwapped_54 6 rfl ?_
          refine k_aload hx_g3 dL_isSwapped_56 4 rfl ?_
          refine k_iconst hx_g3 dL_isSwapped_58 ?_
          refine k_iald (v := ((swF p b (rope σ.1 q)).length)) hx_g3 dL_isSwapped_59 hA2.2 (LAY_hi hA2.1) (by omega) (by decide) (w_51.1) ?_
          refine k_iadd hx_g3 dL_isSwapped_60 ?_
          refine k_istore (ls' := [(0, vR g3 0), (1, vI p), (2, vI b), (3, vR g3 i1), (4, vR g3 i2), (5, vR g3 i3), (6, vI (al + ((swF p b (rope σ.1 q)).length))), (7, vI q)]) hx_g3 dL_isSwapped_61 rfl rfl (by decide) ?_
          refine k_iload hx_g3 dL_isSwapped_63 7 rfl ?_
          refine k_ifne hx_g3 dL_isSwapped_65 (by omega) (fun h_65 => ?_) (fun h_65 => ?_)
          · refine k_iinc (ls' := [(0, vR g3 0), (1, vI p), (2, vI b), (3, vR g3 i1), (4, vR g3 i2), (5, vR g3 i3), (6, vI (al + ((swF p b (rope σ.1 q)).length))), (7, vI (q + 1))]) hx_g3 dL_isSwapped_75 7 rfl rfl rfl (by decide) ?_
            refine k_goto hx_g3 dL_isSwapped_78 ?_
            refine K.sub [0, 1, 2, 3, 4, 5, 6, 7] rfl ?_
            refine ih (r + 1) (al + (swF p b (rope σ.1 q)).length) (q + 1) M_51 (by omega) (by omega) (by omega) (by rw [csR, hal, hq]) (fun u u0 u1 => ?_) I_51 (fun _ => ?_)
            · by_cases e : u = q
              · rw [e]; omega
              · exact h20 u u0 (by omega)
            · exact ((hw3 (by omega)).same (o_33 i3 hA_i3.1 (Ne.symm h13))).same (o_51 i3 (Ne.symm h23))
          · refine k_aload hx_g3 dL_isSwapped_68 4 rfl ?_
            refine k_aload hx_g3 dL_isSwapped_70 5 rfl ?_
            refine k_sv (rest := []) hx_g3 sL_82 dL_isSwapped_72 (c_L_copy hA2 w_51 (by omega) hA_i3 h23) rfl rfl rfl ⟨rfl, rfl⟩ ⟨by decide, by decide⟩ (fun M_72 p_72 => ?_)
            obtain ⟨w_72, o_72⟩ := p_72
            have I_72 := I_51.hi hA_i3.1 o_72
            refine k_iinc (ls' := [(0, vR g3 0), (1, vI p), (2, vI b), (3, vR g3 i1), (4, vR g3 i2), (5, vR g3 i3), (6, vI (al + ((swF p b (rope σ.1 q)).length))), (7, vI (q + 1))]) hx_g3 dL_isSwapped_75 7 rfl rfl rfl (by decide) ?_
            refine k_goto hx_g3 dL_isSwapped_78 ?_
            refine K.sub [0, 1, 2, 3, 4, 5, 6, 7] rfl ?_
            refine ih (r + 1) (al + (swF p b (rope σ.1 q)).length) (q + 1) M_72 (by omega) (by omega) (by omega) (by rw [csR, hal, hq]) (fun u u0 u1 => ?_) I_72 (fun _ => ?_)
            · by_cases e : u = q
              · rw [e]; omega
              · exact h20 u u0 (by omega)
            · have e : q = 0 := by omega
              rw [e] at w_72; exact w_72
        · refine k_iconst hx_g3 dL_isSwapped_44 ?_
          refine k_za hx_g3 hr_g3 ⟨by decide, by decide⟩ dL_isSwapped_45 (by first | exact Or.inl rfl | exact Or.inr rfl | exact b2i_or _) ?_
          exact ⟨rfl, σ, I_33, h60⟩
  exact loop 5 0 0 0 M_13 rfl (by omega) (by omega) rfl (fun u u0 u1 => by omega) I_13 (fun e => by omega)

/-! the reference's own methods: undo, saved states -/
theorem c_X6_undo {g : GE} {l : Launch} {M : Mem} {σ : Sg} (hI : InvM M σ) : Ci g l μX6_undo [vR g 120] M (PM M (aUndo σ)) := by
  refine Ci.of (by decide +kernel) rfl rfl (fun x hx hr => ?_)
  obtain ⟨A0, ps, ρ⟩ := σ
  have hH : Hd M ps := hI.2.1
  have k3 := hH.1
  have k4 := hH.2.1
  refine k_aload_n hx dX6_undo_0 0 rfl ?_
  refine k_get (v := vI ps.length) hx fX6_50 dX6_undo_1 n_120 L_120 (congrArg vI (show M 120 2 = ps.length from k3)) ?_
  refine k_ifne hx dX6_undo_4 (by omega) (fun h_4 => ?_) (fun h_4 => ?_)
  · obtain ⟨A, qs, rfl⟩ : ∃ A qs, ps = A :: qs := by cases ps with | nil => exact absurd rfl h_4 | cons A qs => exact ⟨A, qs, rfl⟩
    rw [List.length_cons] at k3 k4
    refine k_aload_n hx dX6_undo_10 0 rfl ?_
    refine k_dup hx dX6_undo_11 rfl ?_
    refine k_get (v := vI (qs.length + 1)) hx fX6_50 dX6_undo_12 n_120 L_120 (congrArg vI (show M 120 2 = (qs.length + 1) from by rw [k3]; omega)) ?_
    refine k_iconst hx dX6_undo_15 ?_
    refine k_isub hx dX6_undo_16 ?_
    refine k_putI (kz := 2) hx fX6_50 dX6_undo_17 n_120 L_120 rfl rfl (fun M_17 hM_17 => ?_)
    refine k_iconst hx dX6_undo_20 ?_
    refine k_istore_n (ls' := [(0, vR g 120), (1, vI 0)]) hx dX6_undo_21 rfl rfl (by decide) ?_
    have hM2 : M_17 120 2 = qs.length := by rw [hM_17, up_s]; omega
    have loop : ∀ (f : Nat) (k : Nat) (u : Int) (M' : Mem), u = k → k ≤ 490 → 490 - k < f → (∀ q : Int, 0 ≤ q → q < k → M' 121 q = M 122 (490 * qs.length + q)) → (∀ a, a ≠ 121 → M' a = M_17 a) → K x g 0 0 LAY NN M' 22 [(0, vR g 120), (1, vI u)] [] := by
      intro f
      induction f with
      | zero => intro k u M' hu hk hf hin ho; omega
      | succ f ih =>
        intro k u M' hu hk hf hin ho
        refine k_iload_n hx dX6_undo_22 1 rfl ?_
        refine k_sipush hx dX6_undo_23 (by decide +kernel) ?_
        refine k_icmp_ge hx dX6_undo_26 (by omega) (fun h_26 => ?_) (fun h_26 => ?_)
        · refine k_aload_n hx dX6_undo_56 0 rfl ?_
          refine k_get (v := vI qs.length) hx fX6_50 dX6_undo_57 n_120 L_120 (congrArg vI (show M' 120 2 = qs.length from by rw [ho 120 (by decide)]; exact hM2)) ?_
          refine k_ri hx hr dX6_undo_60 ?_
          obtain ⟨h1, h2, h3, h4, h5⟩ := hI
          have hlo : ∀ a, a ≠ 120 → a ≠ 121 → M' a = M a := fun a g1 g2 => by rw [ho a g2, hM_17, up_i g1]
          have hA : Fl M 122 (490 * ((((A :: qs).length : Nat) : Int) - 1 - (0 : Nat))) A := hH.2.2 0 A rfl
          refine ⟨rfl, ⟨hA.mv (fun q q0 q1 => ?_), ⟨?_, ?_, fun j B hj => ?_⟩, fun k hk => by rw [hlo 124 (by decide) (by decide)]; exact h3 k hk, fun k A hk hs => (h4 k A hk hs).eq (hlo 123 (by decide) (by decide)), ?_⟩, fun a ha => hlo a (by omega) (by omega)⟩
          · rw [show 0 + q = q by omega, hin q q0 (by omega), List.length_cons]; congr 1; omega
          · rw [ho 120 (by decide)]; exact hM2
          · show qs.length ≤ 6; omega
          · have hj : qs[j]? = some B := hj
            have hB : Fl M 122 (490 * ((((A :: qs).length : Nat) : Int) - 1 - (j + 1 : Nat))) B := hH.2.2 (j + 1) B (by rw [List.getElem?_cons_succ]; exact hj)
            refine hB.mv (fun q q0 q1 => ?_)
            rw [hlo 122 (by decide) (by decide), List.length_cons]
            show M 122 (490 * ((qs.length : Int) - 1 - j) + q) = _
            congr 1; omega
          · unfold Pm; rw [hlo 125 (by decide) (by decide), ho 120 (by decide), hM_17, up_k (by decide)]; exact h5
        · refine k_aload_n hx dX6_undo_29 0 rfl ?_
          refine k_get (v := vR g 121) hx fX6_7 dX6_undo_30 n_120 L_120 rfl ?_
          refine k_iload_n hx dX6_undo_33 1 rfl ?_
          refine k_aload_n hx dX6_undo_34 0 rfl ?_
          refine k_get (v := vR g 122) hx fX6_13 dX6_undo_35 n_120 L_120 rfl ?_
          refine k_aload_n hx dX6_undo_38 0 rfl ?_
          refine k_get (v := vI qs.length) hx fX6_50 dX6_undo_39 n_120 L_120 (congrArg vI (show M' 120 2 = qs.length from by rw [ho 120 (by decide)]; exact hM2)) ?_
          refine k_sipush hx dX6_undo_42 (by decide +kernel) ?_
          refine k_imul hx dX6_undo_45 ?_
          refine k_iload_n hx dX6_undo_46 1 rfl ?_
          refine k_iadd hx dX6_undo_47 ?_
          refine k_iald (v := (M 122 (490 * qs.length + u))) hx dX6_undo_48 n_122 L_122 (by omega) (by decide) (by rw [ho 122 (by decide), hM_17, up_i (by decide)]; congr 1; omega) ?_
          refine k_iastN hx dX6_undo_49 n_121 L_121 (by omega) (by decide) (fun M_49 hM_49 => ?_)
          refine k_iinc (ls' := [(0, vR g 120), (1, vI (u + 1))]) hx dX6_undo_50 1 rfl rfl rfl (by decide) ?_
          refine k_goto hx dX6_undo_53 ?_
          refine ih (k + 1) (u + 1) M_49 (by omega) (by omega) (by omega) (fun q q0 q1 => ?_) (fun a ha => by rw [hM_49, up_i ha]; exact ho a ha)
          rw [hM_49]
          by_cases hq : q = u
          · rw [hq, up_s]
          · rw [up_k hq]; exact hin q q0 (by omega)
    exact loop 491 0 0 M_17 rfl (by omega) (by omega) (fun q h0 h1 => by omega) (fun a _ => rfl)
  · obtain rfl : ps = [] := List.length_eq_zero_iff.mp (by omega)
    refine k_bipush hx dX6_undo_7 (by decide +kernel) ?_
    refine k_ri hx hr dX6_undo_9 ?_
    exact ⟨rfl, hI, fun _ _ => rfl⟩
theorem c_X6_save {g : GE} {l : Launch} {M : Mem} {σ : Sg} (hI : InvM M σ) {z : Int} (hzr : -2147483648 ≤ z ∧ z < 2147483648) : Ci g l μX6_save [vR g 120, vI z] M (PM M (aSave σ z)) := by
  refine Ci.of (by decide +kernel) rfl rfl (fun x hx hr => ?_)
  refine k_iload_n hx dX6_save_0 1 rfl ?_
  refine k_iconst hx dX6_save_1 ?_
  refine k_iconst hx dX6_save_2 ?_
  refine k_sp (rest := []) (e := (b2i (decide (0 ≤ z ∧ z ≤ 1)))) hx sX6_61 dX6_save_3 (c_X6_in (v := z) (a := 0) (b := 1) (by omega)) rfl rfl rfl ⟨rfl, rfl⟩ ⟨by decide, by decide⟩ ?_
  refine k_bne hx dX6_save_6 (fun h_6 => ?_) (fun h_6 => ?_)
  · have hz2 : 0 ≤ z ∧ z < 2 := by omega
    refine k_iconst hx dX6_save_12 ?_
    refine k_istore_n (ls' := [(0, vR g 120), (1, vI z), (2, vI 0)]) hx dX6_save_13 rfl rfl (by decide) ?_
    have loop : ∀ (f : Nat) (k : Nat) (u : Int) (M' : Mem), u = k → k ≤ 490 → 490 - k < f → (∀ q : Int, 0 ≤ q → q < k → M' 123 (490 * z + q) = M 121 q) → (∀ q : Int, ¬ (490 * z ≤ q ∧ q < 490 * z + 490) → M' 123 q = M 123 q) → (∀ a, a ≠ 123 → M' a = M a) → K x g 0 0 LAY NN M' 14 [(0, vR g 120), (1, vI z), (2, vI u)] [] := by
      intro f
      induction f with
      | zero => intro k u M' hu hk hf hin hout ho; omega
      | succ f ih =>
        intro k u M' hu hk hf hin hout ho
        refine k_iload_n hx dX6_save_14 2 rfl ?_
        refine k_sipush hx dX6_save_15 (by decide +kernel) ?_
        refine k_icmp_ge hx dX6_save_18 (by omega) (fun h_18 => ?_) (fun h_18 => ?_)
        · refine k_aload_n hx dX6_save_45 0 rfl ?_
          refine k_get (v := vR g 124) hx fX6_19 dX6_save_46 n_120 L_120 rfl ?_
          refine k_iload_n hx dX6_save_49 1 rfl ?_
          refine k_iconst hx dX6_save_50 ?_
          refine k_zastN hx dX6_save_51 n_124 L_124 (by omega) (by decide) (by first | exact Or.inl rfl | exact Or.inr rfl) (fun M_51 hM_51 => ?_)
          refine k_aload_n hx dX6_save_52 0 rfl ?_
          refine k_vp (rest := []) (e := (allC σ.1)) hx vX6_116 dX6_save_53 (c_X6_all (A := σ.1) (hI.1.eq (by rw [hM_51, up_i (by decide)]; exact ho 121 (by decide)))) n_120 L_120 rfl rfl rfl ⟨rfl, rfl⟩ ⟨by decide, by decide⟩ ?_
          refine k_ri hx hr dX6_save_56 ?_
          have hlo : ∀ a, a ≠ 123 → a ≠ 124 → M_51 a = M a := fun a g1 g2 => by rw [hM_51, up_i g2]; exact ho a g1
          have h23 : M_51 123 = M' 123 := by rw [hM_51, up_i (by decide)]
          refine ⟨by unfold aSave; rw [if_pos hz2], ?_, fun a ha => hlo a (by omega) (by omega)⟩
          unfold aSave
          rw [if_pos hz2]
          obtain ⟨h1, ⟨h2, h2b, h2c⟩, h3, h4, h5⟩ := hI
          refine ⟨h1.eq (hlo 121 (by decide) (by decide)), ⟨by rw [hlo 120 (by decide) (by decide)]; exact h2, h2b, fun j B hj => (h2c j B hj).eq (hlo 122 (by decide) (by decide))⟩, fun k hk => ?_, fun k A hk hs => ?_, ?_⟩
          · rw [slo_set (A' := σ.1) (ps' := σ.2.1) (t' := σ.2.2.2) hk (by omega)]
            by_cases hkz : k = z.toNat
            · rw [if_pos hkz, show (k : Int) = z by omega, hM_51, up_s]; rfl
            · rw [if_neg hkz, hM_51, up_k (by omega), ho 124 (by decide)]; exact h3 k hk
          · rw [slo_set (A' := σ.1) (ps' := σ.2.1) (t' := σ.2.2.2) hk (by omega)] at hs
            by_cases hkz : k = z.toNat
            · rw [if_pos hkz] at hs; cases hs
              refine h1.mv (fun q q0 q1 => ?_)
              rw [h23, show 490 * (k : Int) + q = 490 * z + q by omega, hin q q0 (by omega), show 0 + q = q by omega]
            · rw [if_neg hkz] at hs
              refine (h4 k A hk hs).mv (fun q q0 q1 => ?_)
              rw [h23]; exact hout _ (by omega)
          · unfold Pm; rw [hlo 125 (by decide) (by decide), hlo 120 (by decide) (by decide)]; exact h5
        · refine k_aload_n hx dX6_save_21 0 rfl ?_
          refine k_get (v := vR g 123) hx fX6_16 dX6_save_22 n_120 L_120 rfl ?_
          refine k_iload_n hx dX6_save_25 1 rfl ?_
          refine k_sipush hx dX6_save_26 (by decide +kernel) ?_
          refine k_imul hx dX6_save_29 ?_
          refine k_iload_n hx dX6_save_30 2 rfl ?_
          refine k_iadd hx dX6_save_31 ?_
          refine k_aload_n hx dX6_save_32 0 rfl ?_
          refine k_get (v := vR g 121) hx fX6_7 dX6_save_33 n_120 L_120 rfl ?_
          refine k_iload_n hx dX6_save_36 2 rfl ?_
          refine k_iald (v := (M 121 u)) hx dX6_save_37 n_121 L_121 (by omega) (by decide) (by rw [ho 121 (by decide)]) ?_
          refine k_iastN hx dX6_save_38 n_123 L_123 (by omega) (by decide) (fun M_38 hM_38 => ?_)
          refine k_iinc (ls' := [(0, vR g 120), (1, vI z), (2, vI (u + 1))]) hx dX6_save_39 2 rfl rfl rfl (by decide) ?_
          refine k_goto hx dX6_save_42 ?_
          refine ih (k + 1) (u + 1) M_38 (by omega) (by omega) (by omega) (fun q q0 q1 => ?_) (fun q hq => by rw [hM_38, up_k (by omega)]; exact hout q hq) (fun a ha => by rw [hM_38, up_i ha]; exact ho a ha)
          rw [hM_38]
          by_cases hq : q = u
          · rw [hq, show 490 * z + u = z * 490 + u by omega, up_s]
          · rw [up_k (by omega)]; exact hin q q0 (by omega)
    exact loop 491 0 0 M rfl (by omega) (by omega) (fun q h0 h1 => by omega) (fun q _ => rfl) (fun a _ => rfl)
  · refine k_bipush hx dX6_save_9 (by decide +kernel) ?_
    refine k_ri hx hr dX6_save_11 ?_
    exact ⟨by unfold aSave; rw [if_neg (by omega)], by unfold aSave; rw [if_neg (by omega)]; exact hI, fun _ _ => rfl⟩
theorem c_X6_restore {g : GE} {l : Launch} {M : Mem} {σ : Sg} (hI : InvM M σ) {z : Int} (hzr : -2147483648 ≤ z ∧ z < 2147483648) : Ci g l μX6_restore [vR g 120, vI z] M (PM M (aRestore σ z)) := by
  refine Ci.of (by decide +kernel) rfl rfl (fun x hx hr => ?_)
  refine k_iload_n hx dX6_restore_0 1 rfl ?_
  refine k_iconst hx dX6_restore_1 ?_
  refine k_iconst hx dX6_restore_2 ?_
  refine k_sp (rest := []) (e := (b2i (decide (0 ≤ z ∧ z ≤ 1)))) hx sX6_61 dX6_restore_3 (c_X6_in (v := z) (a := 0) (b := 1) (by omega)) rfl rfl rfl ⟨rfl, rfl⟩ ⟨by decide, by decide⟩ ?_
  refine k_bne hx dX6_restore_6 (fun h_6 => ?_) (fun h_6 => ?_)
  · have hz2 : 0 ≤ z ∧ z < 2 := by omega
    refine k_aload_n hx dX6_restore_12 0 rfl ?_
    refine k_get (v := vR g 124) hx fX6_19 dX6_restore_13 n_120 L_120 rfl ?_
    refine k_iload_n hx dX6_restore_16 1 rfl ?_
    refine k_zald (v := (b2i (slo σ z.toNat).isSome)) hx dX6_restore_17 n_124 L_124 (by omega) (by decide) (by have := hI.2.2.1 z.toNat (by omega); rw [show ((z.toNat : Nat) : Int) = z by omega] at this; rw [this]; cases (slo σ z.toNat).isSome <;> rfl) ?_
    refine k_cne hx dX6_restore_18 (fun h_18 => ?_) (fun h_18 => ?_)
    · obtain ⟨A, hA⟩ := Option.isSome_iff_exists.mp h_18
      refine k_aload_n hx dX6_restore_24 0 rfl ?_
      refine k_vv (rest := []) hx vX6_99 dX6_restore_25 (c_X6_record hI.1 hI.2.1) n_120 L_120 rfl rfl rfl ⟨rfl, rfl⟩ ⟨by decide, by decide⟩ (fun M_25 p_25 => ?_)
      have hI2 := hI.rec p_25
      have hS2 : Fl M_25 121 0 σ.1 := hI2.1
      have hoM : ∀ a, a < 120 → M_25 a = M a := fun a ha => p_25.2.1 a (by omega) (by omega)
      refine k_iconst hx dX6_restore_28 ?_
      refine k_istore_n (ls' := [(0, vR g 120), (1, vI z), (2, vI 0)]) hx dX6_restore_29 rfl rfl (by decide) ?_
      have hSA : Fl M_25 123 (490 * (z.toNat : Nat)) A := hI2.2.2.2.1 z.toNat A (by omega) hA
      have loop : ∀ (f : Nat) (k : Nat) (u : Int) (M' : Mem), u = k → k ≤ 490 → 490 - k < f → (∀ q : Int, 0 ≤ q → q < k → M' 121 q = M_25 123 (490 * z + q)) → (∀ a, a ≠ 121 → M' a = M_25 a) → K x g 0 0 LAY NN M' 30 [(0, vR g 120), (1, vI z), (2, vI u)] [] := by
        intro f
        induction f with
        | zero => intro k u M' hu hk hf hin ho; omega
        | succ f ih =>
          intro k u M' hu hk hf hin ho
          refine k_iload_n hx dX6_restore_30 2 rfl ?_
          refine k_sipush hx dX6_restore_31 (by decide +kernel) ?_
          refine k_icmp_ge hx dX6_restore_34 (by omega) (fun h_34 => ?_) (fun h_34 => ?_)
          · have hF : Fl M' 121 0 A := hSA.mv (fun q q0 q1 => by rw [show 0 + q = q by omega, hin q q0 (by omega)]; congr 1; omega)
            refine k_aload_n hx dX6_restore_61 0 rfl ?_
            refine k_vp (rest := []) (e := (allC A)) hx vX6_116 dX6_restore_62 (c_X6_all hF) n_120 L_120 rfl rfl rfl ⟨rfl, rfl⟩ ⟨by decide, by decide⟩ ?_
            refine k_ri hx hr dX6_restore_65 ?_
            refine ⟨by unfold aRestore; rw [if_pos hz2, hA], ?_, fun a ha => by rw [ho a (by omega)]; exact hoM a ha⟩
            unfold aRestore
            rw [if_pos hz2, hA]
            exact hI2.set hF (fun a ha => ho a ha)
          · refine k_aload_n hx dX6_restore_37 0 rfl ?_
            refine k_get (v := vR g 121) hx fX6_7 dX6_restore_38 n_120 L_120 rfl ?_
            refine k_iload_n hx dX6_restore_41 2 rfl ?_
            refine k_aload_n hx dX6_restore_42 0 rfl ?_
            refine k_get (v := vR g 123) hx fX6_16 dX6_restore_43 n_120 L_120 rfl ?_
            refine k_iload_n hx dX6_restore_46 1 rfl ?_
            refine k_sipush hx dX6_restore_47 (by decide +kernel) ?_
            refine k_imul hx dX6_restore_50 ?_
            refine k_iload_n hx dX6_restore_51 2 rfl ?_
            refine k_iadd hx dX6_restore_52 ?_
            refine k_iald (v := (M_25 123 (490 * z + u))) hx dX6_restore_53 n_123 L_123 (by omega) (by decide) (by rw [ho 123 (by decide)]; congr 1; omega) ?_
            refine k_iastN hx dX6_restore_54 n_121 L_121 (by omega) (by decide) (fun M_54 hM_54 => ?_)
            refine k_iinc (ls' := [(0, vR g 120), (1, vI z), (2, vI (u + 1))]) hx dX6_restore_55 2 rfl rfl rfl (by decide) ?_
            refine k_goto hx dX6_restore_58 ?_
            refine ih (k + 1) (u + 1) M_54 (by omega) (by omega) (by omega) (fun q q0 q1 => ?_) (fun a ha => by rw [hM_54, up_i ha]; exact ho a ha)
            rw [hM_54]
            by_cases hq : q = u
            · rw [hq, up_s]
            · rw [up_k hq]; exact hin q q0 (by omega)
      exact loop 491 0 0 M_25 rfl (by omega) (by omega) (fun q h0 h1 => by omega) (fun a _ => rfl)
    · have hN : slo σ z.toNat = none := by simpa using h_18
      refine k_bipush hx dX6_restore_21 (by decide +kernel) ?_
      refine k_ri hx hr dX6_restore_23 ?_
      exact ⟨by unfold aRestore; rw [if_pos hz2, hN], by unfold aRestore; rw [if_pos hz2, hN]; exact hI, fun _ _ => rfl⟩
  · refine k_bipush hx dX6_restore_9 (by decide +kernel) ?_
    refine k_ri hx hr dX6_restore_11 ?_
    exact ⟨by unfold aRestore; rw [if_neg (by omega)], by unfold aRestore; rw [if_neg (by omega)]; exact hI, fun _ _ => rfl⟩

/-! the reference: two ropes, numbers about a rope, swaps that are tried -/
theorem Fo.of {M M' : Mem} {w : List Int} (h : Fo M 12 128 w) (o : OF M M') : Fo M' 12 128 w := ⟨by rw [o.2 12 (by decide) (by decide)]; exact h.1, fun q q0 q1 => by rw [o.1 128 (by decide) (by decide) (by decide)]; exact h.2.1 q q0 q1, h.2.2⟩
theorem per_mod {w : List Int} {p : Nat} (hp : 0 < p) (h : Per w p) : ∀ (f k : Nat), k < f → k < w.length → at0 w k = at0 w (k % p : Nat)
  | 0, k, hf, _ => by omega
  | f + 1, k, hf, hk => by
    by_cases hkp : k < p
    · rw [Nat.mod_eq_of_lt hkp]
    · rw [h k hk (by omega), per_mod hp h f (k - p) (by omega) (by omega), Nat.mod_eq_sub_mod (by omega : p ≤ k)]
theorem per_rot {w : List Int} {p a : Nat} (hp : 0 < p) (hd : w.length % p = 0) (ha : a ≤ w.length) (h : Per w p) : Per (rot w a) p := by
  have hl := rot_len ha
  have key : ∀ k, k < w.length → at0 (rot w a) k = at0 w ((a + k) % p : Nat) := fun k hk => by
    rw [rot_at ha hk]
    by_cases h1 : a + k < w.length
    · rw [if_pos h1]; exact per_mod hp h _ _ (Nat.lt_succ_self _) h1
    · rw [if_neg h1, per_mod hp h _ _ (Nat.lt_succ_self _) (by omega)]
      obtain ⟨q, hq⟩ := Nat.dvd_of_mod_eq_zero hd
      have e : (a + k - w.length) % p = (a + k) % p := by
        have h2 : ((a + k - w.length) + p * q) % p = (a + k - w.length) % p := Nat.add_mul_mod_self_left _ _ _
        rw [← h2]
        congr 1
        omega
      rw [e]
  intro k hk hpk
  rw [hl] at hk
  rw [key k hk, key (k - p) (by omega), show a + k = (a + (k - p)) + p by omega, Nat.add_mod_right]
theorem rot_rot {w : List Int} {a : Nat} (ha : a ≤ w.length) : rot (rot w a) (w.length - a) = w := by
  have h1 : (w.drop a).length = w.length - a := List.length_drop
  have e1 : (w.drop a ++ w.take a).drop (w.length - a) = w.take a := by rw [← h1, List.drop_left]
  have e2 : (w.drop a ++ w.take a).take (w.length - a) = w.drop a := by rw [← h1, List.take_left]
  unfold rot
  rw [e1, e2, List.take_append_drop]
theorem per_iff {w : List Int} {p a : Nat} (hp : 0 < p) (hd : w.length % p = 0) (ha : a ≤ w.length) : Per (rot w a) p ↔ Per w p := by
  refine ⟨fun h => ?_, per_rot hp hd ha⟩
  have hl := rot_len ha
  have := per_rot (w := rot w a) (a := w.length - a) hp (by rw [hl]; exact hd) (by omega) h
  rwa [rot_rot ha] at this
theorem pwF_rot {w : List Int} {a : Nat} (ha : a ≤ w.length) : ∀ (f p : Nat), 0 < p → pwF (rot w a) f p = pwF w f p
  | 0, p, _ => rfl
  | f + 1, p, hp => by
    have hl := rot_len ha
    rw [pwF, pwF, pwF_rot ha f (p + 1) (by omega)]
    by_cases h1 : w.length < p
    · rw [if_pos (by rw [hl]; exact h1), if_pos h1]
    · rw [if_neg (by rw [hl]; exact h1), if_neg h1]
      by_cases h2 : w.length % p = 0 ∧ Per w p
      · rw [if_pos h2, if_pos ⟨by rw [hl]; exact h2.1, (per_iff hp h2.1 ha).mpr h2.2⟩, hl]
      · rw [if_neg h2, if_neg (fun q => h2 ⟨by rw [← hl]; exact q.1, (per_iff hp (by rw [← hl]; exact q.1) ha).mp q.2⟩)]
theorem power_least (w : List Int) : power (least w) = power w := by
  unfold power least
  rw [pwF_rot (leastS_le w) _ _ (by decide), rot_len (leastS_le w)]
theorem occ_rot (w : List Int) (a : Nat) (p : Int) : occ (rot w a) p = occ w p := by
  unfold occ rot
  rw [List.any_append, Bool.or_comm, ← List.any_append, List.take_append_drop]
theorem pset_least (w : List Int) : pset (least w) = pset w := by
  unfold pset least
  rw [occ_rot, occ_rot, occ_rot, occ_rot, occ_rot, occ_rot]
theorem wF_0 (w : List Int) : wF 0 w = red w := by
  unfold wF
  congr 1
  refine List.filter_eq_self.mpr (fun c _ => ?_)
  refine decide_eq_true ?_
  unfold bit
  rw [Int.zero_ediv]; rfl

theorem c_X6_areSame2 {g : GE} {l : Launch} {M : Mem} {A : Ab} (hA : Fl M 121 0 A) {z y : Int} (hz : 0 ≤ z ∧ z < 4) (hy : 0 ≤ y ∧ y < 4) : Ci g l μX6_areSame [vR g 120, vI z, vI y, vI y, vI z] M (fun q M' => q = b2i (decide (red (rope A z ++ rope A y) = red (rope A y ++ rope A z))) ∧ OW M M') := by
  refine Ci.of (by decide +kernel) rfl rfl (fun x hx hr => ?_)
  have hzl := (hA.1.rope hz).2
  have hyl := (hA.1.rope hy).2
  have hzc := (hA.1.rope hz).1
  have hyc := (hA.1.rope hy).1
  have htz := trn_len (rope A z)
  have hty := trn_len (rope A y)
  refine k_aload_n hx dX6_areSame_0 0 rfl ?_
  refine k_iconst hx dX6_areSame_1 ?_
  refine k_putI (kz := 8) hx fX6_54 dX6_areSame_2 n_120 L_120 rfl rfl (fun M_2 hM_2 => ?_)
  have o0 : OW M M_2 := by rw [hM_2]; exact OW.len
  have w0 : Wk M_2 [] := by rw [hM_2]; exact Wk.nil
  refine k_aload_n hx dX6_areSame_5 0 rfl ?_
  refine k_iload_n hx dX6_areSame_6 1 rfl ?_
  refine k_iconst hx dX6_areSame_7 ?_
  refine k_vv (rest := []) hx vX6_80 dX6_areSame_8 (c_X6_pushRope (A := A) (hA.w o0) hz (t := false) w0 (by simp)) n_120 L_120 rfl rfl rfl ⟨rfl, rfl⟩ ⟨by decide, by decide⟩ (fun M_8 p_8 => ?_)
  have w1 : Wk M_8 (act [] (rope A z)) := p_8.1
  have o1 := o0.tr p_8.2
  have l1 := act_len [] (rope A z)
  rw [List.length_nil] at l1
  refine k_iload_n hx dX6_areSame_11 2 rfl ?_
  refine k_iflt hx dX6_areSame_12 (by omega) (fun h_12 => absurd h_12 (by omega)) (fun h_12 => ?_)
  refine k_aload_n hx dX6_areSame_15 0 rfl ?_
  refine k_iload_n hx dX6_areSame_16 2 rfl ?_
  refine k_iconst hx dX6_areSame_17 ?_
  refine k_vv (rest := []) hx vX6_80 dX6_areSame_18 (c_X6_pushRope (A := A) (hA.w o1) hy (t := false) w1 (by omega)) n_120 L_120 rfl rfl rfl ⟨rfl, rfl⟩ ⟨by decide, by decide⟩ (fun M_18 p_18 => ?_)
  have w2 : Wk M_18 (act (act [] (rope A z)) (rope A y)) := p_18.1
  have o2 := o1.tr p_18.2
  have l2 := act_len (act [] (rope A z)) (rope A y)
  refine k_iload hx dX6_areSame_21 4 rfl ?_
  refine k_iflt hx dX6_areSame_23 (by omega) (fun h_23 => absurd h_23 (by omega)) (fun h_23 => ?_)
  refine k_aload_n hx dX6_areSame_26 0 rfl ?_
  refine k_iload hx dX6_areSame_27 4 rfl ?_
  refine k_iconst hx dX6_areSame_29 ?_
  refine k_vv (rest := []) hx vX6_80 dX6_areSame_30 (c_X6_pushRope (A := A) (hA.w o2) hz (t := true) w2 (by omega)) n_120 L_120 rfl rfl rfl ⟨rfl, rfl⟩ ⟨by decide, by decide⟩ (fun M_30 p_30 => ?_)
  have w3 : Wk M_30 (act (act (act [] (rope A z)) (rope A y)) (trn (rope A z))) := p_30.1
  have o3 := o2.tr p_30.2
  have l3 := act_len (act (act [] (rope A z)) (rope A y)) (trn (rope A z))
  refine k_aload_n hx dX6_areSame_33 0 rfl ?_
  refine k_iload_n hx dX6_areSame_34 3 rfl ?_
  refine k_iconst hx dX6_areSame_35 ?_
  refine k_vv (rest := []) hx vX6_80 dX6_areSame_36 (c_X6_pushRope (A := A) (hA.w o3) hy (t := true) w3 (by omega)) n_120 L_120 rfl rfl rfl ⟨rfl, rfl⟩ ⟨by decide, by decide⟩ (fun M_36 p_36 => ?_)
  have o4 := o3.tr p_36.2
  have w4 : Wk M_36 (red ((rope A z ++ rope A y) ++ trn (rope A y ++ rope A z))) := by
    have h : Wk M_36 (act (act (act (act [] (rope A z)) (rope A y)) (trn (rope A z))) (trn (rope A y))) := p_36.1
    rw [← act_app, ← act_app, ← act_app] at h
    rw [trn_app, red_act, ← List.append_assoc]
    rw [← List.append_assoc, ← List.append_assoc] at h
    exact h
  have hrt := red_trn_nil (a := rope A z ++ rope A y) (b := rope A y ++ rope A z) (hyc.app hzc)
  have hlr := red_len_le ((rope A z ++ rope A y) ++ trn (rope A y ++ rope A z))
  have hlr2 : ((rope A z ++ rope A y) ++ trn (rope A y ++ rope A z)).length ≤ 480 := by rw [List.length_append, trn_len, List.length_append, List.length_append]; omega
  refine k_aload_n hx dX6_areSame_39 0 rfl ?_
  refine k_get (v := vI ((red ((rope A z ++ rope A y) ++ trn (rope A y ++ rope A z))).length)) hx fX6_54 dX6_areSame_40 n_120 L_120 (congrArg vI (show M_36 120 8 = ((red ((rope A z ++ rope A y) ++ trn (rope A y ++ rope A z))).length) from w4.1)) ?_
  refine k_ifne hx dX6_areSame_43 (by omega) (fun h_43 => ?_) (fun h_43 => ?_)
  · refine k_iconst hx dX6_areSame_50 ?_
    refine k_rz hx hr dX6_areSame_51 (by first | exact Or.inl rfl | exact Or.inr rfl | exact b2i_or _) ?_
    exact ⟨b2i_f (fun q => h_43 (by rw [hrt.mpr q]; rfl)), o4⟩
  · refine k_iconst hx dX6_areSame_46 ?_
    refine k_goto hx dX6_areSame_47 ?_
    refine k_rz hx hr dX6_areSame_51 (by first | exact Or.inl rfl | exact Or.inr rfl | exact b2i_or _) ?_
    exact ⟨b2i_t (hrt.mp (List.length_eq_zero_iff.mp (by omega))), o4⟩
theorem c_X6_areSame1 {g : GE} {l : Launch} {M : Mem} {A : Ab} (hA : Fl M 121 0 A) {z y : Int} (hz : 0 ≤ z ∧ z < 4) (hy : 0 ≤ y ∧ y < 4) : Ci g l μX6_areSame [vR g 120, vI z, vI (-6), vI y, vI (-6)] M (fun q M' => q = b2i (decide (red (rope A z) = red (rope A y))) ∧ OW M M') := by
  refine Ci.of (by decide +kernel) rfl rfl (fun x hx hr => ?_)
  have hzl := (hA.1.rope hz).2
  have hyl := (hA.1.rope hy).2
  have hzc := (hA.1.rope hz).1
  have hyc := (hA.1.rope hy).1
  have hty := trn_len (rope A y)
  refine k_aload_n hx dX6_areSame_0 0 rfl ?_
  refine k_iconst hx dX6_areSame_1 ?_
  refine k_putI (kz := 8) hx fX6_54 dX6_areSame_2 n_120 L_120 rfl rfl (fun M_2 hM_2 => ?_)
  have o0 : OW M M_2 := by rw [hM_2]; exact OW.len
  have w0 : Wk M_2 [] := by rw [hM_2]; exact Wk.nil
  refine k_aload_n hx dX6_areSame_5 0 rfl ?_
  refine k_iload_n hx dX6_areSame_6 1 rfl ?_
  refine k_iconst hx dX6_areSame_7 ?_
  refine k_vv (rest := []) hx vX6_80 dX6_areSame_8 (c_X6_pushRope (A := A) (hA.w o0) hz (t := false) w0 (by simp)) n_120 L_120 rfl rfl rfl ⟨rfl, rfl⟩ ⟨by decide, by decide⟩ (fun M_8 p_8 => ?_)
  have w1 : Wk M_8 (act [] (rope A z)) := p_8.1
  have o1 := o0.tr p_8.2
  have l1 := act_len [] (rope A z)
  rw [List.length_nil] at l1
  refine k_iload_n hx dX6_areSame_11 2 rfl ?_
  refine k_iflt hx dX6_areSame_12 (by omega) (fun h_12 => ?_) (fun h_12 => absurd h_12 (by omega))
  refine k_iload hx dX6_areSame_21 4 rfl ?_
  refine k_iflt hx dX6_areSame_23 (by omega) (fun h_23 => ?_) (fun h_23 => absurd h_23 (by omega))
  refine k_aload_n hx dX6_areSame_33 0 rfl ?_
  refine k_iload_n hx dX6_areSame_34 3 rfl ?_
  refine k_iconst hx dX6_areSame_35 ?_
  refine k_vv (rest := []) hx vX6_80 dX6_areSame_36 (c_X6_pushRope (A := A) (hA.w o1) hy (t := true) w1 (by omega)) n_120 L_120 rfl rfl rfl ⟨rfl, rfl⟩ ⟨by decide, by decide⟩ (fun M_36 p_36 => ?_)
  have o4 := o1.tr p_36.2
  have w4 : Wk M_36 (red (rope A z ++ trn (rope A y))) := by
    have h : Wk M_36 (act (act [] (rope A z)) (trn (rope A y))) := p_36.1
    rw [← act_app] at h
    exact h
  have hrt := red_trn_nil (a := rope A z) (b := rope A y) hyc
  have hlr := red_len_le (rope A z ++ trn (rope A y))
  have hlr2 : (rope A z ++ trn (rope A y)).length ≤ 480 := by rw [List.length_append, trn_len]; omega
  refine k_aload_n hx dX6_areSame_39 0 rfl ?_
  refine k_get (v := vI ((red (rope A z ++ trn (rope A y))).length)) hx fX6_54 dX6_areSame_40 n_120 L_120 (congrArg vI (show M_36 120 8 = ((red (rope A z ++ trn (rope A y))).length) from w4.1)) ?_
  refine k_ifne hx dX6_areSame_43 (by omega) (fun h_43 => ?_) (fun h_43 => ?_)
  · refine k_iconst hx dX6_areSame_50 ?_
    refine k_rz hx hr dX6_areSame_51 (by first | exact Or.inl rfl | exact Or.inr rfl | exact b2i_or _) ?_
    exact ⟨b2i_f (fun q => h_43 (by rw [hrt.mpr q]; rfl)), o4⟩
  · refine k_iconst hx dX6_areSame_46 ?_
    refine k_goto hx dX6_areSame_47 ?_
    refine k_rz hx hr dX6_areSame_51 (by first | exact Or.inl rfl | exact Or.inr rfl | exact b2i_or _) ?_
    exact ⟨b2i_t (hrt.mp (List.length_eq_zero_iff.mp (by omega))), o4⟩
theorem c_X6_both {g : GE} {l : Launch} {M : Mem} {σ : Sg} (hI : InvM M σ) {z y : Int} (hzr : -2147483648 ≤ z ∧ z < 2147483648) (hyr : -2147483648 ≤ y ∧ y < 2147483648) {k : Int} (hkr : -2147483648 ≤ k ∧ k < 2147483648) : Ci g l μX6_both [vR g 120, vI z, vI y, vI k] M (PM M (aQ σ (if (0 ≤ z ∧ z < 4) ∧ (0 ≤ y ∧ y < 4) then qBoth (rope σ.1 z) (rope σ.1 y) k else -1))) := by
  refine Ci.of (by decide +kernel) rfl rfl (fun x hx hr => ?_)
  refine k_iload_n hx dX6_both_0 1 rfl ?_
  refine k_sp (rest := []) (e := (b2i (decide (0 ≤ z ∧ z ≤ 3)))) hx sX6_102 dX6_both_1 (c_X6_isRope (z := z) (by omega)) rfl rfl rfl ⟨rfl, rfl⟩ ⟨by decide, by decide⟩ ?_
  refine k_beq hx dX6_both_4 (fun h_4 => ?_) (fun h_4 => ?_)
  · refine k_iconst hx dX6_both_14 ?_
    refine k_ri hx hr dX6_both_15 ?_
    exact ⟨by unfold aQ; rw [if_neg (by omega)], hI, fun _ _ => rfl⟩
  · refine k_iload_n hx dX6_both_7 2 rfl ?_
    refine k_sp (rest := []) (e := (b2i (decide (0 ≤ y ∧ y ≤ 3)))) hx sX6_102 dX6_both_8 (c_X6_isRope (z := y) (by omega)) rfl rfl rfl ⟨rfl, rfl⟩ ⟨by decide, by decide⟩ ?_
    refine k_bne hx dX6_both_11 (fun h_11 => ?_) (fun h_11 => ?_)
    · have hz4 : 0 ≤ z ∧ z < 4 := by omega
      have hy4 : 0 ≤ y ∧ y < 4 := by omega
      have hzl := (hI.1.1.rope hz4).2
      have hyl := (hI.1.1.rope hy4).2
      have hll := lst_len (rope σ.1 z)
      refine k_iload_n hx dX6_both_16 3 rfl ?_
      refine k_iconst hx dX6_both_17 ?_
      refine k_iconst hx dX6_both_18 ?_
      refine k_sp (rest := []) (e := (b2i (decide (0 ≤ k ∧ k ≤ 3)))) hx sX6_61 dX6_both_19 (c_X6_in (v := k) (a := 0) (b := 3) (by omega)) rfl rfl rfl ⟨rfl, rfl⟩ ⟨by decide, by decide⟩ ?_
      refine k_bne hx dX6_both_22 (fun h_22 => ?_) (fun h_22 => ?_)
      · refine k_iload_n hx dX6_both_28 3 rfl ?_
        refine k_iconst hx dX6_both_29 ?_
        refine k_icmp_ge hx dX6_both_30 (by omega) (fun h_30 => ?_) (fun h_30 => ?_)
        · refine k_iload_n hx dX6_both_67 3 rfl ?_
          refine k_iconst hx dX6_both_68 ?_
          refine k_icmp_ne hx dX6_both_69 (by omega) (fun h_69 => ?_) (fun h_69 => ?_)
          · refine k_aload_n hx dX6_both_83 0 rfl ?_
            refine k_iload_n hx dX6_both_84 1 rfl ?_
            refine k_bipush hx dX6_both_85 (by decide +kernel) ?_
            refine k_iload_n hx dX6_both_87 2 rfl ?_
            refine k_bipush hx dX6_both_88 (by decide +kernel) ?_
            refine k_vi (rest := []) hx vX6_183 dX6_both_90 (c_X6_areSame1 hI.1 hz4 hy4) n_120 L_120 rfl rfl rfl ⟨rfl, rfl⟩ ⟨by decide, by decide⟩ (fun z_90 M_90 p_90 => ?_)
            obtain ⟨rfl, q2⟩ := p_90
            refine k_istore (ls' := [(0, vR g 120), (1, vI z), (2, vI y), (3, vI k), (4, vI (b2i (decide (red (rope σ.1 z) = red (rope σ.1 y)))))]) hx dX6_both_93 rfl rfl (by decide) ?_
            refine k_iload hx dX6_both_95 4 rfl ?_
            refine k_beq hx dX6_both_97 (fun h_97 => ?_) (fun h_97 => ?_)
            · refine k_iconst hx dX6_both_104 ?_
              refine k_ri hx hr dX6_both_105 ?_
              exact ⟨by unfold aQ; rw [if_pos ⟨hz4, hy4⟩]; unfold qBoth; rw [if_neg (by omega), if_neg (by omega), if_neg (by omega), if_pos (by omega)]; exact b2i_f h_97, hI.q q2.m, q2.m.lo⟩
            · refine k_iconst hx dX6_both_100 ?_
              refine k_goto hx dX6_both_101 ?_
              refine k_ri hx hr dX6_both_105 ?_
              exact ⟨by unfold aQ; rw [if_pos ⟨hz4, hy4⟩]; unfold qBoth; rw [if_neg (by omega), if_neg (by omega), if_neg (by omega), if_pos (by omega)]; exact b2i_t h_97, hI.q q2.m, q2.m.lo⟩
          · refine k_aload_n hx dX6_both_72 0 rfl ?_
            refine k_iload_n hx dX6_both_73 1 rfl ?_
            refine k_iload_n hx dX6_both_74 2 rfl ?_
            refine k_iload_n hx dX6_both_75 2 rfl ?_
            refine k_iload_n hx dX6_both_76 1 rfl ?_
            refine k_vi (rest := []) hx vX6_183 dX6_both_77 (c_X6_areSame2 hI.1 hz4 hy4) n_120 L_120 rfl rfl rfl ⟨rfl, rfl⟩ ⟨by decide, by decide⟩ (fun z_77 M_77 p_77 => ?_)
            obtain ⟨rfl, q2⟩ := p_77
            refine k_goto hx dX6_both_80 ?_
            refine k_istore (ls' := [(0, vR g 120), (1, vI z), (2, vI y), (3, vI k), (4, vI (b2i (decide (red (rope σ.1 z ++ rope σ.1 y) = red (rope σ.1 y ++ rope σ.1 z)))))]) hx dX6_both_93 rfl rfl (by decide) ?_
            refine k_iload hx dX6_both_95 4 rfl ?_
            refine k_beq hx dX6_both_97 (fun h_97 => ?_) (fun h_97 => ?_)
            · refine k_iconst hx dX6_both_104 ?_
              refine k_ri hx hr dX6_both_105 ?_
              exact ⟨by unfold aQ; rw [if_pos ⟨hz4, hy4⟩]; unfold qBoth; rw [if_neg (by omega), if_neg (by omega), if_pos (by omega)]; exact b2i_f h_97, hI.q q2.m, q2.m.lo⟩
            · refine k_iconst hx dX6_both_100 ?_
              refine k_goto hx dX6_both_101 ?_
              refine k_ri hx hr dX6_both_105 ?_
              exact ⟨by unfold aQ; rw [if_pos ⟨hz4, hy4⟩]; unfold qBoth; rw [if_neg (by omega), if_neg (by omega), if_pos (by omega)]; exact b2i_t h_97, hI.q q2.m, q2.m.lo⟩
        · refine k_aload_n hx dX6_both_33 0 rfl ?_
          refine k_iload_n hx dX6_both_34 1 rfl ?_
          refine k_iconst hx dX6_both_35 ?_
          refine k_vv (rest := []) hx vX6_149 dX6_both_36 (c_X6_layForm hI.1 hz4 (t := false)) n_120 L_120 rfl rfl rfl ⟨rfl, rfl⟩ ⟨by decide, by decide⟩ (fun M_36 p_36 => ?_)
          obtain ⟨q1, q2⟩ := p_36
          have q1 : Fo M_36 10 127 (lst (rope σ.1 z)) := q1
          refine k_aload_n hx dX6_both_39 0 rfl ?_
          refine k_vv (rest := []) hx vX6_176 dX6_both_40 (c_X6_keepForm q1 (by omega)) n_120 L_120 rfl rfl rfl ⟨rfl, rfl⟩ ⟨by decide, by decide⟩ (fun M_40 p_40 => ?_)
          obtain ⟨q3, q4⟩ := p_40
          have o2 := q2.q.tr q4.q
          have hI2 := hI.q o2
          refine k_aload_n hx dX6_both_43 0 rfl ?_
          refine k_iload_n hx dX6_both_44 2 rfl ?_
          refine k_iload_n hx dX6_both_45 3 rfl ?_
          refine k_iconst hx dX6_both_46 ?_
          refine k_icmp_ne hx dX6_both_47 (by omega) (fun h_47 => ?_) (fun h_47 => ?_)
          · refine k_iconst hx dX6_both_54 ?_
            refine k_vv (rest := []) hx vX6_149 dX6_both_55 (c_X6_layForm hI2.1 hy4 (t := false)) n_120 L_120 rfl rfl rfl ⟨rfl, rfl⟩ ⟨by decide, by decide⟩ (fun M_55 p_55 => ?_)
            obtain ⟨q5, q6⟩ := p_55
            have q5 : Fo M_55 10 127 (lst (rope σ.1 y)) := q5
            have q7 := q3.of q6
            have o3 := o2.tr q6.q
            have hll2 := lst_len (rope σ.1 y)
            have htl2 := trn_len (rope σ.1 y)
            refine k_aload_n hx dX6_both_58 0 rfl ?_
            refine k_vp (rest := []) (e := (b2i (decide (lst (rope σ.1 y) = lst (rope σ.1 z))))) hx vX6_179 dX6_both_59 (c_X6_areFormsAlike q5 q7 (by omega) (by omega)) n_120 L_120 rfl rfl rfl ⟨rfl, rfl⟩ ⟨by decide, by decide⟩ ?_
            refine k_istore (ls' := [(0, vR g 120), (1, vI z), (2, vI y), (3, vI k), (4, vI (b2i (decide (lst (rope σ.1 y) = lst (rope σ.1 z)))))]) hx dX6_both_62 rfl rfl (by decide) ?_
            refine k_goto hx dX6_both_64 ?_
            refine k_iload hx dX6_both_95 4 rfl ?_
            refine k_beq hx dX6_both_97 (fun h_97 => ?_) (fun h_97 => ?_)
            · refine k_iconst hx dX6_both_104 ?_
              refine k_ri hx hr dX6_both_105 ?_
              exact ⟨by unfold aQ; rw [if_pos ⟨hz4, hy4⟩]; unfold qBoth; first | (rw [if_pos (by omega)]; exact b2i_f (fun q => h_97 q.symm)) | (rw [if_neg (by omega), if_pos (by omega)]; exact b2i_f (fun q => h_97 q.symm)), hI.q o3, o3.lo⟩
            · refine k_iconst hx dX6_both_100 ?_
              refine k_goto hx dX6_both_101 ?_
              refine k_ri hx hr dX6_both_105 ?_
              exact ⟨by unfold aQ; rw [if_pos ⟨hz4, hy4⟩]; unfold qBoth; first | (rw [if_pos (by omega)]; exact b2i_t h_97.symm) | (rw [if_neg (by omega), if_pos (by omega)]; exact b2i_t h_97.symm), hI.q o3, o3.lo⟩
          · refine k_iconst hx dX6_both_50 ?_
            refine k_goto hx dX6_both_51 ?_
            refine k_vv (rest := []) hx vX6_149 dX6_both_55 (c_X6_layForm hI2.1 hy4 (t := true)) n_120 L_120 rfl rfl rfl ⟨rfl, rfl⟩ ⟨by decide, by decide⟩ (fun M_55 p_55 => ?_)
            obtain ⟨q5, q6⟩ := p_55
            have q5 : Fo M_55 10 127 (lst (trn (rope σ.1 y))) := q5
            have q7 := q3.of q6
            have o3 := o2.tr q6.q
            have hll2 := lst_len (trn (rope σ.1 y))
            have htl2 := trn_len (rope σ.1 y)
            refine k_aload_n hx dX6_both_58 0 rfl ?_
            refine k_vp (rest := []) (e := (b2i (decide (lst (trn (rope σ.1 y)) = lst (rope σ.1 z))))) hx vX6_179 dX6_both_59 (c_X6_areFormsAlike q5 q7 (by omega) (by omega)) n_120 L_120 rfl rfl rfl ⟨rfl, rfl⟩ ⟨by decide, by decide⟩ ?_
            refine k_istore (ls' := [(0, vR g 120), (1, vI z), (2, vI y), (3, vI k), (4, vI (b2i (decide (lst (trn (rope σ.1 y)) = lst (rope σ.1 z)))))]) hx dX6_both_62 rfl rfl (by decide) ?_
            refine k_goto hx dX6_both_64 ?_
            refine k_iload hx dX6_both_95 4 rfl ?_
            refine k_beq hx dX6_both_97 (fun h_97 => ?_) (fun h_97 => ?_)
            · refine k_iconst hx dX6_both_104 ?_
              refine k_ri hx hr dX6_both_105 ?_
              exact ⟨by unfold aQ; rw [if_pos ⟨hz4, hy4⟩]; unfold qBoth; first | (rw [if_pos (by omega)]; exact b2i_f (fun q => h_97 q.symm)) | (rw [if_neg (by omega), if_pos (by omega)]; exact b2i_f (fun q => h_97 q.symm)), hI.q o3, o3.lo⟩
            · refine k_iconst hx dX6_both_100 ?_
              refine k_goto hx dX6_both_101 ?_
              refine k_ri hx hr dX6_both_105 ?_
              exact ⟨by unfold aQ; rw [if_pos ⟨hz4, hy4⟩]; unfold qBoth; first | (rw [if_pos (by omega)]; exact b2i_t h_97.symm) | (rw [if_neg (by omega), if_pos (by omega)]; exact b2i_t h_97.symm), hI.q o3, o3.lo⟩
      · refine k_bipush hx dX6_both_25 (by decide +kernel) ?_
        refine k_ri hx hr dX6_both_27 ?_
        exact ⟨by unfold aQ; rw [if_pos ⟨hz4, hy4⟩, qBoth_out (by omega)], hI, fun _ _ => rfl⟩
    · refine k_iconst hx dX6_both_14 ?_
      refine k_ri hx hr dX6_both_15 ?_
      exact ⟨by unfold aQ; rw [if_neg (by omega)], hI, fun _ _ => rfl⟩
theorem c_X6_ofRope {g : GE} {l : Launch} {M : Mem} {σ : Sg} (hI : InvM M σ) {z : Int} (hzr : -2147483648 ≤ z ∧ z < 2147483648) {k : Int} (hkr : -2147483648 ≤ k ∧ k < 2147483648) : Ci g l μX6_ofRope [vR g 120, vI z, vI k] M (PM M (aQ σ (qRope z (qOf σ.1 (rope σ.1 z) k)))) := by
  refine Ci.of (by decide +kernel) rfl rfl (fun x hx hr => ?_)
  refine k_iload_n hx dX6_ofRope_0 1 rfl ?_
  refine k_sp (rest := []) (e := (b2i (decide (0 ≤ z ∧ z ≤ 3)))) hx sX6_102 dX6_ofRope_1 (c_X6_isRope (z := z) (by omega)) rfl rfl rfl ⟨rfl, rfl⟩ ⟨by decide, by decide⟩ ?_
  refine k_bne hx dX6_ofRope_4 (fun h_4 => ?_) (fun h_4 => ?_)
  · have hz4 : 0 ≤ z ∧ z < 4 := by omega
    have hzl := (hI.1.1.rope hz4).2
    have hll := lst_len (rope σ.1 z)
    have hl1 := red_len_le (rope σ.1 z)
    refine k_aload_n hx dX6_ofRope_9 0 rfl ?_
    refine k_iload_n hx dX6_ofRope_10 1 rfl ?_
    refine k_iconst hx dX6_ofRope_11 ?_
    refine k_vv (rest := []) hx vX6_149 dX6_ofRope_12 (c_X6_layForm hI.1 hz4 (t := false)) n_120 L_120 rfl rfl rfl ⟨rfl, rfl⟩ ⟨by decide, by decide⟩ (fun M_12 p_12 => ?_)
    obtain ⟨q1, q2⟩ := p_12
    have q1 : Fo M_12 10 127 (lst (rope σ.1 z)) := q1
    have hI2 := hI.q q2.q
    refine k_iload_n hx dX6_ofRope_15 2 rfl ?_
    rcases (show k = 0 ∨ k = 1 ∨ k = 2 ∨ k = 3 ∨ k = 4 ∨ k = 5 ∨ k = 6 ∨ k = 7 ∨ (k < 0 ∨ 7 < k) by omega) with rfl | rfl | rfl | rfl | rfl | rfl | rfl | rfl | hout
    · refine k_tsIn (off := 48) (tgt := 64) hx dX6_ofRope_16 (by omega) (by omega) (by omega) (rfl) rfl ?_
      refine k_aload_n hx dX6_ofRope_64 0 rfl ?_
      refine k_iload_n hx dX6_ofRope_65 1 rfl ?_
      refine k_vp (rest := []) (e := ((rope σ.1 z).length)) hx vX6_65 dX6_ofRope_66 (c_X6_many hI2.1 hz4) n_120 L_120 rfl rfl rfl ⟨rfl, rfl⟩ ⟨by decide, by decide⟩ ?_
      refine k_ri hx hr dX6_ofRope_69 ?_
      exact ⟨by unfold aQ qRope; rw [if_pos hz4]; rfl, hI2, q2.q.lo⟩
    · refine k_tsIn (off := 54) (tgt := 70) hx dX6_ofRope_16 (by omega) (by omega) (by omega) (rfl) rfl ?_
      refine k_aload_n hx dX6_ofRope_70 0 rfl ?_
      refine k_iload_n hx dX6_ofRope_71 1 rfl ?_
      refine k_vp (rest := []) (e := (wsum σ.1.1 (rope σ.1 z))) hx vX6_152 dX6_ofRope_72 (c_X6_ofWord hI2.1 hz4) n_120 L_120 rfl rfl rfl ⟨rfl, rfl⟩ ⟨by decide, by decide⟩ ?_
      refine k_ri hx hr dX6_ofRope_75 ?_
      exact ⟨by unfold aQ qRope; rw [if_pos hz4]; rfl, hI2, q2.q.lo⟩
    · refine k_tsIn (off := 81) (tgt := 97) hx dX6_ofRope_16 (by omega) (by omega) (by omega) (rfl) rfl ?_
      refine k_aload_n hx dX6_ofRope_97 0 rfl ?_
      refine k_iload_n hx dX6_ofRope_98 1 rfl ?_
      refine k_iconst hx dX6_ofRope_99 ?_
      refine k_vv (rest := []) hx vX6_84 dX6_ofRope_100 (c_X6_layPulled hI2.1 hz4 (t := false)) n_120 L_120 rfl rfl rfl ⟨rfl, rfl⟩ ⟨by decide, by decide⟩ (fun M_100 p_100 => ?_)
      obtain ⟨q3, q4⟩ := p_100
      have q3 : Wk M_100 (red (rope σ.1 z)) := q3
      have hI3 := hI2.q q4.m
      have o3 := q2.q.tr q4.m
      refine k_iload_n hx dX6_ofRope_103 2 rfl ?_
      refine k_iconst hx dX6_ofRope_104 ?_
      refine k_icmp_ne hx dX6_ofRope_105 (by omega) (fun h_105 => ?_) (fun h_105 => ?_)
      · refine k_iload_n hx dX6_ofRope_115 2 rfl ?_
        refine k_iconst hx dX6_ofRope_116 ?_
        refine k_icmp_ne hx dX6_ofRope_117 (by omega) (fun h_117 => ?_) (fun h_117 => ?_)
        · refine k_iload_n hx dX6_ofRope_127 2 rfl ?_
          refine k_bipush hx dX6_ofRope_128 (by decide +kernel) ?_
          refine k_icmp_ne hx dX6_ofRope_130 (by omega) (fun h_130 => ?_) (fun h_130 => ?_)
          · refine k_bipush hx dX6_ofRope_148 (by decide +kernel) ?_
            refine k_ri hx hr dX6_ofRope_150 ?_
            first | (exfalso; omega) | exact ⟨by unfold aQ qRope; rw [if_pos hz4, qOf_out (by omega)], hI3, o3.lo⟩
          · refine k_aload_n hx dX6_ofRope_133 0 rfl ?_
            refine k_get (v := vI ((red (rope σ.1 z)).length)) hx fX6_54 dX6_ofRope_134 n_120 L_120 (congrArg vI (show M_100 120 8 = ((red (rope σ.1 z)).length) from q3.1)) ?_
            refine k_ifne hx dX6_ofRope_137 (by omega) (fun h_137 => ?_) (fun h_137 => ?_)
            · refine k_iconst hx dX6_ofRope_144 ?_
              refine k_goto hx dX6_ofRope_145 ?_
              refine k_ri hx hr dX6_ofRope_150 ?_
              first | (exfalso; omega) | (obtain rfl : k = 8 := (by omega); exact ⟨by unfold aQ qRope; rw [if_pos hz4]; exact (b2i_f (fun q => h_137 (by rw [wF_0] at q; rw [q]; rfl)) : (0 : Int) = b2i (decide (wF 0 (rope σ.1 z) = []))), hI3, o3.lo⟩)
            · refine k_iconst hx dX6_ofRope_140 ?_
              refine k_goto hx dX6_ofRope_141 ?_
              refine k_ri hx hr dX6_ofRope_150 ?_
              first | (exfalso; omega) | (obtain rfl : k = 8 := (by omega); exact ⟨by unfold aQ qRope; rw [if_pos hz4]; exact (b2i_t (by rw [wF_0]; exact List.length_eq_zero_iff.mp (by omega)) : (1 : Int) = b2i (decide (wF 0 (rope σ.1 z) = []))), hI3, o3.lo⟩)
        · refine k_aload_n hx dX6_ofRope_120 0 rfl ?_
          refine k_vp (rest := []) (e := (wsum σ.1.1 (red (rope σ.1 z)))) hx vX6_164 dX6_ofRope_121 (c_X6_widths hI3.1 q3 (by omega)) n_120 L_120 rfl rfl rfl ⟨rfl, rfl⟩ ⟨by decide, by decide⟩ ?_
          refine k_goto hx dX6_ofRope_124 ?_
          refine k_ri hx hr dX6_ofRope_150 ?_
          first | (exfalso; omega) | exact ⟨by unfold aQ qRope; rw [if_pos hz4]; rfl, hI3, o3.lo⟩
      · refine k_aload_n hx dX6_ofRope_108 0 rfl ?_
        refine k_get (v := vI ((red (rope σ.1 z)).length)) hx fX6_54 dX6_ofRope_109 n_120 L_120 (congrArg vI (show M_100 120 8 = ((red (rope σ.1 z)).length) from q3.1)) ?_
        refine k_goto hx dX6_ofRope_112 ?_
        refine k_ri hx hr dX6_ofRope_150 ?_
        first | (exfalso; omega) | exact ⟨by unfold aQ qRope; rw [if_pos hz4]; rfl, hI3, o3.lo⟩
    · refine k_tsIn (off := 81) (tgt := 97) hx dX6_ofRope_16 (by omega) (by omega) (by omega) (rfl) rfl ?_
      refine k_aload_n hx dX6_ofRope_97 0 rfl ?_
      refine k_iload_n hx dX6_ofRope_98 1 rfl ?_
      refine k_iconst hx dX6_ofRope_99 ?_
      refine k_vv (rest := []) hx vX6_84 dX6_ofRope_100 (c_X6_layPulled hI2.1 hz4 (t := false)) n_120 L_120 rfl rfl rfl ⟨rfl, rfl⟩ ⟨by decide, by decide⟩ (fun M_100 p_100 => ?_)
      obtain ⟨q3, q4⟩ := p_100
      have q3 : Wk M_100 (red (rope σ.1 z)) := q3
      have hI3 := hI2.q q4.m
      have o3 := q2.q.tr q4.m
      refine k_iload_n hx dX6_ofRope_103 2 rfl ?_
      refine k_iconst hx dX6_ofRope_104 ?_
      refine k_icmp_ne hx dX6_ofRope_105 (by omega) (fun h_105 => ?_) (fun h_105 => ?_)
      · refine k_iload_n hx dX6_ofRope_115 2 rfl ?_
        refine k_iconst hx dX6_ofRope_116 ?_
        refine k_icmp_ne hx dX6_ofRope_117 (by omega) (fun h_117 => ?_) (fun h_117 => ?_)
        · refine k_iload_n hx dX6_ofRope_127 2 rfl ?_
          refine k_bipush hx dX6_ofRope_128 (by decide +kernel) ?_
          refine k_icmp_ne hx dX6_ofRope_130 (by omega) (fun h_130 => ?_) (fun h_130 => ?_)
          · refine k_bipush hx dX6_ofRope_148 (by decide +kernel) ?_
            refine k_ri hx hr dX6_ofRope_150 ?_
            first | (exfalso; omega) | exact ⟨by unfold aQ qRope; rw [if_pos hz4, qOf_out (by omega)], hI3, o3.lo⟩
          · refine k_aload_n hx dX6_ofRope_133 0 rfl ?_
            refine k_get (v := vI ((red (rope σ.1 z)).length)) hx fX6_54 dX6_ofRope_134 n_120 L_120 (congrArg vI (show M_100 120 8 = ((red (rope σ.1 z)).length) from q3.1)) ?_
            refine k_ifne hx dX6_ofRope_137 (by omega) (fun h_137 => ?_) (fun h_137 => ?_)
            · refine k_iconst hx dX6_ofRope_144 ?_
              refine k_goto hx dX6_ofRope_145 ?_
              refine k_ri hx hr dX6_ofRope_150 ?_
              first | (exfalso; omega) | (obtain rfl : k = 8 := (by omega); exact ⟨by unfold aQ qRope; rw [if_pos hz4]; exact (b2i_f (fun q => h_137 (by rw [wF_0] at q; rw [q]; rfl)) : (0 : Int) = b2i (decide (wF 0 (rope σ.1 z) = []))), hI3, o3.lo⟩)
            · refine k_iconst hx dX6_ofRope_140 ?_
              refine k_goto hx dX6_ofRope_141 ?_
              refine k_ri hx hr dX6_ofRope_150 ?_
              first | (exfalso; omega) | (obtain rfl : k = 8 := (by omega); exact ⟨by unfold aQ qRope; rw [if_pos hz4]; exact (b2i_t (by rw [wF_0]; exact List.length_eq_zero_iff.mp (by omega)) : (1 : Int) = b2i (decide (wF 0 (rope σ.1 z) = []))), hI3, o3.lo⟩)
        · refine k_aload_n hx dX6_ofRope_120 0 rfl ?_
          refine k_vp (rest := []) (e := (wsum σ.1.1 (red (rope σ.1 z)))) hx vX6_164 dX6_ofRope_121 (c_X6_widths hI3.1 q3 (by omega)) n_120 L_120 rfl rfl rfl ⟨rfl, rfl⟩ ⟨by decide, by decide⟩ ?_
          refine k_goto hx dX6_ofRope_124 ?_
          refine k_ri hx hr dX6_ofRope_150 ?_
          first | (exfalso; omega) | exact ⟨by unfold aQ qRope; rw [if_pos hz4]; rfl, hI3, o3.lo⟩
      · refine k_aload_n hx dX6_ofRope_108 0 rfl ?_
        refine k_get (v := vI ((red (rope σ.1 z)).length)) hx fX6_54 dX6_ofRope_109 n_120 L_120 (congrArg vI (show M_100 120 8 = ((red (rope σ.1 z)).length) from q3.1)) ?_
        refine k_goto hx dX6_ofRope_112 ?_
        refine k_ri hx hr dX6_ofRope_150 ?_
        first | (exfalso; omega) | exact ⟨by unfold aQ qRope; rw [if_pos hz4]; rfl, hI3, o3.lo⟩
    · refine k_tsIn (off := 60) (tgt := 76) hx dX6_ofRope_16 (by omega) (by omega) (by omega) (rfl) rfl ?_
      refine k_aload_n hx dX6_ofRope_76 0 rfl ?_
      refine k_get (v := vI ((lst (rope σ.1 z)).length)) hx fX6_93 dX6_ofRope_77 n_120 L_120 (congrArg vI (show M_12 120 10 = ((lst (rope σ.1 z)).length) from q1.1)) ?_
      refine k_ri hx hr dX6_ofRope_80 ?_
      exact ⟨by unfold aQ qRope; rw [if_pos hz4, least_len]; rfl, hI2, q2.q.lo⟩
    · refine k_tsIn (off := 65) (tgt := 81) hx dX6_ofRope_16 (by omega) (by omega) (by omega) (rfl) rfl ?_
      refine k_aload_n hx dX6_ofRope_81 0 rfl ?_
      refine k_vp (rest := []) (e := (power (lst (rope σ.1 z)))) hx vX6_155 dX6_ofRope_82 (c_X6_power q1 (by omega)) n_120 L_120 rfl rfl rfl ⟨rfl, rfl⟩ ⟨by decide, by decide⟩ ?_
      refine k_ri hx hr dX6_ofRope_85 ?_
      exact ⟨by unfold aQ qRope; rw [if_pos hz4, power_least]; rfl, hI2, q2.q.lo⟩
    · refine k_tsIn (off := 70) (tgt := 86) hx dX6_ofRope_16 (by omega) (by omega) (by omega) (rfl) rfl ?_
      refine k_aload_n hx dX6_ofRope_86 0 rfl ?_
      refine k_vp (rest := []) (e := (pset (lst (rope σ.1 z)))) hx vX6_158 dX6_ofRope_87 (c_X6_posts q1 (by omega)) n_120 L_120 rfl rfl rfl ⟨rfl, rfl⟩ ⟨by decide, by decide⟩ ?_
      refine k_ri hx hr dX6_ofRope_90 ?_
      exact ⟨by unfold aQ qRope; rw [if_pos hz4, pset_least]; rfl, hI2, q2.q.lo⟩
    · refine k_tsIn (off := 75) (tgt := 91) hx dX6_ofRope_16 (by omega) (by omega) (by omega) (rfl) rfl ?_
      refine k_aload_n hx dX6_ofRope_91 0 rfl ?_
      refine k_iload_n hx dX6_ofRope_92 1 rfl ?_
      refine k_vp (rest := []) (e := (firstP (rope σ.1 z))) hx vX6_161 dX6_ofRope_93 (c_X6_firstPair hI2.1 hz4) n_120 L_120 rfl rfl rfl ⟨rfl, rfl⟩ ⟨by decide, by decide⟩ ?_
      refine k_ri hx hr dX6_ofRope_96 ?_
      exact ⟨by unfold aQ qRope; rw [if_pos hz4]; rfl, hI2, q2.q.lo⟩
    · refine k_tsOut hx dX6_ofRope_16 (tgt := 97) rfl (by omega) (by omega) ?_
      refine k_aload_n hx dX6_ofRope_97 0 rfl ?_
      refine k_iload_n hx dX6_ofRope_98 1 rfl ?_
      refine k_iconst hx dX6_ofRope_99 ?_
      refine k_vv (rest := []) hx vX6_84 dX6_ofRope_100 (c_X6_layPulled hI2.1 hz4 (t := false)) n_120 L_120 rfl rfl rfl ⟨rfl, rfl⟩ ⟨by decide, by decide⟩ (fun M_100 p_100 => ?_)
      obtain ⟨q3, q4⟩ := p_100
      have q3 : Wk M_100 (red (rope σ.1 z)) := q3
      have hI3 := hI2.q q4.m
      have o3 := q2.q.tr q4.m
      refine k_iload_n hx dX6_ofRope_103 2 rfl ?_
      refine k_iconst hx dX6_ofRope_104 ?_
      refine k_icmp_ne hx dX6_ofRope_105 (by omega) (fun h_105 => ?_) (fun h_105 => ?_)
      · refine k_iload_n hx dX6_ofRope_115 2 rfl ?_
        refine k_iconst hx dX6_ofRope_116 ?_
        refine k_icmp_ne hx dX6_ofRope_117 (by omega) (fun h_117 => ?_) (fun h_117 => ?_)
        · refine k_iload_n hx dX6_ofRope_127 2 rfl ?_
          refine k_bipush hx dX6_ofRope_128 (by decide +kernel) ?_
          refine k_icmp_ne hx dX6_ofRope_130 (by omega) (fun h_130 => ?_) (fun h_130 => ?_)
          · refine k_bipush hx dX6_ofRope_148 (by decide +kernel) ?_
            refine k_ri hx hr dX6_ofRope_150 ?_
            first | (exfalso; omega) | exact ⟨by unfold aQ qRope; rw [if_pos hz4, qOf_out (by omega)], hI3, o3.lo⟩
          · refine k_aload_n hx dX6_ofRope_133 0 rfl ?_
            refine k_get (v := vI ((red (rope σ.1 z)).length)) hx fX6_54 dX6_ofRope_134 n_120 L_120 (congrArg vI (show M_100 120 8 = ((red (rope σ.1 z)).length) from q3.1)) ?_
            refine k_ifne hx dX6_ofRope_137 (by omega) (fun h_137 => ?_) (fun h_137 => ?_)
            · refine k_iconst hx dX6_ofRope_144 ?_
              refine k_goto hx dX6_ofRope_145 ?_
              refine k_ri hx hr dX6_ofRope_150 ?_
              first | (exfalso; omega) | (obtain rfl : k = 8 := (by omega); exact ⟨by unfold aQ qRope; rw [if_pos hz4]; exact (b2i_f (fun q => h_137 (by rw [wF_0] at q; rw [q]; rfl)) : (0 : Int) = b2i (decide (wF 0 (rope σ.1 z) = []))), hI3, o3.lo⟩)
            · refine k_iconst hx dX6_ofRope_140 ?_
              refine k_goto hx dX6_ofRope_141 ?_
              refine k_ri hx hr dX6_ofRope_150 ?_
              first | (exfalso; omega) | (obtain rfl : k = 8 := (by omega); exact ⟨by unfold aQ qRope; rw [if_pos hz4]; exact (b2i_t (by rw [wF_0]; exact List.length_eq_zero_iff.mp (by omega)) : (1 : Int) = b2i (decide (wF 0 (rope σ.1 z) = []))), hI3, o3.lo⟩)
        · refine k_aload_n hx dX6_ofRope_120 0 rfl ?_
          refine k_vp (rest := []) (e := (wsum σ.1.1 (red (rope σ.1 z)))) hx vX6_164 dX6_ofRope_121 (c_X6_widths hI3.1 q3 (by omega)) n_120 L_120 rfl rfl rfl ⟨rfl, rfl⟩ ⟨by decide, by decide⟩ ?_
          refine k_goto hx dX6_ofRope_124 ?_
          refine k_ri hx hr dX6_ofRope_150 ?_
          first | (exfalso; omega) | exact ⟨by unfold aQ qRope; rw [if_pos hz4]; rfl, hI3, o3.lo⟩
      · refine k_aload_n hx dX6_ofRope_108 0 rfl ?_
        refine k_get (v := vI ((red (rope σ.1 z)).length)) hx fX6_54 dX6_ofRope_109 n_120 L_120 (congrArg vI (show M_100 120 8 = ((red (rope σ.1 z)).length) from q3.1)) ?_
        refine k_goto hx dX6_ofRope_112 ?_
        refine k_ri hx hr dX6_ofRope_150 ?_
        first | (exfalso; omega) | exact ⟨by unfold aQ qRope; rw [if_pos hz4]; rfl, hI3, o3.lo⟩
  · refine k_iconst hx dX6_ofRope_7 ?_
    refine k_ri hx hr dX6_ofRope_8 ?_
    exact ⟨by unfold aQ qRope; rw [if_neg (by omega)], hI, fun _ _ => rfl⟩

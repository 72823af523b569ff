/-! the reference's own methods: joining -/
theorem at0_apprZ {a b : List Int} {z : Int} (h : a.length ≤ z) (h2 : z < a.length + b.length) : at0 (a ++ b) z = at0 b (z - a.length) := by
  have := at0_appr (a := a) (b := b) (k := (z - a.length).toNat) (by omega)
  rw [show z = ((a.length + (z - a.length).toNat : Nat) : Int) by omega, this]
  congr 1; omega

theorem c_X6_atV {g : GE} {l : Launch} {M : Mem} {r : Int} (hro : 0 ≤ r ∧ r < 4) {k v : Int} (hk : 0 ≤ k ∧ k < 120) (hv : M 121 (10 + 120 * r + k) = v) : Cp g l μX6_at [vR g 120, vI r, vI k] M v := by
  refine Ci.of (by decide +kernel) rfl rfl (fun x hx hr => ?_)
  refine k_aload_n hx dX6_at_0 0 rfl ?_
  refine k_get (v := vR g 121) hx fX6_7 dX6_at_1 n_120 L_120 rfl ?_
  refine k_bipush hx dX6_at_4 (by decide +kernel) ?_
  refine k_bipush hx dX6_at_6 (by decide +kernel) ?_
  refine k_iload_n hx dX6_at_8 1 rfl ?_
  refine k_imul hx dX6_at_9 ?_
  refine k_iadd hx dX6_at_10 ?_
  refine k_iload_n hx dX6_at_11 2 rfl ?_
  refine k_iadd hx dX6_at_12 ?_
  refine k_iald (v := v) hx dX6_at_13 n_121 L_121 (by omega) (by decide) (hv) ?_
  refine k_ri hx hr dX6_at_14 ?_
  exact ⟨rfl, rfl⟩
theorem c_X6_join {g : GE} {l : Launch} {M : Mem} {σ : Sg} (hI : InvM M σ) {z y : Int} (hzr : -2147483648 ≤ z ∧ z < 2147483648) (hyr : -2147483648 ≤ y ∧ y < 2147483648) : Ci g l μX6_join [vR g 120, vI z, vI y] M (PM M (aJoin σ z y)) := by
  refine Ci.of (by decide +kernel) rfl rfl (fun x hx hr => ?_)
  refine k_iload_n hx dX6_join_0 1 rfl ?_
  refine k_sp (rest := []) (e := (b2i (decide (0 ≤ z ∧ z ≤ 3)))) hx sX6_102 dX6_join_1 (c_X6_isRope (z := z) (by omega)) rfl rfl rfl ⟨rfl, rfl⟩ ⟨by decide, by decide⟩ ?_
  refine k_beq hx dX6_join_4 (fun h_4 => ?_) (fun h_4 => ?_)
  · refine k_iconst hx dX6_join_14 ?_
    refine k_ri hx hr dX6_join_15 ?_
    exact ⟨by unfold aJoin; rw [if_neg (by omega)], by unfold aJoin; rw [if_neg (by omega)]; exact hI, fun _ _ => rfl⟩
  · refine k_iload_n hx dX6_join_7 2 rfl ?_
    refine k_sp (rest := []) (e := (b2i (decide (0 ≤ y ∧ y ≤ 3)))) hx sX6_102 dX6_join_8 (c_X6_isRope (z := y) (by omega)) rfl rfl rfl ⟨rfl, rfl⟩ ⟨by decide, by decide⟩ ?_
    refine k_bne hx dX6_join_11 (fun h_11 => ?_) (fun h_11 => ?_)
    · refine k_aload_n hx dX6_join_16 0 rfl ?_
      refine k_iload_n hx dX6_join_17 1 rfl ?_
      have hz4 : 0 ≤ z ∧ z < 4 := by omega
      have hy4 : 0 ≤ y ∧ y < 4 := by omega
      have hzl := (hI.1.1.rope hz4).2
      have hyl := (hI.1.1.rope hy4).2
      have hzc := (hI.1.1.rope hz4).1
      have hyc := (hI.1.1.rope hy4).1
      refine k_vp (rest := []) (e := ((rope σ.1 z).length)) hx vX6_65 dX6_join_18 (c_X6_many hI.1 (r := z) (by omega)) n_120 L_120 rfl rfl rfl ⟨rfl, rfl⟩ ⟨by decide, by decide⟩ ?_
      refine k_aload_n hx dX6_join_21 0 rfl ?_
      refine k_iload_n hx dX6_join_22 2 rfl ?_
      refine k_vp (rest := [vI ((rope σ.1 z).length)]) (e := ((rope σ.1 y).length)) hx vX6_65 dX6_join_23 (c_X6_many hI.1 (r := y) (by omega)) n_120 L_120 rfl rfl rfl ⟨rfl, rfl⟩ ⟨by decide, by decide⟩ ?_
      refine k_iadd hx dX6_join_26 ?_
      refine k_bipush hx dX6_join_27 (by decide +kernel) ?_
      refine k_icmp_le hx dX6_join_29 (by omega) (fun h_29 => ?_) (fun h_29 => ?_)
      · refine k_aload_n hx dX6_join_35 0 rfl ?_
        refine k_vv (rest := []) hx vX6_99 dX6_join_36 (c_X6_record hI.1 hI.2.1) n_120 L_120 rfl rfl rfl ⟨rfl, rfl⟩ ⟨by decide, by decide⟩ (fun M_36 p_36 => ?_)
        have hI2 := hI.rec p_36
        have hS2 : Fl M_36 121 0 σ.1 := hI2.1
        have hoM : ∀ a, a < 120 → M_36 a = M a := fun a ha => p_36.2.1 a (by omega) (by omega)
        refine k_aload_n hx dX6_join_39 0 rfl ?_
        refine k_iload_n hx dX6_join_40 1 rfl ?_
        refine k_vp (rest := []) (e := ((rope σ.1 z).length)) hx vX6_65 dX6_join_41 (c_X6_many hS2 (r := z) (by omega)) n_120 L_120 rfl rfl rfl ⟨rfl, rfl⟩ ⟨by decide, by decide⟩ ?_
        refine k_istore_n (ls' := [(0, vR g 120), (1, vI z), (2, vI y), (3, vI ((rope σ.1 z).length))]) hx dX6_join_44 rfl rfl (by decide) ?_
        refine k_aload_n hx dX6_join_45 0 rfl ?_
        refine k_iload_n hx dX6_join_46 2 rfl ?_
        refine k_vp (rest := []) (e := ((rope σ.1 y).length)) hx vX6_65 dX6_join_47 (c_X6_many hS2 (r := y) (by omega)) n_120 L_120 rfl rfl rfl ⟨rfl, rfl⟩ ⟨by decide, by decide⟩ ?_
        refine k_istore (ls' := [(0, vR g 120), (1, vI z), (2, vI y), (3, vI ((rope σ.1 z).length)), (4, vI ((rope σ.1 y).length))]) hx dX6_join_50 rfl rfl (by decide) ?_
        refine k_iconst hx dX6_join_52 ?_
        refine k_istore (ls' := [(0, vR g 120), (1, vI z), (2, vI y), (3, vI ((rope σ.1 z).length)), (4, vI ((rope σ.1 y).length)), (5, vI 0)]) hx dX6_join_53 rfl rfl (by decide) ?_
        have loop : ∀ (f : Nat) (k : Nat) (u : Int) (M' : Mem), u = k → k ≤ (rope σ.1 y).length → (rope σ.1 y).length - k < f → (∀ q : Int, 0 ≤ q → q < k → M' 121 (10 + 120 * z + (rope σ.1 z).length + q) = at0 (rope σ.1 y) q) → (∀ q : Int, ¬ (10 + 120 * z + (rope σ.1 z).length ≤ q ∧ q < 10 + 120 * z + (rope σ.1 z).length + k) → M' 121 q = M_36 121 q) → ON M_36 M' → K x g 0 0 LAY NN M' 55 [(0, vR g 120), (1, vI z), (2, vI y), (3, vI (rope σ.1 z).length), (4, vI (rope σ.1 y).length), (5, vI u)] [] := by
          intro f
          induction f with
          | zero => intro k u M' hu hk hf hin hout ho; omega
          | succ f ih =>
            intro k u M' hu hk hf hin hout ho
            refine k_iload hx dX6_join_55 5 rfl ?_
            refine k_iload hx dX6_join_57 4 rfl ?_
            refine k_icmp_ge hx dX6_join_59 (by omega) (fun h_59 => ?_) (fun h_59 => ?_)
            · refine k_aload_n hx dX6_join_92 0 rfl ?_
              refine k_get (v := vR g 121) hx fX6_7 dX6_join_93 n_120 L_120 rfl ?_
              refine k_bipush hx dX6_join_96 (by decide +kernel) ?_
              refine k_iload_n hx dX6_join_98 1 rfl ?_
              refine k_iadd hx dX6_join_99 ?_
              refine k_iload_n hx dX6_join_100 3 rfl ?_
              refine k_iload hx dX6_join_101 4 rfl ?_
              refine k_iadd hx dX6_join_103 ?_
              refine k_iastN hx dX6_join_104 n_121 L_121 (by omega) (by decide) (fun M_104 hM_104 => ?_)
              refine k_iload_n hx dX6_join_105 3 rfl ?_
              refine k_iload hx dX6_join_106 4 rfl ?_
              refine k_iadd hx dX6_join_108 ?_
              refine k_ri hx hr dX6_join_109 ?_
              have hal : (rope σ.1 z ++ rope σ.1 y).length = (rope σ.1 z).length + (rope σ.1 y).length := List.length_append
              refine ⟨by unfold aJoin; rw [if_pos (by omega), if_neg (by omega)], ?_, fun a ha => by rw [hM_104, up_i (by omega), ho a (by omega)]; exact hoM a ha⟩
              unfold aJoin
              rw [if_pos (by omega), if_neg (by omega)]
              refine hI2.set (hS2.wr hz4 (hzc.app hyc) (by omega) (by rw [hM_104, up_s, hal]; omega) (fun q q0 q1 => ?_) (fun q h1 h2 => by rw [hM_104, up_k h1]; exact hout q (by omega))) (fun a ha => by rw [hM_104, up_i ha]; exact ho a ha)
              rw [hM_104, up_k (by omega)]
              by_cases hq : q < (rope σ.1 z).length
              · rw [hout _ (by omega), at0_appZ q0 hq]; exact hS2.at hz4 ⟨q0, hq⟩
              · rw [at0_apprZ (by omega) (by omega), ← hin (q - (rope σ.1 z).length) (by omega) (by omega)]; congr 1; omega
            · have hey : M' 121 (10 + 120 * y + u) = at0 (rope σ.1 y) u := by
                by_cases hyz : y = z
                · rw [hout _ (by subst hyz; omega)]; exact hS2.at hy4 ⟨by omega, by omega⟩
                · rw [hout _ (by omega)]; exact hS2.at hy4 ⟨by omega, by omega⟩
              refine k_aload_n hx dX6_join_62 0 rfl ?_
              refine k_get (v := vR g 121) hx fX6_7 dX6_join_63 n_120 L_120 rfl ?_
              refine k_bipush hx dX6_join_66 (by decide +kernel) ?_
              refine k_bipush hx dX6_join_68 (by decide +kernel) ?_
              refine k_iload_n hx dX6_join_70 1 rfl ?_
              refine k_imul hx dX6_join_71 ?_
              refine k_iadd hx dX6_join_72 ?_
              refine k_iload_n hx dX6_join_73 3 rfl ?_
              refine k_iadd hx dX6_join_74 ?_
              refine k_iload hx dX6_join_75 5 rfl ?_
              refine k_iadd hx dX6_join_77 ?_
              refine k_aload_n hx dX6_join_78 0 rfl ?_
              refine k_iload_n hx dX6_join_79 2 rfl ?_
              refine k_iload hx dX6_join_80 5 rfl ?_
              refine k_vp (rest := [vI (((10 + (120 * z)) + ((rope σ.1 z).length)) + u), vR g 121]) (e := (at0 (rope σ.1 y) u)) hx vX6_69 dX6_join_82 (c_X6_atV hy4 (k := u) (by omega) hey) n_120 L_120 rfl rfl rfl ⟨rfl, rfl⟩ ⟨by decide, by decide⟩ ?_
              refine k_iastN hx dX6_join_85 n_121 L_121 (by omega) (by decide) (fun M_85 hM_85 => ?_)
              refine k_iinc (ls' := [(0, vR g 120), (1, vI z), (2, vI y), (3, vI ((rope σ.1 z).length)), (4, vI ((rope σ.1 y).length)), (5, vI (u + 1))]) hx dX6_join_86 5 rfl rfl rfl (by decide) ?_
              refine k_goto hx dX6_join_89 ?_
              refine ih (k + 1) (u + 1) M_85 (by omega) (by omega) (by omega) (fun q q0 q1 => ?_) (fun q hq => by rw [hM_85, up_k (by omega)]; exact hout q (by omega)) (fun a ha => by rw [hM_85, up_i ha]; exact ho a ha)
              rw [hM_85]
              by_cases hq : q = u
              · rw [hq, up_s]
              · rw [up_k (by omega)]; exact hin q q0 (by omega)
        exact loop ((rope σ.1 y).length + 1) 0 0 M_36 rfl (by omega) (by omega) (fun q h0 h1 => by omega) (fun q _ => rfl) (fun a _ => rfl)
      · refine k_bipush hx dX6_join_32 (by decide +kernel) ?_
        refine k_ri hx hr dX6_join_34 ?_
        exact ⟨by unfold aJoin; rw [if_pos (by omega), if_pos (by omega)], by unfold aJoin; rw [if_pos (by omega), if_pos (by omega)]; exact hI, fun _ _ => rfl⟩
    · refine k_iconst hx dX6_join_14 ?_
      refine k_ri hx hr dX6_join_15 ?_
      exact ⟨by unfold aJoin; rw [if_neg (by omega)], by unfold aJoin; rw [if_neg (by omega)]; exact hI, fun _ _ => rfl⟩

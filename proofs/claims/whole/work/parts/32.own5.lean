/-! the reference's own methods -/
theorem InvM.rec {M M' : Mem} {σ : Sg} (h : InvM M σ) (hp : Hd M' ((σ.1 :: σ.2.1).take 6) ∧ (∀ a, a ≠ 120 → a ≠ 122 → M' a = M a) ∧ ∀ k, k ≠ 2 → M' 120 k = M 120 k) : InvM M' (σ.1, rcd σ) := by
  obtain ⟨h1, h2, h3, h4, h5⟩ := h
  obtain ⟨hp, ho, hk2⟩ := hp
  refine ⟨h1.eq (ho 121 (by decide) (by decide)), hp, fun k hk => by rw [ho 124 (by decide) (by decide)]; exact h3 k hk, fun k A hk hs => (h4 k A hk hs).eq (ho 123 (by decide) (by decide)), ?_⟩
  unfold Pm; rw [ho 125 (by decide) (by decide), hk2 6 (by decide)]; exact h5
theorem InvM.set {M M' : Mem} {A A' : Ab} {ρ : List Ab × (Option Ab × Option Ab) × List Int} (h : InvM M (A, ρ)) (hA : Fl M' 121 0 A') (ho : ON M M') : InvM M' (A', ρ) := by
  obtain ⟨h1, ⟨h2, h2b, h2c⟩, h3, h4, h5⟩ := h
  refine ⟨hA, ⟨by rw [ho 120 (by decide)]; exact h2, h2b, fun j B hj => (h2c j B hj).eq (ho 122 (by decide))⟩, fun k hk => by rw [ho 124 (by decide)]; exact h3 k hk, fun k A hk hs => (h4 k A hk hs).eq (ho 123 (by decide)), ?_⟩
  unfold Pm; rw [ho 125 (by decide), ho 120 (by decide)]; exact h5

theorem c_X6_width {g : GE} {l : Launch} {M : Mem} {σ : Sg} (hI : InvM M σ) {z : Int} (hzr : -2147483648 ≤ z ∧ z < 2147483648) {w : Int} (hwr : -2147483648 ≤ w ∧ w < 2147483648) : Ci g l μX6_width [vR g 120, vI z, vI w] M (PM M (aWidth σ z w)) := by
  refine Ci.of (by decide +kernel) rfl rfl (fun x hx hr => ?_)
  refine k_iload_n hx dX6_width_0 1 rfl ?_
  refine k_iconst hx dX6_width_1 ?_
  refine k_iconst hx dX6_width_2 ?_
  refine k_sp (rest := []) (e := (b2i (decide (0 ≤ z ∧ z ≤ 5)))) hx sX6_61 dX6_width_3 (c_X6_in (v := z) (a := 0) (b := 5) (by omega)) rfl rfl rfl ⟨rfl, rfl⟩ ⟨by decide, by decide⟩ ?_
  refine k_bne hx dX6_width_6 (fun h_6 => ?_) (fun h_6 => ?_)
  · refine k_iload_n hx dX6_width_11 2 rfl ?_
    refine k_iconst hx dX6_width_12 ?_
    refine k_bipush hx dX6_width_13 (by decide +kernel) ?_
    refine k_sp (rest := []) (e := (b2i (decide (1 ≤ w ∧ w ≤ 99)))) hx sX6_61 dX6_width_15 (c_X6_in (v := w) (a := 1) (b := 99) (by omega)) rfl rfl rfl ⟨rfl, rfl⟩ ⟨by decide, by decide⟩ ?_
    refine k_bne hx dX6_width_18 (fun h_18 => ?_) (fun h_18 => ?_)
    · refine k_aload_n hx dX6_width_24 0 rfl ?_
      refine k_vv (rest := []) hx vX6_99 dX6_width_25 (c_X6_record hI.1 hI.2.1) n_120 L_120 rfl rfl rfl ⟨rfl, rfl⟩ ⟨by decide, by decide⟩ (fun M_25 p_25 => ?_)
      have hI2 := hI.rec p_25
      have hS2 : Fl M_25 121 0 σ.1 := hI2.1
      have hoM : ∀ a, a < 120 → M_25 a = M a := fun a ha => p_25.2.1 a (by omega) (by omega)
      refine k_aload_n hx dX6_width_28 0 rfl ?_
      refine k_get (v := vR g 121) hx fX6_7 dX6_width_29 n_120 L_120 rfl ?_
      refine k_iload_n hx dX6_width_32 1 rfl ?_
      refine k_iald (v := (σ.1.1.getD z.toNat 0)) hx dX6_width_33 n_121 L_121 (by omega) (by decide) (by have := hS2.2.1 z (by omega) (by omega); rwa [show 0 + z = z by omega] at this) ?_
      refine k_istore_n (ls' := [(0, vR g 120), (1, vI z), (2, vI w), (3, vI (σ.1.1.getD z.toNat 0))]) hx dX6_width_34 rfl rfl (by decide) ?_
      refine k_aload_n hx dX6_width_35 0 rfl ?_
      refine k_get (v := vR g 121) hx fX6_7 dX6_width_36 n_120 L_120 rfl ?_
      refine k_iload_n hx dX6_width_39 1 rfl ?_
      refine k_iload_n hx dX6_width_40 2 rfl ?_
      refine k_iastN hx dX6_width_41 n_121 L_121 (by omega) (by decide) (fun M_41 hM_41 => ?_)
      refine k_iload_n hx dX6_width_42 3 rfl ?_
      refine k_ri hx hr dX6_width_43 ?_
      refine ⟨by unfold aWidth; rw [if_pos (by omega), if_neg (by omega)], ?_, fun a ha => by rw [hM_41, up_i (by omega)]; exact hoM a ha⟩
      unfold aWidth
      rw [if_pos (by omega), if_neg (by omega)]
      refine hI2.set ?_ (fun a ha => by rw [hM_41, up_i ha])
      obtain ⟨⟨a1, a2, a3, a4⟩, h2, h3, h4⟩ := hS2
      have hzl : z.toNat < σ.1.1.length := by omega
      refine ⟨⟨by show (σ.1.1.set z.toNat w).length = 6; rw [List.length_set]; exact a1, a2, fun p hp => ?_, a4⟩, fun p p0 hp => ?_, fun r r0 hr => by rw [hM_41, up_k (by omega)]; exact h3 r r0 hr, fun r r0 hr k k0 k1 => by rw [hM_41, up_k (by omega)]; exact h4 r r0 hr k k0 k1⟩
      · show 1 ≤ (σ.1.1.set z.toNat w).getD p 0 ∧ (σ.1.1.set z.toNat w).getD p 0 ≤ 99
        rw [getD_set hzl]; split; omega; exact a3 p hp
      · show M_41 121 (0 + p) = (σ.1.1.set z.toNat w).getD p.toNat 0
        rw [getD_set hzl, hM_41]
        by_cases hpz : p = z
        · rw [if_pos (by omega), hpz, show 0 + z = z by omega, up_s]
        · rw [if_neg (by omega), up_k (by omega)]; exact h2 p p0 hp
    · refine k_bipush hx dX6_width_21 (by decide +kernel) ?_
      refine k_ri hx hr dX6_width_23 ?_
      exact ⟨by unfold aWidth; rw [if_pos (by omega), if_pos (by omega)], by unfold aWidth; rw [if_pos (by omega), if_pos (by omega)]; exact hI, fun _ _ => rfl⟩
  · refine k_iconst hx dX6_width_9 ?_
    refine k_ri hx hr dX6_width_10 ?_
    exact ⟨by unfold aWidth; rw [if_neg (by omega)], by unfold aWidth; rw [if_neg (by omega)]; exact hI, fun _ _ => rfl⟩

/-! the reference's own methods: posts change places -/
theorem c_X6_swap {g : GE} {l : Launch} {M : Mem} {σ : Sg} (hI : InvM M σ) {p b : Int} (hpr : -2147483648 ≤ p ∧ p < 2147483648) (hbr : -2147483648 ≤ b ∧ b < 2147483648) : Ci g l μX6_swap [vR g 120, vI p, vI b] M (PM M (aSwap σ p b)) := by
  refine Ci.of (by decide +kernel) rfl rfl (fun x hx hr => ?_)
  refine k_iload_n hx dX6_swap_0 1 rfl ?_
  refine k_iconst hx dX6_swap_1 ?_
  refine k_iconst hx dX6_swap_2 ?_
  refine k_sp (rest := []) (e := (b2i (decide (0 ≤ p ∧ p ≤ 4)))) hx sX6_61 dX6_swap_3 (c_X6_in (v := p) (a := 0) (b := 4) (by omega)) rfl rfl rfl ⟨rfl, rfl⟩ ⟨by decide, by decide⟩ ?_
  refine k_bne hx dX6_swap_6 (fun h_6 => ?_) (fun h_6 => ?_)
  · refine k_iload_n hx dX6_swap_11 2 rfl ?_
    refine k_iconst hx dX6_swap_12 ?_
    refine k_iconst hx dX6_swap_13 ?_
    refine k_sp (rest := []) (e := (b2i (decide (0 ≤ b ∧ b ≤ 1)))) hx sX6_61 dX6_swap_14 (c_X6_in (v := b) (a := 0) (b := 1) (by omega)) rfl rfl rfl ⟨rfl, rfl⟩ ⟨by decide, by decide⟩ ?_
    refine k_bne hx dX6_swap_17 (fun h_17 => ?_) (fun h_17 => ?_)
    · have hp5 : 0 ≤ p ∧ p < 5 := by omega
      have hb2 : 0 ≤ b ∧ b < 2 := by omega
      refine k_iconst hx dX6_swap_23 ?_
      refine k_istore_n (ls' := [(0, vR g 120), (1, vI p), (2, vI b), (3, vI 0)]) hx dX6_swap_24 rfl rfl (by decide) ?_
      have loop2 : ∀ (f : Nat) (k : Nat) (z : Int) (M' : Mem) (B : Ab), z = k → k ≤ 4 → 4 - k < f → InvM M' (B, rcd σ) → B.1 = σ.1.1 → (∀ r : Nat, r < 4 → B.2.getD r [] = if r < k then swF p b (σ.1.2.getD r []) else σ.1.2.getD r []) → (∀ a, a < 120 → M' a = M a) → (∀ r : Nat, r < 4 → (swF p b (σ.1.2.getD r [])).length ≤ 120) → K x g 0 0 LAY NN M' 61 [(0, vR g 120), (1, vI p), (2, vI b), (3, vI z)] [] := by
        intro f
        induction f with
        | zero => intro k z M' B hz hk hf hJ hB1 hB2 hm hfit; omega
        | succ f ih =>
          intro k z M' B hz hk hf hJ hB1 hB2 hm hfit
          refine k_iload_n hx dX6_swap_61 3 rfl ?_
          refine k_iconst hx dX6_swap_62 ?_
          refine k_icmp_ge hx dX6_swap_63 (by omega) (fun h_63 => ?_) (fun h_63 => ?_)
          · refine k_aload_n hx dX6_swap_84 0 rfl ?_
            have hBe : B = (σ.1.1, σ.1.2.map (swF p b)) := by
              have h0 : B.2.length = 4 := hJ.1.1.2.1
              have h1 : σ.1.2.length = 4 := hI.1.1.2.1
              refine Prod.ext hB1 (ext4 h0 (by rw [List.length_map]; exact h1) (fun r hr4 => ?_))
              rw [hB2 r hr4, if_pos (by omega), map_getD4 (by omega)]
            refine k_vp (rest := []) (e := (allC B)) hx vX6_116 dX6_swap_85 (c_X6_all hJ.1) n_120 L_120 rfl rfl rfl ⟨rfl, rfl⟩ ⟨by decide, by decide⟩ ?_
            refine k_ri hx hr dX6_swap_88 ?_
            subst hBe
            exact ⟨by unfold aSwap; rw [if_pos hp5, if_pos hb2, if_pos hfit], by unfold aSwap; rw [if_pos hp5, if_pos hb2, if_pos hfit]; exact hJ, hm⟩
          · have hz4 : 0 ≤ z ∧ z < 4 := by omega
            have hzk : z.toNat = k := by omega
            have hS : Fl M' 121 0 B := hJ.1
            have e1 : rope B z = σ.1.2.getD k [] := by show B.2.getD z.toNat [] = _; rw [hzk, hB2 k (by omega), if_neg (by omega)]
            have hfk := hfit k (by omega)
            refine k_aload_n hx dX6_swap_66 0 rfl ?_
            refine k_iload_n hx dX6_swap_67 3 rfl ?_
            refine k_iload_n hx dX6_swap_68 1 rfl ?_
            refine k_iload_n hx dX6_swap_69 2 rfl ?_
            refine k_vv (rest := []) hx vX6_113 dX6_swap_70 (c_X6_laySwapped hS hz4 hp5 hb2) n_120 L_120 rfl rfl rfl ⟨rfl, rfl⟩ ⟨by decide, by decide⟩ (fun M_70 p_70 => ?_)
            obtain ⟨q1, q2⟩ := p_70
            rw [e1] at q1
            have hJ2 := hJ.q q2.m
            refine k_aload_n hx dX6_swap_73 0 rfl ?_
            refine k_iload_n hx dX6_swap_74 3 rfl ?_
            refine k_vv (rest := []) hx vX6_106 dX6_swap_75 (c_X6_take (A := B) hJ2.1 hz4 q1 hfk) n_120 L_120 rfl rfl rfl ⟨rfl, rfl⟩ ⟨by decide, by decide⟩ (fun M_75 p_75 => ?_)
            obtain ⟨q3, q4⟩ := p_75
            refine k_iinc (ls' := [(0, vR g 120), (1, vI p), (2, vI b), (3, vI (z + 1))]) hx dX6_swap_78 3 rfl rfl rfl (by decide) ?_
            refine k_goto hx dX6_swap_81 ?_
            refine ih (k + 1) (z + 1) M_75 (setR B z (swF p b (σ.1.2.getD k []))) (by omega) (by omega) (by omega) (hJ2.set q3 q4) hB1 (fun r hr4 => ?_) (fun a ha => by rw [q4 a (by omega), q2.m.lo a ha]; exact hm a ha) hfit
            have hBl : B.2.length = 4 := hS.1.2.1
            show (B.2.set z.toNat _).getD r [] = _
            rw [getD_set (by omega)]
            by_cases hrk : r = k
            · rw [if_pos (by omega), if_pos (by omega), hrk]
            · rw [if_neg (by omega), hB2 r hr4]
              by_cases hrk2 : r < k
              · rw [if_pos hrk2, if_pos (by omega)]
              · rw [if_neg hrk2, if_neg (by omega)]
      have loop1 : ∀ (f : Nat) (k : Nat) (z : Int) (M' : Mem), z = k → k ≤ 4 → 4 - k < f → (∀ r : Nat, r < k → (swF p b (σ.1.2.getD r [])).length ≤ 120) → OW M M' → K x g 0 0 LAY NN M' 25 [(0, vR g 120), (1, vI p), (2, vI b), (3, vI z)] [] := by
        intro f
        induction f with
        | zero => intro k z M' hz hk hf hfit ho; omega
        | succ f ih =>
          intro k z M' hz hk hf hfit ho
          have hJ : InvM M' σ := hI.q ho.m
          refine k_iload_n hx dX6_swap_25 3 rfl ?_
          refine k_iconst hx dX6_swap_26 ?_
          refine k_icmp_ge hx dX6_swap_27 (by omega) (fun h_27 => ?_) (fun h_27 => ?_)
          · refine k_aload_n hx dX6_swap_55 0 rfl ?_
            refine k_vv (rest := []) hx vX6_99 dX6_swap_56 (c_X6_record hJ.1 hJ.2.1) n_120 L_120 rfl rfl rfl ⟨rfl, rfl⟩ ⟨by decide, by decide⟩ (fun M_56 p_56 => ?_)
            have hI2 := hJ.rec p_56
            refine k_iconst hx dX6_swap_59 ?_
            refine k_istore_n (ls' := [(0, vR g 120), (1, vI p), (2, vI b), (3, vI 0)]) hx dX6_swap_60 rfl rfl (by decide) ?_
            exact loop2 5 0 0 M_56 σ.1 rfl (by omega) (by omega) hI2 rfl (fun r hr4 => by rw [if_neg (by omega)]) (fun a ha => by rw [p_56.2.1 a (by omega) (by omega)]; exact ho.m.lo a ha) (fun r hr4 => hfit r (by omega))
          · have hz4 : 0 ≤ z ∧ z < 4 := by omega
            have hzk : z.toNat = k := by omega
            have hrl := (hJ.1.1.rope hz4).2
            have hsl : (swF p b (rope σ.1 z)).length ≤ 480 := by have := swF_len p b (rope σ.1 z); omega
            have e1 : rope σ.1 z = σ.1.2.getD k [] := by show σ.1.2.getD z.toNat [] = _; rw [hzk]
            refine k_aload_n hx dX6_swap_30 0 rfl ?_
            refine k_iload_n hx dX6_swap_31 3 rfl ?_
            refine k_iload_n hx dX6_swap_32 1 rfl ?_
            refine k_iload_n hx dX6_swap_33 2 rfl ?_
            refine k_vv (rest := []) hx vX6_113 dX6_swap_34 (c_X6_laySwapped hJ.1 hz4 hp5 hb2) n_120 L_120 rfl rfl rfl ⟨rfl, rfl⟩ ⟨by decide, by decide⟩ (fun M_34 p_34 => ?_)
            obtain ⟨q1, q2⟩ := p_34
            rw [e1] at q1 hsl
            refine k_aload_n hx dX6_swap_37 0 rfl ?_
            refine k_get (v := vI ((swF p b (σ.1.2.getD k [])).length)) hx fX6_54 dX6_swap_38 n_120 L_120 (congrArg vI (show M_34 120 8 = ((swF p b (σ.1.2.getD k [])).length) from q1.1)) ?_
            refine k_bipush hx dX6_swap_41 (by decide +kernel) ?_
            refine k_icmp_le hx dX6_swap_43 (by omega) (fun h_43 => ?_) (fun h_43 => ?_)
            · refine k_iinc (ls' := [(0, vR g 120), (1, vI p), (2, vI b), (3, vI (z + 1))]) hx dX6_swap_49 3 rfl rfl rfl (by decide) ?_
              refine k_goto hx dX6_swap_52 ?_
              refine ih (k + 1) (z + 1) M_34 (by omega) (by omega) (by omega) (fun r hr4 => ?_) (ho.tr q2)
              by_cases hrk : r = k
              · subst hrk; omega
              · exact hfit r (by omega)
            · refine k_bipush hx dX6_swap_46 (by decide +kernel) ?_
              refine k_ri hx hr dX6_swap_48 ?_
              have hno : ¬ ∀ r : Nat, r < 4 → (swF p b (σ.1.2.getD r [])).length ≤ 120 := fun h => by have := h k (by omega); omega
              exact ⟨by unfold aSwap; rw [if_pos hp5, if_pos hb2, if_neg hno], by unfold aSwap; rw [if_pos hp5, if_pos hb2, if_neg hno]; exact hJ.q q2.m, (ho.tr q2).m.lo⟩
      exact loop1 5 0 0 M rfl (by omega) (by omega) (fun r h => absurd h (by omega)) OW.rf
    · refine k_bipush hx dX6_swap_20 (by decide +kernel) ?_
      refine k_ri hx hr dX6_swap_22 ?_
      exact ⟨by unfold aSwap; rw [if_pos (by omega), if_neg (by omega)], by unfold aSwap; rw [if_pos (by omega), if_neg (by omega)]; exact hI, fun _ _ => rfl⟩
  · refine k_iconst hx dX6_swap_9 ?_
    refine k_ri hx hr dX6_swap_10 ?_
    exact ⟨by unfold aSwap; rw [if_neg (by omega)], by unfold aSwap; rw [if_neg (by omega)]; exact hI, fun _ _ => rfl⟩

/-! the class's own methods: swaps, felling -/
theorem Ct.imp {g : GE} {l : Launch} {μ : Mu} {mc ms : Nat} {av : List Value} {L : Lay} {n : Nat} {M : Mem} {post post' : Option Value → Lay → Nat → Mem → Prop} (h : Ct g l μ mc ms av L n M post) (hq : ∀ r L n M, post r L n M → post' r L n M) : Ct g l μ mc ms av L n M post' := by
  have h : MetFree l μ.1 (headSpec (mW μ) (mRm μ mc ms)) (Pz g av L n M) (fun _ _ _ _ _ => True) (fun a st o t => Qz g post a st o t ∧ ∃ Lc, FrameEnd st o t Lc mc ms ∧ ∀ q ∈ Lc, g.1 ≤ q.base) := h
  show MetFree l μ.1 (headSpec (mW μ) (mRm μ mc ms)) (Pz g av L n M) (fun _ _ _ _ _ => True) (fun a st o t => Qz g post' a st o t ∧ ∃ Lc, FrameEnd st o t Lc mc ms ∧ ∀ q ∈ Lc, g.1 ≤ q.base)
  intro p e ha hc hk s m args below hf happ hP hK
  obtain ⟨n, o, h1, h2, h3, ⟨⟨⟨r, L, n', M, g1, g2, g3⟩, h4⟩, h5⟩⟩ := h p e ha hc hk s m args below hf happ hP hK
  exact ⟨n, o, h1, h2, h3, ⟨⟨⟨r, L, n', M, g1, hq _ _ _ _ g2, g3⟩, h4⟩, h5⟩⟩
theorem Ci.imp {g : GE} {l : Launch} {μ : Mu} {av : List Value} {M : Mem} {post post' : Int → Mem → Prop} (h : Ci g l μ av M post) (hq : ∀ z M', post z M' → post' z M') : Ci g l μ av M post' := by
  refine Ct.imp h (fun r L n M h => ?_)
  obtain ⟨z, h1, h2, h3, h4⟩ := h
  exact ⟨z, h1, h2, h3, hq _ _ h4⟩
theorem c_X5_swap {g : GE} {l : Launch} {M : Mem} {σ : Sg} (hI : Inv M σ) {p b : Int} (hpr : -2147483648 ≤ p ∧ p < 2147483648) (hbr : -2147483648 ≤ b ∧ b < 2147483648) : Ci g l μX5_swap [vR g 0, vI p, vI b] M (PO M (aSwap σ p b)) := by
  refine Ci.of (by decide +kernel) rfl rfl (fun x hx hr => ?_)
  refine k_iload_n hx dX5_swap_0 1 rfl ?_
  refine k_sp (rest := []) (e := (b2i (decide (0 ≤ p ∧ p < 5)))) hx sX5_109 dX5_swap_1 (c_X5_isSwap (z := p) (by omega)) rfl rfl rfl ⟨rfl, rfl⟩ ⟨by decide, by decide⟩ ?_
  refine k_bne hx dX5_swap_4 (fun h_4 => ?_) (fun h_4 => ?_)
  · refine k_iload_n hx dX5_swap_9 2 rfl ?_
    refine k_sp (rest := []) (e := (b2i (decide (0 ≤ b ∧ b < 2)))) hx sX5_112 dX5_swap_10 (c_X5_isBack (z := b) (by omega)) rfl rfl rfl ⟨rfl, rfl⟩ ⟨by decide, by decide⟩ ?_
    refine k_bne hx dX5_swap_13 (fun h_13 => ?_) (fun h_13 => ?_)
    · refine k_iconst hx dX5_swap_19 ?_
      refine k_istore_n (ls' := [(0, vR g 0), (1, vI p), (2, vI b), (3, vI 0)]) hx dX5_swap_20 rfl rfl (by decide) ?_
      have loop2 : ∀ (f : Nat) (k : Nat) (z : Int) (M' : Mem) (B : Ab), z = k → k ≤ 4 → 4 - k < f → Inv M' (B, rcd σ) → B.1 = σ.1.1 → (∀ r : Nat, r < 4 → B.2.getD r [] = if r < k then swF p b (σ.1.2.getD r []) else σ.1.2.getD r []) → (∀ a, 120 ≤ a → M' a = M a) → (∀ r : Nat, r < 4 → (swF p b (σ.1.2.getD r [])).length ≤ 120) → K x g 0 0 LAY (NN g) M' 75 [(0, vR g 0), (1, vI p), (2, vI b), (3, vI z)] [] := by
        intro f
        induction f with
        | zero => intro k z M' B hz hk hf hJ hB1 hB2 hm hfit; omega
        | succ f ih =>
          intro k z M' B hz hk hf hJ hB1 hB2 hm hfit
          refine k_iload_n hx dX5_swap_75 3 rfl ?_
          refine k_iconst hx dX5_swap_76 ?_
          refine k_icmp_ge hx dX5_swap_77 (by omega) (fun h_77 => ?_) (fun h_77 => ?_)
          · refine k_aload_n hx dX5_swap_117 0 rfl ?_
            refine k_get (v := vR g 1) hx fX5_12 dX5_swap_118 n_0 L_0 rfl ?_
            have hBe : B = (σ.1.1, σ.1.2.map (swF p b)) := by
              have h0 : B.2.length = 4 := hJ.1.1.2.1
              have h1 : σ.1.2.length = 4 := hI.1.1.2.1
              refine Prod.ext hB1 (ext4 h0 (by rw [List.length_map]; exact h1) (fun r hr4 => ?_))
              rw [hB2 r hr4, if_pos (by omega), map_getD4 (by omega)]
            refine k_vp (rest := []) (e := (allC B)) hx vX5_119 dX5_swap_121 (c_X3_allCrossings isS_1 hJ.1) n_1 L_1 rfl rfl rfl ⟨rfl, rfl⟩ ⟨by decide, by decide⟩ ?_
            refine k_ri hx hr dX5_swap_124 ?_
            subst hBe
            exact ⟨by unfold aSwap; rw [if_pos h_4, if_pos h_13, if_pos hfit], by unfold aSwap; rw [if_pos h_4, if_pos h_13, if_pos hfit]; exact hJ, hm⟩
          · have hz4 : 0 ≤ z ∧ z < 4 := by omega
            have hzk : z.toNat = k := by omega
            obtain ⟨hv, hvl⟩ := hJ.1.rope hz4
            refine k_aload_n hx dX5_swap_80 0 rfl ?_
            refine k_aload_n hx dX5_swap_81 0 rfl ?_
            refine k_get (v := vR g 1) hx fX5_12 dX5_swap_82 n_0 L_0 rfl ?_
            refine k_get (v := vR g 3) hx fX5_75 dX5_swap_85 n_1 L_1 rfl ?_
            refine k_iload_n hx dX5_swap_88 3 rfl ?_
            refine k_aald (q := (4 + 2 * z.toNat)) hx dX5_swap_89 n_3 L_3 (by decide) (by simp only [List.length_cons, List.length_nil]; omega) (by decide) (rope_at hz4) ?_
            refine k_iload_n hx dX5_swap_90 1 rfl ?_
            refine k_iload_n hx dX5_swap_91 2 rfl ?_
            refine k_vv (rest := []) hx vX5_115 dX5_swap_92 (c_X5_laySwapped (isS1w (g := g) hz4) hv hvl (by omega) hvl h_4 h_13) n_0 L_0 rfl rfl rfl ⟨rfl, rfl⟩ ⟨by decide, by decide⟩ (fun M_92 p_92 => ?_)
            obtain ⟨q1, q2⟩ := p_92
            have e1 : rope B z = σ.1.2.getD k [] := by show B.2.getD z.toNat [] = _; rw [hzk, hB2 k (by omega), if_neg (by omega)]
            have hfk := hfit k (by omega)
            rw [e1] at q1
            refine k_aload_n hx dX5_swap_95 0 rfl ?_
            refine k_get (v := vR g 1) hx fX5_12 dX5_swap_96 n_0 L_0 rfl ?_
            refine k_get (v := vR g 3) hx fX5_75 dX5_swap_99 n_1 L_1 rfl ?_
            refine k_iload_n hx dX5_swap_102 3 rfl ?_
            refine k_aald (q := (4 + 2 * z.toNat)) hx dX5_swap_103 n_3 L_3 (by decide) (by simp only [List.length_cons, List.length_nil]; omega) (by decide) (rope_at hz4) ?_
            refine k_aload_n hx dX5_swap_104 0 rfl ?_
            refine k_get (v := vR g 114) hx fX5_50 dX5_swap_105 n_0 L_0 rfl ?_
            refine k_vv (rest := []) hx vX5_106 dX5_swap_108 (c_X4_copyFrom (isS1w (g := g) hz4) isW_114 q1 (by omega) (by omega) (by omega)) (isS1w (g := g) hz4).2.2.1 (isS1w (g := g) hz4).1 rfl rfl rfl ⟨rfl, rfl⟩ ⟨by decide, by decide⟩ (fun M_108 p_108 => ?_)
            obtain ⟨q3, q4⟩ := p_108
            refine k_iinc (ls' := [(0, vR g 0), (1, vI p), (2, vI b), (3, vI (z + 1))]) hx dX5_swap_111 3 rfl rfl rfl (by decide) ?_
            refine k_goto hx dX5_swap_114 ?_
            have hJ2 : Inv M_92 (B, rcd σ) := hJ.same (fun a ha => q2 a (by omega) (by omega))
            refine ih (k + 1) (z + 1) M_108 (setR B z (swF p b (σ.1.2.getD k []))) (by omega) (by omega) (by omega) (hJ2.set (hJ2.1.setR hz4 q3 q4 hfk) (fun a h1 h2 => q4 a (by omega) (by omega))) hB1 (fun r hr4 => ?_) (fun a ha => by rw [q4 a (by omega) (by omega), q2 a (by omega) (by omega)]; exact hm a ha) hfit
            have hBl : B.2.length = 4 := hJ.1.1.2.1
            show (B.2.set z.toNat _).getD r [] = _
            rw [getD_set (by omega)]
            by_cases hrk : r = k
            · rw [if_pos (by omega), if_pos (by omega), hrk]
            · rw [if_neg (by omega), hB2 r hr4]
              by_cases hrk2 : r < k
              · rw [if_pos hrk2, if_pos (by omega)]
              · rw [if_neg hrk2, if_neg (by omega)]
      have loop1 : ∀ (f : Nat) (k : Nat) (z : Int) (M' : Mem), z = k → k ≤ 4 → 4 - k < f → (∀ r : Nat, r < k → (swF p b (σ.1.2.getD r [])).length ≤ 120) → Off 114 M M' → K x g 0 0 LAY (NN g) M' 21 [(0, vR g 0), (1, vI p), (2, vI b), (3, vI z)] [] := by
        intro f
        induction f with
        | zero => intro k z M' hz hk hf hfit ho; omega
        | succ f ih =>
          intro k z M' hz hk hf hfit ho
          refine k_iload_n hx dX5_swap_21 3 rfl ?_
          refine k_iconst hx dX5_swap_22 ?_
          refine k_icmp_ge hx dX5_swap_23 (by omega) (fun h_23 => ?_) (fun h_23 => ?_)
          · have hJ : Inv M' σ := hI.same (fun a ha => ho a (by omega) (by omega))
            refine k_aload_n hx dX5_swap_62 0 rfl ?_
            refine k_get (v := vR g 12) hx fX5_19 dX5_swap_63 n_0 L_0 rfl ?_
            refine k_aload_n hx dX5_swap_66 0 rfl ?_
            refine k_get (v := vR g 1) hx fX5_12 dX5_swap_67 n_0 L_0 rfl ?_
            refine k_vv (rest := []) hx vX5_64 dX5_swap_70 (c_X1_remember hJ.2.1 hJ.1) n_12 L_12 rfl rfl rfl ⟨rfl, rfl⟩ ⟨by decide, by decide⟩ (fun M_70 p_70 => ?_)
            have hI2 := hJ.rec p_70
            refine k_iconst hx dX5_swap_73 ?_
            refine k_istore_n (ls' := [(0, vR g 0), (1, vI p), (2, vI b), (3, vI 0)]) hx dX5_swap_74 rfl rfl (by decide) ?_
            exact loop2 5 0 0 M_70 σ.1 rfl (by omega) (by omega) hI2 rfl (fun r hr4 => by rw [if_neg (by omega)]) (fun a ha => by rw [p_70.2 a (by omega)]; exact ho a (by omega) (by omega)) (fun r hr4 => hfit r (by omega))
          · have hz4 : 0 ≤ z ∧ z < 4 := by omega
            have hzk : z.toNat = k := by omega
            have hJ : Inv M' σ := hI.same (fun a ha => ho a (by omega) (by omega))
            obtain ⟨hv, hvl⟩ := hJ.1.rope hz4
            refine k_aload_n hx dX5_swap_26 0 rfl ?_
            refine k_aload_n hx dX5_swap_27 0 rfl ?_
            refine k_get (v := vR g 1) hx fX5_12 dX5_swap_28 n_0 L_0 rfl ?_
            refine k_get (v := vR g 3) hx fX5_75 dX5_swap_31 n_1 L_1 rfl ?_
            refine k_iload_n hx dX5_swap_34 3 rfl ?_
            refine k_aald (q := (4 + 2 * z.toNat)) hx dX5_swap_35 n_3 L_3 (by decide) (by simp only [List.length_cons, List.length_nil]; omega) (by decide) (rope_at hz4) ?_
            refine k_iload_n hx dX5_swap_36 1 rfl ?_
            refine k_iload_n hx dX5_swap_37 2 rfl ?_
            refine k_vv (rest := []) hx vX5_115 dX5_swap_38 (c_X5_laySwapped (isS1w (g := g) hz4) hv hvl (by omega) hvl h_4 h_13) n_0 L_0 rfl rfl rfl ⟨rfl, rfl⟩ ⟨by decide, by decide⟩ (fun M_38 p_38 => ?_)
            obtain ⟨q1, q2⟩ := p_38
            have e1 : rope σ.1 z = σ.1.2.getD k [] := by show σ.1.2.getD z.toNat [] = _; rw [hzk]
            rw [e1] at q1
            have hsl : (swF p b (σ.1.2.getD k [])).length ≤ 480 := by rw [← e1]; have := swF_len p b (rope σ.1 z); omega
            refine k_aload_n hx dX5_swap_41 0 rfl ?_
            refine k_get (v := vR g 114) hx fX5_50 dX5_swap_42 n_0 L_0 rfl ?_
            refine k_get (v := vI ((swF p b (σ.1.2.getD k [])).length)) hx fX5_79 dX5_swap_45 n_114 L_114 (congrArg vI (show M_38 114 1 = ((swF p b (σ.1.2.getD k [])).length) from q1.1)) ?_
            refine k_bipush hx dX5_swap_48 (by decide +kernel) ?_
            refine k_icmp_le hx dX5_swap_50 (by omega) (fun h_50 => ?_) (fun h_50 => ?_)
            · refine k_iinc (ls' := [(0, vR g 0), (1, vI p), (2, vI b), (3, vI (z + 1))]) hx dX5_swap_56 3 rfl rfl rfl (by decide) ?_
              refine k_goto hx dX5_swap_59 ?_
              refine ih (k + 1) (z + 1) M_38 (by omega) (by omega) (by omega) (fun r hr4 => ?_) (ho.tr q2)
              by_cases hrk : r = k
              · subst hrk; omega
              · exact hfit r (by omega)
            · refine k_bipush hx dX5_swap_53 (by decide +kernel) ?_
              refine k_ri hx hr dX5_swap_55 ?_
              have hno : ¬ ∀ r : Nat, r < 4 → (swF p b (σ.1.2.getD r [])).length ≤ 120 := fun h => by have := h k (by omega); omega
              exact ⟨by unfold aSwap; rw [if_pos h_4, if_pos h_13, if_neg hno], by unfold aSwap; rw [if_pos h_4, if_pos h_13, if_neg hno]; exact hJ.same (fun a ha => q2 a (by omega) (by omega)), fun a ha => (ho.tr q2) a (by omega) (by omega)⟩
      exact loop1 5 0 0 M rfl (by omega) (by omega) (fun r h => absurd h (by omega)) Off.rf
    · refine k_bipush hx dX5_swap_16 (by decide +kernel) ?_
      refine k_ri hx hr dX5_swap_18 ?_
      exact ⟨by unfold aSwap; rw [if_pos h_4, if_neg h_13], by unfold aSwap; rw [if_pos h_4, if_neg h_13]; exact hI, fun _ _ => rfl⟩
  · refine k_iconst hx dX5_swap_7 ?_
    refine k_ri hx hr dX5_swap_8 ?_
    exact ⟨by unfold aSwap; rw [if_neg h_4], by unfold aSwap; rw [if_neg h_4]; exact hI, fun _ _ => rfl⟩
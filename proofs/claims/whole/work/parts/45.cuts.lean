/-! the reference: swaps that are tried, crossings to be cut -/
def csm (A : Ab) (p b : Int) : Nat → Int
  | 0 => 0
  | k + 1 => csm A p b k + (swF p b (A.2.getD k [])).length
theorem csm4 (A : Ab) (p b : Int) : csm A p b 4 = csw A p b := by
  show 0 + ((swF p b (A.2.getD 0 [])).length : Int) + (swF p b (A.2.getD 1 [])).length + (swF p b (A.2.getD 2 [])).length + (swF p b (A.2.getD 3 [])).length = csw A p b
  unfold csw; omega
theorem csm_rg {A : Ab} (hA : OkA A) (p b : Int) : ∀ k, k ≤ 4 → 0 ≤ csm A p b k ∧ csm A p b k ≤ 360 * k
  | 0, _ => by rw [csm]; omega
  | k + 1, h => by
    have h1 := csm_rg hA p b k (by omega)
    have h2 := swF_len p b (A.2.getD k [])
    have h3 := (hA.2.2.2 k (by omega)).2
    rw [csm]; omega
theorem op_eq {a b : Int} (ha : 0 ≤ a ∧ a < 12) (hb : 0 ≤ b ∧ b < 12) : a = op b ↔ b = op a := by unfold op; split <;> split <;> omega

theorem c_X6_swapped {g : GE} {l : Launch} {M : Mem} {A : Ab} (hA : Fl M 121 0 A) {p b : Int} (hp : 0 ≤ p ∧ p < 5) (hb : 0 ≤ b ∧ b < 2) : Ci g l μX6_swapped [vR g 120, vI p, vI b] M (fun z M' => z = csw A p b ∧ OW M M') := by
  refine Ci.of (by decide +kernel) rfl rfl (fun x hx hr => ?_)
  have loop : ∀ (f : Nat), ∀ (k : Nat) (z y : Int) (M' : Mem), z = k → k ≤ 4 → 4 - k < f → y = csm A p b k → OW M M' → K x g 0 0 LAY NN M' 5 [(0, vR g 120), (1, vI p), (2, vI b), (3, vI y), (4, vI z)] [] := by
    intro f
    induction f with
    | zero => intro k z y M' hz hk hf hy ho; omega
    | succ f ih =>
      intro k z y M' hz hk hf hy ho
      have hA' := hA.w ho
      have hcr := csm_rg hA.1 p b k hk
      refine k_iload hx dX6_swapped_5 4 rfl ?_
      refine k_iconst hx dX6_swapped_7 ?_
      refine k_icmp_ge hx dX6_swapped_8 (by omega) (fun h_8 => ?_) (fun h_8 => ?_)
      · refine k_iload_n hx dX6_swapped_32 3 rfl ?_
        refine k_ri hx hr dX6_swapped_33 ?_
        exact ⟨by rw [hy, show k = 4 by omega, csm4], ho⟩
      · have hz4 : 0 ≤ z ∧ z < 4 := by omega
        have e1 : rope A z = A.2.getD k [] := by show A.2.getD z.toNat [] = _; rw [show z.toNat = k by omega]
        refine k_aload_n hx dX6_swapped_11 0 rfl ?_
        refine k_iload hx dX6_swapped_12 4 rfl ?_
        refine k_iload_n hx dX6_swapped_14 1 rfl ?_
        refine k_iload_n hx dX6_swapped_15 2 rfl ?_
        refine k_vv (rest := []) hx vX6_113 dX6_swapped_16 (c_X6_laySwapped hA' hz4 hp hb) n_120 L_120 rfl rfl rfl ⟨rfl, rfl⟩ ⟨by decide, by decide⟩ (fun M_16 p_16 => ?_)
        obtain ⟨q1, q2⟩ := p_16
        rw [e1] at q1
        refine k_iload_n hx dX6_swapped_19 3 rfl ?_
        refine k_aload_n hx dX6_swapped_20 0 rfl ?_
        refine k_get (v := vI ((swF p b (A.2.getD k [])).length)) hx fX6_54 dX6_swapped_21 n_120 L_120 (congrArg vI (show M_16 120 8 = ((swF p b (A.2.getD k [])).length) from q1.1)) ?_
        refine k_iadd hx dX6_swapped_24 ?_
        refine k_istore_n (ls' := [(0, vR g 120), (1, vI p), (2, vI b), (3, vI (y + ((swF p b (A.2.getD k [])).length))), (4, vI z)]) hx dX6_swapped_25 rfl rfl (by decide) ?_
        refine k_iinc (ls' := [(0, vR g 120), (1, vI p), (2, vI b), (3, vI (y + ((swF p b (A.2.getD k [])).length))), (4, vI (z + 1))]) hx dX6_swapped_26 4 rfl rfl rfl (by decide) ?_
        refine k_goto hx dX6_swapped_29 ?_
        exact ih (k + 1) (z + 1) _ M_16 (by omega) (by omega) (by omega) (by rw [hy]; rfl) (ho.tr q2)
  refine k_iconst hx dX6_swapped_0 ?_
  refine k_istore_n (ls' := [(0, vR g 120), (1, vI p), (2, vI b), (3, vI 0)]) hx dX6_swapped_1 rfl rfl (by decide) ?_
  refine k_iconst hx dX6_swapped_2 ?_
  refine k_istore (ls' := [(0, vR g 120), (1, vI p), (2, vI b), (3, vI 0), (4, vI 0)]) hx dX6_swapped_3 rfl rfl (by decide) ?_
  exact loop 5 0 0 0 M rfl (by omega) (by omega) rfl OW.rf
theorem c_X6_ifSwapped {g : GE} {l : Launch} {M : Mem} {σ : Sg} (hI : InvM M σ) {p b : Int} (hpr : -2147483648 ≤ p ∧ p < 2147483648) (hbr : -2147483648 ≤ b ∧ b < 2147483648) : Ci g l μX6_ifSwapped [vR g 120, vI p, vI b] M (PM M (aQ σ (if 0 ≤ p ∧ p < 5 then (if 0 ≤ b ∧ b < 2 then csw σ.1 p b else -2) else -1))) := by
  refine Ci.of (by decide +kernel) rfl rfl (fun x hx hr => ?_)
  refine k_iload_n hx dX6_ifSwapped_0 1 rfl ?_
  refine k_iconst hx dX6_ifSwapped_1 ?_
  refine k_iconst hx dX6_ifSwapped_2 ?_
  refine k_sp (rest := []) (e := (b2i (decide (0 ≤ p ∧ p ≤ 4)))) hx sX6_61 dX6_ifSwapped_3 (c_X6_in (v := p) (a := 0) (b := 4) (by omega)) rfl rfl rfl ⟨rfl, rfl⟩ ⟨by decide, by decide⟩ ?_
  refine k_bne hx dX6_ifSwapped_6 (fun h_6 => ?_) (fun h_6 => ?_)
  · refine k_iload_n hx dX6_ifSwapped_11 2 rfl ?_
    refine k_iconst hx dX6_ifSwapped_12 ?_
    refine k_iconst hx dX6_ifSwapped_13 ?_
    refine k_sp (rest := []) (e := (b2i (decide (0 ≤ b ∧ b ≤ 1)))) hx sX6_61 dX6_ifSwapped_14 (c_X6_in (v := b) (a := 0) (b := 1) (by omega)) rfl rfl rfl ⟨rfl, rfl⟩ ⟨by decide, by decide⟩ ?_
    refine k_beq hx dX6_ifSwapped_17 (fun h_17 => ?_) (fun h_17 => ?_)
    · refine k_bipush hx dX6_ifSwapped_29 (by decide +kernel) ?_
      refine k_ri hx hr dX6_ifSwapped_31 ?_
      exact ⟨by unfold aQ; rw [if_pos (by omega), if_neg (by omega)], hI, fun _ _ => rfl⟩
    · refine k_aload_n hx dX6_ifSwapped_20 0 rfl ?_
      refine k_iload_n hx dX6_ifSwapped_21 1 rfl ?_
      refine k_iload_n hx dX6_ifSwapped_22 2 rfl ?_
      refine k_vi (rest := []) hx vX6_187 dX6_ifSwapped_23 (c_X6_swapped hI.1 (p := p) (b := b) (by omega) (by omega)) n_120 L_120 rfl rfl rfl ⟨rfl, rfl⟩ ⟨by decide, by decide⟩ (fun z_23 M_23 p_23 => ?_)
      obtain ⟨rfl, q2⟩ := p_23
      refine k_goto hx dX6_ifSwapped_26 ?_
      refine k_ri hx hr dX6_ifSwapped_31 ?_
      exact ⟨by unfold aQ; rw [if_pos (by omega), if_pos (by omega)], hI.q q2.m, q2.m.lo⟩
  · refine k_iconst hx dX6_ifSwapped_9 ?_
    refine k_ri hx hr dX6_ifSwapped_10 ?_
    exact ⟨by unfold aQ; rw [if_neg (by omega)], hI, fun _ _ => rfl⟩
theorem c_X6_bestSwap {g : GE} {l : Launch} {M : Mem} {σ : Sg} (hI : InvM M σ) {w : Int} (hwr : -2147483648 ≤ w ∧ w < 2147483648) : Ci g l μX6_bestSwap [vR g 120, vI w] M (PM M (aQ σ (qBest σ.1 w))) := by
  refine Ci.of (by decide +kernel) rfl rfl (fun x hx hr => ?_)
  have loop : ∀ (f : Nat), ∀ (k : Nat) (z y2 y3 : Int) (M' : Mem), z = k → 1 ≤ k → k ≤ 10 → 10 - k < f → 0 ≤ y2 ∧ y2 < 10 → bsG σ.1 k = (y2 / 2, y2 % 2, y3) → (0 ≤ w ∧ w ≤ 2) → OW M M' → K x g 0 0 LAY NN M' 24 [(0, vR g 120), (1, vI w), (2, vI y2), (3, vI y3), (4, vI z)] [] := by
    intro f
    induction f with
    | zero => intro k z y2 y3 M' hz h1 hk hf hy2 hy hw2 ho; omega
    | succ f ih =>
      intro k z y2 y3 M' hz h1 hk hf hy2 hy hw2 ho
      subst hz
      have hOk := hI.1.1
      have hbr := bsG_rg hOk k
      rw [hy] at hbr
      simp only at hbr
      have hJ : InvM M' σ := hI.q ho.m
      refine k_iload hx dX6_bestSwap_24 4 rfl ?_
      refine k_bipush hx dX6_bestSwap_26 (by decide +kernel) ?_
      refine k_icmp_ge hx dX6_bestSwap_28 (by omega) (fun h_28 => ?_) (fun h_28 => ?_)
      · have h10 : bsG σ.1 10 = (y2 / 2, y2 % 2, y3) := by rw [← hy, show k = 10 by omega]
        refine k_iload_n hx dX6_bestSwap_77 1 rfl ?_
        refine k_ifne hx dX6_bestSwap_78 (by omega) (fun h_78 => ?_) (fun h_78 => ?_)
        · refine k_iload_n hx dX6_bestSwap_87 1 rfl ?_
          refine k_iconst hx dX6_bestSwap_88 ?_
          refine k_icmp_ne hx dX6_bestSwap_89 (by omega) (fun h_89 => ?_) (fun h_89 => ?_)
          · refine k_iload_n hx dX6_bestSwap_98 3 rfl ?_
            refine k_ri hx hr dX6_bestSwap_99 ?_
            exact ⟨by unfold aQ qBest; rw [if_pos hw2, if_neg (by omega), if_neg (by omega), h10], hJ, ho.m.lo⟩
          · refine k_iload_n hx dX6_bestSwap_92 2 rfl ?_
            refine k_iconst hx dX6_bestSwap_93 ?_
            refine k_irem hx dX6_bestSwap_94 (by omega) ?_
            refine k_goto hx dX6_bestSwap_95 ?_
            refine k_ri hx hr dX6_bestSwap_99 ?_
            exact ⟨by unfold aQ qBest; rw [if_pos hw2, if_neg (by omega), if_pos (by omega), h10], hJ, ho.m.lo⟩
        · refine k_iload_n hx dX6_bestSwap_81 2 rfl ?_
          refine k_iconst hx dX6_bestSwap_82 ?_
          refine k_idiv hx dX6_bestSwap_83 (by omega) ?_
          refine k_goto hx dX6_bestSwap_84 ?_
          refine k_ri hx hr dX6_bestSwap_99 ?_
          exact ⟨by unfold aQ qBest; rw [if_pos hw2, if_pos (by omega), h10], hJ, ho.m.lo⟩
      · have hcs := csw_rg hOk ((k : Int) / 2) ((k : Int) % 2)
        have hstep := bsG.eq_2 σ.1 k
        rw [hy] at hstep
        have e2 : ((k / 2 : Nat) : Int) = (k : Int) / 2 := by omega
        have e3 : ((k % 2 : Nat) : Int) = (k : Int) % 2 := by omega
        rw [e2, e3] at hstep
        refine k_aload_n hx dX6_bestSwap_31 0 rfl ?_
        refine k_iload hx dX6_bestSwap_32 4 rfl ?_
        refine k_iconst hx dX6_bestSwap_34 ?_
        refine k_idiv hx dX6_bestSwap_35 (by omega) ?_
        refine k_iload hx dX6_bestSwap_36 4 rfl ?_
        refine k_iconst hx dX6_bestSwap_38 ?_
        refine k_irem hx dX6_bestSwap_39 (by omega) ?_
        refine k_vi (rest := []) hx vX6_187 dX6_bestSwap_40 (c_X6_swapped hJ.1 (p := (k : Int) / 2) (b := (k : Int) % 2) (by omega) (by omega)) n_120 L_120 rfl rfl rfl ⟨rfl, rfl⟩ ⟨by decide, by decide⟩ (fun z_40 M_40 p_40 => ?_)
        obtain ⟨rfl, q2⟩ := p_40
        refine k_istore (ls' := [(0, vR g 120), (1, vI w), (2, vI y2), (3, vI y3), (4, vI k), (5, vI (csw σ.1 ((k : Int) / 2) ((k : Int) % 2)))]) hx dX6_bestSwap_43 rfl rfl (by decide) ?_
        refine k_iload hx dX6_bestSwap_45 5 rfl ?_
        refine k_iload_n hx dX6_bestSwap_47 3 rfl ?_
        refine k_icmp_ge hx dX6_bestSwap_48 (by omega) (fun h_48 => ?_) (fun h_48 => ?_)
        · refine k_iload_n hx dX6_bestSwap_56 2 rfl ?_
          refine k_istore_n (ls' := [(0, vR g 120), (1, vI w), (2, vI y2), (3, vI y3), (4, vI k), (5, vI (csw σ.1 ((k : Int) / 2) ((k : Int) % 2)))]) hx dX6_bestSwap_57 rfl rfl (by decide) ?_
          refine k_iload hx dX6_bestSwap_58 5 rfl ?_
          refine k_iload_n hx dX6_bestSwap_60 3 rfl ?_
          refine k_icmp_ge hx dX6_bestSwap_61 (by omega) (fun h_61 => ?_) (fun h_61 => ?_)
          · refine k_iload_n hx dX6_bestSwap_69 3 rfl ?_
            refine k_istore_n (ls' := [(0, vR g 120), (1, vI w), (2, vI y2), (3, vI y3), (4, vI k), (5, vI (csw σ.1 ((k : Int) / 2) ((k : Int) % 2)))]) hx dX6_bestSwap_70 rfl rfl (by decide) ?_
            refine k_iinc (ls' := [(0, vR g 120), (1, vI w), (2, vI y2), (3, vI y3), (4, vI (k + 1)), (5, vI (csw σ.1 ((k : Int) / 2) ((k : Int) % 2)))]) hx dX6_bestSwap_71 4 rfl rfl rfl (by decide) ?_
            refine k_goto hx dX6_bestSwap_74 ?_
            refine K.sub [0, 1, 2, 3, 4] rfl ?_
            rw [if_neg (by show ¬ csw σ.1 ((k : Int) / 2) ((k : Int) % 2) < y3; omega)] at hstep
            exact ih (k + 1) _ _ _ M_40 (by omega) (by omega) (by omega) (by omega) hy2 hstep hw2 (ho.tr q2)
          · refine k_iload hx dX6_bestSwap_64 5 rfl ?_
            refine k_goto hx dX6_bestSwap_66 ?_
            refine k_istore_n (ls' := [(0, vR g 120), (1, vI w), (2, vI y2), (3, vI (csw σ.1 ((k : Int) / 2) ((k : Int) % 2))), (4, vI k), (5, vI (csw σ.1 ((k : Int) / 2) ((k : Int) % 2)))]) hx dX6_bestSwap_70 rfl rfl (by decide) ?_
            refine k_iinc (ls' := [(0, vR g 120), (1, vI w), (2, vI y2), (3, vI (csw σ.1 ((k : Int) / 2) ((k : Int) % 2))), (4, vI (k + 1)), (5, vI (csw σ.1 ((k : Int) / 2) ((k : Int) % 2)))]) hx dX6_bestSwap_71 4 rfl rfl rfl (by decide) ?_
            refine k_goto hx dX6_bestSwap_74 ?_
            refine K.sub [0, 1, 2, 3, 4] rfl ?_
            exfalso; omega
        · refine k_iload hx dX6_bestSwap_51 4 rfl ?_
          refine k_goto hx dX6_bestSwap_53 ?_
          refine k_istore_n (ls' := [(0, vR g 120), (1, vI w), (2, vI k), (3, vI y3), (4, vI k), (5, vI (csw σ.1 ((k : Int) / 2) ((k : Int) % 2)))]) hx dX6_bestSwap_57 rfl rfl (by decide) ?_
          refine k_iload hx dX6_bestSwap_58 5 rfl ?_
          refine k_iload_n hx dX6_bestSwap_60 3 rfl ?_
          refine k_icmp_ge hx dX6_bestSwap_61 (by omega) (fun h_61 => ?_) (fun h_61 => ?_)
          · refine k_iload_n hx dX6_bestSwap_69 3 rfl ?_
            refine k_istore_n (ls' := [(0, vR g 120), (1, vI w), (2, vI k), (3, vI y3), (4, vI k), (5, vI (csw σ.1 ((k : Int) / 2) ((k : Int) % 2)))]) hx dX6_bestSwap_70 rfl rfl (by decide) ?_
            refine k_iinc (ls' := [(0, vR g 120), (1, vI w), (2, vI k), (3, vI y3), (4, vI (k + 1)), (5, vI (csw σ.1 ((k : Int) / 2) ((k : Int) % 2)))]) hx dX6_bestSwap_71 4 rfl rfl rfl (by decide) ?_
            refine k_goto hx dX6_bestSwap_74 ?_
            refine K.sub [0, 1, 2, 3, 4] rfl ?_
            exfalso; omega
          · refine k_iload hx dX6_bestSwap_64 5 rfl ?_
            refine k_goto hx dX6_bestSwap_66 ?_
            refine k_istore_n (ls' := [(0, vR g 120), (1, vI w), (2, vI k), (3, vI (csw σ.1 ((k : Int) / 2) ((k : Int) % 2))), (4, vI k), (5, vI (csw σ.1 ((k : Int) / 2) ((k : Int) % 2)))]) hx dX6_bestSwap_70 rfl rfl (by decide) ?_
            refine k_iinc (ls' := [(0, vR g 120), (1, vI w), (2, vI k), (3, vI (csw σ.1 ((k : Int) / 2) ((k : Int) % 2))), (4, vI (k + 1)), (5, vI (csw σ.1 ((k : Int) / 2) ((k : Int) % 2)))]) hx dX6_bestSwap_71 4 rfl rfl rfl (by decide) ?_
            refine k_goto hx dX6_bestSwap_74 ?_
            refine K.sub [0, 1, 2, 3, 4] rfl ?_
            rw [if_pos (by show csw σ.1 ((k : Int) / 2) ((k : Int) % 2) < y3; omega)] at hstep
            exact ih (k + 1) _ _ _ M_40 (by omega) (by omega) (by omega) (by omega) (by omega) hstep hw2 (ho.tr q2)
  refine k_iload_n hx dX6_bestSwap_0 1 rfl ?_
  refine k_iconst hx dX6_bestSwap_1 ?_
  refine k_iconst hx dX6_bestSwap_2 ?_
  refine k_sp (rest := []) (e := (b2i (decide (0 ≤ w ∧ w ≤ 2)))) hx sX6_61 dX6_bestSwap_3 (c_X6_in (v := w) (a := 0) (b := 2) (by omega)) rfl rfl rfl ⟨rfl, rfl⟩ ⟨by decide, by decide⟩ ?_
  refine k_bne hx dX6_bestSwap_6 (fun h_6 => ?_) (fun h_6 => ?_)
  · refine k_iconst hx dX6_bestSwap_12 ?_
    refine k_istore_n (ls' := [(0, vR g 120), (1, vI w), (2, vI 0)]) hx dX6_bestSwap_13 rfl rfl (by decide) ?_
    refine k_aload_n hx dX6_bestSwap_14 0 rfl ?_
    refine k_iconst hx dX6_bestSwap_15 ?_
    refine k_iconst hx dX6_bestSwap_16 ?_
    refine k_vi (rest := []) hx vX6_187 dX6_bestSwap_17 (c_X6_swapped hI.1 (p := 0) (b := 0) (by omega) (by omega)) n_120 L_120 rfl rfl rfl ⟨rfl, rfl⟩ ⟨by decide, by decide⟩ (fun z_17 M_17 p_17 => ?_)
    obtain ⟨rfl, q2⟩ := p_17
    refine k_istore_n (ls' := [(0, vR g 120), (1, vI w), (2, vI 0), (3, vI (csw σ.1 0 0))]) hx dX6_bestSwap_20 rfl rfl (by decide) ?_
    refine k_iconst hx dX6_bestSwap_21 ?_
    refine k_istore (ls' := [(0, vR g 120), (1, vI w), (2, vI 0), (3, vI (csw σ.1 0 0)), (4, vI 1)]) hx dX6_bestSwap_22 rfl rfl (by decide) ?_
    exact loop 11 1 1 0 _ M_17 rfl (by omega) (by omega) (by omega) (by omega) (by
        have h := bsG.eq_2 σ.1 0
        have h0 : bsG σ.1 0 = (0, 0, csw σ.1 0 0) := rfl
        rw [h0, if_neg (by show ¬ csw σ.1 ((0 / 2 : Nat) : Int) ((0 % 2 : Nat) : Int) < csw σ.1 0 0; exact Int.lt_irrefl _)] at h
        exact h) (by omega) q2
  · refine k_bipush hx dX6_bestSwap_9 (by decide +kernel) ?_
    refine k_ri hx hr dX6_bestSwap_11 ?_
    exact ⟨by unfold aQ qBest; rw [if_neg (by omega)], hI, fun _ _ => rfl⟩
theorem slc_nn (w : List Int) (a : Nat) : slc w a a = [] := by
  unfold slc; rw [List.drop_eq_nil_iff]; rw [List.length_take]; omega
theorem mx_slc {w : List Int} {a b : Nat} (h : a < b) (hb : b ≤ w.length) : Mx (slc w a b) = FM (slc w (a + 1) b) (at0 w a) (b - a - 1) := by
  rw [slc_cons h hb, mx_cons, slc_len hb, show b - (a + 1) = b - a - 1 by omega]
  rfl

def OR3 (M M' : Mem) : Prop := ∀ b, b ≠ 133 → M' b = M b
theorem OR3.tr {M M' M'' : Mem} (h : OR3 M M') (k : OR3 M' M'') : OR3 M M'' := fun b hb => (k b hb).trans (h b hb)
theorem OR3.q {M M' : Mem} (h : OR3 M M') : OQ M M' := ⟨fun a _ h2 => h a (by omega), fun k _ _ _ _ _ => by rw [h 120 (by decide)]⟩

theorem c_X6_cuts {g : GE} {l : Launch} {M : Mem} {σ : Sg} (hI : InvM M σ) {z : Int} (hzr : -2147483648 ≤ z ∧ z < 2147483648) : Ci g l μX6_cuts [vR g 120, vI z] M (PM M (aQ σ (qRope z ((red (rope σ.1 z)).length - Mx (red (rope σ.1 z)))))) := by
  refine Ci.of (by decide +kernel) rfl rfl (fun x hx hr => ?_)
  refine k_iload_n hx dX6_cuts_0 1 rfl ?_
  refine k_sp (rest := []) (e := (b2i (decide (0 ≤ z ∧ z ≤ 3)))) hx sX6_102 dX6_cuts_1 (c_X6_isRope (z := z) (by omega)) rfl rfl rfl ⟨rfl, rfl⟩ ⟨by decide, by decide⟩ ?_
  refine k_bne hx dX6_cuts_4 (fun h_4 => ?_) (fun h_4 => ?_)
  · refine k_aload_n hx dX6_cuts_9 0 rfl ?_
    refine k_iload_n hx dX6_cuts_10 1 rfl ?_
    have hz4 : 0 ≤ z ∧ z < 4 := by omega
    obtain ⟨w, hw⟩ : ∃ w, w = rope σ.1 z := ⟨_, rfl⟩
    have hwl : w.length ≤ 120 := by rw [hw]; exact (hI.1.1.rope hz4).2
    have hwc : Cr w := by rw [hw]; exact (hI.1.1.rope hz4).1
    have hmany : Cp g (xL x) μX6_many [vR g 120, vI z] M w.length := by rw [hw]; exact c_X6_many hI.1 hz4
    refine k_vp (rest := []) (e := w.length) hx vX6_65 dX6_cuts_11 hmany n_120 L_120 rfl rfl rfl ⟨rfl, rfl⟩ ⟨by decide, by decide⟩ ?_
    refine k_istore_n (ls' := [(0, vR g 120), (1, vI z), (2, vI w.length)]) hx dX6_cuts_14 rfl rfl (by decide) ?_
    refine k_iconst hx dX6_cuts_15 ?_
    refine k_istore_n (ls' := [(0, vR g 120), (1, vI z), (2, vI w.length), (3, vI 0)]) hx dX6_cuts_16 rfl rfl (by decide) ?_
    have hat : ∀ (M' : Mem), OR3 M M' → ∀ k : Int, 0 ≤ k → k < w.length → Cp g (xL x) μX6_at [vR g 120, vI z, vI k] M' (at0 w k) := fun M' ho k k0 k1 => by
      rw [hw]; exact c_X6_at (hI.q ho.q).1 hz4 (k := k) ⟨k0, by rw [← hw]; exact k1⟩
    have fin : ∀ M', OR3 M M' → M' 133 w.length = Mx w → K x g 0 0 LAY NN M' 182 [(0, vR g 120), (1, vI z), (2, vI w.length)] [] := by
      intro M' ho hM
      have hml := mx_le w.length w (Nat.le_refl _)
      refine k_iload_n hx dX6_cuts_182 2 rfl ?_
      refine k_aload_n hx dX6_cuts_183 0 rfl ?_
      refine k_get (v := vR g 133) hx fX6_47 dX6_cuts_184 n_120 L_120 rfl ?_
      refine k_iload_n hx dX6_cuts_187 2 rfl ?_
      refine k_iald (v := (Mx w)) hx dX6_cuts_188 n_133 L_133 (by omega) (by decide) (hM) ?_
      refine k_isub hx dX6_cuts_189 ?_
      refine k_ri hx hr dX6_cuts_190 ?_
      have hmc := mx_cut hwc
      exact ⟨by unfold aQ qRope; rw [if_pos hz4, ← hw]; exact hmc, hI.q ho.q, ho.q.lo⟩
    have inner : ∀ (f : Nat), ∀ (s a j : Nat) (u most zs za zb : Int) (M' : Mem), zs = s → za = a → zb = a + s → u = a + 1 + j → a + s ≤ w.length → 2 ≤ s → j ≤ s - 1 → s - 1 - j < f → most = FM (slc w (a + 1) (a + s)) (at0 w a) j → (∀ c d : Nat, c ≤ d → d ≤ w.length → d - c < s → M' 133 (121 * c + d) = Mx (slc w c d)) → OR3 M M' → (∀ most2 : Int, most2 = Mx (slc w a (a + s)) → K x g 0 0 LAY NN M' 155 [(0, vR g 120), (1, vI z), (2, vI w.length), (3, vI zs), (4, vI za), (5, vI zb), (6, vI most2)] []) → K x g 0 0 LAY NN M' 71 [(0, vR g 120), (1, vI z), (2, vI w.length), (3, vI zs), (4, vI za), (5, vI zb), (6, vI most), (7, vI u)] [] := by
      intro f
      induction f with
      | zero => intro s a j u most zs za zb M' hs ha hb hu hsl hs2 hj hf; omega
      | succ f ih =>
        intro s a j u most zs za zb M' hs ha hb hu hsl hs2 hj hf hmost hin ho kk
        have hsll := slc_len (v := w) (a := a + 1) (b := a + s) hsl
        have hml := mx_le (slc w (a + 1) (a + s)).length (slc w (a + 1) (a + s)) (Nat.le_refl _)
        refine k_iload hx dX6_cuts_71 7 rfl ?_
        refine k_iload hx dX6_cuts_73 5 rfl ?_
        refine k_icmp_ge hx dX6_cuts_75 (by omega) (fun h_75 => ?_) (fun h_75 => ?_)
        · refine K.sub [0, 1, 2, 3, 4, 5, 6] rfl ?_
          refine kk most ?_
          rw [hmost, mx_slc (by omega) hsl, show j = a + s - a - 1 by omega]
        · have hjl : j < s - 1 := by omega
          have c1 := at0_in hwc (z := za) (by omega) (by omega)
          have c2 := at0_in hwc (z := u) (by omega) (by omega)
          have e1 : at0 w za = at0 w a := by rw [ha]
          have e2 : at0 w u = at0 (slc w (a + 1) (a + s)) j := by rw [slc_at hsl (by omega), hu]; first | done | (congr 1; done) | (congr 1; omega)
          have hfs := FM_succ (slc w (a + 1) (a + s)) (at0 w a) j
          have hfm := FM_mono (slc w (a + 1) (a + s)) (at0 w a) (show j ≤ s - 1 by omega)
          have hfe : FM (slc w (a + 1) (a + s)) (at0 w a) (s - 1) = Mx (slc w a (a + s)) := by rw [mx_slc (by omega) hsl, show a + s - a - 1 = s - 1 by omega]
          have hmb := mx_le (slc w a (a + s)).length (slc w a (a + s)) (Nat.le_refl _)
          have hsl2 := slc_len (v := w) (a := a) (b := a + s) hsl
          have ht1 : (slc w (a + 1) (a + s)).take j = slc w (a + 1) (a + 1 + j) := slc_take (by omega)
          have ht2 : (slc w (a + 1) (a + s)).drop (j + 1) = slc w (a + 1 + (j + 1)) (a + s) := slc_drop
          rw [ht1, ht2] at hfs
          have hm1 := mx_le (slc w (a + 1) (a + 1 + j)).length (slc w (a + 1) (a + 1 + j)) (Nat.le_refl _)
          have hm2 := mx_le (slc w (a + 1 + (j + 1)) (a + s)).length (slc w (a + 1 + (j + 1)) (a + s)) (Nat.le_refl _)
          have hl1 := slc_len (v := w) (a := a + 1) (b := a + 1 + j) (by omega)
          have hl2 := slc_len (v := w) (a := a + 1 + (j + 1)) (b := a + s) hsl
          have g1 : M' 133 (121 * (za + 1) + u) = (Mx (slc w (a + 1) (a + 1 + j)) : Int) := by
            rw [← hin (a + 1) (a + 1 + j) (by omega) (by omega) (by omega)]; congr 1; omega
          have g2 : M' 133 (121 * (u + 1) + zb) = (Mx (slc w (a + 1 + (j + 1)) (a + s)) : Int) := by
            rw [← hin (a + 1 + (j + 1)) (a + s) (by omega) (by omega) (by omega)]; congr 1; omega
          refine k_aload_n hx dX6_cuts_78 0 rfl ?_
          refine k_iload_n hx dX6_cuts_79 1 rfl ?_
          refine k_iload hx dX6_cuts_80 4 rfl ?_
          refine k_vp (rest := []) (e := (at0 w za)) hx vX6_69 dX6_cuts_82 (hat M' ho za (by omega) (by omega)) n_120 L_120 rfl rfl rfl ⟨rfl, rfl⟩ ⟨by decide, by decide⟩ ?_
          refine k_aload_n hx dX6_cuts_85 0 rfl ?_
          refine k_iload_n hx dX6_cuts_86 1 rfl ?_
          refine k_iload hx dX6_cuts_87 7 rfl ?_
          refine k_vp (rest := [vI (at0 w za)]) (e := (at0 w u)) hx vX6_69 dX6_cuts_89 (hat M' ho u (by omega) (by omega)) n_120 L_120 rfl rfl rfl ⟨rfl, rfl⟩ ⟨by decide, by decide⟩ ?_
          refine k_sp (rest := []) (e := (b2i (decide ((at0 w za) = op (at0 w u))))) hx sX6_57 dX6_cuts_92 (c_X6_cancel (a := (at0 w za)) (b := (at0 w u)) (by omega)) rfl rfl rfl ⟨rfl, rfl⟩ ⟨by decide, by decide⟩ ?_
          refine k_beq hx dX6_cuts_95 (fun h_95 => ?_) (fun h_95 => ?_)
          · have hno : ¬ at0 (slc w (a + 1) (a + s)) j = op (at0 w a) := fun q => h_95 ((op_eq c1 c2).mpr (by rw [e2, e1]; exact q))
            rw [if_neg hno] at hfs
            refine k_iinc (ls' := [(0, vR g 120), (1, vI z), (2, vI w.length), (3, vI zs), (4, vI za), (5, vI zb), (6, vI most), (7, vI (u + 1))]) hx dX6_cuts_149 7 rfl rfl rfl (by decide) ?_
            refine k_goto hx dX6_cuts_152 ?_
            refine K.sub [0, 1, 2, 3, 4, 5, 6, 7] rfl ?_
            exact ih s a (j + 1) (u + 1) _ zs za zb M' hs ha hb (by omega) hsl hs2 (by omega) (by omega) (by rw [hfs]; omega) hin ho kk
          · have hyes : at0 (slc w (a + 1) (a + s)) j = op (at0 w a) := by rw [← e2, ← e1]; exact (op_eq c1 c2).mp h_95
            rw [if_pos hyes] at hfs
            refine k_iconst hx dX6_cuts_98 ?_
            refine k_aload_n hx dX6_cuts_99 0 rfl ?_
            refine k_get (v := vR g 133) hx fX6_47 dX6_cuts_100 n_120 L_120 rfl ?_
            refine k_bipush hx dX6_cuts_103 (by decide +kernel) ?_
            refine k_iload hx dX6_cuts_105 4 rfl ?_
            refine k_iconst hx dX6_cuts_107 ?_
            refine k_iadd hx dX6_cuts_108 ?_
            refine k_imul hx dX6_cuts_109 ?_
            refine k_iload hx dX6_cuts_110 7 rfl ?_
            refine k_iadd hx dX6_cuts_112 ?_
            refine k_iald (v := (Mx (slc w (a + 1) (a + 1 + j)) : Int)) hx dX6_cuts_113 n_133 L_133 (by omega) (by decide) (g1) ?_
            refine k_iadd hx dX6_cuts_114 ?_
            refine k_aload_n hx dX6_cuts_115 0 rfl ?_
            refine k_get (v := vR g 133) hx fX6_47 dX6_cuts_116 n_120 L_120 rfl ?_
            refine k_bipush hx dX6_cuts_119 (by decide +kernel) ?_
            refine k_iload hx dX6_cuts_121 7 rfl ?_
            refine k_iconst hx dX6_cuts_123 ?_
            refine k_iadd hx dX6_cuts_124 ?_
            refine k_imul hx dX6_cuts_125 ?_
            refine k_iload hx dX6_cuts_126 5 rfl ?_
            refine k_iadd hx dX6_cuts_128 ?_
            refine k_iald (v := (Mx (slc w (a + 1 + (j + 1)) (a + s)) : Int)) hx dX6_cuts_129 n_133 L_133 (by omega) (by decide) (g2) ?_
            refine k_iadd hx dX6_cuts_130 ?_
            refine k_istore (ls' := [(0, vR g 120), (1, vI z), (2, vI w.length), (3, vI zs), (4, vI za), (5, vI zb), (6, vI most), (7, vI u), (8, vI ((2 + (Mx (slc w (a + 1) (a + 1 + j)) : Int)) + (Mx (slc w (a + 1 + (j + 1)) (a + s)) : Int)))]) hx dX6_cuts_131 rfl rfl (by decide) ?_
            refine k_iload hx dX6_cuts_133 8 rfl ?_
            refine k_iload hx dX6_cuts_135 6 rfl ?_
            refine k_icmp_le hx dX6_cuts_137 (by omega) (fun h_137 => ?_) (fun h_137 => ?_)
            · refine k_iload hx dX6_cuts_145 6 rfl ?_
              refine k_istore (ls' := [(0, vR g 120), (1, vI z), (2, vI w.length), (3, vI zs), (4, vI za), (5, vI zb), (6, vI most), (7, vI u), (8, vI ((2 + (Mx (slc w (a + 1) (a + 1 + j)) : Int)) + (Mx (slc w (a + 1 + (j + 1)) (a + s)) : Int)))]) hx dX6_cuts_147 rfl rfl (by decide) ?_
              refine k_iinc (ls' := [(0, vR g 120), (1, vI z), (2, vI w.length), (3, vI zs), (4, vI za), (5, vI zb), (6, vI most), (7, vI (u + 1)), (8, vI ((2 + (Mx (slc w (a + 1) (a + 1 + j)) : Int)) + (Mx (slc w (a + 1 + (j + 1)) (a + s)) : Int)))]) hx dX6_cuts_149 7 rfl rfl rfl (by decide) ?_
              refine k_goto hx dX6_cuts_152 ?_
              refine K.sub [0, 1, 2, 3, 4, 5, 6, 7] rfl ?_
              exact ih s a (j + 1) (u + 1) _ zs za zb M' hs ha hb (by omega) hsl hs2 (by omega) (by omega) (by rw [hfs]; omega) hin ho kk
            · refine k_iload hx dX6_cuts_140 8 rfl ?_
              refine k_goto hx dX6_cuts_142 ?_
              refine k_istore (ls' := [(0, vR g 120), (1, vI z), (2, vI w.length), (3, vI zs), (4, vI za), (5, vI zb), (6, vI ((2 + (Mx (slc w (a + 1) (a + 1 + j)) : Int)) + (Mx (slc w (a + 1 + (j + 1)) (a + s)) : Int))), (7, vI u), (8, vI ((2 + (Mx (slc w (a + 1) (a + 1 + j)) : Int)) + (Mx (slc w (a + 1 + (j + 1)) (a + s)) : Int)))]) hx dX6_cuts_147 rfl rfl (by decide) ?_
              refine k_iinc (ls' := [(0, vR g 120), (1, vI z), (2, vI w.length), (3, vI zs), (4, vI za), (5, vI zb), (6, vI ((2 + (Mx (slc w (a + 1) (a + 1 + j)) : Int)) + (Mx (slc w (a + 1 + (j + 1)) (a + s)) : Int))), (7, vI (u + 1)), (8, vI ((2 + (Mx (slc w (a + 1) (a + 1 + j)) : Int)) + (Mx (slc w (a + 1 + (j + 1)) (a + s)) : Int)))]) hx dX6_cuts_149 7 rfl rfl rfl (by decide) ?_
              refine k_goto hx dX6_cuts_152 ?_
              refine K.sub [0, 1, 2, 3, 4, 5, 6, 7] rfl ?_
              exact ih s a (j + 1) (u + 1) _ zs za zb M' hs ha hb (by omega) hsl hs2 (by omega) (by omega) (by rw [hfs]; omega) hin ho kk
    have mid : ∀ (f : Nat), ∀ (s a : Nat) (zs za : Int) (M' : Mem), zs = s → za = a → s ≤ w.length → a + s ≤ w.length + 1 → w.length + 1 - a < f → (∀ c d : Nat, c ≤ d → d ≤ w.length → d - c < s → M' 133 (121 * c + d) = Mx (slc w c d)) → (∀ c : Nat, c < a → M' 133 (121 * c + (c + s)) = Mx (slc w c (c + s))) → OR3 M M' → (∀ M2 : Mem, OR3 M M2 → (∀ c d : Nat, c ≤ d → d ≤ w.length → d - c < s + 1 → M2 133 (121 * c + d) = Mx (slc w c d)) → K x g 0 0 LAY NN M2 176 [(0, vR g 120), (1, vI z), (2, vI w.length), (3, vI zs)] []) → K x g 0 0 LAY NN M' 25 [(0, vR g 120), (1, vI z), (2, vI w.length), (3, vI zs), (4, vI za)] [] := by
      intro f
      induction f with
      | zero => intro s a zs za M' hs ha hsl hal hf; omega
      | succ f ih =>
        intro s a zs za M' hs ha hsl hal hf hin hin2 ho kk
        have store : ∀ most2 : Int, a + s ≤ w.length → most2 = Mx (slc w a (a + s)) → K x g 0 0 LAY NN M' 155 [(0, vR g 120), (1, vI z), (2, vI w.length), (3, vI zs), (4, vI za), (5, vI (za + zs)), (6, vI most2)] [] := by
          intro most2 hal2 hm2
          refine k_aload_n hx dX6_cuts_155 0 rfl ?_
          refine k_get (v := vR g 133) hx fX6_47 dX6_cuts_156 n_120 L_120 rfl ?_
          refine k_bipush hx dX6_cuts_159 (by decide +kernel) ?_
          refine k_iload hx dX6_cuts_161 4 rfl ?_
          refine k_imul hx dX6_cuts_163 ?_
          refine k_iload hx dX6_cuts_164 5 rfl ?_
          refine k_iadd hx dX6_cuts_166 ?_
          refine k_iload hx dX6_cuts_167 6 rfl ?_
          refine k_iastN hx dX6_cuts_169 n_133 L_133 (by omega) (by decide) (fun M_169 hM_169 => ?_)
          refine k_iinc (ls' := [(0, vR g 120), (1, vI z), (2, vI w.length), (3, vI zs), (4, vI (za + 1)), (5, vI (za + zs)), (6, vI most2)]) hx dX6_cuts_170 4 rfl rfl rfl (by decide) ?_
          refine k_goto hx dX6_cuts_173 ?_
          refine K.sub [0, 1, 2, 3, 4] rfl ?_
          refine ih s (a + 1) zs (za + 1) M_169 hs (by omega) hsl (by omega) (by omega) (fun c d hcd hd hlt => by rw [hM_169, up_k (by omega)]; exact hin c d hcd hd hlt) (fun c hc => ?_) (ho.tr (fun b hb => by rw [hM_169, up_i hb])) kk
          rw [hM_169]
          by_cases hca : c = a
          · subst hca
            rw [show 121 * (c : Int) + ((c : Int) + s) = 121 * za + (za + zs) by omega, up_s]; exact hm2
          · rw [up_k (by omega)]; exact hin2 c (by omega)
        refine k_iload hx dX6_cuts_25 4 rfl ?_
        refine k_iload_n hx dX6_cuts_27 3 rfl ?_
        refine k_iadd hx dX6_cuts_28 ?_
        refine k_iload_n hx dX6_cuts_29 2 rfl ?_
        refine k_icmp_gt hx dX6_cuts_30 (by omega) (fun h_30 => ?_) (fun h_30 => ?_)
        · refine K.sub [0, 1, 2, 3] rfl ?_
          refine kk M' ho (fun c d hcd hd hlt => ?_)
          by_cases h : d - c < s
          · exact hin c d hcd hd h
          · have hds : d = c + s := by omega
            subst hds
            have := hin2 c (by omega)
            rw [← this]; first | done | (congr 1; done) | (congr 1; omega)
        · refine k_iload hx dX6_cuts_33 4 rfl ?_
          refine k_iload_n hx dX6_cuts_35 3 rfl ?_
          refine k_iadd hx dX6_cuts_36 ?_
          refine k_istore (ls' := [(0, vR g 120), (1, vI z), (2, vI w.length), (3, vI zs), (4, vI za), (5, vI (za + zs))]) hx dX6_cuts_37 rfl rfl (by decide) ?_
          refine k_iload_n hx dX6_cuts_39 3 rfl ?_
          refine k_iconst hx dX6_cuts_40 ?_
          refine k_icmp_ge hx dX6_cuts_41 (by omega) (fun h_41 => ?_) (fun h_41 => ?_)
          · have hsll := slc_len (v := w) (a := a + 1) (b := a + s) (by omega)
            have hml := mx_le (slc w (a + 1) (a + s)).length (slc w (a + 1) (a + s)) (Nat.le_refl _)
            refine k_aload_n hx dX6_cuts_48 0 rfl ?_
            refine k_get (v := vR g 133) hx fX6_47 dX6_cuts_49 n_120 L_120 rfl ?_
            refine k_bipush hx dX6_cuts_52 (by decide +kernel) ?_
            refine k_iload hx dX6_cuts_54 4 rfl ?_
            refine k_iconst hx dX6_cuts_56 ?_
            refine k_iadd hx dX6_cuts_57 ?_
            refine k_imul hx dX6_cuts_58 ?_
            refine k_iload hx dX6_cuts_59 5 rfl ?_
            refine k_iadd hx dX6_cuts_61 ?_
            refine k_iald (v := (Mx (slc w (a + 1) (a + s)) : Int)) hx dX6_cuts_62 n_133 L_133 (by omega) (by decide) (by rw [← hin (a + 1) (a + s) (by omega) (by omega) (by omega)]; congr 1; omega) ?_
            refine k_istore (ls' := [(0, vR g 120), (1, vI z), (2, vI w.length), (3, vI zs), (4, vI za), (5, vI (za + zs)), (6, vI (Mx (slc w (a + 1) (a + s)) : Int))]) hx dX6_cuts_63 rfl rfl (by decide) ?_
            refine k_iload hx dX6_cuts_65 4 rfl ?_
            refine k_iconst hx dX6_cuts_67 ?_
            refine k_iadd hx dX6_cuts_68 ?_
            refine k_istore (ls' := [(0, vR g 120), (1, vI z), (2, vI w.length), (3, vI zs), (4, vI za), (5, vI (za + zs)), (6, vI (Mx (slc w (a + 1) (a + s)) : Int)), (7, vI (za + 1))]) hx dX6_cuts_69 rfl rfl (by decide) ?_
            exact inner (s + 1) s a 0 _ _ zs za _ M' hs ha (by omega) (by omega) (by omega) (by omega) (by omega) (by omega) rfl hin ho (fun m2 hm2 => store m2 (by omega) hm2)
          · refine k_iconst hx dX6_cuts_44 ?_
            refine k_goto hx dX6_cuts_45 ?_
            refine k_istore (ls' := [(0, vR g 120), (1, vI z), (2, vI w.length), (3, vI zs), (4, vI za), (5, vI (za + zs)), (6, vI 0)]) hx dX6_cuts_63 rfl rfl (by decide) ?_
            refine k_iload hx dX6_cuts_65 4 rfl ?_
            refine k_iconst hx dX6_cuts_67 ?_
            refine k_iadd hx dX6_cuts_68 ?_
            refine k_istore (ls' := [(0, vR g 120), (1, vI z), (2, vI w.length), (3, vI zs), (4, vI za), (5, vI (za + zs)), (6, vI 0), (7, vI (za + 1))]) hx dX6_cuts_69 rfl rfl (by decide) ?_
            refine k_iload hx dX6_cuts_71 7 rfl ?_
            refine k_iload hx dX6_cuts_73 5 rfl ?_
            refine k_icmp_ge hx dX6_cuts_75 (by omega) (fun h_75 => ?_) (fun h_75 => absurd h_75 (by omega))
            refine K.sub [0, 1, 2, 3, 4, 5, 6] rfl ?_
            refine store 0 (by omega) ?_
            rcases (show s = 0 ∨ s = 1 by omega) with h0 | h0
            · subst h0; rw [Nat.add_zero, slc_nn]; rfl
            · subst h0; rw [mx_slc (by omega) (by omega), slc_nn, show a + 1 - a - 1 = 0 by omega]; rfl
    have outer : ∀ (f : Nat), ∀ (s : Nat) (zs : Int) (M' : Mem), zs = s → s ≤ w.length + 1 → w.length + 1 - s < f → (∀ c d : Nat, c ≤ d → d ≤ w.length → d - c < s → M' 133 (121 * c + d) = Mx (slc w c d)) → OR3 M M' → K x g 0 0 LAY NN M' 17 [(0, vR g 120), (1, vI z), (2, vI w.length), (3, vI zs)] [] := by
      intro f
      induction f with
      | zero => intro s zs M' hs hsl hf; omega
      | succ f ih =>
        intro s zs M' hs hsl hf hin ho
        refine k_iload_n hx dX6_cuts_17 3 rfl ?_
        refine k_iload_n hx dX6_cuts_18 2 rfl ?_
        refine k_icmp_gt hx dX6_cuts_19 (by omega) (fun h_19 => ?_) (fun h_19 => ?_)
        · refine K.sub [0, 1, 2] rfl ?_
          refine fin M' ho ?_
          have := hin 0 w.length (by omega) (by omega) (by omega)
          rw [slc_all] at this
          rw [← this]; congr 1; omega
        · refine k_iconst hx dX6_cuts_22 ?_
          refine k_istore (ls' := [(0, vR g 120), (1, vI z), (2, vI w.length), (3, vI zs), (4, vI 0)]) hx dX6_cuts_23 rfl rfl (by decide) ?_
          refine mid (w.length + 2) s 0 zs 0 M' hs rfl (by omega) (by omega) (by omega) hin (fun c hc => absurd hc (by omega)) ho (fun M2 ho2 hin3 => ?_)
          refine k_iinc (ls' := [(0, vR g 120), (1, vI z), (2, vI w.length), (3, vI (zs + 1))]) hx dX6_cuts_176 3 rfl rfl rfl (by decide) ?_
          refine k_goto hx dX6_cuts_179 ?_
          exact ih (s + 1) (zs + 1) M2 (by omega) (by omega) (by omega) hin3 ho2
    exact outer (w.length + 2) 0 0 M rfl (by omega) (by omega) (fun c d h1 h2 h3 => absurd h3 (by omega)) (fun _ _ => rfl)
  · refine k_iconst hx dX6_cuts_7 ?_
    refine k_ri hx hr dX6_cuts_8 ?_
    exact ⟨by unfold aQ qRope; rw [if_neg (by omega)], hI, fun _ _ => rfl⟩

/-! states, and the past -/
abbrev Ab : Type := List Int × List (List Int)
def OkA (A : Ab) : Prop := A.1.length = 6 ∧ A.2.length = 4 ∧ (∀ p : Nat, p < 6 → 1 ≤ A.1.getD p 0 ∧ A.1.getD p 0 ≤ 99) ∧ (∀ r : Nat, r < 4 → Cr (A.2.getD r []) ∧ (A.2.getD r []).length ≤ 120)
def Sd (M : Mem) (s : Nat) (A : Ab) : Prop := OkA A ∧ (∀ p : Nat, p < 6 → M (s + 1) p = A.1.getD p 0) ∧ (∀ r : Nat, r < 4 → Wd M (s + 3 + 2 * r) (A.2.getD r []))
def OffS (s : Nat) (M M' : Mem) : Prop := ∀ a, (a < s ∨ s + 11 ≤ a) → M' a = M a
theorem OffS.rf {s : Nat} {M : Mem} : OffS s M M := fun _ _ => rfl
theorem OffS.tr {s : Nat} {M M' M'' : Mem} (h : OffS s M M') (k : OffS s M' M'') : OffS s M M'' := fun a h1 => (k a h1).trans (h a h1)
theorem IsS.w {g : GE} {s k : Nat} (h : IsS g s) (hk : k < 4) : IsW g (s + 3 + 2 * k) 120 := by
  obtain ⟨-, -, -, -, -, -, h0, h1, h2, h3⟩ := h
  rcases (show k = 0 ∨ k = 1 ∨ k = 2 ∨ k = 3 by omega) with rfl | rfl | rfl | rfl
  · exact h0
  · exact h1
  · exact h2
  · exact h3
theorem ropes_at {s k : Nat} {z : Int} (hz : z = k) (hk : k < 4) : ([some (s + 3), some (s + 5), some (s + 7), some (s + 9)] : List (Option Nat)).getD z.toNat none = some (s + 3 + 2 * k) := by
  subst hz
  rcases (show k = 0 ∨ k = 1 ∨ k = 2 ∨ k = 3 by omega) with rfl | rfl | rfl | rfl <;> rfl
theorem Wd.same {M M' : Mem} {i : Nat} {w : List Int} (h : Wd M i w) (h1 : M' i = M i) (h2 : M' (i + 1) = M (i + 1)) : Wd M' i w := by
  unfold Wd; rw [h1, h2]; exact h
theorem Sd.same {M M' : Mem} {s : Nat} {A : Ab} (h : Sd M s A) (ho : ∀ a, s ≤ a → a < s + 11 → M' a = M a) : Sd M' s A :=
  ⟨h.1, fun p hp => by rw [ho _ (by omega) (by omega)]; exact h.2.1 p hp, fun r hr => (h.2.2 r hr).same (ho _ (by omega) (by omega)) (ho _ (by omega) (by omega))⟩
def allC (A : Ab) : Int := (A.2.getD 0 []).length + (A.2.getD 1 []).length + (A.2.getD 2 []).length + (A.2.getD 3 []).length
def wsF (ws : List Int) (w : List Int) : Nat → Int
  | 0 => 0
  | k + 1 => wsF ws w k + ws.getD (pst (at0 w k)).toNat 0
def wsum (ws w : List Int) : Int := wsF ws w w.length
theorem wsF_rg {ws w : List Int} (h1 : ∀ p : Nat, p < 6 → 1 ≤ ws.getD p 0 ∧ ws.getD p 0 ≤ 99) (h2 : Cr w) : ∀ k : Nat, k ≤ w.length → 0 ≤ wsF ws w k ∧ wsF ws w k ≤ 99 * k
  | 0, _ => by simp [wsF]
  | k + 1, hk => by
    have h3 := wsF_rg h1 h2 k (by omega)
    have h4 := pst_rg (op_cr h2 (k := k) (by omega))
    have h5 := h1 (pst (at0 w k)).toNat (by omega)
    rw [wsF]
    omega

theorem c_X3_copyFrom {g : GE} {l : Launch} {M : Mem} {s t : Nat} {A : Ab} (hS : IsS g s) (hT : IsS g t) (hA : Sd M t A) (hap : s + 11 ≤ t ∨ t + 11 ≤ s) : Cv g l μX3_copyFrom [vR g s, vR g t] M (fun M' => Sd M' s A ∧ OffS s M M') := by
  refine Cv.of (by decide +kernel) rfl rfl (fun x hx hr => ?_)
  have loop2 : ∀ (f : Nat), ∀ (k : Nat) (z : Int) (M' : Mem), z = k → k ≤ 4 → 4 - k < f → (∀ p : Nat, p < 6 → M' (s + 1) p = A.1.getD p 0) → (∀ r : Nat, r < k → Wd M' (s + 3 + 2 * r) (A.2.getD r [])) → OffS s M M' → K x g 0 0 LAY (NN g) M' 28 [(0, vR g s), (1, vR g t), (2, vI z)] [] := by
    intro f
    induction f with
    | zero => intro k z M' hz hk hf hp hr2 ho; omega
    | succ f ih =>
      intro k z M' hz hk hf hp hr2 ho
      refine k_iload_n hx dX3_copyFrom_28 2 rfl ?_
      refine k_iconst hx dX3_copyFrom_29 ?_
      refine k_icmp_ge hx dX3_copyFrom_30 (by omega) (fun h_30 => ?_) (fun h_30 => ?_)
      · refine k_rv hx hr dX3_copyFrom_54 ?_
        exact ⟨⟨hA.1, hp, fun r hr4 => hr2 r (by omega)⟩, ho⟩
      · have hk4 : k < 4 := by omega
        have hv := (hA.same (M' := M') (fun a h1 h2 => ho a (by omega))).2.2 k hk4
        have hvl := (hA.1.2.2.2 k hk4).2
        refine k_aload_n hx dX3_copyFrom_33 0 rfl ?_
        refine k_get (v := vR g (s + 2)) hx fX3_17 dX3_copyFrom_34 hS.2.2.2.1 hS.1 rfl ?_
        refine k_iload_n hx dX3_copyFrom_37 2 rfl ?_
        refine k_aald (q := (s + 3 + 2 * k)) hx dX3_copyFrom_38 hS.2.2.2.2.2.1 hS.2.2.1 (by decide) (by simp only [List.length_cons, List.length_nil]; omega) (Nat.le_of_ble_eq_true rfl) (ropes_at hz hk4) ?_
        refine k_aload_n hx dX3_copyFrom_39 1 rfl ?_
        refine k_get (v := vR g (t + 2)) hx fX3_17 dX3_copyFrom_40 hT.2.2.2.1 hT.1 rfl ?_
        refine k_iload_n hx dX3_copyFrom_43 2 rfl ?_
        refine k_aald (q := (t + 3 + 2 * k)) hx dX3_copyFrom_44 hT.2.2.2.2.2.1 hT.2.2.1 (by decide) (by simp only [List.length_cons, List.length_nil]; omega) (Nat.le_of_ble_eq_true rfl) (ropes_at hz hk4) ?_
        refine k_vv (rest := []) hx vX3_24 dX3_copyFrom_45 (c_X4_copyFrom (hS.w hk4) (hT.w hk4) hv hvl (by omega) hvl) (hS.w hk4).2.2.1 (hS.w hk4).1 rfl rfl rfl ⟨rfl, rfl⟩ ⟨by decide, by decide⟩ (fun M_45 p_45 => ?_)
        refine k_iinc (ls' := [(0, vR g s), (1, vR g t), (2, vI (z + 1))]) hx dX3_copyFrom_48 2 rfl rfl rfl (by decide) ?_
        refine k_goto hx dX3_copyFrom_51 ?_
        refine ih (k + 1) (z + 1) M_45 (by omega) (by omega) (by omega) (fun p hp6 => by rw [p_45.2 _ (by omega) (by omega)]; exact hp p hp6) (fun r hrk => ?_) (ho.tr (fun a ha => p_45.2 a (by omega) (by omega)))
        by_cases hrk2 : r = k
        · subst hrk2; exact p_45.1
        · exact (hr2 r (by omega)).same (p_45.2 _ (by omega) (by omega)) (p_45.2 _ (by omega) (by omega))
  have loop1 : ∀ (f : Nat), ∀ (k : Nat) (z : Int) (M' : Mem), z = k → k ≤ 6 → 6 - k < f → (∀ p : Nat, p < k → M' (s + 1) p = A.1.getD p 0) → OffS s M M' → K x g 0 0 LAY (NN g) M' 2 [(0, vR g s), (1, vR g t), (2, vI z)] [] := by
    intro f
    induction f with
    | zero => intro k z M' hz hk hf hp ho; omega
    | succ f ih =>
      intro k z M' hz hk hf hp ho
      refine k_iload_n hx dX3_copyFrom_2 2 rfl ?_
      refine k_bipush hx dX3_copyFrom_3 (by decide +kernel) ?_
      refine k_icmp_ge hx dX3_copyFrom_5 (by omega) (fun h_5 => ?_) (fun h_5 => ?_)
      · refine K.sub [0, 1] rfl ?_
        refine k_iconst hx dX3_copyFrom_26 ?_
        refine k_istore_n (ls' := [(0, vR g s), (1, vR g t), (2, vI 0)]) hx dX3_copyFrom_27 rfl rfl (by decide) ?_
        exact loop2 5 0 0 M' rfl (by omega) (by omega) (fun p hp6 => hp p (by omega)) (fun r hr => absurd hr (by omega)) ho
      · refine k_aload_n hx dX3_copyFrom_8 0 rfl ?_
        refine k_get (v := vR g (s + 1)) hx fX3_9 dX3_copyFrom_9 hS.2.2.2.1 hS.1 rfl ?_
        refine k_iload_n hx dX3_copyFrom_12 2 rfl ?_
        refine k_aload_n hx dX3_copyFrom_13 1 rfl ?_
        refine k_get (v := vR g (t + 1)) hx fX3_9 dX3_copyFrom_14 hT.2.2.2.1 hT.1 rfl ?_
        refine k_iload_n hx dX3_copyFrom_17 2 rfl ?_
        refine k_iald (v := (A.1.getD k 0)) hx dX3_copyFrom_18 hT.2.2.2.2.1 hT.2.1 (by omega) (by decide) (by rw [ho _ (by omega), hz]; exact hA.2.1 k (by omega)) ?_
        refine k_iastN hx dX3_copyFrom_19 hS.2.2.2.2.1 hS.2.1 (by omega) (by decide) (fun M_19 hM_19 => ?_)
        refine k_iinc (ls' := [(0, vR g s), (1, vR g t), (2, vI (z + 1))]) hx dX3_copyFrom_20 2 rfl rfl rfl (by decide) ?_
        refine k_goto hx dX3_copyFrom_23 ?_
        refine ih (k + 1) (z + 1) M_19 (by omega) (by omega) (by omega) (fun p hpk => ?_) (ho.tr (fun a ha => by rw [hM_19, up_i (by omega)]))
        rw [hM_19]
        by_cases hpk2 : p = k
        · subst hpk2; rw [← hz, up_s]
        · rw [up_k (by omega)]; exact hp p (by omega)
  refine k_iconst hx dX3_copyFrom_0 ?_
  refine k_istore_n (ls' := [(0, vR g s), (1, vR g t), (2, vI 0)]) hx dX3_copyFrom_1 rfl rfl (by decide) ?_
  exact loop1 7 0 0 M rfl (by omega) (by omega) (fun p hp => absurd hp (by omega)) OffS.rf
theorem c_X3_allCrossings {g : GE} {l : Launch} {M : Mem} {s : Nat} {A : Ab} (hS : IsS g s) (hA : Sd M s A) : Cp g l μX3_allCrossings [vR g s] M (allC A) := by
  refine Ci.of (by decide +kernel) rfl rfl (fun x hx hr => ?_)
  have l0 := (hA.2.2 0 (by decide)).1; have l1 := (hA.2.2 1 (by decide)).1; have l2 := (hA.2.2 2 (by decide)).1; have l3 := (hA.2.2 3 (by decide)).1
  have m0 := (hA.1.2.2.2 0 (by decide)).2; have m1 := (hA.1.2.2.2 1 (by decide)).2; have m2 := (hA.1.2.2.2 2 (by decide)).2; have m3 := (hA.1.2.2.2 3 (by decide)).2
  have loop : ∀ (f : Nat), ∀ (k : Nat) (y z : Int), z = k → k ≤ 4 → 4 - k < f → y = (if 0 < k then ((A.2.getD 0 []).length : Int) else 0) + (if 1 < k then ((A.2.getD 1 []).length : Int) else 0) + (if 2 < k then ((A.2.getD 2 []).length : Int) else 0) + (if 3 < k then ((A.2.getD 3 []).length : Int) else 0) → K x g 0 0 LAY (NN g) M 4 [(0, vR g s), (1, vI y), (2, vI z)] [] := by
    intro f
    induction f with
    | zero => intro k y z hz hk hf hy; omega
    | succ f ih =>
      intro k y z hz hk hf hy
      refine k_iload_n hx dX3_allCrossings_4 2 rfl ?_
      refine k_iconst hx dX3_allCrossings_5 ?_
      refine k_icmp_ge hx dX3_allCrossings_6 (by omega) (fun h_6 => ?_) (fun h_6 => ?_)
      · refine k_iload_n hx dX3_allCrossings_27 1 rfl ?_
        refine k_ri hx hr dX3_allCrossings_28 ?_
        refine ⟨?_, rfl⟩
        rw [hy, show k = 4 by omega]; simp [allC]
      · have hk4 : k < 4 := by omega
        refine k_iload_n hx dX3_allCrossings_9 1 rfl ?_
        refine k_aload_n hx dX3_allCrossings_10 0 rfl ?_
        refine k_get (v := vR g (s + 2)) hx fX3_17 dX3_allCrossings_11 hS.2.2.2.1 hS.1 rfl ?_
        refine k_iload_n hx dX3_allCrossings_14 2 rfl ?_
        refine k_aald (q := (s + 3 + 2 * k)) hx dX3_allCrossings_15 hS.2.2.2.2.2.1 hS.2.2.1 (by decide) (by simp only [List.length_cons, List.length_nil]; omega) (Nat.le_of_ble_eq_true rfl) (ropes_at hz hk4) ?_
        refine k_get (v := vI ((A.2.getD k []).length)) hx fX3_28 dX3_allCrossings_16 (hS.w hk4).2.2.1 (hS.w hk4).1 (congrArg vI (show M (s + 3 + 2 * k) 1 = ((A.2.getD k []).length) from (hA.2.2 k hk4).1)) ?_
        refine k_iadd hx dX3_allCrossings_19 ?_
        refine k_istore_n (ls' := [(0, vR g s), (1, vI (y + ((A.2.getD k []).length))), (2, vI z)]) hx dX3_allCrossings_20 rfl rfl (by decide) ?_
        refine k_iinc (ls' := [(0, vR g s), (1, vI (y + ((A.2.getD k []).length))), (2, vI (z + 1))]) hx dX3_allCrossings_21 2 rfl rfl rfl (by decide) ?_
        refine k_goto hx dX3_allCrossings_24 ?_
        refine ih (k + 1) _ (z + 1) (by omega) (by omega) (by omega) ?_
        rw [hy]
        rcases (show k = 0 ∨ k = 1 ∨ k = 2 ∨ k = 3 by omega) with rfl | rfl | rfl | rfl <;> simp <;> omega
  refine k_iconst hx dX3_allCrossings_0 ?_
  refine k_istore_n (ls' := [(0, vR g s), (1, vI 0)]) hx dX3_allCrossings_1 rfl rfl (by decide) ?_
  refine k_iconst hx dX3_allCrossings_2 ?_
  refine k_istore_n (ls' := [(0, vR g s), (1, vI 0), (2, vI 0)]) hx dX3_allCrossings_3 rfl rfl (by decide) ?_
  exact loop 5 0 0 0 rfl (by omega) (by omega) (by simp)
theorem c_X3_widthsAlong {g : GE} {l : Launch} {M : Mem} {s j cj : Nat} {A : Ab} {v : List Int} (hS : IsS g s) (hA : Sd M s A) (hJ : IsW g j cj) (hv : Wd M j v) (hcj : v.length ≤ cj) : Cp g l μX3_widthsAlong [vR g s, vR g j] M (wsum A.1 v) := by
  refine Ci.of (by decide +kernel) rfl rfl (fun x hx hr => ?_)
  have hlv := hv.1; have h480j := hJ.2.2.2.2
  have loop : ∀ (f : Nat), ∀ (k : Nat) (y z : Int), z = k → k ≤ v.length → v.length - k < f → y = wsF A.1 v k → K x g 0 0 LAY (NN g) M 4 [(0, vR g s), (1, vR g j), (2, vI y), (3, vI z)] [] := by
    intro f
    induction f with
    | zero => intro k y z hz hk hf hy; omega
    | succ f ih =>
      intro k y z hz hk hf hy
      refine k_iload_n hx dX3_widthsAlong_4 3 rfl ?_
      refine k_aload_n hx dX3_widthsAlong_5 1 rfl ?_
      refine k_get (v := vI (M j 1)) hx fX3_28 dX3_widthsAlong_6 hJ.2.2.1 hJ.1 rfl ?_
      refine k_icmp_ge hx dX3_widthsAlong_9 (by omega) (fun h_9 => ?_) (fun h_9 => ?_)
      · refine k_iload_n hx dX3_widthsAlong_50 2 rfl ?_
        refine k_ri hx hr dX3_widthsAlong_51 ?_
        exact ⟨by rw [hy, show k = v.length by omega]; rfl, rfl⟩
      · have c1 := op_cr hv.2.2 (k := k) (by omega)
        have c2 := pst_rg c1
        have e1 : at0 v z = at0 v k := by rw [hz]
        rw [← e1] at c1 c2
        have e2 : M (s + 1) (pst (at0 v z)) = A.1.getD (pst (at0 v k)).toNat 0 := by
          have := hA.2.1 (pst (at0 v z)).toNat (by omega)
          rw [show (((pst (at0 v z)).toNat : Nat) : Int) = pst (at0 v z) by omega] at this
          rw [this, e1]
        have hst : wsF A.1 v (k + 1) = wsF A.1 v k + A.1.getD (pst (at0 v k)).toNat 0 := rfl
        refine k_aload_n hx dX3_widthsAlong_12 1 rfl ?_
        refine k_iload_n hx dX3_widthsAlong_13 3 rfl ?_
        refine k_vp (rest := []) (e := (at0 v z)) hx vX3_32 dX3_widthsAlong_14 (c_X4_at hJ hv hcj (z := z) (by omega)) hJ.2.2.1 hJ.1 rfl rfl rfl ⟨rfl, rfl⟩ ⟨by decide, by decide⟩ ?_
        refine k_np (rest := []) (e := (pst (at0 v z))) hx nX3_36 dX3_widthsAlong_17 (c_X5_postOf (z := (at0 v z)) (by omega)) rfl rfl rfl ⟨rfl, rfl⟩ ⟨by decide, by decide⟩ ?_
        refine k_istore (ls' := [(0, vR g s), (1, vR g j), (2, vI y), (3, vI z), (4, vI (pst (at0 v z)))]) hx dX3_widthsAlong_20 rfl rfl (by decide) ?_
        refine k_iload_n hx dX3_widthsAlong_22 2 rfl ?_
        refine k_iload hx dX3_widthsAlong_23 4 rfl ?_
        refine k_np (rest := [vI y]) (e := (b2i (decide (0 ≤ (pst (at0 v z)) ∧ (pst (at0 v z)) < 6)))) hx nX3_39 dX3_widthsAlong_25 (c_X5_isPost (z := (pst (at0 v z))) (by omega)) rfl rfl rfl ⟨rfl, rfl⟩ ⟨by decide, by decide⟩ ?_
        refine k_beq hx dX3_widthsAlong_28 (fun h_28 => absurd h_28 (by omega)) (fun h_28 => ?_)
        refine k_aload_n hx dX3_widthsAlong_31 0 rfl ?_
        refine k_get (v := vR g (s + 1)) hx fX3_9 dX3_widthsAlong_32 hS.2.2.2.1 hS.1 rfl ?_
        refine k_iload hx dX3_widthsAlong_35 4 rfl ?_
        refine k_iald (v := (A.1.getD (pst (at0 v k)).toNat 0)) hx dX3_widthsAlong_37 hS.2.2.2.2.1 hS.2.1 (by omega) (by decide) (e2) ?_
        refine k_goto hx dX3_widthsAlong_38 ?_
        refine k_iadd hx dX3_widthsAlong_42 ?_
        refine k_istore_n (ls' := [(0, vR g s), (1, vR g j), (2, vI (y + (A.1.getD (pst (at0 v k)).toNat 0))), (3, vI z), (4, vI (pst (at0 v z)))]) hx dX3_widthsAlong_43 rfl rfl (by decide) ?_
        refine k_iinc (ls' := [(0, vR g s), (1, vR g j), (2, vI (y + (A.1.getD (pst (at0 v k)).toNat 0))), (3, vI (z + 1)), (4, vI (pst (at0 v z)))]) hx dX3_widthsAlong_44 3 rfl rfl rfl (by decide) ?_
        refine k_goto hx dX3_widthsAlong_47 ?_
        refine K.sub [0, 1, 2, 3] rfl ?_
        exact ih (k + 1) _ (z + 1) (by omega) (by omega) (by omega) (by rw [hst, hy])
  refine k_iconst hx dX3_widthsAlong_0 ?_
  refine k_istore_n (ls' := [(0, vR g s), (1, vR g j), (2, vI 0)]) hx dX3_widthsAlong_1 rfl rfl (by decide) ?_
  refine k_iconst hx dX3_widthsAlong_2 ?_
  refine k_istore_n (ls' := [(0, vR g s), (1, vR g j), (2, vI 0), (3, vI 0)]) hx dX3_widthsAlong_3 rfl rfl (by decide) ?_
  exact loop (v.length + 1) 0 0 0 rfl (by omega) (by omega) rfl
/-- the past: the latest state first -/
def Pd (M : Mem) (ps : List Ab) : Prop := ∃ nx : Nat, nx < 6 ∧ M 12 1 = nx ∧ M 12 2 = ps.length ∧ ps.length ≤ 6 ∧ ∀ (j : Nat) (A : Ab), ps[j]? = some A → Sd M (14 + 11 * ((nx + 5 - j) % 6)) A
theorem isS_p {g : GE} {k : Nat} (h : k < 6) : IsS g (14 + 11 * k) := by
  rcases (show k = 0 ∨ k = 1 ∨ k = 2 ∨ k = 3 ∨ k = 4 ∨ k = 5 by omega) with rfl | rfl | rfl | rfl | rfl | rfl
  · exact isS_14
  · exact isS_25
  · exact isS_36
  · exact isS_47
  · exact isS_58
  · exact isS_69
theorem past_at {k : Nat} {z : Int} (hz : z = k) (hk : k < 6) : ([some 14, some 25, some 36, some 47, some 58, some 69] : List (Option Nat)).getD z.toNat none = some (14 + 11 * k) := by
  subst hz
  rcases (show k = 0 ∨ k = 1 ∨ k = 2 ∨ k = 3 ∨ k = 4 ∨ k = 5 by omega) with rfl | rfl | rfl | rfl | rfl | rfl <;> rfl
theorem Pd.same {M M' : Mem} {ps : List Ab} (h : Pd M ps) (ho : ∀ a, 12 ≤ a → a < 80 → M' a = M a) : Pd M' ps := by
  obtain ⟨nx, h1, h2, h3, h4, h5⟩ := h
  refine ⟨nx, h1, by rw [ho 12 (by omega) (by omega)]; exact h2, by rw [ho 12 (by omega) (by omega)]; exact h3, h4, fun j A hj => (h5 j A hj).same (fun a ha hb => ho a (by omega) (by omega))⟩

theorem c_X1_remember {g : GE} {l : Launch} {M : Mem} {A : Ab} {ps : List Ab} (hP : Pd M ps) (hA : Sd M 1 A) : Cv g l μX1_remember [vR g 12, vR g 1] M (fun M' => Pd M' ((A :: ps).take 6) ∧ ∀ a, (a < 12 ∨ 80 ≤ a) → M' a = M a) := by
  refine Cv.of (by decide +kernel) rfl rfl (fun x hx hr => ?_)
  obtain ⟨nx, h1, h2, h3, h4, h5⟩ := hP
  refine k_aload_n hx dX1_remember_0 0 rfl ?_
  refine k_get (v := vR g 13) hx fX1_11 dX1_remember_1 n_12 L_12 rfl ?_
  refine k_aload_n hx dX1_remember_4 0 rfl ?_
  refine k_get (v := vI nx) hx fX1_18 dX1_remember_5 n_12 L_12 (congrArg vI (show M 12 1 = nx from h2)) ?_
  refine k_aald (q := (14 + 11 * nx)) hx dX1_remember_8 n_13 L_13 (by decide) (by simp; omega) (by decide) (past_at (k := nx) rfl h1) ?_
  refine k_aload_n hx dX1_remember_9 1 rfl ?_
  refine k_vv (rest := []) hx vX1_25 dX1_remember_10 (c_X3_copyFrom (isS_p (g := g) h1) isS_1 hA (by omega)) (isS_p (g := g) h1).2.2.2.1 (isS_p (g := g) h1).1 rfl rfl rfl ⟨rfl, rfl⟩ ⟨by decide, by decide⟩ (fun M_10 p_10 => ?_)
  obtain ⟨q1, q2⟩ := p_10
  refine k_aload_n hx dX1_remember_13 0 rfl ?_
  refine k_aload_n hx dX1_remember_14 0 rfl ?_
  refine k_get (v := vI nx) hx fX1_18 dX1_remember_15 n_12 L_12 (congrArg vI (show M_10 12 1 = nx from by rw [q2 12 (by omega)]; exact h2)) ?_
  refine k_iconst hx dX1_remember_18 ?_
  refine k_iadd hx dX1_remember_19 ?_
  refine k_bipush hx dX1_remember_20 (by decide +kernel) ?_
  refine k_irem hx dX1_remember_22 (by omega) ?_
  refine k_putI (kz := 1) hx fX1_18 dX1_remember_23 n_12 L_12 rfl rfl (fun M_23 hM_23 => ?_)
  refine k_aload_n hx dX1_remember_26 0 rfl ?_
  refine k_aload_n hx dX1_remember_27 0 rfl ?_
  refine k_get (v := vI ps.length) hx fX1_22 dX1_remember_28 n_12 L_12 (congrArg vI (show M_23 12 2 = ps.length from by rw [hM_23, up_k (by omega), q2 12 (by omega)]; exact h3)) ?_
  refine k_iconst hx dX1_remember_31 ?_
  refine k_iadd hx dX1_remember_32 ?_
  refine k_bipush hx dX1_remember_33 (by decide +kernel) ?_
  refine k_sp (rest := [vR g 12]) (e := (min (ps.length + 1) 6)) hx sX1_29 dX1_remember_35 (c_min (a := (ps.length + 1)) (b := 6) (by omega)) rfl rfl rfl ⟨rfl, rfl⟩ ⟨by decide, by decide⟩ ?_
  refine k_putI (kz := 2) hx fX1_22 dX1_remember_38 n_12 L_12 rfl rfl (fun M_38 hM_38 => ?_)
  refine k_rv hx hr dX1_remember_41 ?_
  subst hM_38; subst hM_23
  have hmod : ((nx : Int) + 1) % 6 = (((nx + 1) % 6 : Nat) : Int) := by omega
  refine ⟨⟨(nx + 1) % 6, by omega, ?_, ?_, ?_, fun j B hj => ?_⟩, fun a ha => by rw [up_i (by omega), up_i (by omega)]; exact q2 a (by omega)⟩
  · rw [up_k (by omega), up_s, hmod]
  · rw [up_s, List.length_take, List.length_cons]; omega
  · rw [List.length_take, List.length_cons]; omega
  · have hne : ∀ a, a ≠ 12 → up (up M_10 12 1 (((nx : Int) + 1) % 6)) 12 2 (min ((ps.length : Int) + 1) 6) a = M_10 a := fun a ha => by rw [up_i ha, up_i ha]
    have hj6 : j < 6 := by
      have := (List.getElem?_eq_some_iff.mp hj).1
      rw [List.length_take] at this; omega
    rw [List.getElem?_take, if_pos hj6] at hj
    cases j with
    | zero =>
      rw [List.getElem?_cons_zero] at hj
      cases hj
      rw [show ((nx + 1) % 6 + 5 - 0) % 6 = nx by omega]
      exact q1.same (fun a _ _ => hne a (by omega))
    | succ j =>
      rw [List.getElem?_cons_succ] at hj
      have h6 := h5 j B hj
      rw [show ((nx + 1) % 6 + 5 - (j + 1)) % 6 = (nx + 5 - j) % 6 by omega]
      exact h6.same (fun a _ _ => by rw [hne a (by omega)]; exact q2 a (by omega))
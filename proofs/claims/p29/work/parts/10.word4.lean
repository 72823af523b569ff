/-! the class's word: rounds, the least start, periods, posts, pairs, windings, sameness -/
def rot (w : List Int) (a : Nat) : List Int := w.drop a ++ w.take a
theorem rot_len {w : List Int} {a : Nat} (h : a ≤ w.length) : (rot w a).length = w.length := by unfold rot; rw [List.length_append, List.length_take, List.length_drop]; omega
theorem rot_at {w : List Int} {a k : Nat} (ha : a ≤ w.length) (hk : k < w.length) : at0 (rot w a) k = if a + k < w.length then at0 w (a + k : Nat) else at0 w (a + k - w.length : Nat) := by
  have hd : (w.drop a).length = w.length - a := by rw [List.length_drop]
  unfold rot
  by_cases h : a + k < w.length
  · rw [if_pos h, at0_app (by omega), at0_drop h]
  · rw [if_neg h]
    have e : k = (w.drop a).length + (a + k - w.length) := by omega
    rw [e, at0_appr (by rw [List.length_take]; omega), at0_take (by omega) (by omega)]
    rw [← e]
theorem rot_cr {w : List Int} (h : Cr w) (a : Nat) : Cr (rot w a) := (h.drop a).app (h.take a)
def lexLt : List Int → List Int → Bool
  | x :: xs, y :: ys => if x = y then lexLt xs ys else decide (x < y)
  | _, _ => false
theorem lexLt_step {u v : List Int} {k : Nat} (h1 : k < u.length) (h2 : k < v.length) : lexLt (u.drop k) (v.drop k) = if at0 u k = at0 v k then lexLt (u.drop (k + 1)) (v.drop (k + 1)) else decide (at0 u k < at0 v k) := by
  rw [List.drop_eq_getElem_cons h1, List.drop_eq_getElem_cons h2, at0_n h1, at0_n h2]
  rfl
theorem lexLt_end {u v : List Int} {k : Nat} (h1 : u.length ≤ k) : lexLt (u.drop k) (v.drop k) = false := by
  rw [List.drop_eq_nil_of_le h1]; rfl
theorem lexLt_self : ∀ u : List Int, lexLt u u = false
  | [] => rfl
  | x :: xs => by unfold lexLt; rw [if_pos rfl]; exact lexLt_self xs
/-- the best of the starts below k -/
def lsF (w : List Int) : Nat → Nat
  | 0 => 0
  | k + 1 => if lexLt (rot w k) (rot w (lsF w k)) = true then k else lsF w k
def leastS (w : List Int) : Nat := lsF w w.length
def least (w : List Int) : List Int := rot w (leastS w)
theorem lsF_1 (w : List Int) : lsF w 1 = 0 := by unfold lsF; split <;> rfl
theorem lsF_lt (w : List Int) : ∀ k, lsF w (k + 1) ≤ k
  | 0 => by rw [lsF_1]; omega
  | k + 1 => by
    have := lsF_lt w k
    rw [lsF]
    split <;> omega
theorem leastS_le (w : List Int) : leastS w ≤ w.length := by
  unfold leastS
  cases h : w.length with
  | zero => simp [lsF]
  | succ n => have := lsF_lt w n; omega
theorem least_len (w : List Int) : (least w).length = w.length := rot_len (leastS_le w)
theorem least_cr {w : List Int} (h : Cr w) : Cr (least w) := rot_cr h _

theorem c_X4_atRound {g : GE} {l : Launch} {M : Mem} {i cap : Nat} {w : List Int} (hW : IsW g i cap) (hw : Wd M i w) (hc : w.length ≤ cap) {a k : Nat} {z : Int} (hz : z = a + k) (ha : a < w.length) (hk : k < w.length) : Cp g l μX4_atRound [vR g i, vI z] M (at0 (rot w a) k) := by
  refine Ci.of (by decide +kernel) rfl rfl (fun x hx hr => ?_)
  have hl := hw.1; have h480 := hW.2.2.2.2
  have he := rot_at (Nat.le_of_lt ha) hk
  refine k_aload_n hx dX4_atRound_0 0 rfl ?_
  refine k_iload_n hx dX4_atRound_1 1 rfl ?_
  refine k_aload_n hx dX4_atRound_2 0 rfl ?_
  refine k_get (v := vI (M i 1)) hx fX4_21 dX4_atRound_3 hW.2.2.1 hW.1 rfl ?_
  refine k_icmp_ge hx dX4_atRound_6 (by omega) (fun h_6 => ?_) (fun h_6 => ?_)
  · refine k_iload_n hx dX4_atRound_13 1 rfl ?_
    refine k_aload_n hx dX4_atRound_14 0 rfl ?_
    refine k_get (v := vI (M i 1)) hx fX4_21 dX4_atRound_15 hW.2.2.1 hW.1 rfl ?_
    refine k_isub hx dX4_atRound_18 ?_
    refine k_vp (rest := []) (e := (at0 w (z - M i 1))) hx vX4_37 dX4_atRound_19 (c_X4_at hW hw hc (z := z - M i 1) (by omega)) hW.2.2.1 hW.1 rfl rfl rfl ⟨rfl, rfl⟩ ⟨by decide, by decide⟩ ?_
    refine k_ri hx hr dX4_atRound_22 ?_
    exact ⟨by rw [he, if_neg (by omega)]; congr 1; omega, rfl⟩
  · refine k_iload_n hx dX4_atRound_9 1 rfl ?_
    refine k_goto hx dX4_atRound_10 ?_
    refine k_vp (rest := []) (e := (at0 w z)) hx vX4_37 dX4_atRound_19 (c_X4_at hW hw hc (z := z) (by omega)) hW.2.2.1 hW.1 rfl rfl rfl ⟨rfl, rfl⟩ ⟨by decide, by decide⟩ ?_
    refine k_ri hx hr dX4_atRound_22 ?_
    exact ⟨by rw [he, if_pos (by omega), hz]; rfl, rfl⟩
theorem c_X4_isLessFrom {g : GE} {l : Launch} {M : Mem} {i cap : Nat} {w : List Int} (hW : IsW g i cap) (hw : Wd M i w) (hc : w.length ≤ cap) {a b : Nat} (ha : a < w.length) (hb : b < w.length) : Cp g l μX4_isLessFrom [vR g i, vI a, vI b] M (b2i (lexLt (rot w a) (rot w b))) := by
  refine Ci.of (by decide +kernel) rfl rfl (fun x hx hr => ?_)
  have hl := hw.1; have h480 := hW.2.2.2.2
  have ra := rot_len (Nat.le_of_lt ha)
  have rb := rot_len (Nat.le_of_lt hb)
  have loop : ∀ (f : Nat), ∀ (k : Nat) (z : Int), z = k → k ≤ w.length → w.length - k < f → lexLt (rot w a) (rot w b) = lexLt ((rot w a).drop k) ((rot w b).drop k) → K x g 0 0 LAY (NN g) M 2 [(0, vR g i), (1, vI a), (2, vI b), (3, vI z)] [] := by
    intro f
    induction f with
    | zero => intro k z hz hk hf hlx; omega
    | succ f ih =>
      intro k z hz hk hf hlx
      refine k_iload_n hx dX4_isLessFrom_2 3 rfl ?_
      refine k_aload_n hx dX4_isLessFrom_3 0 rfl ?_
      refine k_get (v := vI (M i 1)) hx fX4_21 dX4_isLessFrom_4 hW.2.2.1 hW.1 rfl ?_
      refine k_icmp_ge hx dX4_isLessFrom_7 (by omega) (fun h_7 => ?_) (fun h_7 => ?_)
      · refine k_iconst hx dX4_isLessFrom_54 ?_
        refine k_rz hx hr dX4_isLessFrom_55 (by first | exact Or.inl rfl | exact Or.inr rfl | exact b2i_or _) ?_
        exact ⟨by rw [hlx, lexLt_end (by omega)]; rfl, rfl⟩
      · have c1 := op_cr (rot_cr hw.2.2 a) (k := k) (by omega)
        have c2 := op_cr (rot_cr hw.2.2 b) (k := k) (by omega)
        have hst := lexLt_step (u := rot w a) (v := rot w b) (k := k) (by omega) (by omega)
        refine k_aload_n hx dX4_isLessFrom_10 0 rfl ?_
        refine k_iload_n hx dX4_isLessFrom_11 1 rfl ?_
        refine k_iload_n hx dX4_isLessFrom_12 3 rfl ?_
        refine k_iadd hx dX4_isLessFrom_13 ?_
        refine k_vp (rest := []) (e := (at0 (rot w a) k)) hx vX4_55 dX4_isLessFrom_14 (c_X4_atRound hW hw hc (a := a) (k := k) (z := (a : Int) + z) (by omega) ha (by omega)) hW.2.2.1 hW.1 rfl rfl rfl ⟨rfl, rfl⟩ ⟨by decide, by decide⟩ ?_
        refine k_istore (ls' := [(0, vR g i), (1, vI a), (2, vI b), (3, vI z), (4, vI (at0 (rot w a) k))]) hx dX4_isLessFrom_17 rfl rfl (by decide) ?_
        refine k_aload_n hx dX4_isLessFrom_19 0 rfl ?_
        refine k_iload_n hx dX4_isLessFrom_20 2 rfl ?_
        refine k_iload_n hx dX4_isLessFrom_21 3 rfl ?_
        refine k_iadd hx dX4_isLessFrom_22 ?_
        refine k_vp (rest := []) (e := (at0 (rot w b) k)) hx vX4_55 dX4_isLessFrom_23 (c_X4_atRound hW hw hc (a := b) (k := k) (z := (b : Int) + z) (by omega) hb (by omega)) hW.2.2.1 hW.1 rfl rfl rfl ⟨rfl, rfl⟩ ⟨by decide, by decide⟩ ?_
        refine k_istore (ls' := [(0, vR g i), (1, vI a), (2, vI b), (3, vI z), (4, vI (at0 (rot w a) k)), (5, vI (at0 (rot w b) k))]) hx dX4_isLessFrom_26 rfl rfl (by decide) ?_
        refine k_iload hx dX4_isLessFrom_28 4 rfl ?_
        refine k_iload hx dX4_isLessFrom_30 5 rfl ?_
        refine k_icmp_eq hx dX4_isLessFrom_32 (by omega) (fun h_32 => ?_) (fun h_32 => ?_)
        · refine k_iinc (ls' := [(0, vR g i), (1, vI a), (2, vI b), (3, vI (z + 1)), (4, vI (at0 (rot w a) k)), (5, vI (at0 (rot w b) k))]) hx dX4_isLessFrom_48 3 rfl rfl rfl (by decide) ?_
          refine k_goto hx dX4_isLessFrom_51 ?_
          refine K.sub [0, 1, 2, 3] rfl ?_
          exact ih (k + 1) (z + 1) (by omega) (by omega) (by omega) (by rw [hlx, hst, if_pos h_32])
        · refine k_iload hx dX4_isLessFrom_35 4 rfl ?_
          refine k_iload hx dX4_isLessFrom_37 5 rfl ?_
          refine k_icmp_ge hx dX4_isLessFrom_39 (by omega) (fun h_39 => ?_) (fun h_39 => ?_)
          · refine k_iconst hx dX4_isLessFrom_46 ?_
            refine k_rz hx hr dX4_isLessFrom_47 (by first | exact Or.inl rfl | exact Or.inr rfl | exact b2i_or _) ?_
            exact ⟨by rw [hlx, hst, if_neg h_32]; first | exact b2i_t (by omega) | exact b2i_f (by omega), rfl⟩
          · refine k_iconst hx dX4_isLessFrom_42 ?_
            refine k_goto hx dX4_isLessFrom_43 ?_
            refine k_rz hx hr dX4_isLessFrom_47 (by first | exact Or.inl rfl | exact Or.inr rfl | exact b2i_or _) ?_
            exact ⟨by rw [hlx, hst, if_neg h_32]; first | exact b2i_t (by omega) | exact b2i_f (by omega), rfl⟩
  refine k_iconst hx dX4_isLessFrom_0 ?_
  refine k_istore_n (ls' := [(0, vR g i), (1, vI a), (2, vI b), (3, vI 0)]) hx dX4_isLessFrom_1 rfl rfl (by decide) ?_
  exact loop (w.length + 1) 0 0 rfl (by omega) (by omega) rfl
theorem c_X4_leastStart {g : GE} {l : Launch} {M : Mem} {i cap : Nat} {w : List Int} (hW : IsW g i cap) (hw : Wd M i w) (hc : w.length ≤ cap) : Cp g l μX4_leastStart [vR g i] M (leastS w) := by
  refine Ci.of (by decide +kernel) rfl rfl (fun x hx hr => ?_)
  have hl := hw.1; have h480 := hW.2.2.2.2
  have loop : ∀ (f : Nat), ∀ (k : Nat) (y z : Int), z = k → 1 ≤ k → (k ≤ w.length ∨ k = 1) → w.length - k < f → y = lsF w k → K x g 0 0 LAY (NN g) M 4 [(0, vR g i), (1, vI y), (2, vI z)] [] := by
    intro f
    induction f with
    | zero => intro k y z hz hk1 hk hf hy; omega
    | succ f ih =>
      intro k y z hz hk1 hk hf hy
      refine k_iload_n hx dX4_leastStart_4 2 rfl ?_
      refine k_aload_n hx dX4_leastStart_5 0 rfl ?_
      refine k_get (v := vI (M i 1)) hx fX4_21 dX4_leastStart_6 hW.2.2.1 hW.1 rfl ?_
      refine k_icmp_ge hx dX4_leastStart_9 (by omega) (fun h_9 => ?_) (fun h_9 => ?_)
      · refine k_iload_n hx dX4_leastStart_29 1 rfl ?_
        refine k_ri hx hr dX4_leastStart_30 ?_
        refine ⟨?_, rfl⟩
        rw [hy]
        by_cases hn : w.length = 0
        · have : k = 1 := by omega
          subst this
          rw [lsF_1]; unfold leastS; rw [hn]; rfl
        · have : k = w.length := by omega
          subst this
          rfl
      · have hb : lsF w k ≤ k - 1 := by have := lsF_lt w (k - 1); rwa [show k - 1 + 1 = k by omega] at this
        have hst : lsF w (k + 1) = if lexLt (rot w k) (rot w (lsF w k)) = true then k else lsF w k := rfl
        subst hy; subst hz
        refine k_aload_n hx dX4_leastStart_12 0 rfl ?_
        refine k_iload_n hx dX4_leastStart_13 2 rfl ?_
        refine k_iload_n hx dX4_leastStart_14 1 rfl ?_
        refine k_vp (rest := []) (e := (b2i (lexLt (rot w k) (rot w (lsF w k))))) hx vX4_51 dX4_leastStart_15 (c_X4_isLessFrom hW hw hc (a := k) (b := lsF w k) (by omega) (by omega)) hW.2.2.1 hW.1 rfl rfl rfl ⟨rfl, rfl⟩ ⟨by decide, by decide⟩ ?_
        refine k_ceq hx dX4_leastStart_18 (fun h_18 => ?_) (fun h_18 => ?_)
        · refine k_iinc (ls' := [(0, vR g i), (1, vI (lsF w k : Nat)), (2, vI ((k : Nat) + 1))]) hx dX4_leastStart_23 2 rfl rfl rfl (by decide) ?_
          refine k_goto hx dX4_leastStart_26 ?_
          exact ih (k + 1) _ ((k : Int) + 1) (by omega) (by omega) (by omega) (by omega) (by rw [hst, if_neg (by rw [h_18]; decide)])
        · refine k_iload_n hx dX4_leastStart_21 2 rfl ?_
          refine k_istore_n (ls' := [(0, vR g i), (1, vI (k : Nat)), (2, vI (k : Nat))]) hx dX4_leastStart_22 rfl rfl (by decide) ?_
          refine k_iinc (ls' := [(0, vR g i), (1, vI (k : Nat)), (2, vI ((k : Nat) + 1))]) hx dX4_leastStart_23 2 rfl rfl rfl (by decide) ?_
          refine k_goto hx dX4_leastStart_26 ?_
          exact ih (k + 1) _ ((k : Int) + 1) (by omega) (by omega) (by omega) (by omega) (by rw [hst, if_pos h_18])
  refine k_iconst hx dX4_leastStart_0 ?_
  refine k_istore_n (ls' := [(0, vR g i), (1, vI 0)]) hx dX4_leastStart_1 rfl rfl (by decide) ?_
  refine k_iconst hx dX4_leastStart_2 ?_
  refine k_istore_n (ls' := [(0, vR g i), (1, vI 0), (2, vI 1)]) hx dX4_leastStart_3 rfl rfl (by decide) ?_
  exact loop (w.length + 1) 1 0 1 rfl (by omega) (by omega) (by omega) (by rw [lsF_1]; rfl)
theorem c_X4_copyFromStart {g : GE} {l : Launch} {M : Mem} {i cap : Nat} (hW : IsW g i cap) {j cj : Nat} {v : List Int} (hJ : IsW g j cj) (hv : Wd M j v) (hcj : v.length ≤ cj) (hap : j ≠ i ∧ j ≠ i + 1 ∧ j + 1 ≠ i) (hsum : v.length ≤ cap) {a : Nat} (ha : a < v.length ∨ (v.length = 0 ∧ a = 0)) : Cv g l μX4_copyFromStart [vR g i, vR g j, vI a] M (fun M' => Wd M' i (rot v a) ∧ Off i M M') := by
  refine Cv.of (by decide +kernel) rfl rfl (fun x hx hr => ?_)
  have h480 := hW.2.2.2.2; have h480j := hJ.2.2.2.2
  have hrl : (rot v a).length = v.length := rot_len (by omega)
  have loop : ∀ (f : Nat), ∀ (k : Nat) (z : Int) (M' : Mem), z = k → k ≤ v.length → v.length - k < f → Wd M' i ((rot v a).take k) → Off i M M' → K x g 0 0 LAY (NN g) M' 7 [(0, vR g i), (1, vR g j), (2, vI a), (3, vI z)] [] := by
    intro f
    induction f with
    | zero => intro k z M' hz hk hf hwd ho; omega
    | succ f ih =>
      intro k z M' hz hk hf hwd ho
      have hv' := hv.off ho hap.1 hap.2.1 hap.2.2
      refine k_iload_n hx dX4_copyFromStart_7 3 rfl ?_
      refine k_aload_n hx dX4_copyFromStart_8 1 rfl ?_
      refine k_get (v := vI v.length) hx fX4_21 dX4_copyFromStart_9 hJ.2.2.1 hJ.1 (congrArg vI (show M' j 1 = v.length from hv'.1)) ?_
      refine k_icmp_ge hx dX4_copyFromStart_12 (by omega) (fun h_12 => ?_) (fun h_12 => ?_)
      · refine k_rv hx hr dX4_copyFromStart_33 ?_
        exact ⟨by rwa [List.take_of_length_le (by omega)] at hwd, ho⟩
      · have c1 := op_cr (rot_cr hv.2.2 a) (k := k) (by omega)
        refine k_aload_n hx dX4_copyFromStart_15 0 rfl ?_
        refine k_aload_n hx dX4_copyFromStart_16 1 rfl ?_
        refine k_iload_n hx dX4_copyFromStart_17 2 rfl ?_
        refine k_iload_n hx dX4_copyFromStart_18 3 rfl ?_
        refine k_iadd hx dX4_copyFromStart_19 ?_
        refine k_vp (rest := [vR g i]) (e := (at0 (rot v a) k)) hx vX4_55 dX4_copyFromStart_20 (c_X4_atRound hJ hv' hcj (a := a) (k := k) (z := (a : Int) + z) (by omega) (by omega) (by omega)) hJ.2.2.1 hJ.1 rfl rfl rfl ⟨rfl, rfl⟩ ⟨by decide, by decide⟩ ?_
        refine k_vi (rest := []) hx vX4_29 dX4_copyFromStart_23 (c_X4_add hW hwd (by rw [List.length_take]; omega) (by rw [List.length_take]; omega) (c := at0 (rot v a) k) c1) hW.2.2.1 hW.1 rfl rfl rfl ⟨rfl, rfl⟩ ⟨by decide, by decide⟩ (fun z_23 M_23 p_23 => ?_)
        obtain ⟨rfl, p1, p2, p3⟩ := p_23
        rw [take_at0 (by omega)] at p1
        refine k_pop hx dX4_copyFromStart_26 rfl ?_
        refine k_iinc (ls' := [(0, vR g i), (1, vR g j), (2, vI a), (3, vI (z + 1))]) hx dX4_copyFromStart_27 3 rfl rfl rfl (by decide) ?_
        refine k_goto hx dX4_copyFromStart_30 ?_
        exact ih (k + 1) (z + 1) M_23 (by omega) (by omega) (by omega) p1 (ho.tr p2)
  refine k_aload_n hx dX4_copyFromStart_0 0 rfl ?_
  refine k_iconst hx dX4_copyFromStart_1 ?_
  refine k_putI (kz := 1) hx fX4_21 dX4_copyFromStart_2 hW.2.2.1 hW.1 rfl rfl (fun M_2 hM_2 => ?_)
  refine k_iconst hx dX4_copyFromStart_5 ?_
  refine k_istore_n (ls' := [(0, vR g i), (1, vR g j), (2, vI a), (3, vI 0)]) hx dX4_copyFromStart_6 rfl rfl (by decide) ?_
  exact loop (v.length + 1) 0 0 M_2 rfl (by omega) (by omega) (by subst hM_2; rw [List.take_zero]; exact Wd.nil) (by rw [hM_2]; exact off_up)
abbrev Per (w : List Int) (p : Nat) : Prop := ∀ k, k < w.length → p ≤ k → at0 w k = at0 w (k - p : Nat)

theorem c_X4_repeatsAfter {g : GE} {l : Launch} {M : Mem} {i cap : Nat} {w : List Int} (hW : IsW g i cap) (hw : Wd M i w) (hc : w.length ≤ cap) {p : Nat} (hp : 1 ≤ p ∧ p ≤ w.length) : Cp g l μX4_repeatsAfter [vR g i, vI p] M (b2i (decide (Per w p))) := by
  refine Ci.of (by decide +kernel) rfl rfl (fun x hx hr => ?_)
  have hl := hw.1; have h480 := hW.2.2.2.2
  have loop : ∀ (f : Nat), ∀ (k : Nat) (z : Int), z = k → p ≤ k → k ≤ w.length → w.length - k < f → (∀ q, q < k → p ≤ q → at0 w q = at0 w (q - p : Nat)) → K x g 0 0 LAY (NN g) M 2 [(0, vR g i), (1, vI p), (2, vI z)] [] := by
    intro f
    induction f with
    | zero => intro k z hz hpk hk hf hall; omega
    | succ f ih =>
      intro k z hz hpk hk hf hall
      refine k_iload_n hx dX4_repeatsAfter_2 2 rfl ?_
      refine k_aload_n hx dX4_repeatsAfter_3 0 rfl ?_
      refine k_get (v := vI (M i 1)) hx fX4_21 dX4_repeatsAfter_4 hW.2.2.1 hW.1 rfl ?_
      refine k_icmp_ge hx dX4_repeatsAfter_7 (by omega) (fun h_7 => ?_) (fun h_7 => ?_)
      · refine k_iconst hx dX4_repeatsAfter_33 ?_
        refine k_rz hx hr dX4_repeatsAfter_34 (by first | exact Or.inl rfl | exact Or.inr rfl | exact b2i_or _) ?_
        exact ⟨b2i_t (fun q h1 h2 => hall q (by omega) h2), rfl⟩
      · have c1 := op_cr hw.2.2 (k := k) (by omega)
        have c2 := op_cr hw.2.2 (k := k - p) (by omega)
        have e1 : at0 w z = at0 w k := by rw [hz]
        have e2 : at0 w (z - p) = at0 w (k - p : Nat) := by congr 1; omega
        refine k_aload_n hx dX4_repeatsAfter_10 0 rfl ?_
        refine k_iload_n hx dX4_repeatsAfter_11 2 rfl ?_
        refine k_vp (rest := []) (e := (at0 w z)) hx vX4_37 dX4_repeatsAfter_12 (c_X4_at hW hw hc (z := z) (by omega)) hW.2.2.1 hW.1 rfl rfl rfl ⟨rfl, rfl⟩ ⟨by decide, by decide⟩ ?_
        refine k_aload_n hx dX4_repeatsAfter_15 0 rfl ?_
        refine k_iload_n hx dX4_repeatsAfter_16 2 rfl ?_
        refine k_iload_n hx dX4_repeatsAfter_17 1 rfl ?_
        refine k_isub hx dX4_repeatsAfter_18 ?_
        refine k_vp (rest := [vI (at0 w z)]) (e := (at0 w (z - p))) hx vX4_37 dX4_repeatsAfter_19 (c_X4_at hW hw hc (z := z - p) (by omega)) hW.2.2.1 hW.1 rfl rfl rfl ⟨rfl, rfl⟩ ⟨by decide, by decide⟩ ?_
        refine k_icmp_eq hx dX4_repeatsAfter_22 (by omega) (fun h_22 => ?_) (fun h_22 => ?_)
        · refine k_iinc (ls' := [(0, vR g i), (1, vI p), (2, vI (z + 1))]) hx dX4_repeatsAfter_27 2 rfl rfl rfl (by decide) ?_
          refine k_goto hx dX4_repeatsAfter_30 ?_
          refine ih (k + 1) (z + 1) (by omega) (by omega) (by omega) (by omega) (fun q h1 h2 => ?_)
          by_cases hq : q = k
          · subst hq; rw [← e1, ← e2]; exact h_22
          · exact hall q (by omega) h2
        · refine k_iconst hx dX4_repeatsAfter_25 ?_
          refine k_rz hx hr dX4_repeatsAfter_26 (by first | exact Or.inl rfl | exact Or.inr rfl | exact b2i_or _) ?_
          exact ⟨b2i_f (fun h => h_22 (by rw [e1, e2]; exact h k (by omega) hpk)), rfl⟩
  refine k_iload_n hx dX4_repeatsAfter_0 1 rfl ?_
  refine k_istore_n (ls' := [(0, vR g i), (1, vI p), (2, vI p)]) hx dX4_repeatsAfter_1 rfl rfl (by decide) ?_
  exact loop (w.length + 1) p p rfl (by omega) (by omega) (by omega) (fun q h1 h2 => absurd h1 (by omega))
def pwF (w : List Int) : Nat → Nat → Nat
  | 0, _ => 0
  | f + 1, p => if w.length < p then 0 else if w.length % p = 0 ∧ Per w p then w.length / p else pwF w f (p + 1)
def power (w : List Int) : Nat := pwF w (w.length + 1) 1
theorem emod_nat {a b : Nat} : (a : Int) % (b : Int) = ((a % b : Nat) : Int) := (Int.natCast_emod a b).symm
theorem ediv_nat {a b : Nat} : (a : Int) / (b : Int) = ((a / b : Nat) : Int) := (Int.natCast_ediv a b).symm

theorem c_X4_power {g : GE} {l : Launch} {M : Mem} {i cap : Nat} {w : List Int} (hW : IsW g i cap) (hw : Wd M i w) (hc : w.length ≤ cap) : Cp g l μX4_power [vR g i] M (power w) := by
  refine Ci.of (by decide +kernel) rfl rfl (fun x hx hr => ?_)
  have hl := hw.1; have h480 := hW.2.2.2.2
  have loop : ∀ (f : Nat), ∀ (p e : Nat) (z : Int), z = p → 1 ≤ p → w.length < e + p → pwF w e p = power w → p ≤ w.length + 1 → w.length + 2 - p ≤ f → K x g 0 0 LAY (NN g) M 2 [(0, vR g i), (1, vI z)] [] := by
    intro f
    induction f with
    | zero => intro p e z hz hp he hpw hpl hf; exact absurd hf (by omega)
    | succ f ih =>
      intro p e z hz hp he hpw hpl hf
      refine k_iload_n hx dX4_power_2 1 rfl ?_
      refine k_aload_n hx dX4_power_3 0 rfl ?_
      refine k_get (v := vI (M i 1)) hx fX4_21 dX4_power_4 hW.2.2.1 hW.1 rfl ?_
      refine k_icmp_gt hx dX4_power_7 (by omega) (fun h_7 => ?_) (fun h_7 => ?_)
      · refine k_iconst hx dX4_power_40 ?_
        refine k_ri hx hr dX4_power_41 ?_
        refine ⟨?_, rfl⟩
        rw [← hpw]
        cases e with
        | zero => rfl
        | succ e => rw [pwF, if_pos (by omega)]; rfl
      · subst hz
        obtain ⟨e, rfl⟩ : ∃ e2, e = e2 + 1 := ⟨e - 1, by omega⟩
        rw [pwF, if_neg (by omega)] at hpw
        have hem := emod_nat (a := w.length) (b := p)
        have hed := ediv_nat (a := w.length) (b := p)
        rw [← hl] at hem hed
        refine k_aload_n hx dX4_power_10 0 rfl ?_
        refine k_get (v := vI (M i 1)) hx fX4_21 dX4_power_11 hW.2.2.1 hW.1 rfl ?_
        refine k_iload_n hx dX4_power_14 1 rfl ?_
        refine k_irem hx dX4_power_15 (by omega) ?_
        refine k_ifne hx dX4_power_16 (by rw [hem]; have := Nat.mod_lt w.length (show p > 0 by omega); omega) (fun h_16 => ?_) (fun h_16 => ?_)
        · refine k_iinc (ls' := [(0, vR g i), (1, vI ((p : Nat) + 1))]) hx dX4_power_34 1 rfl rfl rfl (by decide) ?_
          refine k_goto hx dX4_power_37 ?_
          exact ih (p + 1) e ((p : Int) + 1) (by omega) (by omega) (by omega) (by rw [← hpw, if_neg (fun q => by first | exact h_24 q.2 | (rw [hem] at h_16; omega))]) (by omega) (by omega)
        · refine k_aload_n hx dX4_power_19 0 rfl ?_
          refine k_iload_n hx dX4_power_20 1 rfl ?_
          refine k_vp (rest := []) (e := (b2i (decide (Per w p)))) hx vX4_58 dX4_power_21 (c_X4_repeatsAfter hW hw hc (p := p) (by omega)) hW.2.2.1 hW.1 rfl rfl rfl ⟨rfl, rfl⟩ ⟨by decide, by decide⟩ ?_
          refine k_beq hx dX4_power_24 (fun h_24 => ?_) (fun h_24 => ?_)
          · refine k_iinc (ls' := [(0, vR g i), (1, vI ((p : Nat) + 1))]) hx dX4_power_34 1 rfl rfl rfl (by decide) ?_
            refine k_goto hx dX4_power_37 ?_
            exact ih (p + 1) e ((p : Int) + 1) (by omega) (by omega) (by omega) (by rw [← hpw, if_neg (fun q => by first | exact h_24 q.2 | (rw [hem] at h_16; omega))]) (by omega) (by omega)
          · refine k_aload_n hx dX4_power_27 0 rfl ?_
            refine k_get (v := vI (M i 1)) hx fX4_21 dX4_power_28 hW.2.2.1 hW.1 rfl ?_
            refine k_iload_n hx dX4_power_31 1 rfl ?_
            refine k_idiv hx dX4_power_32 (by omega) ?_
            refine k_ri hx hr dX4_power_33 ?_
            exact ⟨by rw [hed, ← hpw, if_pos ⟨by rw [hem] at h_16; omega, h_24⟩], rfl⟩
  refine k_iconst hx dX4_power_0 ?_
  refine k_istore_n (ls' := [(0, vR g i), (1, vI 1)]) hx dX4_power_1 rfl rfl (by decide) ?_
  exact loop (w.length + 1) 1 (w.length + 1) 1 rfl (by omega) (by omega) rfl (by omega) (by omega)

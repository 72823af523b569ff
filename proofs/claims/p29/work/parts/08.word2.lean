/-! the class's word: words put behind one another, turned, repeated -/
theorem take_at0 {v : List Int} {k : Nat} (h : k < v.length) : v.take k ++ [at0 v k] = v.take (k + 1) := by
  rw [at0_n h, List.take_append_getElem h]
theorem at0_app {a b : List Int} {k : Nat} (h : k < a.length) : at0 (a ++ b) k = at0 a k := by
  rw [at0_n h, at0_n (by rw [List.length_append]; omega), List.getElem_append_left h]
theorem at0_mem {w : List Int} {k : Nat} (h : k < w.length) : at0 w k ∈ w := by rw [at0_n h]; exact List.getElem_mem h

theorem c_X4_addWord0 {g : GE} {l : Launch} {M : Mem} {i cap : Nat} {w : List Int} (hW : IsW g i cap) (hw : Wd M i w) (hc : w.length ≤ cap) {j cj : Nat} {v : List Int} (hJ : IsW g j cj) (hsum : w.length + v.length ≤ cap) (hb : ∀ M', Off i M M' → ∀ k, k ≤ v.length → Wd M' i (w ++ v.take k) → ∃ u, Wd M' j u ∧ u.length ≤ cj ∧ ∀ q : Nat, q < v.length → at0 u q = at0 v q) (hv : Wd M j v) : Cv g l μX4_addWord [vR g i, vR g j] M (fun M' => Wd M' i (w ++ v) ∧ Off i M M') := by
  refine Cv.of (by decide +kernel) rfl rfl (fun x hx hr => ?_)
  have hl := hw.1; have h480 := hW.2.2.2.2; have hlv := hv.1; have h480j := hJ.2.2.2.2
  have loop : ∀ (f : Nat), ∀ (k : Nat) (z : Int) (M' : Mem), z = k → k ≤ v.length → v.length - k < f → Wd M' i (w ++ v.take k) → Off i M M' → K x g 0 0 LAY (NN g) M' 7 [(0, vR g i), (1, vR g j), (2, vI v.length), (3, vI z)] [] := by
    intro f
    induction f with
    | zero => intro k z M' hz hk hf hwd ho; omega
    | succ f ih =>
      intro k z M' hz hk hf hwd ho
      refine k_iload_n hx dX4_addWord_7 3 rfl ?_
      refine k_iload_n hx dX4_addWord_8 2 rfl ?_
      refine k_icmp_ge hx dX4_addWord_9 (by omega) (fun h_9 => ?_) (fun h_9 => ?_)
      · refine k_rv hx hr dX4_addWord_28 ?_
        exact ⟨by rwa [List.take_of_length_le (by omega)] at hwd, ho⟩
      · obtain ⟨u, hu, huc, hue⟩ := hb M' ho k hk hwd
        have hkl : k < v.length := by omega
        have hez : at0 u z = at0 v k := by rw [hz]; exact hue k hkl
        have hcr := hv.2.2 _ (at0_mem hkl)
        refine k_aload_n hx dX4_addWord_12 0 rfl ?_
        refine k_aload_n hx dX4_addWord_13 1 rfl ?_
        refine k_iload_n hx dX4_addWord_14 3 rfl ?_
        refine k_vp (rest := [vR g i]) (e := (at0 u z)) hx vX4_37 dX4_addWord_15 (c_X4_at hJ hu huc (z := z) (by omega)) hJ.2.2.1 hJ.1 rfl rfl rfl ⟨rfl, rfl⟩ ⟨by decide, by decide⟩ ?_
        refine k_vi (rest := []) hx vX4_29 dX4_addWord_18 (c_X4_add hW hwd (by simp; omega) (by simp; omega) (c := at0 u z) (by rw [hez]; exact hcr)) hW.2.2.1 hW.1 rfl rfl rfl ⟨rfl, rfl⟩ ⟨by decide, by decide⟩ (fun z_18 M_18 p_18 => ?_)
        obtain ⟨rfl, p1, p2, p3⟩ := p_18
        rw [hez, List.append_assoc, take_at0 hkl] at p1
        refine k_pop hx dX4_addWord_21 rfl ?_
        refine k_iinc (ls' := [(0, vR g i), (1, vR g j), (2, vI v.length), (3, vI (z + 1))]) hx dX4_addWord_22 3 rfl rfl rfl (by decide) ?_
        refine k_goto hx dX4_addWord_25 ?_
        exact ih (k + 1) (z + 1) M_18 (by omega) (by omega) (by omega) p1 (ho.tr p2)
  refine k_aload_n hx dX4_addWord_0 1 rfl ?_
  refine k_get (v := vI v.length) hx fX4_21 dX4_addWord_1 hJ.2.2.1 hJ.1 (congrArg vI (show M j 1 = v.length from hv.1)) ?_
  refine k_istore_n (ls' := [(0, vR g i), (1, vR g j), (2, vI v.length)]) hx dX4_addWord_4 rfl rfl (by decide) ?_
  refine k_iconst hx dX4_addWord_5 ?_
  refine k_istore_n (ls' := [(0, vR g i), (1, vR g j), (2, vI v.length), (3, vI 0)]) hx dX4_addWord_6 rfl rfl (by decide) ?_
  exact loop (v.length + 1) 0 0 M rfl (by omega) (by omega) (by simpa using hw) Off.rf
/-- behind its own word too -/
theorem c_X4_addWord {g : GE} {l : Launch} {M : Mem} {i cap : Nat} {w : List Int} (hW : IsW g i cap) (hw : Wd M i w) (hc : w.length ≤ cap) {j cj : Nat} {v : List Int} (hJ : IsW g j cj) (hv : Wd M j v) (hcj : v.length ≤ cj) (hap : j ≠ i → j ≠ i + 1 ∧ j + 1 ≠ i) (hvw : j = i → v = w) (hsum : w.length + v.length ≤ cap) : Cv g l μX4_addWord [vR g i, vR g j] M (fun M' => Wd M' i (w ++ v) ∧ Off i M M') := by
  refine c_X4_addWord0 hW hw hc hJ hsum (fun M' ho k hk hk2 => ?_) hv
  by_cases h : j = i
  · subst h
    have := hvw rfl
    subst this
    have e : cap = cj := by
      have h1 := hW.2.1.symm.trans hJ.2.1
      simpa using h1
    subst e
    exact ⟨_, hk2, by simp; omega, fun q hq => at0_app hq⟩
  · exact ⟨v, hv.off ho h (hap h).1 (hap h).2, hcj, fun q _ => rfl⟩
theorem Wd.nil {M : Mem} {i : Nat} : Wd (up M i 1 0) i [] := ⟨up_s, fun k c h => by simp at h, fun c h => by cases h⟩

theorem c_X4_copyFrom {g : GE} {l : Launch} {M : Mem} {i cap : Nat} (hW : IsW g i cap) {j cj : Nat} {v : List Int} (hJ : IsW g j cj) (hv : Wd M j v) (hcj : v.length ≤ cj) (hap : j ≠ i ∧ j ≠ i + 1 ∧ j + 1 ≠ i) (hsum : v.length ≤ cap) : Cv g l μX4_copyFrom [vR g i, vR g j] M (fun M' => Wd M' i v ∧ Off i M M') := by
  refine Cv.of (by decide +kernel) rfl rfl (fun x hx hr => ?_)
  refine k_aload_n hx dX4_copyFrom_0 0 rfl ?_
  refine k_iconst hx dX4_copyFrom_1 ?_
  refine k_putI (kz := 1) hx fX4_21 dX4_copyFrom_2 hW.2.2.1 hW.1 rfl rfl (fun M_2 hM_2 => ?_)
  refine k_aload_n hx dX4_copyFrom_5 0 rfl ?_
  refine k_aload_n hx dX4_copyFrom_6 1 rfl ?_
  refine k_vv (rest := []) hx vX4_33 dX4_copyFrom_7 (c_X4_addWord hW (w := []) (by rw [hM_2]; exact Wd.nil) (by simp) hJ (v := v) (by rw [hM_2]; exact hv.off off_up hap.1 hap.2.1 hap.2.2) hcj (fun _ => hap.2) (fun h => absurd h hap.1) (by simpa using hsum)) hW.2.2.1 hW.1 rfl rfl rfl ⟨rfl, rfl⟩ ⟨by decide, by decide⟩ (fun M_7 p_7 => ?_)
  refine k_rv hx hr dX4_copyFrom_10 ?_
  subst hM_2; exact ⟨by simpa using p_7.1, off_up.tr p_7.2⟩
def slc (v : List Int) (a b : Nat) : List Int := (v.take b).drop a
theorem slc_len {v : List Int} {a b : Nat} (h : b ≤ v.length) : (slc v a b).length = b - a := by unfold slc; simp; omega
theorem trn_len (v : List Int) : (trn v).length = v.length := by unfold trn; simp
theorem trn_at {v : List Int} {k : Nat} (h : k < v.length) : at0 (trn v) k = op (at0 v (v.length - 1 - k : Nat)) := by
  rw [at0_n (by rw [trn_len]; exact h), at0_n (by omega)]
  simp [trn, List.getElem_reverse]
theorem slc_at {v : List Int} {a b k : Nat} (hb : b ≤ v.length) (h : k < b - a) : at0 (slc v a b) k = at0 v (a + k : Nat) := by
  rw [at0_n (by rw [slc_len hb]; exact h), at0_n (by omega)]
  simp [slc]
theorem slc_cr {v : List Int} (h : Cr v) (a b : Nat) : Cr (slc v a b) := (h.take b).drop a

theorem c_X4_addTurnedPart {g : GE} {l : Launch} {M : Mem} {i cap : Nat} {w : List Int} (hW : IsW g i cap) (hw : Wd M i w) (hc : w.length ≤ cap) {j cj : Nat} {v : List Int} {a b : Nat} (hJ : IsW g j cj) (hv : Wd M j v) (hcj : v.length ≤ cj) (hap : j ≠ i → j ≠ i + 1 ∧ j + 1 ≠ i) (hvw : j = i → v = w) (hab : a ≤ b) (hbv : b ≤ v.length) : Ci g l μX4_addTurnedPart [vR g i, vR g j, vI a, vI b] M (fun z M' => Off i M M' ∧ ((z = 1 ∧ w.length + (b - a) ≤ cap ∧ Wd M' i (w ++ trn (slc v a b))) ∨ (z = 0 ∧ cap < w.length + (b - a)))) := by
  refine Ci.of (by decide +kernel) rfl rfl (fun x hx hr => ?_)
  have hl := hw.1; have h480 := hW.2.2.2.2; have hlv := hv.1; have h480j := hJ.2.2.2.2
  have hsl := slc_len (a := a) hbv
  have htl := trn_len (slc v a b)
  have hb : ∀ (M' : Mem) (s : List Int), Off i M M' → Wd M' i (w ++ s) → (w ++ s).length ≤ cap → ∃ u, Wd M' j u ∧ u.length ≤ cj ∧ ∀ q : Nat, q < v.length → at0 u q = at0 v q := by
    intro M' s ho hk2 hk3
    by_cases h : j = i
    · subst h
      have := hvw rfl
      subst this
      have e : cap = cj := by
        have h1 := hW.2.1.symm.trans hJ.2.1
        simpa using h1
      subst e
      exact ⟨_, hk2, hk3, fun q hq => at0_app hq⟩
    · exact ⟨v, hv.off ho h (hap h).1 (hap h).2, hcj, fun q _ => rfl⟩
  have loop : ∀ (f : Nat), ∀ (k : Nat) (z : Int) (M' : Mem), z = b - 1 - k → k ≤ b - a → b - a - k < f → w.length + k ≤ cap → Wd M' i (w ++ (trn (slc v a b)).take k) → Off i M M' → K x g 0 0 LAY (NN g) M' 5 [(0, vR g i), (1, vR g j), (2, vI a), (3, vI b), (4, vI z)] [] := by
    intro f
    induction f with
    | zero => intro k z M' hz hk hf hkc hwd ho; omega
    | succ f ih =>
      intro k z M' hz hk hf hkc hwd ho
      refine k_iload hx dX4_addTurnedPart_5 4 rfl ?_
      refine k_iload_n hx dX4_addTurnedPart_7 2 rfl ?_
      refine k_icmp_lt hx dX4_addTurnedPart_8 (by omega) (fun h_8 => ?_) (fun h_8 => ?_)
      · refine k_iconst hx dX4_addTurnedPart_35 ?_
        refine k_rz hx hr dX4_addTurnedPart_36 (by first | exact Or.inl rfl | exact Or.inr rfl | exact b2i_or _) ?_
        exact ⟨ho, Or.inl ⟨rfl, by omega, by rwa [List.take_of_length_le (by omega)] at hwd⟩⟩
      · obtain ⟨u, hu, huc, hue⟩ := hb M' _ ho hwd (by simp; omega)
        have hkl : k < b - a := by omega
        have hzn : z = ((b - 1 - k : Nat) : Int) := by omega
        have hez : at0 u z = at0 v (b - 1 - k : Nat) := by rw [hzn]; exact hue _ (by omega)
        have hcr := hv.2.2 _ (at0_mem (w := v) (k := b - 1 - k) (by omega))
        have hop := op_rg hcr
        have het : at0 (trn (slc v a b)) k = op (at0 u z) := by
          rw [trn_at (by omega), slc_at hbv (by omega), hez]
          congr 3
          omega
        refine k_aload_n hx dX4_addTurnedPart_11 0 rfl ?_
        refine k_aload_n hx dX4_addTurnedPart_12 1 rfl ?_
        refine k_iload hx dX4_addTurnedPart_13 4 rfl ?_
        refine k_vp (rest := [vR g i]) (e := (at0 u z)) hx vX4_37 dX4_addTurnedPart_15 (c_X4_at hJ hu huc (z := z) (by omega)) hJ.2.2.1 hJ.1 rfl rfl rfl ⟨rfl, rfl⟩ ⟨by decide, by decide⟩ ?_
        refine k_np (rest := [vR g i]) (e := (op (at0 u z))) hx nX4_25 dX4_addTurnedPart_18 (c_X5_opposite (z := at0 u z) (by rw [hez]; omega)) rfl rfl rfl ⟨rfl, rfl⟩ ⟨by decide, by decide⟩ ?_
        by_cases hfull : w.length + k < cap
        rotate_left
        · refine k_vi (rest := []) hx vX4_29 dX4_addTurnedPart_21 (c_X4_addF hW hwd (by simp; omega) (by simp; omega) (c := op (at0 u z))) hW.2.2.1 hW.1 rfl rfl rfl ⟨rfl, rfl⟩ ⟨by decide, by decide⟩ (fun z_21 M_21 p_21 => ?_)
          obtain ⟨rfl, rfl⟩ := p_21
          refine k_ifne hx dX4_addTurnedPart_24 (by omega) (fun h_24 => absurd rfl h_24) (fun h_24 => ?_)
          refine k_iconst hx dX4_addTurnedPart_27 ?_
          refine k_rz hx hr dX4_addTurnedPart_28 (Or.inl rfl) ?_
          exact ⟨ho, Or.inr ⟨rfl, by omega⟩⟩
        refine k_vi (rest := []) hx vX4_29 dX4_addTurnedPart_21 (c_X4_add hW hwd (by simp; omega) (by simp; omega) (c := op (at0 u z)) (by rw [hez]; exact hop)) hW.2.2.1 hW.1 rfl rfl rfl ⟨rfl, rfl⟩ ⟨by decide, by decide⟩ (fun z_21 M_21 p_21 => ?_)
        obtain ⟨rfl, p1, p2, p3⟩ := p_21
        rw [List.append_assoc, ← het, take_at0 (by omega)] at p1
        refine k_ifne hx dX4_addTurnedPart_24 (by omega) (fun h_24 => ?_) (fun h_24 => absurd h_24 (by omega))
        refine k_iinc (ls' := [(0, vR g i), (1, vR g j), (2, vI a), (3, vI b), (4, vI (z + (-1)))]) hx dX4_addTurnedPart_29 4 rfl rfl rfl (by decide) ?_
        refine k_goto hx dX4_addTurnedPart_32 ?_
        exact ih (k + 1) (z + -1) M_21 (by omega) (by omega) (by omega) (by omega) p1 (ho.tr p2)
  refine k_iload_n hx dX4_addTurnedPart_0 3 rfl ?_
  refine k_iconst hx dX4_addTurnedPart_1 ?_
  refine k_isub hx dX4_addTurnedPart_2 ?_
  refine k_istore (ls' := [(0, vR g i), (1, vR g j), (2, vI a), (3, vI b), (4, vI (b - 1))]) hx dX4_addTurnedPart_3 rfl rfl (by decide) ?_
  exact loop (b - a + 1) 0 _ M (by omega) (by omega) (by omega) (by omega) (by simpa using hw) Off.rf
theorem slc_all (v : List Int) : slc v 0 v.length = v := by simp [slc]
theorem c_X4_addTurned {g : GE} {l : Launch} {M : Mem} {i cap : Nat} {w : List Int} (hW : IsW g i cap) (hw : Wd M i w) (hc : w.length ≤ cap) {j cj : Nat} {v : List Int} (hJ : IsW g j cj) (hv : Wd M j v) (hcj : v.length ≤ cj) (hap : j ≠ i ∧ j ≠ i + 1 ∧ j + 1 ≠ i) (hsum : w.length + v.length ≤ cap) : Cv g l μX4_addTurned [vR g i, vR g j] M (fun M' => Wd M' i (w ++ trn v) ∧ Off i M M') := by
  refine Cv.of (by decide +kernel) rfl rfl (fun x hx hr => ?_)
  have hl := hw.1; have h480 := hW.2.2.2.2; have hlv := hv.1; have h480j := hJ.2.2.2.2
  refine k_aload_n hx dX4_addTurned_0 0 rfl ?_
  refine k_aload_n hx dX4_addTurned_1 1 rfl ?_
  refine k_iconst hx dX4_addTurned_2 ?_
  refine k_aload_n hx dX4_addTurned_3 1 rfl ?_
  refine k_get (v := vI v.length) hx fX4_21 dX4_addTurned_4 hJ.2.2.1 hJ.1 (congrArg vI (show M j 1 = v.length from hv.1)) ?_
  refine k_vi (rest := []) hx vX4_40 dX4_addTurned_7 (c_X4_addTurnedPart hW hw hc hJ hv hcj (fun _ => hap.2) (fun h => absurd h hap.1) (a := 0) (b := v.length) (by omega) (by omega)) hW.2.2.1 hW.1 rfl rfl rfl ⟨rfl, rfl⟩ ⟨by decide, by decide⟩ (fun z_7 M_7 p_7 => ?_)
  refine k_pop hx dX4_addTurned_10 rfl ?_
  refine k_rv hx hr dX4_addTurned_11 ?_
  obtain ⟨ho, h | h⟩ := p_7
  · exact ⟨by rw [← slc_all v]; rw [slc_all v]; have := h.2.2; rwa [slc_all] at this, ho⟩
  · exact absurd h.2 (by omega)
def rpt : Nat → List Int → List Int
  | 0, _ => []
  | n + 1, s => s ++ rpt n s
theorem rpt_len (n : Nat) (s : List Int) : (rpt n s).length = n * s.length := by
  induction n with
  | zero => simp [rpt]
  | succ n ih => rw [rpt, List.length_append, ih, Nat.succ_mul]; omega
theorem rpt_succ (n : Nat) (s : List Int) : rpt (n + 1) s = rpt n s ++ s := by
  induction n with
  | zero => simp [rpt]
  | succ n ih => show s ++ rpt (n + 1) s = (s ++ rpt n s) ++ s; rw [ih, List.append_assoc]
theorem rpt_cr {s : List Int} (h : Cr s) (n : Nat) : Cr (rpt n s) := by
  induction n with
  | zero => intro c hc; cases hc
  | succ n ih => exact h.app ih

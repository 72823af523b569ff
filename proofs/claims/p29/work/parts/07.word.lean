/-! the class's word: at, add, addPulled, clear, dropLast, addWord, copyFrom -/
theorem Wd.lt {M : Mem} {i : Nat} {w : List Int} (h : Wd M i w) {z : Int} (h0 : 0 ≤ z) (h1 : z < w.length) : M (i + 1) z = at0 w z := by
  rw [h.get h0 h1]
  unfold at0
  rw [if_pos ⟨h0, h1⟩]
theorem at0_out {w : List Int} {z : Int} (h : ¬ (0 ≤ z ∧ z < w.length)) : at0 w z = -1 := by unfold at0; rw [if_neg h]
theorem at0_n {w : List Int} {k : Nat} (h : k < w.length) : at0 w (k : Int) = w[k] := by
  unfold at0
  rw [if_pos (by omega)]
  simp [List.getD_eq_getElem?_getD, h]
theorem at0_in {w : List Int} (hw : Cr w) {z : Int} (h0 : 0 ≤ z) (h1 : z < w.length) : 0 ≤ at0 w z ∧ at0 w z < 12 := by
  unfold at0
  rw [if_pos ⟨h0, h1⟩]
  exact hw.get (by omega)
theorem Cr.app {a b : List Int} (h : Cr a) (k : Cr b) : Cr (a ++ b) := fun c hc => (List.mem_append.mp hc).elim (h c) (k c)
theorem Cr.one {c : Int} (h : 0 ≤ c ∧ c < 12) : Cr [c] := fun d hd => by rw [List.mem_singleton.mp hd]; exact h
theorem Cr.sub {a b : List Int} (h : Cr b) (k : ∀ c ∈ a, c ∈ b) : Cr a := fun c hc => h c (k c hc)
theorem Cr.take {w : List Int} (h : Cr w) (k : Nat) : Cr (w.take k) := h.sub fun _ hc => List.mem_of_mem_take hc
theorem Cr.drop {w : List Int} (h : Cr w) (k : Nat) : Cr (w.drop k) := h.sub fun _ hc => List.mem_of_mem_drop hc
theorem cr_trn {w : List Int} (h : Cr w) : Cr (trn w) := fun c hc => by
  unfold trn at hc
  obtain ⟨d, hd, rfl⟩ := List.mem_map.mp (List.mem_reverse.mp hc)
  exact op_rg (h d hd)
/-- what add leaves -/
theorem Wd.add {M : Mem} {i : Nat} {w : List Int} {c : Int} (h : Wd M i w) (hc : 0 ≤ c ∧ c < 12) : Wd (up (up M (i + 1) (M i 1) c) i 1 (M i 1 + 1)) i (w ++ [c]) := by
  refine ⟨?_, fun k d hk => ?_, h.2.2.app (Cr.one hc)⟩
  · rw [up_s, h.1, List.length_append]; simp
  · rw [up_i (show i + 1 ≠ i by omega)]
    by_cases hkl : k < w.length
    · rw [List.getElem?_append_left hkl] at hk
      rw [up_k (by rw [h.1]; omega)]
      exact h.2.1 k d hk
    · rw [List.getElem?_append_right (by omega)] at hk
      have h0 : k - w.length < 1 := (List.getElem?_eq_some_iff.mp hk).1
      have hke : k = w.length := by omega
      subst hke
      rw [Nat.sub_self] at hk
      cases hk
      rw [← h.1, up_s]
theorem Wd.cut {M : Mem} {i : Nat} {w : List Int} {k : Nat} (h : Wd M i w) (hk : k ≤ w.length) : Wd (up M i 1 k) i (w.take k) := by
  refine ⟨?_, fun j d hj => ?_, h.2.2.take k⟩
  · rw [up_s, List.length_take]; omega
  · rw [up_i (show i + 1 ≠ i by omega)]
    rw [List.getElem?_take] at hj
    split at hj
    · exact h.2.1 j d hj
    · cases hj
theorem off_up {i : Nat} {M : Mem} {k z : Int} : Off i M (up M i k z) := fun _ h1 _ => up_i h1
theorem off_up1 {i : Nat} {M : Mem} {k z : Int} : Off i M (up M (i + 1) k z) := fun _ _ h2 => up_i h2

theorem c_X4_at {g : GE} {l : Launch} {M : Mem} {i cap : Nat} {w : List Int} (hW : IsW g i cap) (hw : Wd M i w) (hc : w.length ≤ cap) {z : Int} (hz : -2147483648 ≤ z ∧ z < 2147483648) : Cp g l μX4_at [vR g i, vI z] M (at0 w z) := by
  refine Ci.of (by decide +kernel) rfl rfl (fun x hx hr => ?_)
  have hl := hw.1; have h480 := hW.2.2.2.2
  refine k_iload_n hx dX4_at_0 1 rfl ?_
  refine k_iflt hx dX4_at_1 (by omega) (fun h_1 => ?_) (fun h_1 => ?_)
  · refine k_iconst hx dX4_at_21 ?_
    refine k_ri hx hr dX4_at_22 ?_
    exact ⟨(at0_out (by omega)).symm, rfl⟩
  · refine k_iload_n hx dX4_at_4 1 rfl ?_
    refine k_aload_n hx dX4_at_5 0 rfl ?_
    refine k_get (v := vI (M i 1)) hx fX4_21 dX4_at_6 hW.2.2.1 hW.1 rfl ?_
    refine k_icmp_ge hx dX4_at_9 (by omega) (fun h_9 => ?_) (fun h_9 => ?_)
    · refine k_iconst hx dX4_at_21 ?_
      refine k_ri hx hr dX4_at_22 ?_
      exact ⟨(at0_out (by omega)).symm, rfl⟩
    · refine k_aload_n hx dX4_at_12 0 rfl ?_
      refine k_get (v := vR g (i + 1)) hx fX4_15 dX4_at_13 hW.2.2.1 hW.1 rfl ?_
      refine k_iload_n hx dX4_at_16 1 rfl ?_
      refine k_iald (v := (M (i + 1) z)) hx dX4_at_17 hW.2.2.2.1 hW.2.1 (by omega) (by have := hW.2.2.2.2; omega) (rfl) ?_
      have he := hw.lt (z := z) (by omega) (by omega)
      refine k_goto hx dX4_at_18 ?_
      refine k_ri hx hr dX4_at_22 ?_
      exact ⟨he, rfl⟩
theorem c_X4_clear {g : GE} {l : Launch} {M : Mem} {i cap : Nat} (hW : IsW g i cap) : Cv g l μX4_clear [vR g i] M (fun M' => M' = up M i 1 0) := by
  refine Cv.of (by decide +kernel) rfl rfl (fun x hx hr => ?_)
  refine k_aload_n hx dX4_clear_0 0 rfl ?_
  refine k_iconst hx dX4_clear_1 ?_
  refine k_putI (kz := 1) hx fX4_21 dX4_clear_2 hW.2.2.1 hW.1 rfl rfl (fun M_2 hM_2 => ?_)
  refine k_rv hx hr dX4_clear_5 ?_
  exact hM_2
theorem c_X4_add {g : GE} {l : Launch} {M : Mem} {i cap : Nat} {w : List Int} (hW : IsW g i cap) (hw : Wd M i w) (hc : w.length ≤ cap) (hf : w.length < cap) {c : Int} (hcc : 0 ≤ c ∧ c < 12) : Ci g l μX4_add [vR g i, vI c] M (fun z M' => z = 1 ∧ Wd M' i (w ++ [c]) ∧ Off i M M' ∧ ∀ q : Int, q ≠ w.length → M' (i + 1) q = M (i + 1) q) := by
  refine Ci.of (by decide +kernel) rfl rfl (fun x hx hr => ?_)
  have hl := hw.1; have h480 := hW.2.2.2.2
  refine k_aload_n hx dX4_add_0 0 rfl ?_
  refine k_get (v := vI (M i 1)) hx fX4_21 dX4_add_1 hW.2.2.1 hW.1 rfl ?_
  refine k_aload_n hx dX4_add_4 0 rfl ?_
  refine k_get (v := vR g (i + 1)) hx fX4_15 dX4_add_5 hW.2.2.1 hW.1 rfl ?_
  refine k_alen hx dX4_add_8 hW.2.2.2.1 hW.2.1 (by decide) ?_
  refine k_icmp_lt hx dX4_add_9 (by omega) (fun h_9 => ?_) (fun h_9 => absurd h_9 (by omega))
  refine k_aload_n hx dX4_add_14 0 rfl ?_
  refine k_get (v := vR g (i + 1)) hx fX4_15 dX4_add_15 hW.2.2.1 hW.1 rfl ?_
  refine k_aload_n hx dX4_add_18 0 rfl ?_
  refine k_get (v := vI (M i 1)) hx fX4_21 dX4_add_19 hW.2.2.1 hW.1 rfl ?_
  refine k_iload_n hx dX4_add_22 1 rfl ?_
  refine k_iastN hx dX4_add_23 hW.2.2.2.1 hW.2.1 (by omega) (by have := hW.2.2.2.2; omega) (fun M_23 hM_23 => ?_)
  refine k_aload_n hx dX4_add_24 0 rfl ?_
  refine k_dup hx dX4_add_25 rfl ?_
  refine k_get (v := vI (M i 1)) hx fX4_21 dX4_add_26 hW.2.2.1 hW.1 (congrArg vI (show M_23 i 1 = (M i 1) from by rw [hM_23, up_i (by omega)])) ?_
  refine k_iconst hx dX4_add_29 ?_
  refine k_iadd hx dX4_add_30 ?_
  refine k_putI (kz := 1) hx fX4_21 dX4_add_31 hW.2.2.1 hW.1 rfl rfl (fun M_31 hM_31 => ?_)
  refine k_iconst hx dX4_add_34 ?_
  refine k_rz hx hr dX4_add_35 (by first | exact Or.inl rfl | exact Or.inr rfl | exact b2i_or _) ?_
  subst hM_31; subst hM_23
  exact ⟨rfl, hw.add hcc, off_up1.tr off_up, fun q hq => by rw [up_i (by omega), up_k (by omega)]⟩
theorem c_X4_addF {g : GE} {l : Launch} {M : Mem} {i cap : Nat} {w : List Int} (hW : IsW g i cap) (hw : Wd M i w) (hc : w.length ≤ cap) (hf : w.length = cap) {c : Int} : Ci g l μX4_add [vR g i, vI c] M (fun z M' => z = 0 ∧ M' = M) := by
  refine Ci.of (by decide +kernel) rfl rfl (fun x hx hr => ?_)
  have hl := hw.1; have h480 := hW.2.2.2.2
  refine k_aload_n hx dX4_add_0 0 rfl ?_
  refine k_get (v := vI (M i 1)) hx fX4_21 dX4_add_1 hW.2.2.1 hW.1 rfl ?_
  refine k_aload_n hx dX4_add_4 0 rfl ?_
  refine k_get (v := vR g (i + 1)) hx fX4_15 dX4_add_5 hW.2.2.1 hW.1 rfl ?_
  refine k_alen hx dX4_add_8 hW.2.2.2.1 hW.2.1 (by decide) ?_
  refine k_icmp_lt hx dX4_add_9 (by omega) (fun h_9 => absurd h_9 (by omega)) (fun h_9 => ?_)
  refine k_iconst hx dX4_add_12 ?_
  refine k_rz hx hr dX4_add_13 (by first | exact Or.inl rfl | exact Or.inr rfl | exact b2i_or _) ?_
  exact ⟨rfl, rfl⟩
theorem psh_nil (c : Int) : psh [] c = [c] := by simp [psh]
theorem getLast_at {w : List Int} (h : 0 < w.length) : w.getLast? = some (at0 w (w.length - 1)) := by
  rw [List.getLast?_eq_getElem?, show ((w.length : Int) - 1) = ((w.length - 1 : Nat) : Int) by omega, at0_n (by omega), List.getElem?_eq_getElem]
theorem psh_pop {w : List Int} {c : Int} (h : 0 < w.length) (e : at0 w (w.length - 1) = op c) : psh w c = w.take (w.length - 1) := by
  unfold psh
  rw [if_pos (by rw [getLast_at h, e]), List.dropLast_eq_take]
theorem psh_add {w : List Int} {c : Int} (e : 0 < w.length → at0 w (w.length - 1) ≠ op c) : psh w c = w ++ [c] := by
  unfold psh
  rw [if_neg]
  intro q
  by_cases h : 0 < w.length
  · rw [getLast_at h] at q
    exact e h (Option.some.inj q)
  · have : w = [] := by cases w with | nil => rfl | cons a t => simp at h
    subst this
    simp at q
theorem cr_psh {w : List Int} {c : Int} (h : Cr w) (hc : 0 ≤ c ∧ c < 12) : Cr (psh w c) := by
  unfold psh
  split
  · exact h.sub fun d hd => (by rw [List.dropLast_eq_take] at hd; exact List.mem_of_mem_take hd)
  · exact h.app (Cr.one hc)
theorem psh_len {w : List Int} {c : Int} : (psh w c).length ≤ w.length + 1 := by
  unfold psh
  split <;> simp <;> omega

theorem c_X4_addPulled {g : GE} {l : Launch} {M : Mem} {i cap : Nat} {w : List Int} (hW : IsW g i cap) (hw : Wd M i w) (hc : w.length ≤ cap) (hf : w.length < cap) {c : Int} (hcc : 0 ≤ c ∧ c < 12) : Ci g l μX4_addPulled [vR g i, vI c] M (fun z M' => z = 1 ∧ Wd M' i (psh w c) ∧ Off i M M' ∧ ∀ q : Int, q ≠ w.length → M' (i + 1) q = M (i + 1) q) := by
  refine Ci.of (by decide +kernel) rfl rfl (fun x hx hr => ?_)
  have hl := hw.1; have h480 := hW.2.2.2.2; have hop := op_rg hcc
  refine k_aload_n hx dX4_addPulled_0 0 rfl ?_
  refine k_get (v := vI (M i 1)) hx fX4_21 dX4_addPulled_1 hW.2.2.1 hW.1 rfl ?_
  refine k_ifle hx dX4_addPulled_4 (by omega) (fun h_4 => ?_) (fun h_4 => ?_)
  · refine k_aload_n hx dX4_addPulled_37 0 rfl ?_
    refine k_iload_n hx dX4_addPulled_38 1 rfl ?_
    refine k_vi (rest := []) hx vX4_29 dX4_addPulled_39 (c_X4_add hW hw hc hf hcc) hW.2.2.1 hW.1 rfl rfl rfl ⟨rfl, rfl⟩ ⟨by decide, by decide⟩ (fun z_39 M_39 p_39 => ?_)
    obtain ⟨rfl, p1, p2, p3⟩ := p_39
    refine k_rz hx hr dX4_addPulled_42 (by first | exact Or.inl rfl | exact Or.inr rfl | exact b2i_or _) ?_
    have e : psh w c = w ++ [c] := psh_add (fun h0 => by rw [← hl]; omega)
    exact ⟨rfl, by rw [e]; exact p1, p2, p3⟩
  · refine k_aload_n hx dX4_addPulled_7 0 rfl ?_
    refine k_get (v := vR g (i + 1)) hx fX4_15 dX4_addPulled_8 hW.2.2.1 hW.1 rfl ?_
    refine k_aload_n hx dX4_addPulled_11 0 rfl ?_
    refine k_get (v := vI (M i 1)) hx fX4_21 dX4_addPulled_12 hW.2.2.1 hW.1 rfl ?_
    refine k_iconst hx dX4_addPulled_15 ?_
    refine k_isub hx dX4_addPulled_16 ?_
    refine k_iald (v := (at0 w (M i 1 - 1))) hx dX4_addPulled_17 hW.2.2.2.1 hW.2.1 (by omega) (by have := hW.2.2.2.2; omega) (hw.lt (by omega) (by omega)) ?_
    have ha := at0_in hw.2.2 (z := M i 1 - 1) (by omega) (by omega)
    refine k_iload_n hx dX4_addPulled_18 1 rfl ?_
    refine k_np (rest := [vI (at0 w (M i 1 - 1))]) (e := (op c)) hx nX4_25 dX4_addPulled_19 (c_X5_opposite (z := c) (by omega)) rfl rfl rfl ⟨rfl, rfl⟩ ⟨by decide, by decide⟩ ?_
    refine k_icmp_ne hx dX4_addPulled_22 (by omega) (fun h_22 => ?_) (fun h_22 => ?_)
    · refine k_aload_n hx dX4_addPulled_37 0 rfl ?_
      refine k_iload_n hx dX4_addPulled_38 1 rfl ?_
      refine k_vi (rest := []) hx vX4_29 dX4_addPulled_39 (c_X4_add hW hw hc hf hcc) hW.2.2.1 hW.1 rfl rfl rfl ⟨rfl, rfl⟩ ⟨by decide, by decide⟩ (fun z_39 M_39 p_39 => ?_)
      obtain ⟨rfl, p1, p2, p3⟩ := p_39
      refine k_rz hx hr dX4_addPulled_42 (by first | exact Or.inl rfl | exact Or.inr rfl | exact b2i_or _) ?_
      have e : psh w c = w ++ [c] := psh_add (fun h0 => by rw [← hl]; omega)
      exact ⟨rfl, by rw [e]; exact p1, p2, p3⟩
    · refine k_aload_n hx dX4_addPulled_25 0 rfl ?_
      refine k_dup hx dX4_addPulled_26 rfl ?_
      refine k_get (v := vI (M i 1)) hx fX4_21 dX4_addPulled_27 hW.2.2.1 hW.1 rfl ?_
      refine k_iconst hx dX4_addPulled_30 ?_
      refine k_isub hx dX4_addPulled_31 ?_
      refine k_putI (kz := 1) hx fX4_21 dX4_addPulled_32 hW.2.2.1 hW.1 rfl rfl (fun M_32 hM_32 => ?_)
      refine k_iconst hx dX4_addPulled_35 ?_
      refine k_rz hx hr dX4_addPulled_36 (by first | exact Or.inl rfl | exact Or.inr rfl | exact b2i_or _) ?_
      subst hM_32
      have e : psh w c = w.take (w.length - 1) := psh_pop (by omega) (by rw [← hl]; omega)
      refine ⟨rfl, ?_, off_up, fun q hq => by rw [up_i (by omega)]⟩
      rw [e, show M i 1 - 1 = ((w.length - 1 : Nat) : Int) by omega]
      exact hw.cut (by omega)

/-! the class's own methods: the pad, the slots, the questions -/
theorem Inv.pad {M M' : Mem} {A : Ab} {ps : List Ab} {sl : Option Ab × Option Ab} {t t' : List Int} (h : Inv M (A, ps, sl, t)) (ht : Pw M' t') (ho : ∀ a, a < 104 → M' a = M a) : Inv M' (A, ps, sl, t') := by
  obtain ⟨h1, h2, h3, h4, h5⟩ := h
  exact ⟨h1.same (fun a _ _ => ho a (by omega)), h2.same (fun a _ _ => ho a (by omega)), fun k hk => by rw [ho 103 (by omega)]; exact h3 k hk, fun k A hk hs => (h4 k A hk hs).same (fun a _ _ => ho a (by omega)), ht⟩
theorem Inv.scis {M M' : Mem} {σ : Sg} (h : Inv M σ) (ho : ∀ a, (a < 110 ∨ 114 ≤ a) → M' a = M a) : Inv M' σ := by
  obtain ⟨h1, h2, h3, h4, h5⟩ := h
  refine ⟨h1.same (fun a _ _ => ho a (by omega)), h2.same (fun a _ _ => ho a (by omega)), fun k hk => by rw [ho 103 (by omega)]; exact h3 k hk, fun k A hk hs => (h4 k A hk hs).same (fun a _ _ => ho a (by omega)), ?_⟩
  unfold Pw; rw [ho 104 (by omega), ho 105 (by omega)]; exact h5
theorem Pw.nil {M : Mem} : Pw (up M 104 1 0) [] := ⟨up_s, by decide, fun k h => by simp at h, fun c h => by cases h⟩
theorem chIn_le (n : Nat) : chIn n ≤ 8 := by have := chF_le 8 0 n; unfold chIn; omega
theorem fgo_rg : ∀ (w : List Int) (z sg : Int) (os : List (Int × Int × Int)), 0 ≤ z → -6 ≤ fgo w z sg os ∧ fgo w z sg os ≤ z + w.length
  | [], z, sg, os, h => by rw [fgo]; simp only [List.length_nil]; split <;> omega
  | c :: t, z, sg, os, h => by
    rw [fgo]
    split
    · simp only [List.length_cons]; omega
    · rename_i q _
      have := fgo_rg t (z + 1) q.1 q.2 (by omega)
      simp only [List.length_cons]; omega
theorem faultT_rg {M : Mem} {w : List Int} (h : Pw M w) : -6 ≤ faultT w ∧ faultT w ≤ 60 := by
  have h1 := fgo_rg w 0 0 [] (by omega)
  have := h.2.1
  unfold faultT; omega
def aPut (σ : Sg) (v : Int64) : Int × Sg := if chIn (uN v) = 0 then (-2, σ) else if 60 < σ.2.2.2.length + chIn (uN v) then (-4, σ) else ((σ.2.2.2.length + chIn (uN v) : Nat), (σ.1, σ.2.1, σ.2.2.1, σ.2.2.2 ++ chs (uN v) (chIn (uN v))))
def aWipe (σ : Sg) : Int × Sg := (σ.2.2.2.length, (σ.1, σ.2.1, σ.2.2.1, []))
def aLoad (σ : Sg) (z : Int) : Int × Sg := if 0 ≤ z ∧ z < 4 then (if faultT σ.2.2.2 = -6 then (if 120 < (textW σ.2.2.2).length then (-4, σ) else ((textW σ.2.2.2).length, (setR σ.1 z (textW σ.2.2.2), (σ.1 :: σ.2.1).take 6, σ.2.2.1, []))) else (-3, σ)) else (-1, σ)
def aQ (σ : Sg) (z : Int) : Int × Sg := (z, σ)
def qRope (z : Int) (y : Int) : Int := if 0 ≤ z ∧ z < 4 then y else -1
def aUndo (σ : Sg) : Int × Sg := match σ.2.1 with
  | [] => (-5, σ)
  | A :: ps => (ps.length, (A, ps, σ.2.2))
def setS (s : Option Ab × Option Ab) (k : Nat) (A : Ab) : Option Ab × Option Ab := if k = 0 then (some A, s.2) else (s.1, some A)
def aSave (σ : Sg) (z : Int) : Int × Sg := if 0 ≤ z ∧ z < 2 then (allC σ.1, (σ.1, σ.2.1, setS σ.2.2.1 z.toNat σ.1, σ.2.2.2)) else (-2, σ)
def aRestore (σ : Sg) (z : Int) : Int × Sg := if 0 ≤ z ∧ z < 2 then (match slo σ z.toNat with
  | none => (-5, σ)
  | some A => (allC A, (A, rcd σ))) else (-2, σ)
theorem isSlot_S {g : GE} {z : Int} (h : 0 ≤ z ∧ z < 2) : IsS g (81 + 11 * z.toNat) := by
  rcases (show z = 0 ∨ z = 1 by omega) with rfl | rfl
  · exact isS_81
  · exact isS_92
theorem slot_at {z : Int} (h : 0 ≤ z ∧ z < 2) : ([some 81, some 92] : List (Option Nat)).getD z.toNat none = some (81 + 11 * z.toNat) := by
  rcases (show z = 0 ∨ z = 1 by omega) with rfl | rfl <;> rfl

theorem c_X5_crossing {g : GE} {l : Launch} {M : Mem} {σ : Sg} (hI : Inv M σ) {z : Int} (hzr : -2147483648 ≤ z ∧ z < 2147483648) {k : Int} (hkr : -2147483648 ≤ k ∧ k < 2147483648) : Ci g l μX5_crossing [vR g 0, vI z, vI k] M (PO M (aQ σ (qRope z (at0 (rope σ.1 z) k)))) := by
  refine Ci.of (by decide +kernel) rfl rfl (fun x hx hr => ?_)
  refine k_iload_n hx dX5_crossing_0 1 rfl ?_
  refine k_sp (rest := []) (e := (b2i (decide (0 ≤ z ∧ z < 4)))) hx sX5_72 dX5_crossing_1 (c_X5_isRope (z := z) (by omega)) rfl rfl rfl ⟨rfl, rfl⟩ ⟨by decide, by decide⟩ ?_
  refine k_bne hx dX5_crossing_4 (fun h_4 => ?_) (fun h_4 => ?_)
  · refine k_aload_n hx dX5_crossing_9 0 rfl ?_
    refine k_get (v := vR g 1) hx fX5_12 dX5_crossing_10 n_0 L_0 rfl ?_
    refine k_get (v := vR g 3) hx fX5_75 dX5_crossing_13 n_1 L_1 rfl ?_
    refine k_iload_n hx dX5_crossing_16 1 rfl ?_
    obtain ⟨hv, hvl⟩ := hI.1.rope h_4
    refine k_aald (q := (4 + 2 * z.toNat)) hx dX5_crossing_17 n_3 L_3 (by decide) (by simp only [List.length_cons, List.length_nil]; omega) (by decide) (rope_at h_4) ?_
    refine k_iload_n hx dX5_crossing_18 2 rfl ?_
    refine k_sp (rest := []) (e := (at0 (rope σ.1 z) k)) hx sX5_139 dX5_crossing_19 (c_X5_crossingOrNoSuch (isS1w (g := g) h_4) hv hvl hkr) rfl rfl rfl ⟨rfl, rfl⟩ ⟨by decide, by decide⟩ ?_
    refine k_ri hx hr dX5_crossing_22 ?_
    exact ⟨by unfold aQ qRope; rw [if_pos h_4], hI, fun _ _ => rfl⟩
  · refine k_iconst hx dX5_crossing_7 ?_
    refine k_ri hx hr dX5_crossing_8 ?_
    exact ⟨by unfold aQ qRope; rw [if_neg h_4], hI, fun _ _ => rfl⟩
theorem c_X5_least {g : GE} {l : Launch} {M : Mem} {σ : Sg} (hI : Inv M σ) {z : Int} (hzr : -2147483648 ≤ z ∧ z < 2147483648) {k : Int} (hkr : -2147483648 ≤ k ∧ k < 2147483648) : Ci g l μX5_least [vR g 0, vI z, vI k] M (PO M (aQ σ (qRope z (at0 (lst (rope σ.1 z)) k)))) := by
  refine Ci.of (by decide +kernel) rfl rfl (fun x hx hr => ?_)
  refine k_iload_n hx dX5_least_0 1 rfl ?_
  refine k_sp (rest := []) (e := (b2i (decide (0 ≤ z ∧ z < 4)))) hx sX5_72 dX5_least_1 (c_X5_isRope (z := z) (by omega)) rfl rfl rfl ⟨rfl, rfl⟩ ⟨by decide, by decide⟩ ?_
  refine k_bne hx dX5_least_4 (fun h_4 => ?_) (fun h_4 => ?_)
  · refine k_aload_n hx dX5_least_9 0 rfl ?_
    refine k_aload_n hx dX5_least_10 0 rfl ?_
    refine k_get (v := vR g 1) hx fX5_12 dX5_least_11 n_0 L_0 rfl ?_
    refine k_get (v := vR g 3) hx fX5_75 dX5_least_14 n_1 L_1 rfl ?_
    refine k_iload_n hx dX5_least_17 1 rfl ?_
    obtain ⟨hv, hvl⟩ := hI.1.rope h_4
    have hll := lst_len (rope σ.1 z)
    refine k_aald (q := (4 + 2 * z.toNat)) hx dX5_least_18 n_3 L_3 (by decide) (by simp only [List.length_cons, List.length_nil]; omega) (by decide) (rope_at h_4) ?_
    refine k_aload_n hx dX5_least_19 0 rfl ?_
    refine k_get (v := vR g 114) hx fX5_50 dX5_least_20 n_0 L_0 rfl ?_
    refine k_vv (rest := []) hx vX5_174 dX5_least_23 (c_X5_layLeast (isS1w (g := g) h_4) hv hvl (by omega) (k := 114) (Or.inl rfl)) n_0 L_0 rfl rfl rfl ⟨rfl, rfl⟩ ⟨by decide, by decide⟩ (fun M_23 p_23 => ?_)
    obtain ⟨q1, q2⟩ := p_23
    refine k_aload_n hx dX5_least_26 0 rfl ?_
    refine k_get (v := vR g 114) hx fX5_50 dX5_least_27 n_0 L_0 rfl ?_
    refine k_iload_n hx dX5_least_30 2 rfl ?_
    refine k_sp (rest := []) (e := (at0 (lst (rope σ.1 z)) k)) hx sX5_139 dX5_least_31 (c_X5_crossingOrNoSuch isW_114 q1 (by omega) hkr) rfl rfl rfl ⟨rfl, rfl⟩ ⟨by decide, by decide⟩ ?_
    refine k_ri hx hr dX5_least_34 ?_
    exact ⟨by unfold aQ qRope; rw [if_pos h_4], hI.same (fun a ha => q2 a (by omega) (by omega) (by omega) (by omega)), fun a ha => q2 a (by omega) (by omega) (by omega) (by omega)⟩
  · refine k_iconst hx dX5_least_7 ?_
    refine k_ri hx hr dX5_least_8 ?_
    exact ⟨by unfold aQ qRope; rw [if_neg h_4], hI, fun _ _ => rfl⟩
theorem c_X5_falls {g : GE} {l : Launch} {M : Mem} {σ : Sg} (hI : Inv M σ) {z : Int} (hzr : -2147483648 ≤ z ∧ z < 2147483648) {S : Int} (hSr : -2147483648 ≤ S ∧ S < 2147483648) : Ci g l μX5_falls [vR g 0, vI z, vI S] M (PO M (aQ σ (if (0 ≤ z ∧ z < 4) ∧ (0 ≤ S ∧ S < 64) then b2i (decide (wF S (rope σ.1 z) = [])) else -1))) := by
  refine Ci.of (by decide +kernel) rfl rfl (fun x hx hr => ?_)
  refine k_iload_n hx dX5_falls_0 1 rfl ?_
  refine k_sp (rest := []) (e := (b2i (decide (0 ≤ z ∧ z < 4)))) hx sX5_72 dX5_falls_1 (c_X5_isRope (z := z) (by omega)) rfl rfl rfl ⟨rfl, rfl⟩ ⟨by decide, by decide⟩ ?_
  refine k_beq hx dX5_falls_4 (fun h_4 => ?_) (fun h_4 => ?_)
  · refine k_iconst hx dX5_falls_17 ?_
    refine k_ri hx hr dX5_falls_18 ?_
    exact ⟨by unfold aQ; rw [if_neg (by omega)], hI, fun _ _ => rfl⟩
  · refine k_iload_n hx dX5_falls_7 2 rfl ?_
    refine k_iflt hx dX5_falls_8 (by omega) (fun h_8 => ?_) (fun h_8 => ?_)
    · refine k_iconst hx dX5_falls_17 ?_
      refine k_ri hx hr dX5_falls_18 ?_
      exact ⟨by unfold aQ; rw [if_neg (by omega)], hI, fun _ _ => rfl⟩
    · refine k_iload_n hx dX5_falls_11 2 rfl ?_
      refine k_bipush hx dX5_falls_12 (by decide +kernel) ?_
      refine k_icmp_lt hx dX5_falls_14 (by omega) (fun h_14 => ?_) (fun h_14 => ?_)
      · refine k_aload_n hx dX5_falls_19 0 rfl ?_
        refine k_aload_n hx dX5_falls_20 0 rfl ?_
        refine k_get (v := vR g 1) hx fX5_12 dX5_falls_21 n_0 L_0 rfl ?_
        refine k_get (v := vR g 3) hx fX5_75 dX5_falls_24 n_1 L_1 rfl ?_
        refine k_iload_n hx dX5_falls_27 1 rfl ?_
        obtain ⟨hv, hvl⟩ := hI.1.rope h_4
        refine k_aald (q := (4 + 2 * z.toNat)) hx dX5_falls_28 n_3 L_3 (by decide) (by simp only [List.length_cons, List.length_nil]; omega) (by decide) (rope_at h_4) ?_
        refine k_iload_n hx dX5_falls_29 2 rfl ?_
        refine k_vi (rest := []) hx vX5_162 dX5_falls_30 (c_X5_fallsWithout (isS1w (g := g) h_4) hv hvl (by omega) (S := S) (by omega)) n_0 L_0 rfl rfl rfl ⟨rfl, rfl⟩ ⟨by decide, by decide⟩ (fun z_30 M_30 p_30 => ?_)
        obtain ⟨rfl, q2⟩ := p_30
        refine k_sp (rest := []) (e := (b2i (decide (wF S (rope σ.1 z) = [])))) hx sX5_166 dX5_falls_33 (c_X5_oneIf (b := (decide (wF S (rope σ.1 z) = [])))) rfl rfl rfl ⟨rfl, rfl⟩ ⟨by decide, by decide⟩ ?_
        refine k_ri hx hr dX5_falls_36 ?_
        exact ⟨by unfold aQ; rw [if_pos (by omega)], hI.same (fun a ha => q2 a (by omega) (by omega)), fun a ha => q2 a (by omega) (by omega)⟩
      · refine k_iconst hx dX5_falls_17 ?_
        refine k_ri hx hr dX5_falls_18 ?_
        exact ⟨by unfold aQ; rw [if_neg (by omega)], hI, fun _ _ => rfl⟩
theorem c_X5_winds {g : GE} {l : Launch} {M : Mem} {σ : Sg} (hI : Inv M σ) {z : Int} (hzr : -2147483648 ≤ z ∧ z < 2147483648) {p : Int} (hpr : -2147483648 ≤ p ∧ p < 2147483648) : Ci g l μX5_winds [vR g 0, vI z, vI p] M (PO M (aQ σ (if (0 ≤ z ∧ z < 4) ∧ (0 ≤ p ∧ p < 6) then 1000 + wnd (rope σ.1 z) p else -1))) := by
  refine Ci.of (by decide +kernel) rfl rfl (fun x hx hr => ?_)
  refine k_iload_n hx dX5_winds_0 1 rfl ?_
  refine k_sp (rest := []) (e := (b2i (decide (0 ≤ z ∧ z < 4)))) hx sX5_72 dX5_winds_1 (c_X5_isRope (z := z) (by omega)) rfl rfl rfl ⟨rfl, rfl⟩ ⟨by decide, by decide⟩ ?_
  refine k_beq hx dX5_winds_4 (fun h_4 => ?_) (fun h_4 => ?_)
  · refine k_iconst hx dX5_winds_14 ?_
    refine k_ri hx hr dX5_winds_15 ?_
    exact ⟨by unfold aQ; rw [if_neg (by omega)], hI, fun _ _ => rfl⟩
  · refine k_iload_n hx dX5_winds_7 2 rfl ?_
    refine k_sp (rest := []) (e := (b2i (decide (0 ≤ p ∧ p < 6)))) hx sX5_60 dX5_winds_8 (c_X5_isPost (z := p) (by omega)) rfl rfl rfl ⟨rfl, rfl⟩ ⟨by decide, by decide⟩ ?_
    refine k_bne hx dX5_winds_11 (fun h_11 => ?_) (fun h_11 => ?_)
    · refine k_sipush hx dX5_winds_16 (by decide +kernel) ?_
      refine k_aload_n hx dX5_winds_19 0 rfl ?_
      refine k_get (v := vR g 1) hx fX5_12 dX5_winds_20 n_0 L_0 rfl ?_
      refine k_get (v := vR g 3) hx fX5_75 dX5_winds_23 n_1 L_1 rfl ?_
      refine k_iload_n hx dX5_winds_26 1 rfl ?_
      obtain ⟨hv, hvl⟩ := hI.1.rope h_4
      refine k_aald (q := (4 + 2 * z.toNat)) hx dX5_winds_27 n_3 L_3 (by decide) (by simp only [List.length_cons, List.length_nil]; omega) (by decide) (rope_at h_4) ?_
      refine k_iload_n hx dX5_winds_28 2 rfl ?_
      refine k_vp (rest := [vI 1000]) (e := (wnd (rope σ.1 z) p)) hx vX5_170 dX5_winds_29 (c_X4_windings (isS1w (g := g) h_4) hv hvl (p := p) (by omega)) (isS1w (g := g) h_4).2.2.1 (isS1w (g := g) h_4).1 rfl rfl rfl ⟨rfl, rfl⟩ ⟨by decide, by decide⟩ ?_
      refine k_iadd hx dX5_winds_32 ?_
      refine k_ri hx hr dX5_winds_33 ?_
      exact ⟨by unfold aQ; rw [if_pos (by omega)], hI, fun _ _ => rfl⟩
    · refine k_iconst hx dX5_winds_14 ?_
      refine k_ri hx hr dX5_winds_15 ?_
      exact ⟨by unfold aQ; rw [if_neg (by omega)], hI, fun _ _ => rfl⟩
theorem c_X5_ifSwapped {g : GE} {l : Launch} {M : Mem} {σ : Sg} (hI : Inv M σ) {p b : Int} (hpr : -2147483648 ≤ p ∧ p < 2147483648) (hbr : -2147483648 ≤ b ∧ b < 2147483648) : Ci g l μX5_ifSwapped [vR g 0, vI p, vI b] M (PO M (aQ σ (if 0 ≤ p ∧ p < 5 then (if 0 ≤ b ∧ b < 2 then csw σ.1 p b else -2) else -1))) := by
  refine Ci.of (by decide +kernel) rfl rfl (fun x hx hr => ?_)
  refine k_iload_n hx dX5_ifSwapped_0 1 rfl ?_
  refine k_sp (rest := []) (e := (b2i (decide (0 ≤ p ∧ p < 5)))) hx sX5_109 dX5_ifSwapped_1 (c_X5_isSwap (z := p) (by omega)) rfl rfl rfl ⟨rfl, rfl⟩ ⟨by decide, by decide⟩ ?_
  refine k_bne hx dX5_ifSwapped_4 (fun h_4 => ?_) (fun h_4 => ?_)
  · refine k_iload_n hx dX5_ifSwapped_9 2 rfl ?_
    refine k_sp (rest := []) (e := (b2i (decide (0 ≤ b ∧ b < 2)))) hx sX5_112 dX5_ifSwapped_10 (c_X5_isBack (z := b) (by omega)) rfl rfl rfl ⟨rfl, rfl⟩ ⟨by decide, by decide⟩ ?_
    refine k_bne hx dX5_ifSwapped_13 (fun h_13 => ?_) (fun h_13 => ?_)
    · refine k_aload_n hx dX5_ifSwapped_19 0 rfl ?_
      refine k_iload_n hx dX5_ifSwapped_20 1 rfl ?_
      refine k_iload_n hx dX5_ifSwapped_21 2 rfl ?_
      refine k_vi (rest := []) hx vX5_203 dX5_ifSwapped_22 (c_X5_crossingsIfSwapped hI.1 (p := p) (b := b) (by omega) (by omega)) n_0 L_0 rfl rfl rfl ⟨rfl, rfl⟩ ⟨by decide, by decide⟩ (fun z_22 M_22 p_22 => ?_)
      obtain ⟨q1, q2⟩ := p_22
      refine k_ri hx hr dX5_ifSwapped_25 ?_
      exact ⟨by unfold aQ; rw [if_pos (by omega), if_pos (by omega)]; exact q1, hI.same (fun a ha => q2 a (by omega) (by omega)), fun a ha => q2 a (by omega) (by omega)⟩
    · refine k_bipush hx dX5_ifSwapped_16 (by decide +kernel) ?_
      refine k_ri hx hr dX5_ifSwapped_18 ?_
      exact ⟨by unfold aQ; rw [if_pos (by omega), if_neg (by omega)], hI, fun _ _ => rfl⟩
  · refine k_iconst hx dX5_ifSwapped_7 ?_
    refine k_ri hx hr dX5_ifSwapped_8 ?_
    exact ⟨by unfold aQ; rw [if_neg (by omega)], hI, fun _ _ => rfl⟩

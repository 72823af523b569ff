/-! the class's own methods: slots, swaps, and what is split by a number -/
theorem slo_set {A B A' : Ab} {ps ps' : List Ab} {s : Option Ab × Option Ab} {t t' : List Int} {k j : Nat} (hk : k < 2) (hj : j < 2) : slo (A, ps, setS s j B, t) k = if k = j then some B else slo (A', ps', s, t') k := by
  rcases (show k = 0 ∨ k = 1 by omega) with rfl | rfl <;> rcases (show j = 0 ∨ j = 1 by omega) with rfl | rfl <;> rfl
theorem ext4 {l m : List (List Int)} (hl : l.length = 4) (hm : m.length = 4) (h : ∀ r : Nat, r < 4 → l.getD r [] = m.getD r []) : l = m := by
  refine List.ext_getElem (by omega) (fun n h1 h2 => ?_)
  have := h n (by omega)
  simpa [List.getD_eq_getElem?_getD, h1, h2] using this
theorem map_getD4 {l : List (List Int)} {f : List Int → List Int} {r : Nat} (h : r < l.length) : (l.map f).getD r [] = f (l.getD r []) := by
  simp [List.getD_eq_getElem?_getD, h]
def aSwap (σ : Sg) (p b : Int) : Int × Sg := if 0 ≤ p ∧ p < 5 then (if 0 ≤ b ∧ b < 2 then (if ∀ r : Nat, r < 4 → (swF p b (σ.1.2.getD r [])).length ≤ 120 then (allC (σ.1.1, σ.1.2.map (swF p b)), ((σ.1.1, σ.1.2.map (swF p b)), rcd σ)) else (-4, σ)) else (-2, σ)) else (-1, σ)
def qOf (A : Ab) (w : List Int) (k : Int) : Int := if k = 0 then w.length else if k = 1 then wsum A.1 w else if k = 2 then (red w).length else if k = 3 then wsum A.1 (red w) else if k = 4 then (tight (red w)).length else if k = 5 then power (tight (red w)) else if k = 6 then pset (tight (red w)) else if k = 7 then firstP w else if k = 8 then b2i (decide (wF 0 w = [])) else -2
theorem qOf_out {A : Ab} {w : List Int} {k : Int} (h : k < 0 ∨ 8 < k) : qOf A w k = -2 := by
  unfold qOf
  rw [if_neg (by omega), if_neg (by omega), if_neg (by omega), if_neg (by omega), if_neg (by omega), if_neg (by omega), if_neg (by omega), if_neg (by omega), if_neg (by omega)]
def qCount (σ : Sg) (k : Int) : Int := if 0 ≤ k ∧ k < 6 then σ.1.1.getD k.toNat 0 else if k = 6 then allC σ.1 else if k = 7 then σ.2.2.2.length else if k = 8 then σ.2.1.length else -2
def qBoth (v u : List Int) (k : Int) : Int := if k = 0 then b2i (decide (lst v = lst u)) else if k = 1 then b2i (decide (lst v = lst (trn u))) else if k = 2 then b2i (decide (red (v ++ u) = red (u ++ v))) else if k = 3 then b2i (decide (red v = red u)) else -2
theorem qBoth_out {v u : List Int} {k : Int} (h : k < 0 ∨ 3 < k) : qBoth v u k = -2 := by
  unfold qBoth
  rw [if_neg (by omega), if_neg (by omega), if_neg (by omega), if_neg (by omega)]
def bsG (A : Ab) : Nat → Int × Int × Int
  | 0 => (0, 0, csw A 0 0)
  | j + 1 => if csw A (j / 2 : Nat) (j % 2 : Nat) < (bsG A j).2.2 then ((j / 2 : Nat), (j % 2 : Nat), csw A (j / 2 : Nat) (j % 2 : Nat)) else bsG A j
theorem bsG_rg {A : Ab} (hA : OkA A) : ∀ j, 0 ≤ (bsG A j).2.2 ∧ (bsG A j).2.2 ≤ 1440
  | 0 => csw_rg hA 0 0
  | j + 1 => by
    rw [bsG]; split
    · exact csw_rg hA _ _
    · exact bsG_rg hA j
def qBest (A : Ab) (w : Int) : Int := if 0 ≤ w ∧ w ≤ 2 then (if w = 0 then (bsG A 10).1 else if w = 1 then (bsG A 10).2.1 else (bsG A 10).2.2) else -2

theorem c_X5_undo {g : GE} {l : Launch} {M : Mem} {σ : Sg} (hI : Inv M σ) : Ci g l μX5_undo [vR g 0] M (PO M (aUndo σ)) := by
  refine Ci.of (by decide +kernel) rfl rfl (fun x hx hr => ?_)
  obtain ⟨A0, ps, ρ⟩ := σ
  obtain ⟨nx, k1, k2, k3, k4, k5⟩ := hI.2.1
  refine k_aload_n hx dX5_undo_0 0 rfl ?_
  refine k_get (v := vR g 12) hx fX5_19 dX5_undo_1 n_0 L_0 rfl ?_
  refine k_get (v := vI ps.length) hx fX5_178 dX5_undo_4 n_12 L_12 (congrArg vI (show M 12 2 = ps.length from k3)) ?_
  refine k_ifne hx dX5_undo_7 (by have k4 : ps.length ≤ 6 := k4; omega) (fun h_7 => ?_) (fun h_7 => ?_)
  · obtain ⟨A, qs, rfl⟩ : ∃ A qs, ps = A :: qs := by cases ps with | nil => exact absurd rfl h_7 | cons A qs => exact ⟨A, qs, rfl⟩
    refine k_aload_n hx dX5_undo_13 0 rfl ?_
    refine k_get (v := vR g 12) hx fX5_19 dX5_undo_14 n_0 L_0 rfl ?_
    refine k_aload_n hx dX5_undo_17 0 rfl ?_
    refine k_get (v := vR g 1) hx fX5_12 dX5_undo_18 n_0 L_0 rfl ?_
    refine k_vv (rest := []) hx vX5_207 dX5_undo_21 (c_X1_bringBack hI.2.1) n_12 L_12 rfl rfl rfl ⟨rfl, rfl⟩ ⟨by decide, by decide⟩ (fun M_21 p_21 => ?_)
    obtain ⟨q1, q2, q3⟩ := p_21
    have hk : M_21 12 2 = qs.length := by obtain ⟨-, -, -, h, -⟩ := q1; exact h
    refine k_aload_n hx dX5_undo_24 0 rfl ?_
    refine k_get (v := vR g 12) hx fX5_19 dX5_undo_25 n_0 L_0 rfl ?_
    refine k_get (v := vI qs.length) hx fX5_178 dX5_undo_28 n_12 L_12 (congrArg vI (show M_21 12 2 = qs.length from hk)) ?_
    refine k_ri hx hr dX5_undo_31 ?_
    obtain ⟨h1, h2, h3, h4, h5⟩ := hI
    refine ⟨rfl, ⟨q2, q1, fun k hk => by rw [q3 103 (by omega)]; exact h3 k hk, fun k A hk hs => (h4 k A hk hs).same (fun a _ _ => q3 a (by omega)), ?_⟩, fun a ha => q3 a (by omega)⟩
    unfold Pw; rw [q3 104 (by omega), q3 105 (by omega)]; exact h5
  · obtain rfl : ps = [] := List.length_eq_zero_iff.mp (by omega)
    refine k_bipush hx dX5_undo_10 (by decide +kernel) ?_
    refine k_ri hx hr dX5_undo_12 ?_
    exact ⟨rfl, hI, fun _ _ => rfl⟩
theorem c_X5_save {g : GE} {l : Launch} {M : Mem} {σ : Sg} (hI : Inv M σ) {z : Int} (hzr : -2147483648 ≤ z ∧ z < 2147483648) : Ci g l μX5_save [vR g 0, vI z] M (PO M (aSave σ z)) := by
  refine Ci.of (by decide +kernel) rfl rfl (fun x hx hr => ?_)
  refine k_iload_n hx dX5_save_0 1 rfl ?_
  refine k_sp (rest := []) (e := (b2i (decide (0 ≤ z ∧ z < 2)))) hx sX5_210 dX5_save_1 (c_X5_isSlot (z := z) (by omega)) rfl rfl rfl ⟨rfl, rfl⟩ ⟨by decide, by decide⟩ ?_
  refine k_bne hx dX5_save_4 (fun h_4 => ?_) (fun h_4 => ?_)
  · refine k_aload_n hx dX5_save_10 0 rfl ?_
    refine k_get (v := vR g 80) hx fX5_23 dX5_save_11 n_0 L_0 rfl ?_
    refine k_iload_n hx dX5_save_14 1 rfl ?_
    refine k_aald (q := (81 + 11 * z.toNat)) hx dX5_save_15 n_80 L_80 (by decide) (by simp only [List.length_cons, List.length_nil]; omega) (by decide) (slot_at h_4) ?_
    refine k_aload_n hx dX5_save_16 0 rfl ?_
    refine k_get (v := vR g 1) hx fX5_12 dX5_save_17 n_0 L_0 rfl ?_
    refine k_vv (rest := []) hx vX5_213 dX5_save_20 (c_X3_copyFrom (isSlot_S h_4) isS_1 hI.1 (by omega)) (isSlot_S h_4).2.2.2.1 (isSlot_S h_4).1 rfl rfl rfl ⟨rfl, rfl⟩ ⟨by decide, by decide⟩ (fun M_20 p_20 => ?_)
    obtain ⟨q1, q2⟩ := p_20
    refine k_aload_n hx dX5_save_23 0 rfl ?_
    refine k_get (v := vR g 103) hx fX5_27 dX5_save_24 n_0 L_0 rfl ?_
    refine k_iload_n hx dX5_save_27 1 rfl ?_
    refine k_iconst hx dX5_save_28 ?_
    refine k_zastN hx dX5_save_29 n_103 L_103 (by omega) (by decide) (by first | exact Or.inl rfl | exact Or.inr rfl) (fun M_29 hM_29 => ?_)
    refine k_aload_n hx dX5_save_30 0 rfl ?_
    refine k_get (v := vR g 1) hx fX5_12 dX5_save_31 n_0 L_0 rfl ?_
    refine k_vp (rest := []) (e := (allC σ.1)) hx vX5_119 dX5_save_34 (c_X3_allCrossings isS_1 (A := σ.1) (hI.1.same (fun a h1 h2 => by rw [hM_29, up_i (by omega)]; exact q2 a (by omega)))) n_1 L_1 rfl rfl rfl ⟨rfl, rfl⟩ ⟨by decide, by decide⟩ ?_
    refine k_ri hx hr dX5_save_37 ?_
    subst hM_29
    refine ⟨by unfold aSave; rw [if_pos h_4], ?_, fun a ha => by rw [up_i (by omega)]; exact q2 a (by omega)⟩
    unfold aSave
    rw [if_pos h_4]
    obtain ⟨h1, h2, h3, h4, h5⟩ := hI
    refine ⟨h1.same (fun a _ _ => by rw [up_i (by omega)]; exact q2 a (by omega)), h2.same (fun a _ _ => by rw [up_i (by omega)]; exact q2 a (by omega)), fun k hk => ?_, fun k A hk hs => ?_, ?_⟩
    · rw [slo_set (A' := σ.1) (ps' := σ.2.1) (t' := σ.2.2.2) hk (by omega)]
      by_cases hkz : k = z.toNat
      · rw [if_pos hkz, show (k : Int) = z by omega, up_s]; rfl
      · rw [if_neg hkz, up_k (by omega), q2 103 (by omega)]; exact h3 k hk
    · rw [slo_set (A' := σ.1) (ps' := σ.2.1) (t' := σ.2.2.2) hk (by omega)] at hs
      by_cases hkz : k = z.toNat
      · rw [if_pos hkz] at hs; cases hs; rw [hkz]
        exact q1.same (fun a _ _ => by rw [up_i (by omega)])
      · rw [if_neg hkz] at hs
        exact (h4 k A hk hs).same (fun a _ _ => by rw [up_i (by omega)]; exact q2 a (by omega))
    · unfold Pw; rw [up_i (by omega), up_i (by omega), q2 104 (by omega), q2 105 (by omega)]; exact h5
  · refine k_bipush hx dX5_save_7 (by decide +kernel) ?_
    refine k_ri hx hr dX5_save_9 ?_
    exact ⟨by unfold aSave; rw [if_neg h_4], by unfold aSave; rw [if_neg h_4]; exact hI, fun _ _ => rfl⟩
theorem c_X5_restore {g : GE} {l : Launch} {M : Mem} {σ : Sg} (hI : Inv M σ) {z : Int} (hzr : -2147483648 ≤ z ∧ z < 2147483648) : Ci g l μX5_restore [vR g 0, vI z] M (PO M (aRestore σ z)) := by
  refine Ci.of (by decide +kernel) rfl rfl (fun x hx hr => ?_)
  refine k_iload_n hx dX5_restore_0 1 rfl ?_
  refine k_sp (rest := []) (e := (b2i (decide (0 ≤ z ∧ z < 2)))) hx sX5_210 dX5_restore_1 (c_X5_isSlot (z := z) (by omega)) rfl rfl rfl ⟨rfl, rfl⟩ ⟨by decide, by decide⟩ ?_
  refine k_bne hx dX5_restore_4 (fun h_4 => ?_) (fun h_4 => ?_)
  · refine k_aload_n hx dX5_restore_10 0 rfl ?_
    refine k_get (v := vR g 103) hx fX5_27 dX5_restore_11 n_0 L_0 rfl ?_
    refine k_iload_n hx dX5_restore_14 1 rfl ?_
    refine k_zald (v := (b2i (slo σ z.toNat).isSome)) hx dX5_restore_15 n_103 L_103 (by omega) (by decide) (by have := hI.2.2.1 z.toNat (by omega); rw [show ((z.toNat : Nat) : Int) = z by omega] at this; rw [this]; cases (slo σ z.toNat).isSome <;> rfl) ?_
    refine k_cne hx dX5_restore_16 (fun h_16 => ?_) (fun h_16 => ?_)
    · obtain ⟨A, hA⟩ := Option.isSome_iff_exists.mp h_16
      refine k_aload_n hx dX5_restore_22 0 rfl ?_
      refine k_get (v := vR g 12) hx fX5_19 dX5_restore_23 n_0 L_0 rfl ?_
      refine k_aload_n hx dX5_restore_26 0 rfl ?_
      refine k_get (v := vR g 1) hx fX5_12 dX5_restore_27 n_0 L_0 rfl ?_
      refine k_vv (rest := []) hx vX5_64 dX5_restore_30 (c_X1_remember hI.2.1 hI.1) n_12 L_12 rfl rfl rfl ⟨rfl, rfl⟩ ⟨by decide, by decide⟩ (fun M_30 p_30 => ?_)
      have hI2 := hI.rec p_30
      have hS2 : Sd M_30 1 σ.1 := hI2.1
      have hoM : ∀ a, 120 ≤ a → M_30 a = M a := fun a ha => p_30.2 a (by omega)
      have hSA : Sd M_30 (81 + 11 * z.toNat) A := hI2.2.2.2.1 z.toNat A (by omega) hA
      refine k_aload_n hx dX5_restore_33 0 rfl ?_
      refine k_get (v := vR g 1) hx fX5_12 dX5_restore_34 n_0 L_0 rfl ?_
      refine k_aload_n hx dX5_restore_37 0 rfl ?_
      refine k_get (v := vR g 80) hx fX5_23 dX5_restore_38 n_0 L_0 rfl ?_
      refine k_iload_n hx dX5_restore_41 1 rfl ?_
      refine k_aald (q := (81 + 11 * z.toNat)) hx dX5_restore_42 n_80 L_80 (by decide) (by simp only [List.length_cons, List.length_nil]; omega) (by decide) (slot_at h_4) ?_
      refine k_vv (rest := []) hx vX5_213 dX5_restore_43 (c_X3_copyFrom isS_1 (isSlot_S h_4) hSA (by omega)) n_1 L_1 rfl rfl rfl ⟨rfl, rfl⟩ ⟨by decide, by decide⟩ (fun M_43 p_43 => ?_)
      obtain ⟨q1, q2⟩ := p_43
      refine k_aload_n hx dX5_restore_46 0 rfl ?_
      refine k_get (v := vR g 1) hx fX5_12 dX5_restore_47 n_0 L_0 rfl ?_
      refine k_vp (rest := []) (e := (allC A)) hx vX5_119 dX5_restore_50 (c_X3_allCrossings isS_1 q1) n_1 L_1 rfl rfl rfl ⟨rfl, rfl⟩ ⟨by decide, by decide⟩ ?_
      refine k_ri hx hr dX5_restore_53 ?_
      refine ⟨by unfold aRestore; rw [if_pos h_4, hA], ?_, fun a ha => by rw [q2 a (by omega)]; exact hoM a ha⟩
      unfold aRestore
      rw [if_pos h_4, hA]
      exact hI2.set q1 (fun a h1 h2 => q2 a (by omega))
    · have hN : slo σ z.toNat = none := by simpa using h_16
      refine k_bipush hx dX5_restore_19 (by decide +kernel) ?_
      refine k_ri hx hr dX5_restore_21 ?_
      exact ⟨by unfold aRestore; rw [if_pos h_4, hN], by unfold aRestore; rw [if_pos h_4, hN]; exact hI, fun _ _ => rfl⟩
  · refine k_bipush hx dX5_restore_7 (by decide +kernel) ?_
    refine k_ri hx hr dX5_restore_9 ?_
    exact ⟨by unfold aRestore; rw [if_neg h_4], by unfold aRestore; rw [if_neg h_4]; exact hI, fun _ _ => rfl⟩
theorem c_X5_ofRope {g : GE} {l : Launch} {M : Mem} {σ : Sg} (hI : Inv M σ) {z : Int} (hzr : -2147483648 ≤ z ∧ z < 2147483648) {k : Int} (hkr : -2147483648 ≤ k ∧ k < 2147483648) : Ci g l μX5_ofRope [vR g 0, vI z, vI k] M (PO M (aQ σ (qRope z (qOf σ.1 (rope σ.1 z) k)))) := by
  refine Ci.of (by decide +kernel) rfl rfl (fun x hx hr => ?_)
  refine k_iload_n hx dX5_ofRope_0 1 rfl ?_
  refine k_sp (rest := []) (e := (b2i (decide (0 ≤ z ∧ z < 4)))) hx sX5_72 dX5_ofRope_1 (c_X5_isRope (z := z) (by omega)) rfl rfl rfl ⟨rfl, rfl⟩ ⟨by decide, by decide⟩ ?_
  refine k_bne hx dX5_ofRope_4 (fun h_4 => ?_) (fun h_4 => ?_)
  · refine k_aload_n hx dX5_ofRope_9 0 rfl ?_
    refine k_get (v := vR g 1) hx fX5_12 dX5_ofRope_10 n_0 L_0 rfl ?_
    refine k_get (v := vR g 3) hx fX5_75 dX5_ofRope_13 n_1 L_1 rfl ?_
    refine k_iload_n hx dX5_ofRope_16 1 rfl ?_
    obtain ⟨hv, hvl⟩ := hI.1.rope h_4
    have hl1 := red_len_le (rope σ.1 z)
    have hl2 := tight_len (red (rope σ.1 z))
    refine k_aald (q := (4 + 2 * z.toNat)) hx dX5_ofRope_17 n_3 L_3 (by decide) (by simp only [List.length_cons, List.length_nil]; omega) (by decide) (rope_at h_4) ?_
    refine k_astore_n (ls' := [(0, vR g 0), (1, vI z), (2, vI k), (3, vR g (4 + 2 * z.toNat))]) hx dX5_ofRope_18 rfl rfl (by decide) ?_
    refine k_iload_n hx dX5_ofRope_19 2 rfl ?_
    rcases (show k = 0 ∨ k = 1 ∨ k = 2 ∨ k = 3 ∨ k = 4 ∨ k = 5 ∨ k = 6 ∨ k = 7 ∨ k = 8 ∨ (k < 0 ∨ 8 < k) by omega) with rfl | rfl | rfl | rfl | rfl | rfl | rfl | rfl | rfl | hout
    · refine k_tsIn (off := 52) (tgt := 72) hx dX5_ofRope_20 (by omega) (by omega) (by omega) (rfl) rfl ?_
      refine k_aload_n hx dX5_ofRope_72 3 rfl ?_
      refine k_get (v := vI ((rope σ.1 z).length)) hx fX5_79 dX5_ofRope_73 (isS1w h_4).2.2.1 (isS1w h_4).1 (congrArg vI (show M (4 + 2 * z.toNat) 1 = ((rope σ.1 z).length) from hv.1)) ?_
      refine k_ri hx hr dX5_ofRope_76 ?_
      exact ⟨by unfold aQ qRope; rw [if_pos h_4]; rfl, hI, fun _ _ => rfl⟩
    · refine k_tsIn (off := 57) (tgt := 77) hx dX5_ofRope_20 (by omega) (by omega) (by omega) (rfl) rfl ?_
      refine k_aload_n hx dX5_ofRope_77 0 rfl ?_
      refine k_get (v := vR g 1) hx fX5_12 dX5_ofRope_78 n_0 L_0 rfl ?_
      refine k_aload_n hx dX5_ofRope_81 3 rfl ?_
      refine k_vp (rest := []) (e := (wsum σ.1.1 (rope σ.1 z))) hx vX5_143 dX5_ofRope_82 (c_X3_widthsAlong isS_1 hI.1 (isS1w h_4) hv hvl) n_1 L_1 rfl rfl rfl ⟨rfl, rfl⟩ ⟨by decide, by decide⟩ ?_
      refine k_ri hx hr dX5_ofRope_85 ?_
      exact ⟨by unfold aQ qRope; rw [if_pos h_4]; rfl, hI, fun _ _ => rfl⟩
    · refine k_tsIn (off := 66) (tgt := 86) hx dX5_ofRope_20 (by omega) (by omega) (by omega) (rfl) rfl ?_
      refine k_aload_n hx dX5_ofRope_86 0 rfl ?_
      refine k_aload_n hx dX5_ofRope_87 3 rfl ?_
      refine k_vv (rest := []) hx vX5_147 dX5_ofRope_88 (c_X5_layPulled (isS1w h_4) hv hvl (by omega)) n_0 L_0 rfl rfl rfl ⟨rfl, rfl⟩ ⟨by decide, by decide⟩ (fun M_88 p_88 => ?_)
      obtain ⟨q1, q2⟩ := p_88
      refine k_aload_n hx dX5_ofRope_91 0 rfl ?_
      refine k_get (v := vR g 114) hx fX5_50 dX5_ofRope_92 n_0 L_0 rfl ?_
      refine k_get (v := vI ((red (rope σ.1 z)).length)) hx fX5_79 dX5_ofRope_95 n_114 L_114 (congrArg vI (show M_88 114 1 = ((red (rope σ.1 z)).length) from q1.1)) ?_
      refine k_ri hx hr dX5_ofRope_98 ?_
      exact ⟨by unfold aQ qRope; rw [if_pos h_4]; rfl, hI.same (fun a ha => q2 a (by omega) (by omega)), fun a ha => q2 a (by omega) (by omega)⟩
    · refine k_tsIn (off := 79) (tgt := 99) hx dX5_ofRope_20 (by omega) (by omega) (by omega) (rfl) rfl ?_
      refine k_aload_n hx dX5_ofRope_99 0 rfl ?_
      refine k_aload_n hx dX5_ofRope_100 3 rfl ?_
      refine k_vv (rest := []) hx vX5_147 dX5_ofRope_101 (c_X5_layPulled (isS1w h_4) hv hvl (by omega)) n_0 L_0 rfl rfl rfl ⟨rfl, rfl⟩ ⟨by decide, by decide⟩ (fun M_101 p_101 => ?_)
      obtain ⟨q1, q2⟩ := p_101
      refine k_aload_n hx dX5_ofRope_104 0 rfl ?_
      refine k_get (v := vR g 1) hx fX5_12 dX5_ofRope_105 n_0 L_0 rfl ?_
      refine k_aload_n hx dX5_ofRope_108 0 rfl ?_
      refine k_get (v := vR g 114) hx fX5_50 dX5_ofRope_109 n_0 L_0 rfl ?_
      refine k_vp (rest := []) (e := (wsum σ.1.1 (red (rope σ.1 z)))) hx vX5_143 dX5_ofRope_112 (c_X3_widthsAlong isS_1 (hI.same (fun a ha => q2 a (by omega) (by omega))).1 isW_114 q1 (by omega)) n_1 L_1 rfl rfl rfl ⟨rfl, rfl⟩ ⟨by decide, by decide⟩ ?_
      refine k_ri hx hr dX5_ofRope_115 ?_
      exact ⟨by unfold aQ qRope; rw [if_pos h_4]; rfl, hI.same (fun a ha => q2 a (by omega) (by omega)), fun a ha => q2 a (by omega) (by omega)⟩
    · refine k_tsIn (off := 96) (tgt := 116) hx dX5_ofRope_20 (by omega) (by omega) (by omega) (rfl) rfl ?_
      refine k_aload_n hx dX5_ofRope_116 0 rfl ?_
      refine k_aload_n hx dX5_ofRope_117 3 rfl ?_
      refine k_vv (rest := []) hx vX5_150 dX5_ofRope_118 (c_X5_layLoop (isS1w h_4) hv hvl (by omega)) n_0 L_0 rfl rfl rfl ⟨rfl, rfl⟩ ⟨by decide, by decide⟩ (fun M_118 p_118 => ?_)
      obtain ⟨q1, q2⟩ := p_118
      refine k_aload_n hx dX5_ofRope_121 0 rfl ?_
      refine k_get (v := vR g 118) hx fX5_57 dX5_ofRope_122 n_0 L_0 rfl ?_
      refine k_get (v := vI ((tight (red (rope σ.1 z))).length)) hx fX5_79 dX5_ofRope_125 n_118 L_118 (congrArg vI (show M_118 118 1 = ((tight (red (rope σ.1 z))).length) from q1.1)) ?_
      refine k_ri hx hr dX5_ofRope_128 ?_
      exact ⟨by unfold aQ qRope; rw [if_pos h_4]; rfl, hI.same (fun a ha => q2 a (by omega) (by omega)), fun a ha => q2 a (by omega) (by omega)⟩
    · refine k_tsIn (off := 109) (tgt := 129) hx dX5_ofRope_20 (by omega) (by omega) (by omega) (rfl) rfl ?_
      refine k_aload_n hx dX5_ofRope_129 0 rfl ?_
      refine k_aload_n hx dX5_ofRope_130 3 rfl ?_
      refine k_vv (rest := []) hx vX5_150 dX5_ofRope_131 (c_X5_layLoop (isS1w h_4) hv hvl (by omega)) n_0 L_0 rfl rfl rfl ⟨rfl, rfl⟩ ⟨by decide, by decide⟩ (fun M_131 p_131 => ?_)
      obtain ⟨q1, q2⟩ := p_131
      refine k_aload_n hx dX5_ofRope_134 0 rfl ?_
      refine k_get (v := vR g 118) hx fX5_57 dX5_ofRope_135 n_0 L_0 rfl ?_
      refine k_vp (rest := []) (e := (power (tight (red (rope σ.1 z))))) hx vX5_153 dX5_ofRope_138 (c_X4_power isW_118 q1 (by omega)) n_118 L_118 rfl rfl rfl ⟨rfl, rfl⟩ ⟨by decide, by decide⟩ ?_
      refine k_ri hx hr dX5_ofRope_141 ?_
      exact ⟨by unfold aQ qRope; rw [if_pos h_4]; rfl, hI.same (fun a ha => q2 a (by omega) (by omega)), fun a ha => q2 a (by omega) (by omega)⟩
    · refine k_tsIn (off := 122) (tgt := 142) hx dX5_ofRope_20 (by omega) (by omega) (by omega) (rfl) rfl ?_
      refine k_aload_n hx dX5_ofRope_142 0 rfl ?_
      refine k_aload_n hx dX5_ofRope_143 3 rfl ?_
      refine k_vv (rest := []) hx vX5_150 dX5_ofRope_144 (c_X5_layLoop (isS1w h_4) hv hvl (by omega)) n_0 L_0 rfl rfl rfl ⟨rfl, rfl⟩ ⟨by decide, by decide⟩ (fun M_144 p_144 => ?_)
      obtain ⟨q1, q2⟩ := p_144
      refine k_aload_n hx dX5_ofRope_147 0 rfl ?_
      refine k_get (v := vR g 118) hx fX5_57 dX5_ofRope_148 n_0 L_0 rfl ?_
      refine k_vp (rest := []) (e := (pset (tight (red (rope σ.1 z))))) hx vX5_156 dX5_ofRope_151 (c_X4_posts isW_118 q1 (by omega)) n_118 L_118 rfl rfl rfl ⟨rfl, rfl⟩ ⟨by decide, by decide⟩ ?_
      refine k_ri hx hr dX5_ofRope_154 ?_
      exact ⟨by unfold aQ qRope; rw [if_pos h_4]; rfl, hI.same (fun a ha => q2 a (by omega) (by omega)), fun a ha => q2 a (by omega) (by omega)⟩
    · refine k_tsIn (off := 135) (tgt := 155) hx dX5_ofRope_20 (by omega) (by omega) (by omega) (rfl) rfl ?_
      refine k_aload_n hx dX5_ofRope_155 3 rfl ?_
      refine k_vp (rest := []) (e := (firstP (rope σ.1 z))) hx vX5_159 dX5_ofRope_156 (c_X4_firstPair (isS1w h_4) hv hvl) (isS1w h_4).2.2.1 (isS1w h_4).1 rfl rfl rfl ⟨rfl, rfl⟩ ⟨by decide, by decide⟩ ?_
      refine k_ri hx hr dX5_ofRope_159 ?_
      exact ⟨by unfold aQ qRope; rw [if_pos h_4]; rfl, hI, fun _ _ => rfl⟩
    · refine k_tsIn (off := 140) (tgt := 160) hx dX5_ofRope_20 (by omega) (by omega) (by omega) (rfl) rfl ?_
      refine k_aload_n hx dX5_ofRope_160 0 rfl ?_
      refine k_aload_n hx dX5_ofRope_161 3 rfl ?_
      refine k_iconst hx dX5_ofRope_162 ?_
      refine k_vi (rest := []) hx vX5_162 dX5_ofRope_163 (c_X5_fallsWithout (isS1w h_4) hv hvl (by omega) (S := 0) (by omega)) n_0 L_0 rfl rfl rfl ⟨rfl, rfl⟩ ⟨by decide, by decide⟩ (fun z_163 M_163 p_163 => ?_)
      obtain ⟨rfl, q2⟩ := p_163
      refine k_sp (rest := []) (e := (b2i (decide (wF 0 (rope σ.1 z) = [])))) hx sX5_166 dX5_ofRope_166 (c_X5_oneIf (b := (decide (wF 0 (rope σ.1 z) = [])))) rfl rfl rfl ⟨rfl, rfl⟩ ⟨by decide, by decide⟩ ?_
      refine k_ri hx hr dX5_ofRope_169 ?_
      exact ⟨by unfold aQ qRope; rw [if_pos h_4]; rfl, hI.same (fun a ha => q2 a (by omega) (by omega)), fun a ha => q2 a (by omega) (by omega)⟩
    · refine k_tsOut hx dX5_ofRope_20 (tgt := 170) rfl (by omega) (by omega) ?_
      refine k_bipush hx dX5_ofRope_170 (by decide +kernel) ?_
      refine k_ri hx hr dX5_ofRope_172 ?_
      exact ⟨by unfold aQ qRope; rw [if_pos h_4, qOf_out hout], hI, fun _ _ => rfl⟩
  · refine k_iconst hx dX5_ofRope_7 ?_
    refine k_ri hx hr dX5_ofRope_8 ?_
    exact ⟨by unfold aQ qRope; rw [if_neg h_4], hI, fun _ _ => rfl⟩
theorem c_X5_count {g : GE} {l : Launch} {M : Mem} {σ : Sg} (hI : Inv M σ) {k : Int} (hkr : -2147483648 ≤ k ∧ k < 2147483648) : Ci g l μX5_count [vR g 0, vI k] M (PO M (aQ σ (qCount σ k))) := by
  refine Ci.of (by decide +kernel) rfl rfl (fun x hx hr => ?_)
  refine k_iload_n hx dX5_count_0 1 rfl ?_
  refine k_sp (rest := []) (e := (b2i (decide (0 ≤ k ∧ k < 6)))) hx sX5_60 dX5_count_1 (c_X5_isPost (z := k) (by omega)) rfl rfl rfl ⟨rfl, rfl⟩ ⟨by decide, by decide⟩ ?_
  refine k_beq hx dX5_count_4 (fun h_4 => ?_) (fun h_4 => ?_)
  · refine k_iload_n hx dX5_count_17 1 rfl ?_
    rcases (show k = 6 ∨ k = 7 ∨ k = 8 ∨ (k < 6 ∨ 8 < k) by omega) with rfl | rfl | rfl | hout
    · refine k_tsIn (off := 26) (tgt := 44) hx dX5_count_18 (by omega) (by omega) (by omega) (rfl) rfl ?_
      refine k_aload_n hx dX5_count_44 0 rfl ?_
      refine k_get (v := vR g 1) hx fX5_12 dX5_count_45 n_0 L_0 rfl ?_
      refine k_vp (rest := []) (e := (allC σ.1)) hx vX5_119 dX5_count_48 (c_X3_allCrossings isS_1 hI.1) n_1 L_1 rfl rfl rfl ⟨rfl, rfl⟩ ⟨by decide, by decide⟩ ?_
      refine k_ri hx hr dX5_count_51 ?_
      exact ⟨rfl, hI, fun _ _ => rfl⟩
    · refine k_tsIn (off := 34) (tgt := 52) hx dX5_count_18 (by omega) (by omega) (by omega) (rfl) rfl ?_
      refine k_aload_n hx dX5_count_52 0 rfl ?_
      refine k_get (v := vR g 104) hx fX5_34 dX5_count_53 n_0 L_0 rfl ?_
      refine k_get (v := vI σ.2.2.2.length) hx fX5_126 dX5_count_56 n_104 L_104 (congrArg vI (show M 104 1 = σ.2.2.2.length from hI.2.2.2.2.1)) ?_
      refine k_ri hx hr dX5_count_59 ?_
      exact ⟨rfl, hI, fun _ _ => rfl⟩
    · refine k_tsIn (off := 42) (tgt := 60) hx dX5_count_18 (by omega) (by omega) (by omega) (rfl) rfl ?_
      refine k_aload_n hx dX5_count_60 0 rfl ?_
      refine k_get (v := vR g 12) hx fX5_19 dX5_count_61 n_0 L_0 rfl ?_
      refine k_get (v := vI σ.2.1.length) hx fX5_178 dX5_count_64 n_12 L_12 (congrArg vI (show M 12 2 = σ.2.1.length from by obtain ⟨-, -, -, h, -⟩ := hI.2.1; exact h)) ?_
      refine k_ri hx hr dX5_count_67 ?_
      exact ⟨rfl, hI, fun _ _ => rfl⟩
    · refine k_tsOut hx dX5_count_18 (tgt := 68) rfl (by omega) (by omega) ?_
      refine k_bipush hx dX5_count_68 (by decide +kernel) ?_
      refine k_ri hx hr dX5_count_70 ?_
      exact ⟨by unfold aQ qCount; rw [if_neg h_4, if_neg (by omega), if_neg (by omega), if_neg (by omega)], hI, fun _ _ => rfl⟩
  · refine k_aload_n hx dX5_count_7 0 rfl ?_
    refine k_get (v := vR g 1) hx fX5_12 dX5_count_8 n_0 L_0 rfl ?_
    refine k_get (v := vR g 2) hx fX5_68 dX5_count_11 n_1 L_1 rfl ?_
    refine k_iload_n hx dX5_count_14 1 rfl ?_
    refine k_iald (v := (σ.1.1.getD k.toNat 0)) hx dX5_count_15 n_2 L_2 (by omega) (by decide) (by have := hI.1.2.1 k.toNat (by omega); rwa [show ((k.toNat : Nat) : Int) = k by omega] at this) ?_
    refine k_ri hx hr dX5_count_16 ?_
    exact ⟨by unfold aQ qCount; rw [if_pos h_4], hI, fun _ _ => rfl⟩
theorem c_X5_both {g : GE} {l : Launch} {M : Mem} {σ : Sg} (hI : Inv M σ) {z y : Int} (hzr : -2147483648 ≤ z ∧ z < 2147483648) (hyr : -2147483648 ≤ y ∧ y < 2147483648) {k : Int} (hkr : -2147483648 ≤ k ∧ k < 2147483648) : Ci g l μX5_both [vR g 0, vI z, vI y, vI k] M (PO M (aQ σ (if (0 ≤ z ∧ z < 4) ∧ (0 ≤ y ∧ y < 4) then qBoth (rope σ.1 z) (rope σ.1 y) k else -1))) := by
  refine Ci.of (by decide +kernel) rfl rfl (fun x hx hr => ?_)
  refine k_iload_n hx dX5_both_0 1 rfl ?_
  refine k_sp (rest := []) (e := (b2i (decide (0 ≤ z ∧ z < 4)))) hx sX5_72 dX5_both_1 (c_X5_isRope (z := z) (by omega)) rfl rfl rfl ⟨rfl, rfl⟩ ⟨by decide, by decide⟩ ?_
  refine k_beq hx dX5_both_4 (fun h_4 => ?_) (fun h_4 => ?_)
  · refine k_iconst hx dX5_both_14 ?_
    refine k_ri hx hr dX5_both_15 ?_
    exact ⟨by unfold aQ; rw [if_neg (by omega)], hI, fun _ _ => rfl⟩
  · refine k_iload_n hx dX5_both_7 2 rfl ?_
    refine k_sp (rest := []) (e := (b2i (decide (0 ≤ y ∧ y < 4)))) hx sX5_72 dX5_both_8 (c_X5_isRope (z := y) (by omega)) rfl rfl rfl ⟨rfl, rfl⟩ ⟨by decide, by decide⟩ ?_
    refine k_bne hx dX5_both_11 (fun h_11 => ?_) (fun h_11 => ?_)
    · refine k_aload_n hx dX5_both_16 0 rfl ?_
      refine k_get (v := vR g 1) hx fX5_12 dX5_both_17 n_0 L_0 rfl ?_
      refine k_get (v := vR g 3) hx fX5_75 dX5_both_20 n_1 L_1 rfl ?_
      refine k_iload_n hx dX5_both_23 1 rfl ?_
      obtain ⟨hv, hvl⟩ := hI.1.rope h_4
      obtain ⟨hu, hul⟩ := hI.1.rope h_11
      refine k_aald (q := (4 + 2 * z.toNat)) hx dX5_both_24 n_3 L_3 (by decide) (by simp only [List.length_cons, List.length_nil]; omega) (by decide) (rope_at h_4) ?_
      refine k_astore (ls' := [(0, vR g 0), (1, vI z), (2, vI y), (3, vI k), (4, vR g (4 + 2 * z.toNat))]) hx dX5_both_25 rfl rfl (by decide) ?_
      refine k_aload_n hx dX5_both_27 0 rfl ?_
      refine k_get (v := vR g 1) hx fX5_12 dX5_both_28 n_0 L_0 rfl ?_
      refine k_get (v := vR g 3) hx fX5_75 dX5_both_31 n_1 L_1 rfl ?_
      refine k_iload_n hx dX5_both_34 2 rfl ?_
      refine k_aald (q := (4 + 2 * y.toNat)) hx dX5_both_35 n_3 L_3 (by decide) (by simp only [List.length_cons, List.length_nil]; omega) (by decide) (rope_at h_11) ?_
      refine k_astore (ls' := [(0, vR g 0), (1, vI z), (2, vI y), (3, vI k), (4, vR g (4 + 2 * z.toNat)), (5, vR g (4 + 2 * y.toNat))]) hx dX5_both_36 rfl rfl (by decide) ?_
      refine k_iload_n hx dX5_both_38 3 rfl ?_
      rcases (show k = 0 ∨ k = 1 ∨ k = 2 ∨ k = 3 ∨ (k < 0 ∨ 3 < k) by omega) with rfl | rfl | rfl | rfl | hout
      · refine k_tsIn (off := 29) (tgt := 68) hx dX5_both_39 (by omega) (by omega) (by omega) (rfl) rfl ?_
        refine k_aload_n hx dX5_both_68 0 rfl ?_
        refine k_aload hx dX5_both_69 4 rfl ?_
        refine k_aload hx dX5_both_71 5 rfl ?_
        refine k_vi (rest := []) hx vX5_190 dX5_both_73 (c_X5_areAlike (isS1w h_4) hv hvl (isS1w h_11) hu hul (by omega) (by omega)) n_0 L_0 rfl rfl rfl ⟨rfl, rfl⟩ ⟨by decide, by decide⟩ (fun z_73 M_73 p_73 => ?_)
        obtain ⟨rfl, q2⟩ := p_73
        refine k_sp (rest := []) (e := (b2i (decide (lst (rope σ.1 z) = lst (rope σ.1 y))))) hx sX5_166 dX5_both_76 (c_X5_oneIf (b := (decide (lst (rope σ.1 z) = lst (rope σ.1 y))))) rfl rfl rfl ⟨rfl, rfl⟩ ⟨by decide, by decide⟩ ?_
        refine k_ri hx hr dX5_both_79 ?_
        exact ⟨by unfold aQ; rw [if_pos ⟨h_4, h_11⟩]; rfl, hI.same (fun a ha => q2 a (by omega)), fun a ha => q2 a (by omega)⟩
      · refine k_tsIn (off := 41) (tgt := 80) hx dX5_both_39 (by omega) (by omega) (by omega) (rfl) rfl ?_
        refine k_aload_n hx dX5_both_80 0 rfl ?_
        refine k_get (v := vR g 116) hx fX5_54 dX5_both_81 n_0 L_0 rfl ?_
        refine k_vv (rest := []) hx vX5_100 dX5_both_84 (c_X4_clear isW_116) n_116 L_116 rfl rfl rfl ⟨rfl, rfl⟩ ⟨by decide, by decide⟩ (fun M_84 p_84 => ?_)
        have o1 : Off 116 M M_84 := by rw [p_84]; exact off_up
        have w1 : Wd M_84 116 [] := by rw [p_84]; exact Wd.nil
        refine k_aload_n hx dX5_both_87 0 rfl ?_
        refine k_get (v := vR g 116) hx fX5_54 dX5_both_88 n_0 L_0 rfl ?_
        refine k_aload hx dX5_both_91 5 rfl ?_
        refine k_vv (rest := []) hx vX5_103 dX5_both_93 (c_X4_addTurned isW_116 w1 (by simp) (isS1w h_11) (hu.off o1 (by omega) (by omega) (by omega)) hul (by omega) (by simp only [List.length_nil]; omega)) n_116 L_116 rfl rfl rfl ⟨rfl, rfl⟩ ⟨by decide, by decide⟩ (fun M_93 p_93 => ?_)
        obtain ⟨w2, o2⟩ := p_93
        rw [List.nil_append] at w2
        have o3 := o1.tr o2
        have hl3 := trn_len (rope σ.1 y)
        refine k_aload_n hx dX5_both_96 0 rfl ?_
        refine k_aload hx dX5_both_97 4 rfl ?_
        refine k_aload_n hx dX5_both_99 0 rfl ?_
        refine k_get (v := vR g 116) hx fX5_54 dX5_both_100 n_0 L_0 rfl ?_
        refine k_vi (rest := []) hx vX5_190 dX5_both_103 (c_X5_areAlike (isS1w h_4) (hv.off o3 (by omega) (by omega) (by omega)) hvl isW_116 w2 (by omega) (by omega) (by omega)) n_0 L_0 rfl rfl rfl ⟨rfl, rfl⟩ ⟨by decide, by decide⟩ (fun z_103 M_103 p_103 => ?_)
        obtain ⟨rfl, q2⟩ := p_103
        have q3 : OffW M M_103 := (o3.w (by omega)).tr q2
        refine k_sp (rest := []) (e := (b2i (decide (lst (rope σ.1 z) = lst (trn (rope σ.1 y)))))) hx sX5_166 dX5_both_106 (c_X5_oneIf (b := (decide (lst (rope σ.1 z) = lst (trn (rope σ.1 y)))))) rfl rfl rfl ⟨rfl, rfl⟩ ⟨by decide, by decide⟩ ?_
        refine k_ri hx hr dX5_both_109 ?_
        exact ⟨by unfold aQ; rw [if_pos ⟨h_4, h_11⟩]; rfl, hI.same (fun a ha => q3 a (by omega)), fun a ha => q3 a (by omega)⟩
      · refine k_tsIn (off := 71) (tgt := 110) hx dX5_both_39 (by omega) (by omega) (by omega) (rfl) rfl ?_
        refine k_aload_n hx dX5_both_110 0 rfl ?_
        refine k_aload hx dX5_both_111 4 rfl ?_
        refine k_aload hx dX5_both_113 5 rfl ?_
        refine k_vi (rest := []) hx vX5_194 dX5_both_115 (c_X5_doCommute (isS1w h_4) hv hvl (isS1w h_11) hu hul (by omega) (by omega) hvl hul) n_0 L_0 rfl rfl rfl ⟨rfl, rfl⟩ ⟨by decide, by decide⟩ (fun z_115 M_115 p_115 => ?_)
        obtain ⟨rfl, q2⟩ := p_115
        refine k_sp (rest := []) (e := (b2i (decide (red (rope σ.1 z ++ rope σ.1 y) = red (rope σ.1 y ++ rope σ.1 z))))) hx sX5_166 dX5_both_118 (c_X5_oneIf (b := (decide (red (rope σ.1 z ++ rope σ.1 y) = red (rope σ.1 y ++ rope σ.1 z))))) rfl rfl rfl ⟨rfl, rfl⟩ ⟨by decide, by decide⟩ ?_
        refine k_ri hx hr dX5_both_121 ?_
        exact ⟨by unfold aQ; rw [if_pos ⟨h_4, h_11⟩]; rfl, hI.same (fun a ha => q2 a (by omega)), fun a ha => q2 a (by omega)⟩
      · refine k_tsIn (off := 83) (tgt := 122) hx dX5_both_39 (by omega) (by omega) (by omega) (rfl) rfl ?_
        refine k_aload_n hx dX5_both_122 0 rfl ?_
        refine k_aload hx dX5_both_123 4 rfl ?_
        refine k_aload hx dX5_both_125 5 rfl ?_
        refine k_vi (rest := []) hx vX5_197 dX5_both_127 (c_X5_arePulledTheSame (isS1w h_4) hv hvl (isS1w h_11) hu hul (by omega) (by omega)) n_0 L_0 rfl rfl rfl ⟨rfl, rfl⟩ ⟨by decide, by decide⟩ (fun z_127 M_127 p_127 => ?_)
        obtain ⟨rfl, q2⟩ := p_127
        refine k_sp (rest := []) (e := (b2i (decide (red (rope σ.1 z) = red (rope σ.1 y))))) hx sX5_166 dX5_both_130 (c_X5_oneIf (b := (decide (red (rope σ.1 z) = red (rope σ.1 y))))) rfl rfl rfl ⟨rfl, rfl⟩ ⟨by decide, by decide⟩ ?_
        refine k_ri hx hr dX5_both_133 ?_
        exact ⟨by unfold aQ; rw [if_pos ⟨h_4, h_11⟩]; rfl, hI.same (fun a ha => q2 a (by omega)), fun a ha => q2 a (by omega)⟩
      · refine k_tsOut hx dX5_both_39 (tgt := 134) rfl (by omega) (by omega) ?_
        refine k_bipush hx dX5_both_134 (by decide +kernel) ?_
        refine k_ri hx hr dX5_both_136 ?_
        exact ⟨by unfold aQ; rw [if_pos ⟨h_4, h_11⟩, qBoth_out hout], hI, fun _ _ => rfl⟩
    · refine k_iconst hx dX5_both_14 ?_
      refine k_ri hx hr dX5_both_15 ?_
      exact ⟨by unfold aQ; rw [if_neg (by omega)], hI, fun _ _ => rfl⟩

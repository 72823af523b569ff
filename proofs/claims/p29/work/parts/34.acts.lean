/-! the law's acts -/
def OKN (σ : Sg) (n : Nat) : Prop := ∀ r : Int, 0 ≤ r ∧ r < 4 → (rope σ.1 r).length ≤ n
/-- a rope is another word behind a call -/
def CH (M : Mem) (σ : Sg) (z : Int) (v : List Int) (e : Int) : Int → Mem → Prop := fun y M' => y = e ∧ (∃ σ', Inv M' σ' ∧ ∀ r : Int, 0 ≤ r ∧ r < 4 → rope σ'.1 r = if r = z then v else rope σ.1 r) ∧ ∀ a, 120 ≤ a → M' a = M a
theorem CH.of {M0 M M' : Mem} {σ : Sg} {z y e : Int} {v : List Int} {ρ : List Ab × (Option Ab × Option Ab) × List Int} (hI : Inv M0 σ) (hz : 0 ≤ z ∧ z < 4) (h : PO M (e, (setR σ.1 z v, ρ)) y M') : CH M σ z v e y M' :=
  ⟨h.1, ⟨_, h.2.1, fun r hr => rope_setR hI.1.1 hz hr⟩, h.2.2⟩
theorem s_cross {g : GE} {l : Launch} {M : Mem} {σ : Sg} (hI : Inv M σ) {z : Int} (hz : 0 ≤ z ∧ z < 4) {c : Int} (hc : 0 ≤ c ∧ c < 12) (hl : (rope σ.1 z).length ≤ 60) : Ci g l μX5_cross [vR g 0, vI z, vI c] M (CH M σ z (rope σ.1 z ++ [c]) ((rope σ.1 z).length + 1)) :=
  Ci.imp (c_X5_cross hI (z := z) (c := c) (by omega) (by omega)) (fun y M' h => CH.of hI hz (by
    have e : aCross σ z c = (((rope σ.1 z).length : Int) + 1, (setR σ.1 z (rope σ.1 z ++ [c]), rcd σ)) := by unfold aCross; rw [if_pos hz, if_neg (by omega), if_neg (by omega)]
    rw [e] at h; exact h))
theorem s_back {g : GE} {l : Launch} {M : Mem} {σ : Sg} (hI : Inv M σ) {z : Int} (hz : 0 ≤ z ∧ z < 4) {m : Nat} (hm : 1 ≤ m ∧ m ≤ (rope σ.1 z).length) (hl : (rope σ.1 z).length ≤ 60) : Ci g l μX5_back [vR g 0, vI z, vI m] M (CH M σ z ((rope σ.1 z).take ((rope σ.1 z).length - m)) ((rope σ.1 z).length - m)) :=
  Ci.imp (c_X5_back hI (z := z) (m := m) (by omega) (by omega)) (fun y M' h => CH.of hI hz (by
    have e : aBack σ z m = (((rope σ.1 z).length : Int) - m, (setR σ.1 z ((rope σ.1 z).take ((rope σ.1 z).length - m)), rcd σ)) := by unfold aBack; rw [if_pos hz, if_neg (by omega), if_neg (by omega)]; rfl
    rw [e] at h; exact h))
theorem s_backN {g : GE} {l : Launch} {M : Mem} {σ : Sg} (hI : Inv M σ) {z : Int} (hz : 0 ≤ z ∧ z < 4) {m : Nat} (hm : 1 ≤ m ∧ m ≤ 60) (hl : (rope σ.1 z).length < m) : Ci g l μX5_back [vR g 0, vI z, vI m] M (QO M σ (-5)) :=
  Ci.imp (c_X5_back hI (z := z) (m := m) (by omega) (by omega)) (fun y M' h => by
    have e : aBack σ z m = (-5, σ) := by unfold aBack; rw [if_pos hz, if_neg (by omega), if_pos (by omega)]
    rw [e] at h; exact h)
theorem s_pull {g : GE} {l : Launch} {M : Mem} {σ : Sg} (hI : Inv M σ) {z : Int} (hz : 0 ≤ z ∧ z < 4) : Ci g l μX5_pull [vR g 0, vI z] M (CH M σ z (red (rope σ.1 z)) (((rope σ.1 z).length - (red (rope σ.1 z)).length) / 2)) :=
  Ci.imp (c_X5_pull hI (z := z) (by omega)) (fun y M' h => CH.of hI hz (by
    have e : aPull σ z = ((((rope σ.1 z).length : Int) - (red (rope σ.1 z)).length) / 2, (setR σ.1 z (red (rope σ.1 z)), rcd σ)) := by unfold aPull; rw [if_pos hz]
    rw [e] at h; exact h))
theorem s_join {g : GE} {l : Launch} {M : Mem} {σ : Sg} (hI : Inv M σ) {z y : Int} (hz : 0 ≤ z ∧ z < 4) (hy : 0 ≤ y ∧ y < 4) (hl : (rope σ.1 z).length + (rope σ.1 y).length ≤ 60) : Ci g l μX5_join [vR g 0, vI z, vI y] M (CH M σ z (rope σ.1 z ++ rope σ.1 y) ((rope σ.1 z).length + (rope σ.1 y).length)) :=
  Ci.imp (c_X5_join hI (z := z) (y := y) (by omega) (by omega)) (fun q M' h => CH.of hI hz (by
    have e : aJoin σ z y = (((rope σ.1 z).length : Int) + (rope σ.1 y).length, (setR σ.1 z (rope σ.1 z ++ rope σ.1 y), rcd σ)) := by unfold aJoin; rw [if_pos ⟨hz, hy⟩, if_neg (by omega)]
    rw [e] at h; exact h))
theorem s_turn {g : GE} {l : Launch} {M : Mem} {σ : Sg} (hI : Inv M σ) {z : Int} (hz : 0 ≤ z ∧ z < 4) : Ci g l μX5_turn [vR g 0, vI z] M (CH M σ z (trn (rope σ.1 z)) (rope σ.1 z).length) :=
  Ci.imp (c_X5_turn hI (z := z) (by omega)) (fun y M' h => CH.of hI hz (by
    have e : aTurn σ z = (((rope σ.1 z).length : Int), (setR σ.1 z (trn (rope σ.1 z)), rcd σ)) := by unfold aTurn; rw [if_pos hz]
    rw [e] at h; exact h))
theorem wv_len (σ : Sg) (z y : Int) : (wv σ z y).length ≤ 2 * ((rope σ.1 z).length + (rope σ.1 y).length) := by
  unfold wv
  refine Nat.le_trans (red_len_le _) ?_
  simp only [List.length_append, trn_len]
  omega
theorem s_weave {g : GE} {l : Launch} {M : Mem} {σ : Sg} (hI : Inv M σ) {z y : Int} (hz : 0 ≤ z ∧ z < 4) (hy : 0 ≤ y ∧ y < 4) (hne : z ≠ y) (hl : 2 * ((rope σ.1 z).length + (rope σ.1 y).length) ≤ 60) : Ci g l μX5_weave [vR g 0, vI z, vI y] M (CH M σ z (wv σ z y) (wv σ z y).length) :=
  Ci.imp (c_X5_weave hI (z := z) (y := y) (by omega) (by omega)) (fun q M' h => CH.of hI hz (by
    have hw := wv_len σ z y
    have e : aWeave σ z y = (((wv σ z y).length : Int), (setR σ.1 z (wv σ z y), rcd σ)) := by unfold aWeave; rw [if_pos ⟨⟨hz, hy⟩, hne⟩, if_neg (by omega)]
    rw [e] at h; exact h))
theorem s_weaveN {g : GE} {l : Launch} {M : Mem} {σ : Sg} (hI : Inv M σ) {z : Int} (hz : 0 ≤ z ∧ z < 4) : Ci g l μX5_weave [vR g 0, vI z, vI z] M (QO M σ (-1)) :=
  Ci.imp (c_X5_weave hI (z := z) (y := z) (by omega) (by omega)) (fun q M' h => by
    have e : aWeave σ z z = (-1, σ) := by unfold aWeave; rw [if_neg (fun q => q.2 rfl)]
    rw [e] at h; exact h)
theorem s_width {g : GE} {l : Launch} {M : Mem} {σ : Sg} (hI : Inv M σ) {p : Int} (hp : 0 ≤ p ∧ p < 6) {w : Int} (hw : 1 ≤ w ∧ w ≤ 99) : Ci g l μX5_width [vR g 0, vI p, vI w] M (fun y M' => y = σ.1.1.getD p.toNat 0 ∧ (∃ σ', Inv M' σ' ∧ (∀ r : Int, 0 ≤ r ∧ r < 4 → rope σ'.1 r = rope σ.1 r) ∧ σ'.1.1.getD p.toNat 0 = w) ∧ ∀ a, 120 ≤ a → M' a = M a) :=
  Ci.imp (c_X5_width hI (z := p) (w := w) (by omega) (by omega)) (fun q M' h => by
    have e : aWidth σ p w = (σ.1.1.getD p.toNat 0, ((σ.1.1.set p.toNat w, σ.1.2), rcd σ)) := by unfold aWidth; rw [if_pos hp, if_neg (by omega)]
    rw [e] at h
    have h6 := hI.1.1.1
    exact ⟨h.1, ⟨_, h.2.1, fun r hr => rfl, by show (σ.1.1.set p.toNat w).getD p.toNat 0 = w; rw [getD_set (by omega), if_pos rfl]⟩, h.2.2⟩)
theorem rope_map {A : Ab} (hA : OkA A) {f : List Int → List Int} {r : Int} (hr : 0 ≤ r ∧ r < 4) : rope (A.1, A.2.map f) r = f (rope A r) := by
  have h4 := hA.2.1
  have hl : r.toNat < A.2.length := by omega
  show (A.2.map f).getD r.toNat [] = f (A.2.getD r.toNat [])
  simp only [List.getD_eq_getElem?_getD, List.getElem?_map, List.getElem?_eq_getElem hl]
  rfl
theorem s_swap {g : GE} {l : Launch} {M : Mem} {σ : Sg} (hI : Inv M σ) {p b : Int} (hp : 0 ≤ p ∧ p < 5) (hb : 0 ≤ b ∧ b < 2) (hl : OKN σ 20) : Ci g l μX5_swap [vR g 0, vI p, vI b] M (fun y M' => y = csw σ.1 p b ∧ (∃ σ', Inv M' σ' ∧ (∀ r : Int, 0 ≤ r ∧ r < 4 → rope σ'.1 r = swF p b (rope σ.1 r)) ∧ allC σ'.1 = csw σ.1 p b) ∧ ∀ a, 120 ≤ a → M' a = M a) :=
  Ci.imp (c_X5_swap hI (p := p) (b := b) (by omega) (by omega)) (fun q M' h => by
    have e : aSwap σ p b = (allC (σ.1.1, σ.1.2.map (swF p b)), ((σ.1.1, σ.1.2.map (swF p b)), rcd σ)) := by
      unfold aSwap
      rw [if_pos hp, if_pos hb, if_pos (fun r hr => ?_)]
      have h1 := hl r (by omega)
      have h2 := swF_len p b (σ.1.2.getD r [])
      have h3 : rope σ.1 r = σ.1.2.getD r [] := rfl
      rw [h3] at h1
      omega
    have hr : ∀ r : Nat, r < 4 → (σ.1.2.map (swF p b)).getD r [] = swF p b (σ.1.2.getD r []) := fun r hr => rope_map hI.1.1 (r := r) (by omega)
    have e2 : allC (σ.1.1, σ.1.2.map (swF p b)) = csw σ.1 p b := by
      unfold allC csw
      dsimp only
      rw [hr 0 (by omega), hr 1 (by omega), hr 2 (by omega), hr 3 (by omega)]
    rw [e, e2] at h
    exact ⟨h.1, ⟨_, h.2.1, fun r hr => rope_map hI.1.1 hr, e2⟩, h.2.2⟩)
/-- an act holds -/
def AO : Int → Mem → Prop := fun y M' => y = 1 ∧ ∃ σ', Inv M' σ' ∧ OKN σ' 60
theorem CH.ok {M : Mem} {σ σ' : Sg} {z : Int} {v : List Int} (h60 : OKN σ 60) (hv : v.length ≤ 60) (h : ∀ r : Int, 0 ≤ r ∧ r < 4 → rope σ'.1 r = if r = z then v else rope σ.1 r) : OKN σ' 60 := fun r hr => by
  rw [h r hr]; split
  · exact hv
  · exact h60 r hr

theorem c_L_isCrossed {g : GE} {l : Launch} {M : Mem} {σ : Sg} (hI : Inv M σ) {z : Int} (hz : 0 ≤ z ∧ z < 4) (hl : (rope σ.1 z).length ≤ 59) {c : Int} (hc : 0 ≤ c ∧ c < 12) : Ca g l μL_isCrossed 1 64 [vR g 0, vI z, vI c] M (fun y M' => y = 1 ∧ ∃ σ', Inv M' σ' ∧ ∀ r : Int, 0 ≤ r ∧ r < 4 → (rope σ'.1 r).length ≤ if r = z then (rope σ.1 z).length + 1 else (rope σ.1 r).length) := by
  refine Ca.of (by decide +kernel) rfl rfl (fun x hx hr => ?_)
  refine k_bipush hx dL_isCrossed_0 (by decide +kernel) ?_
  refine k_new64 (ls := fun q => [(0, rf q 0), (1, vI z), (2, vI c)]) (st := fun q => []) hx dL_isCrossed_2 ⟨by decide, by decide⟩ (fun g1 i1 M_2 hs_g1 hA_i1 ha_g1 ho_i1 => ?_)
  have hx_g1 := hx.sm hs_g1
  have hr_g1 := hr.sm hs_g1
  show K _ _ _ _ _ _ _ 4 [(0, vR g1 0), (1, vI z), (2, vI c)] [vR g1 i1]
  have I_2 : Inv M_2 σ := hI.hi hA_i1.1 ho_i1
  refine k_astore_n (ls' := [(0, vR g1 0), (1, vI z), (2, vI c), (3, vR g1 i1)]) hx_g1 dL_isCrossed_4 rfl rfl (by decide) ?_
  refine k_aload_n hx_g1 dL_isCrossed_5 0 rfl ?_
  refine k_iload_n hx_g1 dL_isCrossed_6 1 rfl ?_
  refine k_aload_n hx_g1 dL_isCrossed_7 3 rfl ?_
  refine k_sv (rest := []) hx_g1 sL_31 dL_isCrossed_8 (c_L_read I_2 hz hA_i1 (by omega)) rfl rfl rfl ⟨rfl, rfl⟩ ⟨by decide, by decide⟩ (fun M_8 p_8 => ?_)
  obtain ⟨w_8, I_8, o_8⟩ := p_8
  refine k_aload_n hx_g1 dL_isCrossed_11 3 rfl ?_
  refine k_iload_n hx_g1 dL_isCrossed_12 2 rfl ?_
  refine k_sv (rest := []) hx_g1 sL_17 dL_isCrossed_13 (c_L_add hA_i1 w_8 (by omega) hc) rfl rfl rfl ⟨rfl, rfl⟩ ⟨by decide, by decide⟩ (fun M_13 p_13 => ?_)
  obtain ⟨w_13, o_13⟩ := p_13
  have I_13 := I_8.hi hA_i1.1 o_13
  refine k_aload_n hx_g1 dL_isCrossed_16 0 rfl ?_
  refine k_iload_n hx_g1 dL_isCrossed_17 1 rfl ?_
  refine k_iload_n hx_g1 dL_isCrossed_18 2 rfl ?_
  refine k_vi (rest := []) hx_g1 vL_59 dL_isCrossed_19 (s_cross I_13 hz hc (by omega)) n_0 L_0 rfl rfl rfl ⟨rfl, rfl⟩ ⟨by decide, by decide⟩ (fun z_19 M_19 p_19 => ?_)
  obtain ⟨rfl, ⟨σ1, I_19, hrp⟩, o_19⟩ := p_19
  have w_19 := w_13.same (o_19 i1 hA_i1.1)
  have hrz := hrp z hz
  rw [if_pos rfl] at hrz
  refine k_aload_n hx_g1 dL_isCrossed_22 3 rfl ?_
  refine k_iconst hx_g1 dL_isCrossed_23 ?_
  refine k_iald (v := ((rope σ.1 z).length + 1)) hx_g1 dL_isCrossed_24 hA_i1.2 (LAY_hi hA_i1.1) (by omega) (by decide) (by rw [w_19.1, List.length_append]; simp) ?_
  refine k_icmp_ne hx_g1 dL_isCrossed_25 (by omega) (fun h_25 => absurd h_25 (by omega)) (fun h_25 => ?_)
  refine k_aload_n hx_g1 dL_isCrossed_28 0 rfl ?_
  refine k_iload_n hx_g1 dL_isCrossed_29 1 rfl ?_
  refine k_aload_n hx_g1 dL_isCrossed_30 3 rfl ?_
  refine k_si (rest := []) hx_g1 sL_62 dL_isCrossed_31 (c_L_isWord I_19 hz hA_i1 (by rw [hrz]; rw [List.length_append]; simp only [List.length_singleton]; omega) (by rw [hrz]; exact w_19)) rfl rfl rfl ⟨rfl, rfl⟩ ⟨by decide, by decide⟩ (fun z_31 M_31 p_31 => ?_)
  obtain ⟨rfl, I_31, o_31⟩ := p_31
  refine k_ifeq hx_g1 dL_isCrossed_34 (by omega) (fun h_34 => absurd h_34 (by omega)) (fun h_34 => ?_)
  refine k_iconst hx_g1 dL_isCrossed_37 ?_
  refine k_goto hx_g1 dL_isCrossed_38 ?_
  refine k_za hx_g1 hr_g1 ⟨by decide, by decide⟩ dL_isCrossed_42 (by first | exact Or.inl rfl | exact Or.inr rfl | exact b2i_or _) ?_
  refine ⟨rfl, σ1, I_31, fun r hr2 => ?_⟩
  rw [hrp r hr2]
  by_cases e : r = z
  · rw [if_pos e, if_pos e, List.length_append]; exact Nat.le_refl _
  · rw [if_neg e, if_neg e]; exact Nat.le_refl _
theorem c_L_isBack0 {g : GE} {l : Launch} {M : Mem} {σ : Sg} (hI : Inv M σ) (h60 : OKN σ 60) {z : Int} (hz : 0 ≤ z ∧ z < 4) {m : Nat} (hm : 1 ≤ m ∧ m ≤ 60) (hlm : (rope σ.1 z).length < m) : Ca g l μL_isBack 1 64 [vR g 0, vI z, vI m] M AO := by
  refine Ca.of (by decide +kernel) rfl rfl (fun x hx hr => ?_)
  have hl := h60 z hz
  refine k_bipush hx dL_isBack_0 (by decide +kernel) ?_
  refine k_new64 (ls := fun q => [(0, rf q 0), (1, vI z), (2, vI m)]) (st := fun q => []) hx dL_isBack_2 ⟨by decide, by decide⟩ (fun g1 i1 M_2 hs_g1 hA_i1 ha_g1 ho_i1 => ?_)
  have hx_g1 := hx.sm hs_g1
  have hr_g1 := hr.sm hs_g1
  show K _ _ _ _ _ _ _ 4 [(0, vR g1 0), (1, vI z), (2, vI m)] [vR g1 i1]
  have I_2 : Inv M_2 σ := hI.hi hA_i1.1 ho_i1
  refine k_astore_n (ls' := [(0, vR g1 0), (1, vI z), (2, vI m), (3, vR g1 i1)]) hx_g1 dL_isBack_4 rfl rfl (by decide) ?_
  refine k_aload_n hx_g1 dL_isBack_5 0 rfl ?_
  refine k_iload_n hx_g1 dL_isBack_6 1 rfl ?_
  refine k_aload_n hx_g1 dL_isBack_7 3 rfl ?_
  refine k_sv (rest := []) hx_g1 sL_31 dL_isBack_8 (c_L_read I_2 hz hA_i1 (by omega)) rfl rfl rfl ⟨rfl, rfl⟩ ⟨by decide, by decide⟩ (fun M_8 p_8 => ?_)
  obtain ⟨w_8, I_8, o_8⟩ := p_8
  refine k_aload_n hx_g1 dL_isBack_11 0 rfl ?_
  refine k_iload_n hx_g1 dL_isBack_12 1 rfl ?_
  refine k_iload_n hx_g1 dL_isBack_13 2 rfl ?_
  refine k_vi (rest := []) hx_g1 vL_66 dL_isBack_14 (s_backN I_8 hz hm (by omega)) n_0 L_0 rfl rfl rfl ⟨rfl, rfl⟩ ⟨by decide, by decide⟩ (fun z_14 M_14 p_14 => ?_)
  obtain ⟨rfl, I_14, o_14⟩ := p_14
  have I_14 : Inv M_14 σ := I_14
  have w_14 := w_8.same (o_14 i1 hA_i1.1)
  refine k_istore (ls' := [(0, vR g1 0), (1, vI z), (2, vI m), (3, vR g1 i1), (4, vI (-5))]) hx_g1 dL_isBack_17 rfl rfl (by decide) ?_
  refine k_iload_n hx_g1 dL_isBack_19 2 rfl ?_
  refine k_aload_n hx_g1 dL_isBack_20 3 rfl ?_
  refine k_iconst hx_g1 dL_isBack_21 ?_
  refine k_iald (v := ((rope σ.1 z).length)) hx_g1 dL_isBack_22 hA_i1.2 (LAY_hi hA_i1.1) (by omega) (by decide) (w_14.1) ?_
  refine k_icmp_le hx_g1 dL_isBack_23 (by omega) (fun h_23 => absurd h_23 (by omega)) (fun h_23 => ?_)
  refine k_iload hx_g1 dL_isBack_26 4 rfl ?_
  refine k_bipush hx_g1 dL_isBack_28 (by decide +kernel) ?_
  refine k_icmp_ne hx_g1 dL_isBack_30 (by omega) (fun h_30 => absurd h_30 (by omega)) (fun h_30 => ?_)
  refine k_aload_n hx_g1 dL_isBack_33 0 rfl ?_
  refine k_iload_n hx_g1 dL_isBack_34 1 rfl ?_
  refine k_aload_n hx_g1 dL_isBack_35 3 rfl ?_
  refine k_si (rest := []) hx_g1 sL_62 dL_isBack_36 (c_L_isWord I_14 hz hA_i1 (by omega) w_14) rfl rfl rfl ⟨rfl, rfl⟩ ⟨by decide, by decide⟩ (fun z_36 M_36 p_36 => ?_)
  obtain ⟨rfl, I_36, o_36⟩ := p_36
  refine k_ifeq hx_g1 dL_isBack_39 (by omega) (fun h_39 => absurd h_39 (by omega)) (fun h_39 => ?_)
  refine k_iconst hx_g1 dL_isBack_42 ?_
  refine k_goto hx_g1 dL_isBack_43 ?_
  refine k_za hx_g1 hr_g1 ⟨by decide, by decide⟩ dL_isBack_47 (by first | exact Or.inl rfl | exact Or.inr rfl | exact b2i_or _) ?_
  exact ⟨rfl, σ, I_36, h60⟩
theorem c_L_isBack1 {g : GE} {l : Launch} {M : Mem} {σ : Sg} (hI : Inv M σ) (h60 : OKN σ 60) {z : Int} (hz : 0 ≤ z ∧ z < 4) {m : Nat} (hm : 1 ≤ m ∧ m ≤ 60) (hlm : m ≤ (rope σ.1 z).length) : Ca g l μL_isBack 1 64 [vR g 0, vI z, vI m] M AO := by
  refine Ca.of (by decide +kernel) rfl rfl (fun x hx hr => ?_)
  have hl := h60 z hz
  refine k_bipush hx dL_isBack_0 (by decide +kernel) ?_
  refine k_new64 (ls := fun q => [(0, rf q 0), (1, vI z), (2, vI m)]) (st := fun q => []) hx dL_isBack_2 ⟨by decide, by decide⟩ (fun g1 i1 M_2 hs_g1 hA_i1 ha_g1 ho_i1 => ?_)
  have hx_g1 := hx.sm hs_g1
  have hr_g1 := hr.sm hs_g1
  show K _ _ _ _ _ _ _ 4 [(0, vR g1 0), (1, vI z), (2, vI m)] [vR g1 i1]
  have I_2 : Inv M_2 σ := hI.hi hA_i1.1 ho_i1
  refine k_astore_n (ls' := [(0, vR g1 0), (1, vI z), (2, vI m), (3, vR g1 i1)]) hx_g1 dL_isBack_4 rfl rfl (by decide) ?_
  refine k_aload_n hx_g1 dL_isBack_5 0 rfl ?_
  refine k_iload_n hx_g1 dL_isBack_6 1 rfl ?_
  refine k_aload_n hx_g1 dL_isBack_7 3 rfl ?_
  refine k_sv (rest := []) hx_g1 sL_31 dL_isBack_8 (c_L_read I_2 hz hA_i1 (by omega)) rfl rfl rfl ⟨rfl, rfl⟩ ⟨by decide, by decide⟩ (fun M_8 p_8 => ?_)
  obtain ⟨w_8, I_8, o_8⟩ := p_8
  refine k_aload_n hx_g1 dL_isBack_11 0 rfl ?_
  refine k_iload_n hx_g1 dL_isBack_12 1 rfl ?_
  refine k_iload_n hx_g1 dL_isBack_13 2 rfl ?_
  refine k_vi (rest := []) hx_g1 vL_66 dL_isBack_14 (s_back I_8 hz (m := m) (by omega) (by omega)) n_0 L_0 rfl rfl rfl ⟨rfl, rfl⟩ ⟨by decide, by decide⟩ (fun z_14 M_14 p_14 => ?_)
  obtain ⟨rfl, ⟨σ1, I_14, hrp⟩, o_14⟩ := p_14
  have w_14 := w_8.same (o_14 i1 hA_i1.1)
  have hrz := hrp z hz
  rw [if_pos rfl] at hrz
  refine k_istore (ls' := [(0, vR g1 0), (1, vI z), (2, vI m), (3, vR g1 i1), (4, vI ((rope σ.1 z).length - m))]) hx_g1 dL_isBack_17 rfl rfl (by decide) ?_
  refine k_iload_n hx_g1 dL_isBack_19 2 rfl ?_
  refine k_aload_n hx_g1 dL_isBack_20 3 rfl ?_
  refine k_iconst hx_g1 dL_isBack_21 ?_
  refine k_iald (v := ((rope σ.1 z).length)) hx_g1 dL_isBack_22 hA_i1.2 (LAY_hi hA_i1.1) (by omega) (by decide) (w_14.1) ?_
  refine k_icmp_le hx_g1 dL_isBack_23 (by omega) (fun h_23 => ?_) (fun h_23 => absurd h_23 (by omega))
  refine k_aload_n hx_g1 dL_isBack_48 3 rfl ?_
  refine k_iconst hx_g1 dL_isBack_49 ?_
  refine k_dup2 hx_g1 dL_isBack_50 rfl rfl ?_
  refine k_iald (v := ((rope σ.1 z).length)) hx_g1 dL_isBack_51 hA_i1.2 (LAY_hi hA_i1.1) (by omega) (by decide) (w_14.1) ?_
  refine k_iload_n hx_g1 dL_isBack_52 2 rfl ?_
  refine k_isub hx_g1 dL_isBack_53 ?_
  refine k_iastN hx_g1 dL_isBack_54 hA_i1.2 (LAY_hi hA_i1.1) (by omega) (by decide) (fun M_54 hM_54 => ?_)
  have htl : ((rope σ.1 z).take ((rope σ.1 z).length - m)).length = (rope σ.1 z).length - m := by rw [List.length_take]; omega
  have w_54 : Wa M_54 i1 ((rope σ.1 z).take ((rope σ.1 z).length - m)) := by
    refine Wa.of (by rw [hM_54, up_s, htl]; omega) (fun k hk => ?_) (w_14.2.2.take _)
    rw [htl] at hk
    rw [hM_54, up_k (by omega), w_14.atn (by omega), at0_take (by omega) (by omega)]
  have I_54 : Inv M_54 σ1 := I_14.hi hA_i1.1 (fun a ha => by rw [hM_54, up_i ha])
  refine k_iload hx_g1 dL_isBack_55 4 rfl ?_
  refine k_aload_n hx_g1 dL_isBack_57 3 rfl ?_
  refine k_iconst hx_g1 dL_isBack_58 ?_
  refine k_iald (v := ((rope σ.1 z).length - m)) hx_g1 dL_isBack_59 hA_i1.2 (LAY_hi hA_i1.1) (by omega) (by decide) (by rw [hM_54, up_s]) ?_
  refine k_icmp_ne hx_g1 dL_isBack_60 (by omega) (fun h_60 => absurd h_60 (by omega)) (fun h_60 => ?_)
  refine k_aload_n hx_g1 dL_isBack_63 0 rfl ?_
  refine k_iload_n hx_g1 dL_isBack_64 1 rfl ?_
  refine k_aload_n hx_g1 dL_isBack_65 3 rfl ?_
  refine k_si (rest := []) hx_g1 sL_62 dL_isBack_66 (c_L_isWord I_54 hz hA_i1 (by rw [hrz]; rw [htl]; omega) (by rw [hrz]; exact w_54)) rfl rfl rfl ⟨rfl, rfl⟩ ⟨by decide, by decide⟩ (fun z_66 M_66 p_66 => ?_)
  obtain ⟨rfl, I_66, o_66⟩ := p_66
  refine k_ifeq hx_g1 dL_isBack_69 (by omega) (fun h_69 => absurd h_69 (by omega)) (fun h_69 => ?_)
  refine k_iconst hx_g1 dL_isBack_72 ?_
  refine k_goto hx_g1 dL_isBack_73 ?_
  refine k_za hx_g1 hr_g1 ⟨by decide, by decide⟩ dL_isBack_77 (by first | exact Or.inl rfl | exact Or.inr rfl | exact b2i_or _) ?_
  exact ⟨rfl, σ1, I_66, CH.ok (M := M) h60 (by rw [htl]; omega) hrp⟩
theorem c_L_isBack {g : GE} {l : Launch} {M : Mem} {σ : Sg} (hI : Inv M σ) (h60 : OKN σ 60) {z : Int} (hz : 0 ≤ z ∧ z < 4) {m : Int} (hm : 1 ≤ m ∧ m ≤ 60) : Ca g l μL_isBack 1 64 [vR g 0, vI z, vI m] M AO := by
  obtain ⟨k, rfl⟩ : ∃ k : Nat, m = k := ⟨m.toNat, by omega⟩
  by_cases h : (rope σ.1 z).length < k
  · exact c_L_isBack0 hI h60 hz (by omega) h
  · exact c_L_isBack1 hI h60 hz (by omega) (by omega)
theorem c_L_isPulled {g : GE} {l : Launch} {M : Mem} {σ : Sg} (hI : Inv M σ) (h60 : OKN σ 60) {z : Int} (hz : 0 ≤ z ∧ z < 4) : Ca g l μL_isPulled 1 64 [vR g 0, vI z] M AO := by
  refine Ca.of (by decide +kernel) rfl rfl (fun x hx hr => ?_)
  have hl := h60 z hz
  refine k_bipush hx dL_isPulled_0 (by decide +kernel) ?_
  refine k_new64 (ls := fun q => [(0, rf q 0), (1, vI z)]) (st := fun q => []) hx dL_isPulled_2 ⟨by decide, by decide⟩ (fun g1 i1 M_2 hs_g1 hA_i1 ha_g1 ho_i1 => ?_)
  have hx_g1 := hx.sm hs_g1
  have hr_g1 := hr.sm hs_g1
  show K _ _ _ _ _ _ _ 4 [(0, vR g1 0), (1, vI z)] [vR g1 i1]
  have I_2 : Inv M_2 σ := hI.hi hA_i1.1 ho_i1
  refine k_astore_n (ls' := [(0, vR g1 0), (1, vI z), (2, vR g1 i1)]) hx_g1 dL_isPulled_4 rfl rfl (by decide) ?_
  refine k_aload_n hx_g1 dL_isPulled_5 0 rfl ?_
  refine k_iload_n hx_g1 dL_isPulled_6 1 rfl ?_
  refine k_aload_n hx_g1 dL_isPulled_7 2 rfl ?_
  refine k_sv (rest := []) hx_g1 sL_31 dL_isPulled_8 (c_L_read I_2 hz hA_i1 (by omega)) rfl rfl rfl ⟨rfl, rfl⟩ ⟨by decide, by decide⟩ (fun M_8 p_8 => ?_)
  obtain ⟨w_8, I_8, o_8⟩ := p_8
  refine k_aload_n hx_g1 dL_isPulled_11 2 rfl ?_
  refine k_iconst hx_g1 dL_isPulled_12 ?_
  refine k_iald (v := ((rope σ.1 z).length)) hx_g1 dL_isPulled_13 hA_i1.2 (LAY_hi hA_i1.1) (by omega) (by decide) (w_8.1) ?_
  refine k_istore_n (ls' := [(0, vR g1 0), (1, vI z), (2, vR g1 i1), (3, vI ((rope σ.1 z).length))]) hx_g1 dL_isPulled_14 rfl rfl (by decide) ?_
  refine k_aload_n hx_g1 dL_isPulled_15 2 rfl ?_
  refine k_sv (rest := []) hx_g1 sL_41 dL_isPulled_16 (c_L_pull hA_i1 w_8 (by omega)) rfl rfl rfl ⟨rfl, rfl⟩ ⟨by decide, by decide⟩ (fun M_16 p_16 => ?_)
  obtain ⟨w_16, o_16⟩ := p_16
  have I_16 := I_8.hi hA_i1.1 o_16
  have hrl := red_len_le (rope σ.1 z)
  refine k_aload_n hx_g1 dL_isPulled_19 0 rfl ?_
  refine k_iload_n hx_g1 dL_isPulled_20 1 rfl ?_
  refine k_vi (rest := []) hx_g1 vL_69 dL_isPulled_21 (s_pull I_16 hz) n_0 L_0 rfl rfl rfl ⟨rfl, rfl⟩ ⟨by decide, by decide⟩ (fun z_21 M_21 p_21 => ?_)
  obtain ⟨rfl, ⟨σ1, I_21, hrp⟩, o_21⟩ := p_21
  have w_21 := w_16.same (o_21 i1 hA_i1.1)
  have hrz := hrp z hz
  rw [if_pos rfl] at hrz
  refine k_iload_n hx_g1 dL_isPulled_24 3 rfl ?_
  refine k_aload_n hx_g1 dL_isPulled_25 2 rfl ?_
  refine k_iconst hx_g1 dL_isPulled_26 ?_
  refine k_iald (v := ((red (rope σ.1 z)).length)) hx_g1 dL_isPulled_27 hA_i1.2 (LAY_hi hA_i1.1) (by omega) (by decide) (w_21.1) ?_
  refine k_isub hx_g1 dL_isPulled_28 ?_
  refine k_iconst hx_g1 dL_isPulled_29 ?_
  refine k_idiv hx_g1 dL_isPulled_30 (by omega) ?_
  refine k_icmp_ne hx_g1 dL_isPulled_31 (by omega) (fun h_31 => absurd h_31 (by omega)) (fun h_31 => ?_)
  refine k_aload_n hx_g1 dL_isPulled_34 0 rfl ?_
  refine k_iload_n hx_g1 dL_isPulled_35 1 rfl ?_
  refine k_aload_n hx_g1 dL_isPulled_36 2 rfl ?_
  refine k_si (rest := []) hx_g1 sL_62 dL_isPulled_37 (c_L_isWord I_21 hz hA_i1 (by rw [hrz]; omega) (by rw [hrz]; exact w_21)) rfl rfl rfl ⟨rfl, rfl⟩ ⟨by decide, by decide⟩ (fun z_37 M_37 p_37 => ?_)
  obtain ⟨rfl, I_37, o_37⟩ := p_37
  refine k_ifeq hx_g1 dL_isPulled_40 (by omega) (fun h_40 => absurd h_40 (by omega)) (fun h_40 => ?_)
  refine k_iconst hx_g1 dL_isPulled_43 ?_
  refine k_goto hx_g1 dL_isPulled_44 ?_
  refine k_za hx_g1 hr_g1 ⟨by decide, by decide⟩ dL_isPulled_48 (by first | exact Or.inl rfl | exact Or.inr rfl | exact b2i_or _) ?_
  exact ⟨rfl, σ1, I_37, CH.ok (M := M) h60 (by omega) hrp⟩
theorem c_L_isTurned {g : GE} {l : Launch} {M : Mem} {σ : Sg} (hI : Inv M σ) (h60 : OKN σ 60) {z : Int} (hz : 0 ≤ z ∧ z < 4) : Ca g l μL_isTurned 1 64 [vR g 0, vI z] M AO := by
  refine Ca.of (by decide +kernel) rfl rfl (fun x hx hr => ?_)
  have hl := h60 z hz
  refine k_bipush hx dL_isTurned_0 (by decide +kernel) ?_
  refine k_new64 (ls := fun q => [(0, rf q 0), (1, vI z)]) (st := fun q => []) hx dL_isTurned_2 ⟨by decide, by decide⟩ (fun g1 i1 M_2 hs_g1 hA_i1 ha_g1 ho_i1 => ?_)
  have hx_g1 := hx.sm hs_g1
  have hr_g1 := hr.sm hs_g1
  show K _ _ _ _ _ _ _ 4 [(0, vR g1 0), (1, vI z)] [vR g1 i1]
  have I_2 : Inv M_2 σ := hI.hi hA_i1.1 ho_i1
  refine k_astore_n (ls' := [(0, vR g1 0), (1, vI z), (2, vR g1 i1)]) hx_g1 dL_isTurned_4 rfl rfl (by decide) ?_
  refine k_aload_n hx_g1 dL_isTurned_5 0 rfl ?_
  refine k_iload_n hx_g1 dL_isTurned_6 1 rfl ?_
  refine k_aload_n hx_g1 dL_isTurned_7 2 rfl ?_
  refine k_sv (rest := []) hx_g1 sL_31 dL_isTurned_8 (c_L_read I_2 hz hA_i1 (by omega)) rfl rfl rfl ⟨rfl, rfl⟩ ⟨by decide, by decide⟩ (fun M_8 p_8 => ?_)
  obtain ⟨w_8, I_8, o_8⟩ := p_8
  refine k_aload_n hx_g1 dL_isTurned_11 2 rfl ?_
  refine k_sv (rest := []) hx_g1 sL_74 dL_isTurned_12 (c_L_turn hA_i1 w_8 (by omega)) rfl rfl rfl ⟨rfl, rfl⟩ ⟨by decide, by decide⟩ (fun M_12 p_12 => ?_)
  obtain ⟨w_12, o_12⟩ := p_12
  have I_12 := I_8.hi hA_i1.1 o_12
  have hrl := trn_len (rope σ.1 z)
  refine k_aload_n hx_g1 dL_isTurned_15 0 rfl ?_
  refine k_iload_n hx_g1 dL_isTurned_16 1 rfl ?_
  refine k_vi (rest := []) hx_g1 vL_77 dL_isTurned_17 (s_turn I_12 hz) n_0 L_0 rfl rfl rfl ⟨rfl, rfl⟩ ⟨by decide, by decide⟩ (fun z_17 M_17 p_17 => ?_)
  obtain ⟨rfl, ⟨σ1, I_17, hrp⟩, o_17⟩ := p_17
  have w_17 := w_12.same (o_17 i1 hA_i1.1)
  have hrz := hrp z hz
  rw [if_pos rfl] at hrz
  refine k_aload_n hx_g1 dL_isTurned_20 2 rfl ?_
  refine k_iconst hx_g1 dL_isTurned_21 ?_
  refine k_iald (v := ((rope σ.1 z).length)) hx_g1 dL_isTurned_22 hA_i1.2 (LAY_hi hA_i1.1) (by omega) (by decide) (by rw [w_17.1, hrl]) ?_
  refine k_icmp_ne hx_g1 dL_isTurned_23 (by omega) (fun h_23 => absurd h_23 (by omega)) (fun h_23 => ?_)
  refine k_aload_n hx_g1 dL_isTurned_26 0 rfl ?_
  refine k_iload_n hx_g1 dL_isTurned_27 1 rfl ?_
  refine k_aload_n hx_g1 dL_isTurned_28 2 rfl ?_
  refine k_si (rest := []) hx_g1 sL_62 dL_isTurned_29 (c_L_isWord I_17 hz hA_i1 (by rw [hrz]; omega) (by rw [hrz]; exact w_17)) rfl rfl rfl ⟨rfl, rfl⟩ ⟨by decide, by decide⟩ (fun z_29 M_29 p_29 => ?_)
  obtain ⟨rfl, I_29, o_29⟩ := p_29
  refine k_ifeq hx_g1 dL_isTurned_32 (by omega) (fun h_32 => absurd h_32 (by omega)) (fun h_32 => ?_)
  refine k_iconst hx_g1 dL_isTurned_35 ?_
  refine k_goto hx_g1 dL_isTurned_36 ?_
  refine k_za hx_g1 hr_g1 ⟨by decide, by decide⟩ dL_isTurned_40 (by first | exact Or.inl rfl | exact Or.inr rfl | exact b2i_or _) ?_
  exact ⟨rfl, σ1, I_29, CH.ok (M := M) h60 (by omega) hrp⟩

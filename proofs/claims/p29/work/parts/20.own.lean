/-! the class's own methods, over one abstract state -/
/-- now, the past, the two slots, the pad -/
abbrev Sg : Type := Ab × List Ab × (Option Ab × Option Ab) × List Int
def slo (σ : Sg) (k : Nat) : Option Ab := if k = 0 then σ.2.2.1.1 else σ.2.2.1.2
def Inv (M : Mem) (σ : Sg) : Prop := Sd M 1 σ.1 ∧ Pd M σ.2.1 ∧ (∀ k : Nat, k < 2 → M 103 k = if (slo σ k).isSome = true then 1 else 0) ∧ (∀ (k : Nat) (A : Ab), k < 2 → slo σ k = some A → Sd M (81 + 11 * k) A) ∧ Pw M σ.2.2.2
abbrev rcd (σ : Sg) : List Ab × (Option Ab × Option Ab) × List Int := ((σ.1 :: σ.2.1).take 6, σ.2.2)
/-- the answer, and the state behind it; the reference's cells stay -/
def PO (M : Mem) (q : Int × Sg) : Int → Mem → Prop := fun z M' => z = q.1 ∧ Inv M' q.2 ∧ ∀ a, 120 ≤ a → M' a = M a
theorem Inv.same {M M' : Mem} {σ : Sg} (h : Inv M σ) (ho : ∀ a, a < 114 → M' a = M a) : Inv M' σ := by
  obtain ⟨h1, h2, h3, h4, h5⟩ := h
  refine ⟨h1.same (fun a _ _ => ho a (by omega)), h2.same (fun a _ _ => ho a (by omega)), fun k hk => by rw [ho 103 (by omega)]; exact h3 k hk, fun k A hk hs => (h4 k A hk hs).same (fun a _ _ => ho a (by omega)), ?_⟩
  unfold Pw; rw [ho 104 (by omega), ho 105 (by omega)]; exact h5
theorem Inv.set {M M' : Mem} {A A' : Ab} {ρ : List Ab × (Option Ab × Option Ab) × List Int} (h : Inv M (A, ρ)) (hA : Sd M' 1 A') (ho : ∀ a, 12 ≤ a → a < 114 → M' a = M a) : Inv M' (A', ρ) := by
  obtain ⟨h1, h2, h3, h4, h5⟩ := h
  refine ⟨hA, h2.same (fun a _ _ => ho a (by omega) (by omega)), fun k hk => by rw [ho 103 (by omega) (by omega)]; exact h3 k hk, fun k A hk hs => (h4 k A hk hs).same (fun a _ _ => ho a (by omega) (by omega)), ?_⟩
  unfold Pw; rw [ho 104 (by omega) (by omega), ho 105 (by omega) (by omega)]; exact h5
theorem Inv.rec {M M' : Mem} {σ : Sg} (h : Inv M σ) (hp : Pd M' ((σ.1 :: σ.2.1).take 6) ∧ ∀ a, (a < 12 ∨ 80 ≤ a) → M' a = M a) : Inv M' (σ.1, rcd σ) := by
  obtain ⟨h1, h2, h3, h4, h5⟩ := h
  obtain ⟨hp, ho⟩ := hp
  refine ⟨h1.same (fun a _ _ => ho a (by omega)), hp, fun k hk => by rw [ho 103 (by omega)]; exact h3 k hk, fun k A hk hs => (h4 k A hk hs).same (fun a _ _ => ho a (by omega)), ?_⟩
  unfold Pw; rw [ho 104 (by omega), ho 105 (by omega)]; exact h5
def setR (A : Ab) (z : Int) (v : List Int) : Ab := (A.1, A.2.set z.toNat v)
theorem getD_set {α : Type} {l : List α} {i j : Nat} {v d : α} (hi : i < l.length) : (l.set i v).getD j d = if j = i then v else l.getD j d := by
  simp only [List.getD_eq_getElem?_getD, List.getElem?_set]
  by_cases h : j = i
  · subst h; simp [hi]
  · rw [if_neg (Ne.symm h), if_neg h]
theorem Sd.setR {M M' : Mem} {A : Ab} (h : Sd M 1 A) {z : Int} (hz : 0 ≤ z ∧ z < 4) {v : List Int} (hw : Wd M' (4 + 2 * z.toNat) v) (ho : Off (4 + 2 * z.toNat) M M') (hl : v.length ≤ 120) : Sd M' 1 (setR A z v) := by
  obtain ⟨⟨a1, a2, a3, a4⟩, h2, h3⟩ := h
  have hzl : z.toNat < A.2.length := by omega
  refine ⟨⟨a1, by show (A.2.set z.toNat v).length = 4; rw [List.length_set]; exact a2, a3, fun r hr => ?_⟩, fun p hp => by rw [ho 2 (by omega) (by omega)]; exact h2 p hp, fun r hr => ?_⟩
  · show Cr ((A.2.set z.toNat v).getD r []) ∧ ((A.2.set z.toNat v).getD r []).length ≤ 120
    rw [getD_set hzl]
    split
    · exact ⟨hw.2.2, hl⟩
    · exact a4 r hr
  · show Wd M' (1 + 3 + 2 * r) ((A.2.set z.toNat v).getD r [])
    rw [getD_set hzl]
    split
    · rename_i hrz; subst hrz; rw [show 1 + 3 + 2 * z.toNat = 4 + 2 * z.toNat by omega]; exact hw
    · exact (h3 r hr).off ho (by omega) (by omega) (by omega)

theorem c_X4_dropLast {g : GE} {l : Launch} {M : Mem} {i cap : Nat} {w : List Int} (hW : IsW g i cap) (hw : Wd M i w) (hc : w.length ≤ cap) {m : Nat} (hm : m ≤ w.length) : Cv g l μX4_dropLast [vR g i, vI m] M (fun M' => Wd M' i (w.take (w.length - m)) ∧ Off i M M') := by
  refine Cv.of (by decide +kernel) rfl rfl (fun x hx hr => ?_)
  have hl := hw.1; have h480 := hW.2.2.2.2
  refine k_aload_n hx dX4_dropLast_0 0 rfl ?_
  refine k_iconst hx dX4_dropLast_1 ?_
  refine k_aload_n hx dX4_dropLast_2 0 rfl ?_
  refine k_get (v := vI w.length) hx fX4_21 dX4_dropLast_3 hW.2.2.1 hW.1 (congrArg vI (show M i 1 = w.length from hl)) ?_
  refine k_iload_n hx dX4_dropLast_6 1 rfl ?_
  refine k_isub hx dX4_dropLast_7 ?_
  refine k_sp (rest := [vR g i]) (e := (max 0 (w.length - m))) hx sX4_9 dX4_dropLast_8 (c_max (a := 0) (b := (w.length - m)) (by omega)) rfl rfl rfl ⟨rfl, rfl⟩ ⟨by decide, by decide⟩ ?_
  refine k_putI (kz := 1) hx fX4_21 dX4_dropLast_11 hW.2.2.1 hW.1 rfl rfl (fun M_11 hM_11 => ?_)
  refine k_rv hx hr dX4_dropLast_14 ?_
  have e : max 0 ((w.length : Int) - m) = ((w.length - m : Nat) : Int) := by omega
  rw [e] at hM_11
  subst hM_11
  exact ⟨hw.cut (by omega), off_up⟩
def aWidth (σ : Sg) (z w : Int) : Int × Sg := if 0 ≤ z ∧ z < 6 then (if w < 1 ∨ 99 < w then (-2, σ) else (σ.1.1.getD z.toNat 0, ((σ.1.1.set z.toNat w, σ.1.2), rcd σ))) else (-1, σ)
def aCross (σ : Sg) (z c : Int) : Int × Sg := if 0 ≤ z ∧ z < 4 then (if c < 0 ∨ 12 ≤ c then (-2, σ) else if 120 ≤ (rope σ.1 z).length then (-4, σ) else ((rope σ.1 z).length + 1, (setR σ.1 z (rope σ.1 z ++ [c]), rcd σ))) else (-1, σ)
def aBack (σ : Sg) (z m : Int) : Int × Sg := if 0 ≤ z ∧ z < 4 then (if m < 1 ∨ 120 < m then (-2, σ) else if (rope σ.1 z).length < m then (-5, σ) else ((rope σ.1 z).length - m, (setR σ.1 z ((rope σ.1 z).take ((rope σ.1 z).length - m.toNat)), rcd σ))) else (-1, σ)
def aPull (σ : Sg) (z : Int) : Int × Sg := if 0 ≤ z ∧ z < 4 then (((rope σ.1 z).length - (red (rope σ.1 z)).length) / 2, (setR σ.1 z (red (rope σ.1 z)), rcd σ)) else (-1, σ)
def aJoin (σ : Sg) (z y : Int) : Int × Sg := if (0 ≤ z ∧ z < 4) ∧ (0 ≤ y ∧ y < 4) then (if 120 < (rope σ.1 z).length + (rope σ.1 y).length then (-4, σ) else ((rope σ.1 z).length + (rope σ.1 y).length, (setR σ.1 z (rope σ.1 z ++ rope σ.1 y), rcd σ))) else (-1, σ)
def aTurn (σ : Sg) (z : Int) : Int × Sg := if 0 ≤ z ∧ z < 4 then ((rope σ.1 z).length, (setR σ.1 z (trn (rope σ.1 z)), rcd σ)) else (-1, σ)
def wv (σ : Sg) (z y : Int) : List Int := red (rope σ.1 z ++ rope σ.1 y ++ trn (rope σ.1 z) ++ trn (rope σ.1 y))
def aWeave (σ : Sg) (z y : Int) : Int × Sg := if ((0 ≤ z ∧ z < 4) ∧ (0 ≤ y ∧ y < 4)) ∧ z ≠ y then (if 120 < (wv σ z y).length then (-4, σ) else ((wv σ z y).length, (setR σ.1 z (wv σ z y), rcd σ))) else (-1, σ)
theorem turnF_0 (w : List Int) : turnF w 0 = trn w := by simp [turnF]

theorem c_X5_width {g : GE} {l : Launch} {M : Mem} {σ : Sg} (hI : Inv M σ) {z : Int} (hzr : -2147483648 ≤ z ∧ z < 2147483648) {w : Int} (hwr : -2147483648 ≤ w ∧ w < 2147483648) : Ci g l μX5_width [vR g 0, vI z, vI w] M (PO M (aWidth σ z w)) := by
  refine Ci.of (by decide +kernel) rfl rfl (fun x hx hr => ?_)
  refine k_iload_n hx dX5_width_0 1 rfl ?_
  refine k_sp (rest := []) (e := (b2i (decide (0 ≤ z ∧ z < 6)))) hx sX5_60 dX5_width_1 (c_X5_isPost (z := z) (by omega)) rfl rfl rfl ⟨rfl, rfl⟩ ⟨by decide, by decide⟩ ?_
  refine k_bne hx dX5_width_4 (fun h_4 => ?_) (fun h_4 => ?_)
  · refine k_iload_n hx dX5_width_9 2 rfl ?_
    refine k_iconst hx dX5_width_10 ?_
    refine k_icmp_lt hx dX5_width_11 (by omega) (fun h_11 => ?_) (fun h_11 => ?_)
    · refine k_bipush hx dX5_width_20 (by decide +kernel) ?_
      refine k_ri hx hr dX5_width_22 ?_
      exact ⟨by unfold aWidth; rw [if_pos h_4, if_pos (by omega)], by unfold aWidth; rw [if_pos h_4, if_pos (by omega)]; exact hI, fun _ _ => rfl⟩
    · refine k_iload_n hx dX5_width_14 2 rfl ?_
      refine k_bipush hx dX5_width_15 (by decide +kernel) ?_
      refine k_icmp_le hx dX5_width_17 (by omega) (fun h_17 => ?_) (fun h_17 => ?_)
      · refine k_aload_n hx dX5_width_23 0 rfl ?_
        refine k_get (v := vR g 12) hx fX5_19 dX5_width_24 n_0 L_0 rfl ?_
        refine k_aload_n hx dX5_width_27 0 rfl ?_
        refine k_get (v := vR g 1) hx fX5_12 dX5_width_28 n_0 L_0 rfl ?_
        refine k_vv (rest := []) hx vX5_64 dX5_width_31 (c_X1_remember hI.2.1 hI.1) n_12 L_12 rfl rfl rfl ⟨rfl, rfl⟩ ⟨by decide, by decide⟩ (fun M_31 p_31 => ?_)
        have hI2 := hI.rec p_31
        have hS2 : Sd M_31 1 σ.1 := hI2.1
        have hoM : ∀ a, 120 ≤ a → M_31 a = M a := fun a ha => p_31.2 a (by omega)
        refine k_aload_n hx dX5_width_34 0 rfl ?_
        refine k_get (v := vR g 1) hx fX5_12 dX5_width_35 n_0 L_0 rfl ?_
        refine k_get (v := vR g 2) hx fX5_68 dX5_width_38 n_1 L_1 rfl ?_
        refine k_iload_n hx dX5_width_41 1 rfl ?_
        refine k_iald (v := (σ.1.1.getD z.toNat 0)) hx dX5_width_42 n_2 L_2 (by omega) (by decide) (by have := hS2.2.1 z.toNat (by omega); rwa [show ((z.toNat : Nat) : Int) = z by omega] at this) ?_
        refine k_istore_n (ls' := [(0, vR g 0), (1, vI z), (2, vI w), (3, vI (σ.1.1.getD z.toNat 0))]) hx dX5_width_43 rfl rfl (by decide) ?_
        refine k_aload_n hx dX5_width_44 0 rfl ?_
        refine k_get (v := vR g 1) hx fX5_12 dX5_width_45 n_0 L_0 rfl ?_
        refine k_get (v := vR g 2) hx fX5_68 dX5_width_48 n_1 L_1 rfl ?_
        refine k_iload_n hx dX5_width_51 1 rfl ?_
        refine k_iload_n hx dX5_width_52 2 rfl ?_
        refine k_iastN hx dX5_width_53 n_2 L_2 (by omega) (by decide) (fun M_53 hM_53 => ?_)
        refine k_iload_n hx dX5_width_54 3 rfl ?_
        refine k_ri hx hr dX5_width_55 ?_
        refine ⟨by unfold aWidth; rw [if_pos h_4, if_neg (by omega)], ?_, fun a ha => by rw [hM_53, up_i (by omega)]; exact hoM a ha⟩
        unfold aWidth
        rw [if_pos h_4, if_neg (by omega)]
        refine hI2.set ?_ (fun a h1 h2 => by rw [hM_53, up_i (by omega)])
        obtain ⟨⟨a1, a2, a3, a4⟩, h2, h3⟩ := hS2
        have hzl : z.toNat < σ.1.1.length := by omega
        refine ⟨⟨by show (σ.1.1.set z.toNat w).length = 6; rw [List.length_set]; exact a1, a2, fun p hp => ?_, a4⟩, fun p hp => ?_, fun r hr => (h3 r hr).same (by rw [hM_53, up_i (by omega)]) (by rw [hM_53, up_i (by omega)])⟩
        · show 1 ≤ (σ.1.1.set z.toNat w).getD p 0 ∧ (σ.1.1.set z.toNat w).getD p 0 ≤ 99
          rw [getD_set hzl]; split; omega; exact a3 p hp
        · show M_53 2 p = (σ.1.1.set z.toNat w).getD p 0
          rw [getD_set hzl, hM_53]
          split
          · rename_i hpz; subst hpz; rw [show ((z.toNat : Nat) : Int) = z by omega, up_s]
          · rw [up_k (by omega)]; exact h2 p hp
      · refine k_bipush hx dX5_width_20 (by decide +kernel) ?_
        refine k_ri hx hr dX5_width_22 ?_
        exact ⟨by unfold aWidth; rw [if_pos h_4, if_pos (by omega)], by unfold aWidth; rw [if_pos h_4, if_pos (by omega)]; exact hI, fun _ _ => rfl⟩
  · refine k_iconst hx dX5_width_7 ?_
    refine k_ri hx hr dX5_width_8 ?_
    exact ⟨by unfold aWidth; rw [if_neg h_4], by unfold aWidth; rw [if_neg h_4]; exact hI, fun _ _ => rfl⟩
theorem c_X5_cross {g : GE} {l : Launch} {M : Mem} {σ : Sg} (hI : Inv M σ) {z : Int} (hzr : -2147483648 ≤ z ∧ z < 2147483648) {c : Int} (hcr : -2147483648 ≤ c ∧ c < 2147483648) : Ci g l μX5_cross [vR g 0, vI z, vI c] M (PO M (aCross σ z c)) := by
  refine Ci.of (by decide +kernel) rfl rfl (fun x hx hr => ?_)
  refine k_iload_n hx dX5_cross_0 1 rfl ?_
  refine k_sp (rest := []) (e := (b2i (decide (0 ≤ z ∧ z < 4)))) hx sX5_72 dX5_cross_1 (c_X5_isRope (z := z) (by omega)) rfl rfl rfl ⟨rfl, rfl⟩ ⟨by decide, by decide⟩ ?_
  refine k_bne hx dX5_cross_4 (fun h_4 => ?_) (fun h_4 => ?_)
  · refine k_iload_n hx dX5_cross_9 2 rfl ?_
    refine k_iflt hx dX5_cross_10 (by omega) (fun h_10 => ?_) (fun h_10 => ?_)
    · refine k_bipush hx dX5_cross_19 (by decide +kernel) ?_
      refine k_ri hx hr dX5_cross_21 ?_
      exact ⟨by unfold aCross; rw [if_pos h_4, if_pos (by omega)], by unfold aCross; rw [if_pos h_4, if_pos (by omega)]; exact hI, fun _ _ => rfl⟩
    · refine k_iload_n hx dX5_cross_13 2 rfl ?_
      refine k_bipush hx dX5_cross_14 (by decide +kernel) ?_
      refine k_icmp_lt hx dX5_cross_16 (by omega) (fun h_16 => ?_) (fun h_16 => ?_)
      · refine k_aload_n hx dX5_cross_22 0 rfl ?_
        refine k_get (v := vR g 1) hx fX5_12 dX5_cross_23 n_0 L_0 rfl ?_
        refine k_get (v := vR g 3) hx fX5_75 dX5_cross_26 n_1 L_1 rfl ?_
        refine k_iload_n hx dX5_cross_29 1 rfl ?_
        obtain ⟨hv, hvl⟩ := hI.1.rope h_4
        refine k_aald (q := (4 + 2 * z.toNat)) hx dX5_cross_30 n_3 L_3 (by decide) (by simp only [List.length_cons, List.length_nil]; omega) (by decide) (rope_at h_4) ?_
        refine k_astore_n (ls' := [(0, vR g 0), (1, vI z), (2, vI c), (3, vR g (4 + 2 * z.toNat))]) hx dX5_cross_31 rfl rfl (by decide) ?_
        refine k_aload_n hx dX5_cross_32 3 rfl ?_
        refine k_get (v := vI ((rope σ.1 z).length)) hx fX5_79 dX5_cross_33 (isS1w (g := g) h_4).2.2.1 (isS1w (g := g) h_4).1 (congrArg vI (show M (4 + 2 * z.toNat) 1 = ((rope σ.1 z).length) from hv.1)) ?_
        refine k_bipush hx dX5_cross_36 (by decide +kernel) ?_
        refine k_icmp_lt hx dX5_cross_38 (by omega) (fun h_38 => ?_) (fun h_38 => ?_)
        · refine k_aload_n hx dX5_cross_44 0 rfl ?_
          refine k_get (v := vR g 12) hx fX5_19 dX5_cross_45 n_0 L_0 rfl ?_
          refine k_aload_n hx dX5_cross_48 0 rfl ?_
          refine k_get (v := vR g 1) hx fX5_12 dX5_cross_49 n_0 L_0 rfl ?_
          refine k_vv (rest := []) hx vX5_64 dX5_cross_52 (c_X1_remember hI.2.1 hI.1) n_12 L_12 rfl rfl rfl ⟨rfl, rfl⟩ ⟨by decide, by decide⟩ (fun M_52 p_52 => ?_)
          have hI2 := hI.rec p_52
          have hS2 : Sd M_52 1 σ.1 := hI2.1
          have hoM : ∀ a, 120 ≤ a → M_52 a = M a := fun a ha => p_52.2 a (by omega)
          have hv2 := (hS2.rope h_4).1
          refine k_aload_n hx dX5_cross_55 3 rfl ?_
          refine k_iload_n hx dX5_cross_56 2 rfl ?_
          refine k_vi (rest := []) hx vX5_83 dX5_cross_57 (c_X4_add (isS1w (g := g) h_4) hv2 hvl (by omega) (c := c) (by omega)) (isS1w (g := g) h_4).2.2.1 (isS1w (g := g) h_4).1 rfl rfl rfl ⟨rfl, rfl⟩ ⟨by decide, by decide⟩ (fun z_57 M_57 p_57 => ?_)
          obtain ⟨rfl, q1, q2, -⟩ := p_57
          refine k_pop hx dX5_cross_60 rfl ?_
          refine k_aload_n hx dX5_cross_61 3 rfl ?_
          refine k_get (v := vI ((rope σ.1 z).length + 1)) hx fX5_79 dX5_cross_62 (isS1w (g := g) h_4).2.2.1 (isS1w (g := g) h_4).1 (congrArg vI (show M_57 (4 + 2 * z.toNat) 1 = ((rope σ.1 z).length + 1) from by rw [q1.1]; simp)) ?_
          refine k_ri hx hr dX5_cross_65 ?_
          refine ⟨by unfold aCross; rw [if_pos h_4, if_neg (by omega), if_neg (by omega)], ?_, fun a ha => by rw [q2 a (by omega) (by omega)]; exact hoM a ha⟩
          unfold aCross
          rw [if_pos h_4, if_neg (by omega), if_neg (by omega)]
          exact hI2.set (hS2.setR h_4 q1 q2 (by rw [List.length_append]; simp only [List.length_singleton]; omega)) (fun a h1 h2 => q2 a (by omega) (by omega))
        · refine k_bipush hx dX5_cross_41 (by decide +kernel) ?_
          refine k_ri hx hr dX5_cross_43 ?_
          exact ⟨by unfold aCross; rw [if_pos h_4, if_neg (by omega), if_pos (by omega)], by unfold aCross; rw [if_pos h_4, if_neg (by omega), if_pos (by omega)]; exact hI, fun _ _ => rfl⟩
      · refine k_bipush hx dX5_cross_19 (by decide +kernel) ?_
        refine k_ri hx hr dX5_cross_21 ?_
        exact ⟨by unfold aCross; rw [if_pos h_4, if_pos (by omega)], by unfold aCross; rw [if_pos h_4, if_pos (by omega)]; exact hI, fun _ _ => rfl⟩
  · refine k_iconst hx dX5_cross_7 ?_
    refine k_ri hx hr dX5_cross_8 ?_
    exact ⟨by unfold aCross; rw [if_neg h_4], by unfold aCross; rw [if_neg h_4]; exact hI, fun _ _ => rfl⟩
theorem c_X5_back {g : GE} {l : Launch} {M : Mem} {σ : Sg} (hI : Inv M σ) {z : Int} (hzr : -2147483648 ≤ z ∧ z < 2147483648) {m : Int} (hmr : -2147483648 ≤ m ∧ m < 2147483648) : Ci g l μX5_back [vR g 0, vI z, vI m] M (PO M (aBack σ z m)) := by
  refine Ci.of (by decide +kernel) rfl rfl (fun x hx hr => ?_)
  refine k_iload_n hx dX5_back_0 1 rfl ?_
  refine k_sp (rest := []) (e := (b2i (decide (0 ≤ z ∧ z < 4)))) hx sX5_72 dX5_back_1 (c_X5_isRope (z := z) (by omega)) rfl rfl rfl ⟨rfl, rfl⟩ ⟨by decide, by decide⟩ ?_
  refine k_bne hx dX5_back_4 (fun h_4 => ?_) (fun h_4 => ?_)
  · refine k_iload_n hx dX5_back_9 2 rfl ?_
    refine k_iconst hx dX5_back_10 ?_
    refine k_icmp_lt hx dX5_back_11 (by omega) (fun h_11 => ?_) (fun h_11 => ?_)
    · refine k_bipush hx dX5_back_20 (by decide +kernel) ?_
      refine k_ri hx hr dX5_back_22 ?_
      exact ⟨by unfold aBack; rw [if_pos h_4, if_pos (by omega)], by unfold aBack; rw [if_pos h_4, if_pos (by omega)]; exact hI, fun _ _ => rfl⟩
    · refine k_iload_n hx dX5_back_14 2 rfl ?_
      refine k_bipush hx dX5_back_15 (by decide +kernel) ?_
      refine k_icmp_le hx dX5_back_17 (by omega) (fun h_17 => ?_) (fun h_17 => ?_)
      · refine k_aload_n hx dX5_back_23 0 rfl ?_
        refine k_get (v := vR g 1) hx fX5_12 dX5_back_24 n_0 L_0 rfl ?_
        refine k_get (v := vR g 3) hx fX5_75 dX5_back_27 n_1 L_1 rfl ?_
        refine k_iload_n hx dX5_back_30 1 rfl ?_
        obtain ⟨hv, hvl⟩ := hI.1.rope h_4
        refine k_aald (q := (4 + 2 * z.toNat)) hx dX5_back_31 n_3 L_3 (by decide) (by simp only [List.length_cons, List.length_nil]; omega) (by decide) (rope_at h_4) ?_
        refine k_astore_n (ls' := [(0, vR g 0), (1, vI z), (2, vI m), (3, vR g (4 + 2 * z.toNat))]) hx dX5_back_32 rfl rfl (by decide) ?_
        refine k_iload_n hx dX5_back_33 2 rfl ?_
        refine k_aload_n hx dX5_back_34 3 rfl ?_
        refine k_get (v := vI ((rope σ.1 z).length)) hx fX5_79 dX5_back_35 (isS1w (g := g) h_4).2.2.1 (isS1w (g := g) h_4).1 (congrArg vI (show M (4 + 2 * z.toNat) 1 = ((rope σ.1 z).length) from hv.1)) ?_
        refine k_icmp_le hx dX5_back_38 (by omega) (fun h_38 => ?_) (fun h_38 => ?_)
        · refine k_aload_n hx dX5_back_44 0 rfl ?_
          refine k_get (v := vR g 12) hx fX5_19 dX5_back_45 n_0 L_0 rfl ?_
          refine k_aload_n hx dX5_back_48 0 rfl ?_
          refine k_get (v := vR g 1) hx fX5_12 dX5_back_49 n_0 L_0 rfl ?_
          refine k_vv (rest := []) hx vX5_64 dX5_back_52 (c_X1_remember hI.2.1 hI.1) n_12 L_12 rfl rfl rfl ⟨rfl, rfl⟩ ⟨by decide, by decide⟩ (fun M_52 p_52 => ?_)
          have hI2 := hI.rec p_52
          have hS2 : Sd M_52 1 σ.1 := hI2.1
          have hoM : ∀ a, 120 ≤ a → M_52 a = M a := fun a ha => p_52.2 a (by omega)
          have hv2 := (hS2.rope h_4).1
          obtain ⟨mn, rfl⟩ : ∃ mn : Nat, m = mn := ⟨m.toNat, by omega⟩
          refine k_aload_n hx dX5_back_55 3 rfl ?_
          refine k_iload_n hx dX5_back_56 2 rfl ?_
          refine k_vv (rest := []) hx vX5_86 dX5_back_57 (c_X4_dropLast (isS1w (g := g) h_4) hv2 hvl (m := mn) (by omega)) (isS1w (g := g) h_4).2.2.1 (isS1w (g := g) h_4).1 rfl rfl rfl ⟨rfl, rfl⟩ ⟨by decide, by decide⟩ (fun M_57 p_57 => ?_)
          obtain ⟨q1, q2⟩ := p_57
          refine k_aload_n hx dX5_back_60 3 rfl ?_
          refine k_get (v := vI ((rope σ.1 z).length - (mn : Nat))) hx fX5_79 dX5_back_61 (isS1w (g := g) h_4).2.2.1 (isS1w (g := g) h_4).1 (congrArg vI (show M_57 (4 + 2 * z.toNat) 1 = ((rope σ.1 z).length - (mn : Nat)) from by rw [q1.1, List.length_take]; omega)) ?_
          refine k_ri hx hr dX5_back_64 ?_
          refine ⟨by unfold aBack; rw [if_pos h_4, if_neg (by omega), if_neg (by omega)], ?_, fun a ha => by rw [q2 a (by omega) (by omega)]; exact hoM a ha⟩
          unfold aBack
          rw [if_pos h_4, if_neg (by omega), if_neg (by omega)]
          exact hI2.set (hS2.setR h_4 q1 q2 (by rw [List.length_take]; omega)) (fun a h1 h2 => q2 a (by omega) (by omega))
        · refine k_bipush hx dX5_back_41 (by decide +kernel) ?_
          refine k_ri hx hr dX5_back_43 ?_
          exact ⟨by unfold aBack; rw [if_pos h_4, if_neg (by omega), if_pos (by omega)], by unfold aBack; rw [if_pos h_4, if_neg (by omega), if_pos (by omega)]; exact hI, fun _ _ => rfl⟩
      · refine k_bipush hx dX5_back_20 (by decide +kernel) ?_
        refine k_ri hx hr dX5_back_22 ?_
        exact ⟨by unfold aBack; rw [if_pos h_4, if_pos (by omega)], by unfold aBack; rw [if_pos h_4, if_pos (by omega)]; exact hI, fun _ _ => rfl⟩
  · refine k_iconst hx dX5_back_7 ?_
    refine k_ri hx hr dX5_back_8 ?_
    exact ⟨by unfold aBack; rw [if_neg h_4], by unfold aBack; rw [if_neg h_4]; exact hI, fun _ _ => rfl⟩
theorem c_X5_pull {g : GE} {l : Launch} {M : Mem} {σ : Sg} (hI : Inv M σ) {z : Int} (hzr : -2147483648 ≤ z ∧ z < 2147483648) : Ci g l μX5_pull [vR g 0, vI z] M (PO M (aPull σ z)) := by
  refine Ci.of (by decide +kernel) rfl rfl (fun x hx hr => ?_)
  refine k_iload_n hx dX5_pull_0 1 rfl ?_
  refine k_sp (rest := []) (e := (b2i (decide (0 ≤ z ∧ z < 4)))) hx sX5_72 dX5_pull_1 (c_X5_isRope (z := z) (by omega)) rfl rfl rfl ⟨rfl, rfl⟩ ⟨by decide, by decide⟩ ?_
  refine k_bne hx dX5_pull_4 (fun h_4 => ?_) (fun h_4 => ?_)
  · refine k_aload_n hx dX5_pull_9 0 rfl ?_
    refine k_get (v := vR g 12) hx fX5_19 dX5_pull_10 n_0 L_0 rfl ?_
    refine k_aload_n hx dX5_pull_13 0 rfl ?_
    refine k_get (v := vR g 1) hx fX5_12 dX5_pull_14 n_0 L_0 rfl ?_
    refine k_vv (rest := []) hx vX5_64 dX5_pull_17 (c_X1_remember hI.2.1 hI.1) n_12 L_12 rfl rfl rfl ⟨rfl, rfl⟩ ⟨by decide, by decide⟩ (fun M_17 p_17 => ?_)
    have hI2 := hI.rec p_17
    have hS2 : Sd M_17 1 σ.1 := hI2.1
    have hoM : ∀ a, 120 ≤ a → M_17 a = M a := fun a ha => p_17.2 a (by omega)
    obtain ⟨hv2, hvl⟩ := hS2.rope h_4
    have hrl := red_len_le (rope σ.1 z)
    refine k_aload_n hx dX5_pull_20 0 rfl ?_
    refine k_get (v := vR g 1) hx fX5_12 dX5_pull_21 n_0 L_0 rfl ?_
    refine k_get (v := vR g 3) hx fX5_75 dX5_pull_24 n_1 L_1 rfl ?_
    refine k_iload_n hx dX5_pull_27 1 rfl ?_
    refine k_aald (q := (4 + 2 * z.toNat)) hx dX5_pull_28 n_3 L_3 (by decide) (by simp only [List.length_cons, List.length_nil]; omega) (by decide) (rope_at h_4) ?_
    refine k_vi (rest := []) hx vX5_89 dX5_pull_29 (c_X4_cancelPairs (isS1w (g := g) h_4) hv2 hvl) (isS1w (g := g) h_4).2.2.1 (isS1w (g := g) h_4).1 rfl rfl rfl ⟨rfl, rfl⟩ ⟨by decide, by decide⟩ (fun z_29 M_29 p_29 => ?_)
    obtain ⟨q0, q1, q2⟩ := p_29
    refine k_ri hx hr dX5_pull_32 ?_
    refine ⟨by unfold aPull; rw [if_pos h_4]; exact q0, ?_, fun a ha => by rw [q2 a (by omega) (by omega)]; exact hoM a ha⟩
    unfold aPull
    rw [if_pos h_4]
    exact hI2.set (hS2.setR h_4 q1 q2 (Nat.le_trans hrl hvl)) (fun a h1 h2 => q2 a (by omega) (by omega))
  · refine k_iconst hx dX5_pull_7 ?_
    refine k_ri hx hr dX5_pull_8 ?_
    exact ⟨by unfold aPull; rw [if_neg h_4], by unfold aPull; rw [if_neg h_4]; exact hI, fun _ _ => rfl⟩
theorem c_X5_turn {g : GE} {l : Launch} {M : Mem} {σ : Sg} (hI : Inv M σ) {z : Int} (hzr : -2147483648 ≤ z ∧ z < 2147483648) : Ci g l μX5_turn [vR g 0, vI z] M (PO M (aTurn σ z)) := by
  refine Ci.of (by decide +kernel) rfl rfl (fun x hx hr => ?_)
  refine k_iload_n hx dX5_turn_0 1 rfl ?_
  refine k_sp (rest := []) (e := (b2i (decide (0 ≤ z ∧ z < 4)))) hx sX5_72 dX5_turn_1 (c_X5_isRope (z := z) (by omega)) rfl rfl rfl ⟨rfl, rfl⟩ ⟨by decide, by decide⟩ ?_
  refine k_bne hx dX5_turn_4 (fun h_4 => ?_) (fun h_4 => ?_)
  · refine k_aload_n hx dX5_turn_9 0 rfl ?_
    refine k_get (v := vR g 12) hx fX5_19 dX5_turn_10 n_0 L_0 rfl ?_
    refine k_aload_n hx dX5_turn_13 0 rfl ?_
    refine k_get (v := vR g 1) hx fX5_12 dX5_turn_14 n_0 L_0 rfl ?_
    refine k_vv (rest := []) hx vX5_64 dX5_turn_17 (c_X1_remember hI.2.1 hI.1) n_12 L_12 rfl rfl rfl ⟨rfl, rfl⟩ ⟨by decide, by decide⟩ (fun M_17 p_17 => ?_)
    have hI2 := hI.rec p_17
    have hS2 : Sd M_17 1 σ.1 := hI2.1
    have hoM : ∀ a, 120 ≤ a → M_17 a = M a := fun a ha => p_17.2 a (by omega)
    obtain ⟨hv2, hvl⟩ := hS2.rope h_4
    refine k_aload_n hx dX5_turn_20 0 rfl ?_
    refine k_get (v := vR g 1) hx fX5_12 dX5_turn_21 n_0 L_0 rfl ?_
    refine k_get (v := vR g 3) hx fX5_75 dX5_turn_24 n_1 L_1 rfl ?_
    refine k_iload_n hx dX5_turn_27 1 rfl ?_
    refine k_aald (q := (4 + 2 * z.toNat)) hx dX5_turn_28 n_3 L_3 (by decide) (by simp only [List.length_cons, List.length_nil]; omega) (by decide) (rope_at h_4) ?_
    refine k_astore_n (ls' := [(0, vR g 0), (1, vI z), (2, vR g (4 + 2 * z.toNat))]) hx dX5_turn_29 rfl rfl (by decide) ?_
    refine k_aload_n hx dX5_turn_30 2 rfl ?_
    refine k_iconst hx dX5_turn_31 ?_
    refine k_vv (rest := []) hx vX5_97 dX5_turn_32 (c_X4_turnFrom (isS1w (g := g) h_4) hv2 hvl (a := 0) (by omega)) (isS1w (g := g) h_4).2.2.1 (isS1w (g := g) h_4).1 rfl rfl rfl ⟨rfl, rfl⟩ ⟨by decide, by decide⟩ (fun M_32 p_32 => ?_)
    obtain ⟨q1, q2⟩ := p_32
    rw [turnF_0] at q1
    refine k_aload_n hx dX5_turn_35 2 rfl ?_
    refine k_get (v := vI ((rope σ.1 z).length)) hx fX5_79 dX5_turn_36 (isS1w (g := g) h_4).2.2.1 (isS1w (g := g) h_4).1 (congrArg vI (show M_32 (4 + 2 * z.toNat) 1 = ((rope σ.1 z).length) from by rw [q1.1, trn_len])) ?_
    refine k_ri hx hr dX5_turn_39 ?_
    refine ⟨by unfold aTurn; rw [if_pos h_4], ?_, fun a ha => by rw [q2 a (by omega) (by omega)]; exact hoM a ha⟩
    unfold aTurn
    rw [if_pos h_4]
    exact hI2.set (hS2.setR h_4 q1 q2 (by rw [trn_len]; exact hvl)) (fun a h1 h2 => q2 a (by omega) (by omega))
  · refine k_iconst hx dX5_turn_7 ?_
    refine k_ri hx hr dX5_turn_8 ?_
    exact ⟨by unfold aTurn; rw [if_neg h_4], by unfold aTurn; rw [if_neg h_4]; exact hI, fun _ _ => rfl⟩
theorem c_X5_join {g : GE} {l : Launch} {M : Mem} {σ : Sg} (hI : Inv M σ) {z y : Int} (hzr : -2147483648 ≤ z ∧ z < 2147483648) (hyr : -2147483648 ≤ y ∧ y < 2147483648) : Ci g l μX5_join [vR g 0, vI z, vI y] M (PO M (aJoin σ z y)) := by
  refine Ci.of (by decide +kernel) rfl rfl (fun x hx hr => ?_)
  refine k_iload_n hx dX5_join_0 1 rfl ?_
  refine k_sp (rest := []) (e := (b2i (decide (0 ≤ z ∧ z < 4)))) hx sX5_72 dX5_join_1 (c_X5_isRope (z := z) (by omega)) rfl rfl rfl ⟨rfl, rfl⟩ ⟨by decide, by decide⟩ ?_
  refine k_beq hx dX5_join_4 (fun h_4 => ?_) (fun h_4 => ?_)
  · refine k_iconst hx dX5_join_14 ?_
    refine k_ri hx hr dX5_join_15 ?_
    exact ⟨by unfold aJoin; rw [if_neg (by omega)], by unfold aJoin; rw [if_neg (by omega)]; exact hI, fun _ _ => rfl⟩
  · refine k_iload_n hx dX5_join_7 2 rfl ?_
    refine k_sp (rest := []) (e := (b2i (decide (0 ≤ y ∧ y < 4)))) hx sX5_72 dX5_join_8 (c_X5_isRope (z := y) (by omega)) rfl rfl rfl ⟨rfl, rfl⟩ ⟨by decide, by decide⟩ ?_
    refine k_bne hx dX5_join_11 (fun h_11 => ?_) (fun h_11 => ?_)
    · refine k_aload_n hx dX5_join_16 0 rfl ?_
      refine k_get (v := vR g 1) hx fX5_12 dX5_join_17 n_0 L_0 rfl ?_
      refine k_get (v := vR g 3) hx fX5_75 dX5_join_20 n_1 L_1 rfl ?_
      refine k_iload_n hx dX5_join_23 1 rfl ?_
      obtain ⟨hv, hvl⟩ := hI.1.rope h_4
      obtain ⟨hu, hul⟩ := hI.1.rope h_11
      refine k_aald (q := (4 + 2 * z.toNat)) hx dX5_join_24 n_3 L_3 (by decide) (by simp only [List.length_cons, List.length_nil]; omega) (by decide) (rope_at h_4) ?_
      refine k_astore_n (ls' := [(0, vR g 0), (1, vI z), (2, vI y), (3, vR g (4 + 2 * z.toNat))]) hx dX5_join_25 rfl rfl (by decide) ?_
      refine k_aload_n hx dX5_join_26 3 rfl ?_
      refine k_get (v := vI ((rope σ.1 z).length)) hx fX5_79 dX5_join_27 (isS1w (g := g) h_4).2.2.1 (isS1w (g := g) h_4).1 (congrArg vI (show M (4 + 2 * z.toNat) 1 = ((rope σ.1 z).length) from hv.1)) ?_
      refine k_aload_n hx dX5_join_30 0 rfl ?_
      refine k_get (v := vR g 1) hx fX5_12 dX5_join_31 n_0 L_0 rfl ?_
      refine k_get (v := vR g 3) hx fX5_75 dX5_join_34 n_1 L_1 rfl ?_
      refine k_iload_n hx dX5_join_37 2 rfl ?_
      refine k_aald (q := (4 + 2 * y.toNat)) hx dX5_join_38 n_3 L_3 (by decide) (by simp only [List.length_cons, List.length_nil]; omega) (by decide) (rope_at h_11) ?_
      refine k_get (v := vI ((rope σ.1 y).length)) hx fX5_79 dX5_join_39 (isS1w (g := g) h_11).2.2.1 (isS1w (g := g) h_11).1 (congrArg vI (show M (4 + 2 * y.toNat) 1 = ((rope σ.1 y).length) from hu.1)) ?_
      refine k_iadd hx dX5_join_42 ?_
      refine k_bipush hx dX5_join_43 (by decide +kernel) ?_
      refine k_icmp_le hx dX5_join_45 (by omega) (fun h_45 => ?_) (fun h_45 => ?_)
      · refine k_aload_n hx dX5_join_51 0 rfl ?_
        refine k_get (v := vR g 12) hx fX5_19 dX5_join_52 n_0 L_0 rfl ?_
        refine k_aload_n hx dX5_join_55 0 rfl ?_
        refine k_get (v := vR g 1) hx fX5_12 dX5_join_56 n_0 L_0 rfl ?_
        refine k_vv (rest := []) hx vX5_64 dX5_join_59 (c_X1_remember hI.2.1 hI.1) n_12 L_12 rfl rfl rfl ⟨rfl, rfl⟩ ⟨by decide, by decide⟩ (fun M_59 p_59 => ?_)
        have hI2 := hI.rec p_59
        have hS2 : Sd M_59 1 σ.1 := hI2.1
        have hoM : ∀ a, 120 ≤ a → M_59 a = M a := fun a ha => p_59.2 a (by omega)
        have hv2 := (hS2.rope h_4).1
        have hu2 := (hS2.rope h_11).1
        refine k_aload_n hx dX5_join_62 3 rfl ?_
        refine k_aload_n hx dX5_join_63 0 rfl ?_
        refine k_get (v := vR g 1) hx fX5_12 dX5_join_64 n_0 L_0 rfl ?_
        refine k_get (v := vR g 3) hx fX5_75 dX5_join_67 n_1 L_1 rfl ?_
        refine k_iload_n hx dX5_join_70 2 rfl ?_
        refine k_aald (q := (4 + 2 * y.toNat)) hx dX5_join_71 n_3 L_3 (by decide) (by simp only [List.length_cons, List.length_nil]; omega) (by decide) (rope_at h_11) ?_
        refine k_vv (rest := []) hx vX5_93 dX5_join_72 (c_X4_addWord (isS1w (g := g) h_4) hv2 hvl (isS1w (g := g) h_11) hu2 hul (fun h => by omega) (fun h => by rw [show y = z by omega]) (by omega)) (isS1w (g := g) h_4).2.2.1 (isS1w (g := g) h_4).1 rfl rfl rfl ⟨rfl, rfl⟩ ⟨by decide, by decide⟩ (fun M_72 p_72 => ?_)
        obtain ⟨q1, q2⟩ := p_72
        refine k_aload_n hx dX5_join_75 3 rfl ?_
        refine k_get (v := vI ((rope σ.1 z).length + (rope σ.1 y).length)) hx fX5_79 dX5_join_76 (isS1w (g := g) h_4).2.2.1 (isS1w (g := g) h_4).1 (congrArg vI (show M_72 (4 + 2 * z.toNat) 1 = ((rope σ.1 z).length + (rope σ.1 y).length) from by rw [q1.1, List.length_append]; simp)) ?_
        refine k_ri hx hr dX5_join_79 ?_
        refine ⟨by unfold aJoin; rw [if_pos (by omega), if_neg (by omega)], ?_, fun a ha => by rw [q2 a (by omega) (by omega)]; exact hoM a ha⟩
        unfold aJoin
        rw [if_pos (by omega), if_neg (by omega)]
        exact hI2.set (hS2.setR h_4 q1 q2 (by rw [List.length_append]; omega)) (fun a h1 h2 => q2 a (by omega) (by omega))
      · refine k_bipush hx dX5_join_48 (by decide +kernel) ?_
        refine k_ri hx hr dX5_join_50 ?_
        exact ⟨by unfold aJoin; rw [if_pos (by omega), if_pos (by omega)], by unfold aJoin; rw [if_pos (by omega), if_pos (by omega)]; exact hI, fun _ _ => rfl⟩
    · refine k_iconst hx dX5_join_14 ?_
      refine k_ri hx hr dX5_join_15 ?_
      exact ⟨by unfold aJoin; rw [if_neg (by omega)], by unfold aJoin; rw [if_neg (by omega)]; exact hI, fun _ _ => rfl⟩
theorem c_X5_weave {g : GE} {l : Launch} {M : Mem} {σ : Sg} (hI : Inv M σ) {z y : Int} (hzr : -2147483648 ≤ z ∧ z < 2147483648) (hyr : -2147483648 ≤ y ∧ y < 2147483648) : Ci g l μX5_weave [vR g 0, vI z, vI y] M (PO M (aWeave σ z y)) := by
  refine Ci.of (by decide +kernel) rfl rfl (fun x hx hr => ?_)
  refine k_iload_n hx dX5_weave_0 1 rfl ?_
  refine k_sp (rest := []) (e := (b2i (decide (0 ≤ z ∧ z < 4)))) hx sX5_72 dX5_weave_1 (c_X5_isRope (z := z) (by omega)) rfl rfl rfl ⟨rfl, rfl⟩ ⟨by decide, by decide⟩ ?_
  refine k_beq hx dX5_weave_4 (fun h_4 => ?_) (fun h_4 => ?_)
  · refine k_iconst hx dX5_weave_19 ?_
    refine k_ri hx hr dX5_weave_20 ?_
    exact ⟨by unfold aWeave; rw [if_neg (by omega)], by unfold aWeave; rw [if_neg (by omega)]; exact hI, fun _ _ => rfl⟩
  · refine k_iload_n hx dX5_weave_7 2 rfl ?_
    refine k_sp (rest := []) (e := (b2i (decide (0 ≤ y ∧ y < 4)))) hx sX5_72 dX5_weave_8 (c_X5_isRope (z := y) (by omega)) rfl rfl rfl ⟨rfl, rfl⟩ ⟨by decide, by decide⟩ ?_
    refine k_beq hx dX5_weave_11 (fun h_11 => ?_) (fun h_11 => ?_)
    · refine k_iconst hx dX5_weave_19 ?_
      refine k_ri hx hr dX5_weave_20 ?_
      exact ⟨by unfold aWeave; rw [if_neg (by omega)], by unfold aWeave; rw [if_neg (by omega)]; exact hI, fun _ _ => rfl⟩
    · refine k_iload_n hx dX5_weave_14 1 rfl ?_
      refine k_iload_n hx dX5_weave_15 2 rfl ?_
      refine k_icmp_ne hx dX5_weave_16 (by omega) (fun h_16 => ?_) (fun h_16 => ?_)
      · refine k_aload_n hx dX5_weave_21 0 rfl ?_
        refine k_get (v := vR g 1) hx fX5_12 dX5_weave_22 n_0 L_0 rfl ?_
        refine k_get (v := vR g 3) hx fX5_75 dX5_weave_25 n_1 L_1 rfl ?_
        refine k_iload_n hx dX5_weave_28 1 rfl ?_
        obtain ⟨hv, hvl⟩ := hI.1.rope h_4
        obtain ⟨hu, hul⟩ := hI.1.rope h_11
        have l1 : (rope σ.1 z ++ rope σ.1 y).length = (rope σ.1 z).length + (rope σ.1 y).length := List.length_append
        have l2 : (rope σ.1 z ++ rope σ.1 y ++ trn (rope σ.1 z)).length = (rope σ.1 z).length + (rope σ.1 y).length + (rope σ.1 z).length := by rw [List.length_append, l1, trn_len]
        have l3 : (rope σ.1 z ++ rope σ.1 y ++ trn (rope σ.1 z) ++ trn (rope σ.1 y)).length = (rope σ.1 z).length + (rope σ.1 y).length + (rope σ.1 z).length + (rope σ.1 y).length := by rw [List.length_append, l2, trn_len]
        have l4 := red_len_le (rope σ.1 z ++ rope σ.1 y ++ trn (rope σ.1 z) ++ trn (rope σ.1 y))
        refine k_aald (q := (4 + 2 * z.toNat)) hx dX5_weave_29 n_3 L_3 (by decide) (by simp only [List.length_cons, List.length_nil]; omega) (by decide) (rope_at h_4) ?_
        refine k_astore_n (ls' := [(0, vR g 0), (1, vI z), (2, vI y), (3, vR g (4 + 2 * z.toNat))]) hx dX5_weave_30 rfl rfl (by decide) ?_
        refine k_aload_n hx dX5_weave_31 0 rfl ?_
        refine k_get (v := vR g 114) hx fX5_50 dX5_weave_32 n_0 L_0 rfl ?_
        refine k_vv (rest := []) hx vX5_100 dX5_weave_35 (c_X4_clear isW_114) n_114 L_114 rfl rfl rfl ⟨rfl, rfl⟩ ⟨by decide, by decide⟩ (fun M_35 p_35 => ?_)
        have o1 : Off 114 M M_35 := by rw [p_35]; exact off_up
        have w1 : Wd M_35 114 [] := by rw [p_35]; exact Wd.nil
        refine k_aload_n hx dX5_weave_38 0 rfl ?_
        refine k_get (v := vR g 114) hx fX5_50 dX5_weave_39 n_0 L_0 rfl ?_
        refine k_aload_n hx dX5_weave_42 3 rfl ?_
        refine k_vv (rest := []) hx vX5_93 dX5_weave_43 (c_X4_addWord isW_114 w1 (by simp) (isS1w (g := g) h_4) (hv.off o1 (by omega) (by omega) (by omega)) hvl (fun _ => by omega) (fun h => by omega) (by simp only [List.length_nil]; omega)) n_114 L_114 rfl rfl rfl ⟨rfl, rfl⟩ ⟨by decide, by decide⟩ (fun M_43 p_43 => ?_)
        have o2 := o1.tr p_43.2
        have w2 := p_43.1
        rw [List.nil_append] at w2
        refine k_aload_n hx dX5_weave_46 0 rfl ?_
        refine k_get (v := vR g 114) hx fX5_50 dX5_weave_47 n_0 L_0 rfl ?_
        refine k_aload_n hx dX5_weave_50 0 rfl ?_
        refine k_get (v := vR g 1) hx fX5_12 dX5_weave_51 n_0 L_0 rfl ?_
        refine k_get (v := vR g 3) hx fX5_75 dX5_weave_54 n_1 L_1 rfl ?_
        refine k_iload_n hx dX5_weave_57 2 rfl ?_
        refine k_aald (q := (4 + 2 * y.toNat)) hx dX5_weave_58 n_3 L_3 (by decide) (by simp only [List.length_cons, List.length_nil]; omega) (by decide) (rope_at h_11) ?_
        refine k_vv (rest := []) hx vX5_93 dX5_weave_59 (c_X4_addWord isW_114 w2 (by omega) (isS1w (g := g) h_11) (hu.off o2 (by omega) (by omega) (by omega)) hul (fun _ => by omega) (fun h => by omega) (by omega)) n_114 L_114 rfl rfl rfl ⟨rfl, rfl⟩ ⟨by decide, by decide⟩ (fun M_59 p_59 => ?_)
        have o3 := o2.tr p_59.2
        refine k_aload_n hx dX5_weave_62 0 rfl ?_
        refine k_get (v := vR g 114) hx fX5_50 dX5_weave_63 n_0 L_0 rfl ?_
        refine k_aload_n hx dX5_weave_66 3 rfl ?_
        refine k_vv (rest := []) hx vX5_103 dX5_weave_67 (c_X4_addTurned isW_114 p_59.1 (by omega) (isS1w (g := g) h_4) (hv.off o3 (by omega) (by omega) (by omega)) hvl (by omega) (by omega)) n_114 L_114 rfl rfl rfl ⟨rfl, rfl⟩ ⟨by decide, by decide⟩ (fun M_67 p_67 => ?_)
        have o4 := o3.tr p_67.2
        refine k_aload_n hx dX5_weave_70 0 rfl ?_
        refine k_get (v := vR g 114) hx fX5_50 dX5_weave_71 n_0 L_0 rfl ?_
        refine k_aload_n hx dX5_weave_74 0 rfl ?_
        refine k_get (v := vR g 1) hx fX5_12 dX5_weave_75 n_0 L_0 rfl ?_
        refine k_get (v := vR g 3) hx fX5_75 dX5_weave_78 n_1 L_1 rfl ?_
        refine k_iload_n hx dX5_weave_81 2 rfl ?_
        refine k_aald (q := (4 + 2 * y.toNat)) hx dX5_weave_82 n_3 L_3 (by decide) (by simp only [List.length_cons, List.length_nil]; omega) (by decide) (rope_at h_11) ?_
        refine k_vv (rest := []) hx vX5_103 dX5_weave_83 (c_X4_addTurned isW_114 p_67.1 (by omega) (isS1w (g := g) h_11) (hu.off o4 (by omega) (by omega) (by omega)) hul (by omega) (by omega)) n_114 L_114 rfl rfl rfl ⟨rfl, rfl⟩ ⟨by decide, by decide⟩ (fun M_83 p_83 => ?_)
        have o5 := o4.tr p_83.2
        refine k_aload_n hx dX5_weave_86 0 rfl ?_
        refine k_get (v := vR g 114) hx fX5_50 dX5_weave_87 n_0 L_0 rfl ?_
        refine k_vi (rest := []) hx vX5_89 dX5_weave_90 (c_X4_cancelPairs isW_114 p_83.1 (by omega)) n_114 L_114 rfl rfl rfl ⟨rfl, rfl⟩ ⟨by decide, by decide⟩ (fun z_90 M_90 p_90 => ?_)
        have o6 := o5.tr p_90.2.2
        have w6 : Wd M_90 114 (wv σ z y) := p_90.2.1
        have hwl : (wv σ z y).length ≤ 480 := by unfold wv; omega
        have hI1 := hI.same (M' := M_90) (fun a ha => o6 a (by omega) (by omega))
        refine k_pop hx dX5_weave_93 rfl ?_
        refine k_aload_n hx dX5_weave_94 0 rfl ?_
        refine k_get (v := vR g 114) hx fX5_50 dX5_weave_95 n_0 L_0 rfl ?_
        refine k_get (v := vI ((wv σ z y).length)) hx fX5_79 dX5_weave_98 n_114 L_114 (congrArg vI (show M_90 114 1 = ((wv σ z y).length) from w6.1)) ?_
        refine k_bipush hx dX5_weave_101 (by decide +kernel) ?_
        refine k_icmp_le hx dX5_weave_103 (by omega) (fun h_103 => ?_) (fun h_103 => ?_)
        · refine k_aload_n hx dX5_weave_109 0 rfl ?_
          refine k_get (v := vR g 12) hx fX5_19 dX5_weave_110 n_0 L_0 rfl ?_
          refine k_aload_n hx dX5_weave_113 0 rfl ?_
          refine k_get (v := vR g 1) hx fX5_12 dX5_weave_114 n_0 L_0 rfl ?_
          refine k_vv (rest := []) hx vX5_64 dX5_weave_117 (c_X1_remember hI1.2.1 hI1.1) n_12 L_12 rfl rfl rfl ⟨rfl, rfl⟩ ⟨by decide, by decide⟩ (fun M_117 p_117 => ?_)
          have hI2 := hI1.rec p_117
          have hS2 : Sd M_117 1 σ.1 := hI2.1
          have w7 := w6.same (p_117.2 114 (by omega)) (p_117.2 115 (by omega))
          refine k_aload_n hx dX5_weave_120 3 rfl ?_
          refine k_aload_n hx dX5_weave_121 0 rfl ?_
          refine k_get (v := vR g 114) hx fX5_50 dX5_weave_122 n_0 L_0 rfl ?_
          refine k_vv (rest := []) hx vX5_106 dX5_weave_125 (c_X4_copyFrom (isS1w (g := g) h_4) isW_114 w7 (by omega) (by omega) (by omega)) (isS1w (g := g) h_4).2.2.1 (isS1w (g := g) h_4).1 rfl rfl rfl ⟨rfl, rfl⟩ ⟨by decide, by decide⟩ (fun M_125 p_125 => ?_)
          obtain ⟨q1, q2⟩ := p_125
          refine k_aload_n hx dX5_weave_128 3 rfl ?_
          refine k_get (v := vI ((wv σ z y).length)) hx fX5_79 dX5_weave_129 (isS1w (g := g) h_4).2.2.1 (isS1w (g := g) h_4).1 (congrArg vI (show M_125 (4 + 2 * z.toNat) 1 = ((wv σ z y).length) from q1.1)) ?_
          refine k_ri hx hr dX5_weave_132 ?_
          refine ⟨by unfold aWeave; rw [if_pos (by omega), if_neg (by omega)], ?_, fun a ha => by rw [q2 a (by omega) (by omega), p_117.2 a (by omega)]; exact o6 a (by omega) (by omega)⟩
          unfold aWeave
          rw [if_pos (by omega), if_neg (by omega)]
          exact hI2.set (hS2.setR h_4 q1 q2 (by omega)) (fun a h1 h2 => q2 a (by omega) (by omega))
        · refine k_bipush hx dX5_weave_106 (by decide +kernel) ?_
          refine k_ri hx hr dX5_weave_108 ?_
          exact ⟨by unfold aWeave; rw [if_pos (by omega), if_pos (by omega)], by unfold aWeave; rw [if_pos (by omega), if_pos (by omega)]; exact hI1, fun a ha => o6 a (by omega) (by omega)⟩
      · refine k_iconst hx dX5_weave_19 ?_
        refine k_ri hx hr dX5_weave_20 ?_
        exact ⟨by unfold aWeave; rw [if_neg (by omega)], by unfold aWeave; rw [if_neg (by omega)]; exact hI, fun _ _ => rfl⟩

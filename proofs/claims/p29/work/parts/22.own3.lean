/-! the class's own methods: slots, swaps, and what is split by a number -/
theorem slo_set {A B A' : Ab} {ps ps' : List Ab} {s : Option Ab × Option Ab} {t t' : List Int} {k j : Nat} (hk : k < 2) (hj : j < 2) : slo (A, ps, setS s j B, t) k = if k = j then some B else slo (A', ps', s, t') k := by
  rcases (show k = 0 ∨ k = 1 by omega) with rfl | rfl <;> rcases (show j = 0 ∨ j = 1 by omega) with rfl | rfl <;> rfl
theorem ext4 {l m : List (List Int)} (hl : l.length = 4) (hm : m.length = 4) (h : ∀ r : Nat, r < 4 → l.getD r [] = m.getD r []) : l = m := by
  refine List.ext_getElem (by omega) (fun n h1 h2 => ?_)
  have := h n (by omega)
  simpa [List.getD_eq_getElem?_getD, h1, h2] using this
theorem map_getD4 {l : List (List Int)} {f : List Int → List Int} {r : Nat} (h : r < l.length) : (l.map f).getD r [] = f (l.getD r []) := by
  simp [List.getD_eq_getElem?_getD, h]
def aSwap (σ : Sg) (p b : Int) : Int × Sg := if 0 ≤ p ∧ p < 5 then (if 0 ≤ b ∧ b < 2 then (if ∀ r : Nat, r < 4 → (swF p b (σ.1.2.getD r [])).length ≤ 120 then (allC (σ.1.1, σ.1.2.map (swF p b)), ((σ.1.1, σ.1.2.map (swF p b)), rcd σ)) else (-4, σ)) else (-2, σ)) else (-1, σ)
def qOf (A : Ab) (w : List Int) (k : Int) : Int := if k = 0 then w.length else if k = 1 then wsum A.1 w else if k = 2 then (red w).length else if k = 3 then wsum A.1 (red w) else if k = 4 then (tight (red w)).length else if k = 5 then power (tight (red w)) else if k = 6 then pset (tight (red w)) else if k = 7 then firstP w else if k = 8 then b2i (decide (wF 0 w = [])) else -2
theorem qOf_out {A : Ab} {w : List Int} {k : Int} (h : k < 0 ∨ 8 < k) : qOf A w k = -2 := by
  unfold qOf
  rw [if_neg (by omega), if_neg (by omega), if_neg (by omega), if_neg (by omega), if_neg (by omega), if_neg (by omega), if_neg (by omega), if_neg (by omega), if_neg (by omega)]
def qCount (σ : Sg) (k : Int) : Int := if 0 ≤ k ∧ k < 6 then σ.1.1.getD k.toNat 0 else if k = 6 then allC σ.1 else if k = 7 then σ.2.2.2.length else if k = 8 then σ.2.1.length else -2
def qBoth (v u : List Int) (k : Int) : Int := if k = 0 then b2i (decide (lst v = lst u)) else if k = 1 then b2i (decide (lst v = lst (trn u))) else if k = 2 then b2i (decide (red (v ++ u) = red (u ++ v))) else if k = 3 then b2i (decide (red v = red u)) else -2
theorem qBoth_out {v u : List Int} {k : Int} (h : k < 0 ∨ 3 < k) : qBoth v u k = -2 := by
  unfold qBoth
  rw [if_neg (by omega), if_neg (by omega), if_neg (by omega), if_neg (by omega)]
def bsG (A : Ab) : Nat → Int × Int × Int
  | 0 => (0, 0, csw A 0 0)
  | j + 1 => if csw A (j / 2 : Nat) (j % 2 : Nat) < (bsG A j).2.2 then ((j / 2 : Nat), (j % 2 : Nat), csw A (j / 2 : Nat) (j % 2 : Nat)) else bsG A j
theorem bsG_rg {A : Ab} (hA : OkA A) : ∀ j, 0 ≤ (bsG A j).2.2 ∧ (bsG A j).2.2 ≤ 1440
  | 0 => csw_rg hA 0 0
  | j + 1 => by
    rw [bsG]; split
    · exact csw_rg hA _ _
    · exact bsG_rg hA j
def qBest (A : Ab) (w : Int) : Int := if 0 ≤ w ∧ w ≤ 2 then (if w = 0 then (bsG A 10).1 else if w = 1 then (bsG A 10).2.1 else (bsG A 10).2.2) else -2

theorem c_X5_ofRope {g : GE} {l : Launch} {M : Mem} {σ : Sg} (hI : Inv M σ) {z : Int} (hzr : -2147483648 ≤ z ∧ z < 2147483648) {k : Int} (hkr : -2147483648 ≤ k ∧ k < 2147483648) : Ci g l μX5_ofRope [vR g 0, vI z, vI k] M (PO M (aQ σ (qRope z (qOf σ.1 (rope σ.1 z) k)))) := by
  refine Ci.of (by decide +kernel) rfl rfl (fun x hx hr => ?_)
  refine k_iload_n hx dX5_ofRope_0 1 rfl ?_
  refine k_sp (rest := []) (e := (b2i (decide (0 ≤ z ∧ z < 4)))) hx sX5_72 dX5_ofRope_1 (c_X5_isRope (z := z) (by omega)) rfl rfl rfl ⟨rfl, rfl⟩ ⟨by decide, by decide⟩ ?_
  refine k_bne hx dX5_ofRope_4 (fun h_4 => ?_) (fun h_4 => ?_)
  · refine k_aload_n hx dX5_ofRope_9 0 rfl ?_
    refine k_get (v := vR g 1) hx fX5_12 dX5_ofRope_10 n_0 L_0 rfl ?_
    refine k_get (v := vR g 3) hx fX5_75 dX5_ofRope_13 n_1 L_1 rfl ?_
    refine k_iload_n hx dX5_ofRope_16 1 rfl ?_
    obtain ⟨hv, hvl⟩ := hI.1.rope h_4
    have hl1 := red_len_le (rope σ.1 z)
    have hl2 := tight_len (red (rope σ.1 z))
    refine k_aald (q := (4 + 2 * z.toNat)) hx dX5_ofRope_17 n_3 L_3 (by decide) (by simp only [List.length_cons, List.length_nil]; omega) (by decide) (rope_at h_4) ?_
    refine k_astore_n (ls' := [(0, vR g 0), (1, vI z), (2, vI k), (3, vR g (4 + 2 * z.toNat))]) hx dX5_ofRope_18 rfl rfl (by decide) ?_
    refine k_iload_n hx dX5_ofRope_19 2 rfl ?_
    rcases (show k = 0 ∨ k = 1 ∨ k = 2 ∨ k = 3 ∨ k = 4 ∨ k = 5 ∨ k = 6 ∨ k = 7 ∨ k = 8 ∨ (k < 0 ∨ 8 < k) by omega) with rfl | rfl | rfl | rfl | rfl | rfl | rfl | rfl | rfl | hout
    · refine k_tsIn (off := 52) (tgt := 72) hx dX5_ofRope_20 (by omega) (by omega) (by omega) (rfl) rfl ?_
      refine k_aload_n hx dX5_ofRope_72 3 rfl ?_
      refine k_get (v := vI ((rope σ.1 z).length)) hx fX5_79 dX5_ofRope_73 (isS1w (g := g) h_4).2.2.1 (isS1w (g := g) h_4).1 (congrArg vI (show M (4 + 2 * z.toNat) 1 = ((rope σ.1 z).length) from hv.1)) ?_
      refine k_ri hx hr dX5_ofRope_76 ?_
      exact ⟨by unfold aQ qRope; rw [if_pos h_4]; rfl, hI, fun _ _ => rfl⟩
    · refine k_tsIn (off := 57) (tgt := 77) hx dX5_ofRope_20 (by omega) (by omega) (by omega) (rfl) rfl ?_
      refine k_aload_n hx dX5_ofRope_77 0 rfl ?_
      refine k_get (v := vR g 1) hx fX5_12 dX5_ofRope_78 n_0 L_0 rfl ?_
      refine k_aload_n hx dX5_ofRope_81 3 rfl ?_
      refine k_vp (rest := []) (e := (wsum σ.1.1 (rope σ.1 z))) hx vX5_143 dX5_ofRope_82 (c_X3_widthsAlong isS_1 hI.1 (isS1w (g := g) h_4) hv hvl) n_1 L_1 rfl rfl rfl ⟨rfl, rfl⟩ ⟨by decide, by decide⟩ ?_
      refine k_ri hx hr dX5_ofRope_85 ?_
      exact ⟨by unfold aQ qRope; rw [if_pos h_4]; rfl, hI, fun _ _ => rfl⟩
    · refine k_tsIn (off := 66) (tgt := 86) hx dX5_ofRope_20 (by omega) (by omega) (by omega) (rfl) rfl ?_
      refine k_aload_n hx dX5_ofRope_86 0 rfl ?_
      refine k_aload_n hx dX5_ofRope_87 3 rfl ?_
      refine k_vv (rest := []) hx vX5_147 dX5_ofRope_88 (c_X5_layPulled (isS1w (g := g) h_4) hv hvl (by omega)) n_0 L_0 rfl rfl rfl ⟨rfl, rfl⟩ ⟨by decide, by decide⟩ (fun M_88 p_88 => ?_)
      obtain ⟨q1, q2⟩ := p_88
      refine k_aload_n hx dX5_ofRope_91 0 rfl ?_
      refine k_get (v := vR g 114) hx fX5_50 dX5_ofRope_92 n_0 L_0 rfl ?_
      refine k_get (v := vI ((red (rope σ.1 z)).length)) hx fX5_79 dX5_ofRope_95 n_114 L_114 (congrArg vI (show M_88 114 1 = ((red (rope σ.1 z)).length) from q1.1)) ?_
      refine k_ri hx hr dX5_ofRope_98 ?_
      exact ⟨by unfold aQ qRope; rw [if_pos h_4]; rfl, hI.same (fun a ha => q2 a (by omega) (by omega)), fun a ha => q2 a (by omega) (by omega)⟩
    · refine k_tsIn (off := 79) (tgt := 99) hx dX5_ofRope_20 (by omega) (by omega) (by omega) (rfl) rfl ?_
      refine k_aload_n hx dX5_ofRope_99 0 rfl ?_
      refine k_aload_n hx dX5_ofRope_100 3 rfl ?_
      refine k_vv (rest := []) hx vX5_147 dX5_ofRope_101 (c_X5_layPulled (isS1w (g := g) h_4) hv hvl (by omega)) n_0 L_0 rfl rfl rfl ⟨rfl, rfl⟩ ⟨by decide, by decide⟩ (fun M_101 p_101 => ?_)
      obtain ⟨q1, q2⟩ := p_101
      refine k_aload_n hx dX5_ofRope_104 0 rfl ?_
      refine k_get (v := vR g 1) hx fX5_12 dX5_ofRope_105 n_0 L_0 rfl ?_
      refine k_aload_n hx dX5_ofRope_108 0 rfl ?_
      refine k_get (v := vR g 114) hx fX5_50 dX5_ofRope_109 n_0 L_0 rfl ?_
      refine k_vp (rest := []) (e := (wsum σ.1.1 (red (rope σ.1 z)))) hx vX5_143 dX5_ofRope_112 (c_X3_widthsAlong isS_1 (hI.same (fun a ha => q2 a (by omega) (by omega))).1 isW_114 q1 (by omega)) n_1 L_1 rfl rfl rfl ⟨rfl, rfl⟩ ⟨by decide, by decide⟩ ?_
      refine k_ri hx hr dX5_ofRope_115 ?_
      exact ⟨by unfold aQ qRope; rw [if_pos h_4]; rfl, hI.same (fun a ha => q2 a (by omega) (by omega)), fun a ha => q2 a (by omega) (by omega)⟩
    · refine k_tsIn (off := 96) (tgt := 116) hx dX5_ofRope_20 (by omega) (by omega) (by omega) (rfl) rfl ?_
      refine k_aload_n hx dX5_ofRope_116 0 rfl ?_
      refine k_aload_n hx dX5_ofRope_117 3 rfl ?_
      refine k_vv (rest := []) hx vX5_150 dX5_ofRope_118 (c_X5_layLoop (isS1w (g := g) h_4) hv hvl (by omega)) n_0 L_0 rfl rfl rfl ⟨rfl, rfl⟩ ⟨by decide, by decide⟩ (fun M_118 p_118 => ?_)
      obtain ⟨q1, q2⟩ := p_118
      refine k_aload_n hx dX5_ofRope_121 0 rfl ?_
      refine k_get (v := vR g 118) hx fX5_57 dX5_ofRope_122 n_0 L_0 rfl ?_
      refine k_get (v := vI ((tight (red (rope σ.1 z))).length)) hx fX5_79 dX5_ofRope_125 n_118 L_118 (congrArg vI (show M_118 118 1 = ((tight (red (rope σ.1 z))).length) from q1.1)) ?_
      refine k_ri hx hr dX5_ofRope_128 ?_
      exact ⟨by unfold aQ qRope; rw [if_pos h_4]; rfl, hI.same (fun a ha => q2 a (by omega) (by omega)), fun a ha => q2 a (by omega) (by omega)⟩
    · refine k_tsIn (off := 109) (tgt := 129) hx dX5_ofRope_20 (by omega) (by omega) (by omega) (rfl) rfl ?_
      refine k_aload_n hx dX5_ofRope_129 0 rfl ?_
      refine k_aload_n hx dX5_ofRope_130 3 rfl ?_
      refine k_vv (rest := []) hx vX5_150 dX5_ofRope_131 (c_X5_layLoop (isS1w (g := g) h_4) hv hvl (by omega)) n_0 L_0 rfl rfl rfl ⟨rfl, rfl⟩ ⟨by decide, by decide⟩ (fun M_131 p_131 => ?_)
      obtain ⟨q1, q2⟩ := p_131
      refine k_aload_n hx dX5_ofRope_134 0 rfl ?_
      refine k_get (v := vR g 118) hx fX5_57 dX5_ofRope_135 n_0 L_0 rfl ?_
      refine k_vp (rest := []) (e := (power (tight (red (rope σ.1 z))))) hx vX5_153 dX5_ofRope_138 (c_X4_power isW_118 q1 (by omega)) n_118 L_118 rfl rfl rfl ⟨rfl, rfl⟩ ⟨by decide, by decide⟩ ?_
      refine k_ri hx hr dX5_ofRope_141 ?_
      exact ⟨by unfold aQ qRope; rw [if_pos h_4]; rfl, hI.same (fun a ha => q2 a (by omega) (by omega)), fun a ha => q2 a (by omega) (by omega)⟩
    · refine k_tsIn (off := 122) (tgt := 142) hx dX5_ofRope_20 (by omega) (by omega) (by omega) (rfl) rfl ?_
      refine k_aload_n hx dX5_ofRope_142 0 rfl ?_
      refine k_aload_n hx dX5_ofRope_143 3 rfl ?_
      refine k_vv (rest := []) hx vX5_150 dX5_ofRope_144 (c_X5_layLoop (isS1w (g := g) h_4) hv hvl (by omega)) n_0 L_0 rfl rfl rfl ⟨rfl, rfl⟩ ⟨by decide, by decide⟩ (fun M_144 p_144 => ?_)
      obtain ⟨q1, q2⟩ := p_144
      refine k_aload_n hx dX5_ofRope_147 0 rfl ?_
      refine k_get (v := vR g 118) hx fX5_57 dX5_ofRope_148 n_0 L_0 rfl ?_
      refine k_vp (rest := []) (e := (pset (tight (red (rope σ.1 z))))) hx vX5_156 dX5_ofRope_151 (c_X4_posts isW_118 q1 (by omega)) n_118 L_118 rfl rfl rfl ⟨rfl, rfl⟩ ⟨by decide, by decide⟩ ?_
      refine k_ri hx hr dX5_ofRope_154 ?_
      exact ⟨by unfold aQ qRope; rw [if_pos h_4]; rfl, hI.same (fun a ha => q2 a (by omega) (by omega)), fun a ha => q2 a (by omega) (by omega)⟩
    · refine k_tsIn (off := 135) (tgt := 155) hx dX5_ofRope_20 (by omega) (by omega) (by omega) (rfl) rfl ?_
      refine k_aload_n hx dX5_ofRope_155 3 rfl ?_
      refine k_vp (rest := []) (e := (firstP (rope σ.1 z))) hx vX5_159 dX5_ofRope_156 (c_X4_firstPair (isS1w (g := g) h_4) hv hvl) (isS1w (g := g) h_4).2.2.1 (isS1w (g := g) h_4).1 rfl rfl rfl ⟨rfl, rfl⟩ ⟨by decide, by decide⟩ ?_
      refine k_ri hx hr dX5_ofRope_159 ?_
      exact ⟨by unfold aQ qRope; rw [if_pos h_4]; rfl, hI, fun _ _ => rfl⟩
    · refine k_tsIn (off := 140) (tgt := 160) hx dX5_ofRope_20 (by omega) (by omega) (by omega) (rfl) rfl ?_
      refine k_aload_n hx dX5_ofRope_160 0 rfl ?_
      refine k_aload_n hx dX5_ofRope_161 3 rfl ?_
      refine k_iconst hx dX5_ofRope_162 ?_
      refine k_vi (rest := []) hx vX5_162 dX5_ofRope_163 (c_X5_fallsWithout (isS1w (g := g) h_4) hv hvl (by omega) (S := 0) (by omega)) n_0 L_0 rfl rfl rfl ⟨rfl, rfl⟩ ⟨by decide, by decide⟩ (fun z_163 M_163 p_163 => ?_)
      obtain ⟨rfl, q2⟩ := p_163
      refine k_sp (rest := []) (e := (b2i (decide (wF 0 (rope σ.1 z) = [])))) hx sX5_166 dX5_ofRope_166 (c_X5_oneIf (b := (decide (wF 0 (rope σ.1 z) = [])))) rfl rfl rfl ⟨rfl, rfl⟩ ⟨by decide, by decide⟩ ?_
      refine k_ri hx hr dX5_ofRope_169 ?_
      exact ⟨by unfold aQ qRope; rw [if_pos h_4]; rfl, hI.same (fun a ha => q2 a (by omega) (by omega)), fun a ha => q2 a (by omega) (by omega)⟩
    · refine k_tsOut hx dX5_ofRope_20 (tgt := 170) rfl (by omega) (by omega) ?_
      refine k_bipush hx dX5_ofRope_170 (by decide +kernel) ?_
      refine k_ri hx hr dX5_ofRope_172 ?_
      exact ⟨by unfold aQ qRope; rw [if_pos h_4, qOf_out hout], hI, fun _ _ => rfl⟩
  · refine k_iconst hx dX5_ofRope_7 ?_
    refine k_ri hx hr dX5_ofRope_8 ?_
    exact ⟨by unfold aQ qRope; rw [if_neg h_4], hI, fun _ _ => rfl⟩
theorem c_X5_count {g : GE} {l : Launch} {M : Mem} {σ : Sg} (hI : Inv M σ) {k : Int} (hkr : -2147483648 ≤ k ∧ k < 2147483648) : Ci g l μX5_count [vR g 0, vI k] M (PO M (aQ σ (qCount σ k))) := by
  refine Ci.of (by decide +kernel) rfl rfl (fun x hx hr => ?_)
  refine k_iload_n hx dX5_count_0 1 rfl ?_
  refine k_sp (rest := []) (e := (b2i (decide (0 ≤ k ∧ k < 6)))) hx sX5_60 dX5_count_1 (c_X5_isPost (z := k) (by omega)) rfl rfl rfl ⟨rfl, rfl⟩ ⟨by decide, by decide⟩ ?_
  refine k_beq hx dX5_count_4 (fun h_4 => ?_) (fun h_4 => ?_)
  · refine k_iload_n hx dX5_count_17 1 rfl ?_
    rcases (show k = 6 ∨ k = 7 ∨ k = 8 ∨ (k < 6 ∨ 8 < k) by omega) with rfl | rfl | rfl | hout
    · refine k_tsIn (off := 26) (tgt := 44) hx dX5_count_18 (by omega) (by omega) (by omega) (rfl) rfl ?_
      refine k_aload_n hx dX5_count_44 0 rfl ?_
      refine k_get (v := vR g 1) hx fX5_12 dX5_count_45 n_0 L_0 rfl ?_
      refine k_vp (rest := []) (e := (allC σ.1)) hx vX5_119 dX5_count_48 (c_X3_allCrossings isS_1 hI.1) n_1 L_1 rfl rfl rfl ⟨rfl, rfl⟩ ⟨by decide, by decide⟩ ?_
      refine k_ri hx hr dX5_count_51 ?_
      exact ⟨rfl, hI, fun _ _ => rfl⟩
    · refine k_tsIn (off := 34) (tgt := 52) hx dX5_count_18 (by omega) (by omega) (by omega) (rfl) rfl ?_
      refine k_aload_n hx dX5_count_52 0 rfl ?_
      refine k_get (v := vR g 104) hx fX5_34 dX5_count_53 n_0 L_0 rfl ?_
      refine k_get (v := vI σ.2.2.2.length) hx fX5_126 dX5_count_56 n_104 L_104 (congrArg vI (show M 104 1 = σ.2.2.2.length from hI.2.2.2.2.1)) ?_
      refine k_ri hx hr dX5_count_59 ?_
      exact ⟨rfl, hI, fun _ _ => rfl⟩
    · refine k_tsIn (off := 42) (tgt := 60) hx dX5_count_18 (by omega) (by omega) (by omega) (rfl) rfl ?_
      refine k_aload_n hx dX5_count_60 0 rfl ?_
      refine k_get (v := vR g 12) hx fX5_19 dX5_count_61 n_0 L_0 rfl ?_
      refine k_get (v := vI σ.2.1.length) hx fX5_178 dX5_count_64 n_12 L_12 (congrArg vI (show M 12 2 = σ.2.1.length from by obtain ⟨-, -, -, h, -⟩ := hI.2.1; exact h)) ?_
      refine k_ri hx hr dX5_count_67 ?_
      exact ⟨rfl, hI, fun _ _ => rfl⟩
    · refine k_tsOut hx dX5_count_18 (tgt := 68) rfl (by omega) (by omega) ?_
      refine k_bipush hx dX5_count_68 (by decide +kernel) ?_
      refine k_ri hx hr dX5_count_70 ?_
      exact ⟨by unfold aQ qCount; rw [if_neg h_4, if_neg (by omega), if_neg (by omega), if_neg (by omega)], hI, fun _ _ => rfl⟩
  · refine k_aload_n hx dX5_count_7 0 rfl ?_
    refine k_get (v := vR g 1) hx fX5_12 dX5_count_8 n_0 L_0 rfl ?_
    refine k_get (v := vR g 2) hx fX5_68 dX5_count_11 n_1 L_1 rfl ?_
    refine k_iload_n hx dX5_count_14 1 rfl ?_
    refine k_iald (v := (σ.1.1.getD k.toNat 0)) hx dX5_count_15 n_2 L_2 (by omega) (by decide) (by have := hI.1.2.1 k.toNat (by omega); rwa [show ((k.toNat : Nat) : Int) = k by omega] at this) ?_
    refine k_ri hx hr dX5_count_16 ?_
    exact ⟨by unfold aQ qCount; rw [if_pos h_4], hI, fun _ _ => rfl⟩
/-! the class: words that are laid into the shared ones; questions about words -/
def OffW (M M' : Mem) : Prop := ∀ a, (a < 114 ∨ 120 ≤ a) → M' a = M a
theorem OffW.rf {M : Mem} : OffW M M := fun _ _ => rfl
theorem OffW.tr {M M' M'' : Mem} (h : OffW M M') (k : OffW M' M'') : OffW M M'' := fun a h1 => (k a h1).trans (h a h1)
theorem Off.w {i : Nat} {M M' : Mem} (h : Off i M M') (hi : 114 ≤ i ∧ i < 119) : OffW M M' := fun a ha => h a (by omega) (by omega)
/-- what a crossing becomes as posts change places -/
def swp (p b c : Int) : List Int := if pst c = p + b then [if b = 0 then p + b else op (p + b), p + 1 - b + (c - pst c), op (if b = 0 then p + b else op (p + b))] else if pst c = p + 1 - b then [p + b + (c - pst c)] else [c]
def swF (p b : Int) (v : List Int) : List Int := red (v.flatMap (swp p b))
theorem swp_len (p b c : Int) : (swp p b c).length ≤ 3 := by unfold swp; split; simp; split <;> simp
theorem swp_cr {p b c : Int} (hp : 0 ≤ p ∧ p < 5) (hb : 0 ≤ b ∧ b < 2) (hc : 0 ≤ c ∧ c < 12) : Cr (swp p b c) := by
  have h6 := pst_rg hc
  have hs : c - pst c = 0 ∨ c - pst c = 6 := by unfold pst; split <;> omega
  have ho := op_rg (c := p + b) (by omega)
  have hb2 : 0 ≤ (if b = 0 then p + b else op (p + b)) ∧ (if b = 0 then p + b else op (p + b)) < 12 := by split <;> omega
  have ho2 := op_rg hb2
  unfold swp
  split
  · intro d hd
    rcases List.mem_cons.mp hd with rfl | hd
    · exact hb2
    · rcases List.mem_cons.mp hd with rfl | hd
      · omega
      · rw [List.mem_singleton.mp hd]; exact ho2
  · split
    · exact Cr.one (by omega)
    · exact Cr.one hc
theorem flat_snoc {f : Int → List Int} {v : List Int} {k : Nat} (h : k < v.length) : (v.take (k + 1)).flatMap f = (v.take k).flatMap f ++ f (at0 v k) := by
  rw [← take_at0 h, List.flatMap_append]; simp
theorem red_app (a b : List Int) : red (a ++ b) = b.foldl psh (red a) := by unfold red; rw [List.foldl_append]
theorem fold_len : ∀ (b s : List Int), (b.foldl psh s).length ≤ s.length + b.length
  | [], s => by simp
  | c :: b, s => by
    have h1 := fold_len b (psh s c)
    have h2 := psh_len (w := s) (c := c)
    rw [List.foldl_cons, List.length_cons]; omega
theorem flat_len {f : Int → List Int} (hf : ∀ c, (f c).length ≤ 3) : ∀ v : List Int, (v.flatMap f).length ≤ 3 * v.length
  | [] => by simp
  | c :: v => by
    have h1 := flat_len hf v
    have h2 := hf c
    rw [List.flatMap_cons, List.length_append, List.length_cons]; omega
theorem swF_len (p b : Int) (v : List Int) : (swF p b v).length ≤ 3 * v.length := Nat.le_trans (red_len_le _) (flat_len (swp_len p b) v)
theorem swF_cr {p b : Int} {v : List Int} (hp : 0 ≤ p ∧ p < 5) (hb : 0 ≤ b ∧ b < 2) (hv : Cr v) : Cr (swF p b v) := red_cr fun d hd => by
  obtain ⟨c, hc, hd⟩ := List.mem_flatMap.mp hd
  exact swp_cr hp hb (hv c hc) d hd
def bit (S p : Int) : Int := S / 2 ^ p.toNat % 2
theorem bit_rg (S p : Int) : 0 ≤ bit S p ∧ bit S p < 2 := by unfold bit; omega
theorem bit_fin : ∀ S : Fin 64, ∀ p : Fin 6, (zI ((S : Nat) : Int) >>> (zI ((p : Nat) : Int) &&& 31)) &&& zI 1 = zI (bit ((S : Nat) : Int) ((p : Nat) : Int)) := by decide +kernel
theorem bit_ok {S p : Int} (hS : 0 ≤ S ∧ S < 64) (hp : 0 ≤ p ∧ p < 6) : (zI S >>> (zI p &&& 31)) &&& zI 1 = zI (bit S p) := by
  have := bit_fin ⟨S.toNat, by omega⟩ ⟨p.toNat, by omega⟩
  simpa [show ((S.toNat : Nat) : Int) = S by omega, show ((p.toNat : Nat) : Int) = p by omega, Int.max_eq_left hS.1, Int.max_eq_left hp.1] using this
/-- what is left of a word when posts are pulled out, pulled -/
def wF (S : Int) (v : List Int) : List Int := red (v.filter (fun c => decide (bit S (pst c) = 0)))
theorem filt_snoc {f : Int → Bool} {v : List Int} {k : Nat} (h : k < v.length) : (v.take (k + 1)).filter f = (v.take k).filter f ++ (if f (at0 v k) = true then [at0 v k] else []) := by
  rw [← take_at0 h, List.filter_append, List.filter_cons]
  split <;> simp

theorem c_X5_crossingOrNoSuch {g : GE} {l : Launch} {M : Mem} {j cj : Nat} {v : List Int} (hJ : IsW g j cj) (hv : Wd M j v) (hcj : v.length ≤ cj) {z : Int} (hz : -2147483648 ≤ z ∧ z < 2147483648) : Cp g l μX5_crossingOrNoSuch [vR g j, vI z] M (at0 v z) := by
  refine Ci.of (by decide +kernel) rfl rfl (fun x hx hr => ?_)
  have hr0 := at0_rg hv.2.2 z
  refine k_aload_n hx dX5_crossingOrNoSuch_0 0 rfl ?_
  refine k_iload_n hx dX5_crossingOrNoSuch_1 1 rfl ?_
  refine k_vp (rest := []) (e := (at0 v z)) hx vX5_215 dX5_crossingOrNoSuch_2 (c_X4_at hJ hv hcj (z := z) (by omega)) hJ.2.2.1 hJ.1 rfl rfl rfl ⟨rfl, rfl⟩ ⟨by decide, by decide⟩ ?_
  refine k_istore_n (ls' := [(0, vR g j), (1, vI z), (2, vI (at0 v z))]) hx dX5_crossingOrNoSuch_5 rfl rfl (by decide) ?_
  refine k_iload_n hx dX5_crossingOrNoSuch_6 2 rfl ?_
  refine k_iconst hx dX5_crossingOrNoSuch_7 ?_
  refine k_icmp_ne hx dX5_crossingOrNoSuch_8 (by omega) (fun h_8 => ?_) (fun h_8 => ?_)
  · refine k_iload_n hx dX5_crossingOrNoSuch_15 2 rfl ?_
    refine k_ri hx hr dX5_crossingOrNoSuch_16 ?_
    exact ⟨by omega, rfl⟩
  · refine k_iconst hx dX5_crossingOrNoSuch_11 ?_
    refine k_goto hx dX5_crossingOrNoSuch_12 ?_
    refine k_ri hx hr dX5_crossingOrNoSuch_16 ?_
    exact ⟨by omega, rfl⟩
theorem c_X5_layPulled {g : GE} {l : Launch} {M : Mem} {j cj : Nat} {v : List Int} (hJ : IsW g j cj) (hv : Wd M j v) (hcj : v.length ≤ cj) (hj : j < 113) : Cv g l μX5_layPulled [vR g 0, vR g j] M (fun M' => Wd M' 114 (red v) ∧ Off 114 M M') := by
  refine Cv.of (by decide +kernel) rfl rfl (fun x hx hr => ?_)
  have h480 := hJ.2.2.2.2
  refine k_aload_n hx dX5_layPulled_0 0 rfl ?_
  refine k_get (v := vR g 114) hx fX5_50 dX5_layPulled_1 n_0 L_0 rfl ?_
  refine k_aload_n hx dX5_layPulled_4 1 rfl ?_
  refine k_vv (rest := []) hx vX5_106 dX5_layPulled_5 (c_X4_copyFrom isW_114 hJ hv hcj (by omega) (by omega)) n_114 L_114 rfl rfl rfl ⟨rfl, rfl⟩ ⟨by decide, by decide⟩ (fun M_5 p_5 => ?_)
  refine k_aload_n hx dX5_layPulled_8 0 rfl ?_
  refine k_get (v := vR g 114) hx fX5_50 dX5_layPulled_9 n_0 L_0 rfl ?_
  refine k_vi (rest := []) hx vX5_89 dX5_layPulled_12 (c_X4_cancelPairs isW_114 p_5.1 (by omega)) n_114 L_114 rfl rfl rfl ⟨rfl, rfl⟩ ⟨by decide, by decide⟩ (fun z_12 M_12 p_12 => ?_)
  refine k_pop hx dX5_layPulled_15 rfl ?_
  refine k_rv hx hr dX5_layPulled_16 ?_
  exact ⟨p_12.2.1, p_5.2.tr p_12.2.2⟩
theorem c_X5_layLoop {g : GE} {l : Launch} {M : Mem} {j cj : Nat} {v : List Int} (hJ : IsW g j cj) (hv : Wd M j v) (hcj : v.length ≤ cj) (hj : j < 113) : Cv g l μX5_layLoop [vR g 0, vR g j] M (fun M' => Wd M' 118 (tight (red v)) ∧ Off 118 M M') := by
  refine Cv.of (by decide +kernel) rfl rfl (fun x hx hr => ?_)
  have h480 := hJ.2.2.2.2
  refine k_aload_n hx dX5_layLoop_0 0 rfl ?_
  refine k_get (v := vR g 118) hx fX5_57 dX5_layLoop_1 n_0 L_0 rfl ?_
  refine k_aload_n hx dX5_layLoop_4 1 rfl ?_
  refine k_vv (rest := []) hx vX5_106 dX5_layLoop_5 (c_X4_copyFrom isW_118 hJ hv hcj (by omega) (by omega)) n_118 L_118 rfl rfl rfl ⟨rfl, rfl⟩ ⟨by decide, by decide⟩ (fun M_5 p_5 => ?_)
  refine k_aload_n hx dX5_layLoop_8 0 rfl ?_
  refine k_get (v := vR g 118) hx fX5_57 dX5_layLoop_9 n_0 L_0 rfl ?_
  refine k_vv (rest := []) hx vX5_218 dX5_layLoop_12 (c_X4_tighten isW_118 p_5.1 (by omega)) n_118 L_118 rfl rfl rfl ⟨rfl, rfl⟩ ⟨by decide, by decide⟩ (fun M_12 p_12 => ?_)
  refine k_rv hx hr dX5_layLoop_15 ?_
  exact ⟨p_12.1, p_5.2.tr p_12.2⟩
theorem leastS_lt {w : List Int} : leastS w < w.length ∨ (w.length = 0 ∧ leastS w = 0) := by
  unfold leastS
  cases h : w.length with
  | zero => exact Or.inr ⟨rfl, rfl⟩
  | succ n => have := lsF_lt w n; exact Or.inl (by omega)
abbrev lst (v : List Int) : List Int := least (tight (red v))
theorem lst_len (v : List Int) : (lst v).length ≤ v.length := by
  have h1 := tight_len (red v); have h2 := red_len_le v; rw [least_len]; omega
theorem c_X5_layLeast {g : GE} {l : Launch} {M : Mem} {j cj : Nat} {v : List Int} (hJ : IsW g j cj) (hv : Wd M j v) (hcj : v.length ≤ cj) (hj : j < 117) {k : Nat} (hk : k = 114 ∨ k = 116) : Cv g l μX5_layLeast [vR g 0, vR g j, vR g k] M (fun M' => Wd M' k (lst v) ∧ ∀ a, a ≠ k → a ≠ k + 1 → a ≠ 118 → a ≠ 119 → M' a = M a) := by
  refine Cv.of (by decide +kernel) rfl rfl (fun x hx hr => ?_)
  have h480 := hJ.2.2.2.2
  have hK : IsW g k 480 := by rcases hk with rfl | rfl; exact isW_114; exact isW_116
  have htl := tight_len (red v)
  have hrl := red_len_le v
  refine k_aload_n hx dX5_layLeast_0 0 rfl ?_
  refine k_get (v := vR g 118) hx fX5_57 dX5_layLeast_1 n_0 L_0 rfl ?_
  refine k_aload_n hx dX5_layLeast_4 1 rfl ?_
  refine k_vv (rest := []) hx vX5_106 dX5_layLeast_5 (c_X4_copyFrom isW_118 hJ hv hcj (by omega) (by omega)) n_118 L_118 rfl rfl rfl ⟨rfl, rfl⟩ ⟨by decide, by decide⟩ (fun M_5 p_5 => ?_)
  refine k_aload_n hx dX5_layLeast_8 0 rfl ?_
  refine k_get (v := vR g 118) hx fX5_57 dX5_layLeast_9 n_0 L_0 rfl ?_
  refine k_vv (rest := []) hx vX5_218 dX5_layLeast_12 (c_X4_tighten isW_118 p_5.1 (by omega)) n_118 L_118 rfl rfl rfl ⟨rfl, rfl⟩ ⟨by decide, by decide⟩ (fun M_12 p_12 => ?_)
  refine k_aload_n hx dX5_layLeast_15 2 rfl ?_
  refine k_aload_n hx dX5_layLeast_16 0 rfl ?_
  refine k_get (v := vR g 118) hx fX5_57 dX5_layLeast_17 n_0 L_0 rfl ?_
  refine k_aload_n hx dX5_layLeast_20 0 rfl ?_
  refine k_get (v := vR g 118) hx fX5_57 dX5_layLeast_21 n_0 L_0 rfl ?_
  refine k_vp (rest := [vR g 118, vR g k]) (e := (leastS (tight (red v)) : Nat)) hx vX5_221 dX5_layLeast_24 (c_X4_leastStart isW_118 p_12.1 (by omega)) n_118 L_118 rfl rfl rfl ⟨rfl, rfl⟩ ⟨by decide, by decide⟩ ?_
  refine k_vv (rest := []) hx vX5_224 dX5_layLeast_27 (c_X4_copyFromStart hK isW_118 p_12.1 (by omega) (by omega) (by omega) leastS_lt) hK.2.2.1 hK.1 rfl rfl rfl ⟨rfl, rfl⟩ ⟨by decide, by decide⟩ (fun M_27 p_27 => ?_)
  refine k_rv hx hr dX5_layLeast_30 ?_
  exact ⟨p_27.1, fun a h1 h2 h3 h4 => by rw [p_27.2 a h1 h2, p_12.2 a h3 h4, p_5.2 a h3 h4]⟩
theorem c_X5_addSwapped {g : GE} {l : Launch} {M : Mem} {s : List Int} (hs : Wd M 114 s) (hsl : s.length + 3 ≤ 480) {p b : Int} (hp : 0 ≤ p ∧ p < 5) (hb : 0 ≤ b ∧ b < 2) {c : Int} (hc : 0 ≤ c ∧ c < 12) : Cv g l μX5_addSwapped [vR g 0, vI c, vI p, vI b] M (fun M' => Wd M' 114 ((swp p b c).foldl psh s) ∧ Off 114 M M') := by
  refine Cv.of (by decide +kernel) rfl rfl (fun x hx hr => ?_)
  have h6 := pst_rg hc
  have hsd : c - pst c = 0 ∨ c - pst c = 6 := by unfold pst; split <;> omega
  have ho := op_rg (c := p + b) (by omega)
  obtain ⟨b1, hb1⟩ : ∃ b1, b1 = (if b = 0 then p + b else op (p + b)) := ⟨_, rfl⟩
  obtain ⟨b2, hb2⟩ : ∃ b2, b2 = p + 1 - b + (c - pst c) := ⟨_, rfl⟩
  have hc1 : 0 ≤ b1 ∧ b1 < 12 := by rw [hb1]; split <;> omega
  have hc2 : 0 ≤ b2 ∧ b2 < 12 := by omega
  have hc3 := op_rg hc1
  have hl1 := psh_len (w := s) (c := b1)
  have hl2 := psh_len (w := psh s b1) (c := b2)
  have join : ∀ (y : Int), pst c = p + b → y = b1 → K x g 0 0 LAY (NN g) M 47 [(0, vR g 0), (1, vI c), (2, vI p), (3, vI b), (4, vI (p + b)), (5, vI (p + 1 - b)), (6, vI (pst c)), (7, vI (c - pst c)), (8, vI y)] [] := by
    intro y hpc hy
    subst hy
    refine k_aload_n hx dX5_addSwapped_47 0 rfl ?_
    refine k_get (v := vR g 114) hx fX5_50 dX5_addSwapped_48 n_0 L_0 rfl ?_
    refine k_iload hx dX5_addSwapped_51 8 rfl ?_
    refine k_vi (rest := []) hx vX5_238 dX5_addSwapped_53 (c_X4_addPulled isW_114 hs (by omega) (by omega) (c := y) hc1) n_114 L_114 rfl rfl rfl ⟨rfl, rfl⟩ ⟨by decide, by decide⟩ (fun z_53 M_53 p_53 => ?_)
    obtain ⟨-, q1, q2, -⟩ := p_53
    refine k_pop hx dX5_addSwapped_56 rfl ?_
    refine k_aload_n hx dX5_addSwapped_57 0 rfl ?_
    refine k_get (v := vR g 114) hx fX5_50 dX5_addSwapped_58 n_0 L_0 rfl ?_
    refine k_iload hx dX5_addSwapped_61 5 rfl ?_
    refine k_iload hx dX5_addSwapped_63 7 rfl ?_
    refine k_iadd hx dX5_addSwapped_65 ?_
    rw [← hb2]
    refine k_vi (rest := []) hx vX5_238 dX5_addSwapped_66 (c_X4_addPulled isW_114 q1 (by omega) (by omega) (c := b2) hc2) n_114 L_114 rfl rfl rfl ⟨rfl, rfl⟩ ⟨by decide, by decide⟩ (fun z_66 M_66 p_66 => ?_)
    obtain ⟨-, r1, r2, -⟩ := p_66
    refine k_pop hx dX5_addSwapped_69 rfl ?_
    refine k_aload_n hx dX5_addSwapped_70 0 rfl ?_
    refine k_get (v := vR g 114) hx fX5_50 dX5_addSwapped_71 n_0 L_0 rfl ?_
    refine k_iload hx dX5_addSwapped_74 8 rfl ?_
    refine k_sp (rest := [vR g 114]) (e := (op y)) hx sX5_235 dX5_addSwapped_76 (c_X5_opposite (z := y) (by omega)) rfl rfl rfl ⟨rfl, rfl⟩ ⟨by decide, by decide⟩ ?_
    refine k_vi (rest := []) hx vX5_238 dX5_addSwapped_79 (c_X4_addPulled isW_114 r1 (by omega) (by omega) (c := op y) hc3) n_114 L_114 rfl rfl rfl ⟨rfl, rfl⟩ ⟨by decide, by decide⟩ (fun z_79 M_79 p_79 => ?_)
    obtain ⟨-, t1, t2, -⟩ := p_79
    refine k_pop hx dX5_addSwapped_82 rfl ?_
    refine k_goto hx dX5_addSwapped_83 ?_
    refine k_rv hx hr dX5_addSwapped_118 ?_
    refine ⟨?_, q2.tr (r2.tr t2)⟩
    unfold swp
    rw [if_pos hpc, ← hb1, ← hb2]
    exact t1
  refine k_iload_n hx dX5_addSwapped_0 2 rfl ?_
  refine k_iload_n hx dX5_addSwapped_1 3 rfl ?_
  refine k_iadd hx dX5_addSwapped_2 ?_
  refine k_istore (ls' := [(0, vR g 0), (1, vI c), (2, vI p), (3, vI b), (4, vI (p + b))]) hx dX5_addSwapped_3 rfl rfl (by decide) ?_
  refine k_iload_n hx dX5_addSwapped_5 2 rfl ?_
  refine k_iconst hx dX5_addSwapped_6 ?_
  refine k_iadd hx dX5_addSwapped_7 ?_
  refine k_iload_n hx dX5_addSwapped_8 3 rfl ?_
  refine k_isub hx dX5_addSwapped_9 ?_
  refine k_istore (ls' := [(0, vR g 0), (1, vI c), (2, vI p), (3, vI b), (4, vI (p + b)), (5, vI ((p + 1) - b))]) hx dX5_addSwapped_10 rfl rfl (by decide) ?_
  refine k_iload_n hx dX5_addSwapped_12 1 rfl ?_
  refine k_sp (rest := []) (e := (pst c)) hx sX5_232 dX5_addSwapped_13 (c_X5_postOf (z := c) (by omega)) rfl rfl rfl ⟨rfl, rfl⟩ ⟨by decide, by decide⟩ ?_
  refine k_istore (ls' := [(0, vR g 0), (1, vI c), (2, vI p), (3, vI b), (4, vI (p + b)), (5, vI ((p + 1) - b)), (6, vI (pst c))]) hx dX5_addSwapped_16 rfl rfl (by decide) ?_
  refine k_iload_n hx dX5_addSwapped_18 1 rfl ?_
  refine k_iload hx dX5_addSwapped_19 6 rfl ?_
  refine k_isub hx dX5_addSwapped_21 ?_
  refine k_istore (ls' := [(0, vR g 0), (1, vI c), (2, vI p), (3, vI b), (4, vI (p + b)), (5, vI ((p + 1) - b)), (6, vI (pst c)), (7, vI (c - (pst c)))]) hx dX5_addSwapped_22 rfl rfl (by decide) ?_
  refine k_iload hx dX5_addSwapped_24 6 rfl ?_
  refine k_iload hx dX5_addSwapped_26 4 rfl ?_
  refine k_icmp_ne hx dX5_addSwapped_28 (by omega) (fun h_28 => ?_) (fun h_28 => ?_)
  · refine k_iload hx dX5_addSwapped_86 6 rfl ?_
    refine k_iload hx dX5_addSwapped_88 5 rfl ?_
    refine k_icmp_ne hx dX5_addSwapped_90 (by omega) (fun h_90 => ?_) (fun h_90 => ?_)
    · refine k_aload_n hx dX5_addSwapped_109 0 rfl ?_
      refine k_get (v := vR g 114) hx fX5_50 dX5_addSwapped_110 n_0 L_0 rfl ?_
      refine k_iload_n hx dX5_addSwapped_113 1 rfl ?_
      refine k_vi (rest := []) hx vX5_238 dX5_addSwapped_114 (c_X4_addPulled isW_114 hs (by omega) (by omega) (c := c) hc) n_114 L_114 rfl rfl rfl ⟨rfl, rfl⟩ ⟨by decide, by decide⟩ (fun z_114 M_114 p_114 => ?_)
      obtain ⟨-, q1, q2, -⟩ := p_114
      refine k_pop hx dX5_addSwapped_117 rfl ?_
      refine k_rv hx hr dX5_addSwapped_118 ?_
      refine ⟨?_, q2⟩
      unfold swp
      rw [if_neg h_28, if_neg h_90]
      exact q1
    · refine k_aload_n hx dX5_addSwapped_93 0 rfl ?_
      refine k_get (v := vR g 114) hx fX5_50 dX5_addSwapped_94 n_0 L_0 rfl ?_
      refine k_iload hx dX5_addSwapped_97 4 rfl ?_
      refine k_iload hx dX5_addSwapped_99 7 rfl ?_
      refine k_iadd hx dX5_addSwapped_101 ?_
      refine k_vi (rest := []) hx vX5_238 dX5_addSwapped_102 (c_X4_addPulled isW_114 hs (by omega) (by omega) (c := p + b + (c - pst c)) (by omega)) n_114 L_114 rfl rfl rfl ⟨rfl, rfl⟩ ⟨by decide, by decide⟩ (fun z_102 M_102 p_102 => ?_)
      obtain ⟨-, q1, q2, -⟩ := p_102
      refine k_pop hx dX5_addSwapped_105 rfl ?_
      refine k_goto hx dX5_addSwapped_106 ?_
      refine k_rv hx hr dX5_addSwapped_118 ?_
      refine ⟨?_, q2⟩
      unfold swp
      rw [if_neg h_28, if_pos h_90]
      exact q1
  · refine k_iload_n hx dX5_addSwapped_31 3 rfl ?_
    refine k_ifne hx dX5_addSwapped_32 (by omega) (fun h_32 => ?_) (fun h_32 => ?_)
    · refine k_iload hx dX5_addSwapped_40 4 rfl ?_
      refine k_sp (rest := []) (e := (op (p + b))) hx sX5_235 dX5_addSwapped_42 (c_X5_opposite (z := (p + b)) (by omega)) rfl rfl rfl ⟨rfl, rfl⟩ ⟨by decide, by decide⟩ ?_
      refine k_istore (ls' := [(0, vR g 0), (1, vI c), (2, vI p), (3, vI b), (4, vI (p + b)), (5, vI ((p + 1) - b)), (6, vI (pst c)), (7, vI (c - (pst c))), (8, vI (op (p + b)))]) hx dX5_addSwapped_45 rfl rfl (by decide) ?_
      exact join _ h_28 (by rw [hb1, if_neg h_32])
    · refine k_iload hx dX5_addSwapped_35 4 rfl ?_
      refine k_goto hx dX5_addSwapped_37 ?_
      refine k_istore (ls' := [(0, vR g 0), (1, vI c), (2, vI p), (3, vI b), (4, vI (p + b)), (5, vI ((p + 1) - b)), (6, vI (pst c)), (7, vI (c - (pst c))), (8, vI (p + b))]) hx dX5_addSwapped_45 rfl rfl (by decide) ?_
      exact join _ h_28 (by rw [hb1, if_pos h_32])
theorem c_X5_laySwapped {g : GE} {l : Launch} {M : Mem} {j cj : Nat} {v : List Int} (hJ : IsW g j cj) (hv : Wd M j v) (hcj : v.length ≤ cj) (hj : j < 113) (h120 : v.length ≤ 120) {p b : Int} (hp : 0 ≤ p ∧ p < 5) (hb : 0 ≤ b ∧ b < 2) : Cv g l μX5_laySwapped [vR g 0, vR g j, vI p, vI b] M (fun M' => Wd M' 114 (swF p b v) ∧ Off 114 M M') := by
  refine Cv.of (by decide +kernel) rfl rfl (fun x hx hr => ?_)
  have h480 := hJ.2.2.2.2
  have loop : ∀ (f : Nat), ∀ (k : Nat) (z : Int) (M' : Mem), z = k → k ≤ v.length → v.length - k < f → Wd M' 114 (red ((v.take k).flatMap (swp p b))) → Off 114 M M' → K x g 0 0 LAY (NN g) M' 10 [(0, vR g 0), (1, vR g j), (2, vI p), (3, vI b), (4, vI z)] [] := by
    intro f
    induction f with
    | zero => intro k z M' hz hk hf hwd ho; omega
    | succ f ih =>
      intro k z M' hz hk hf hwd ho
      have hv' := hv.off ho (by omega) (by omega) (by omega)
      refine k_iload hx dX5_laySwapped_10 4 rfl ?_
      refine k_aload_n hx dX5_laySwapped_12 1 rfl ?_
      refine k_get (v := vI v.length) hx fX5_79 dX5_laySwapped_13 hJ.2.2.1 hJ.1 (congrArg vI (show M' j 1 = v.length from hv'.1)) ?_
      refine k_icmp_ge hx dX5_laySwapped_16 (by omega) (fun h_16 => ?_) (fun h_16 => ?_)
      · refine k_rv hx hr dX5_laySwapped_37 ?_
        exact ⟨by rwa [List.take_of_length_le (by omega)] at hwd, ho⟩
      · have e1 : at0 v z = at0 v k := by rw [hz]
        have c1 := op_cr hv.2.2 (k := k) (by omega)
        rw [← e1] at c1
        have hln : (red ((v.take k).flatMap (swp p b))).length ≤ 3 * k := by
          have h1 := red_len_le ((v.take k).flatMap (swp p b)); have h2 := flat_len (swp_len p b) (v.take k); rw [List.length_take] at h2; omega
        refine k_aload_n hx dX5_laySwapped_19 0 rfl ?_
        refine k_aload_n hx dX5_laySwapped_20 1 rfl ?_
        refine k_iload hx dX5_laySwapped_21 4 rfl ?_
        refine k_vp (rest := [vR g 0]) (e := (at0 v z)) hx vX5_215 dX5_laySwapped_23 (c_X4_at hJ hv' hcj (z := z) (by omega)) hJ.2.2.1 hJ.1 rfl rfl rfl ⟨rfl, rfl⟩ ⟨by decide, by decide⟩ ?_
        refine k_iload_n hx dX5_laySwapped_26 2 rfl ?_
        refine k_iload_n hx dX5_laySwapped_27 3 rfl ?_
        refine k_vv (rest := []) hx vX5_228 dX5_laySwapped_28 (c_X5_addSwapped hwd (by omega) hp hb c1) n_0 L_0 rfl rfl rfl ⟨rfl, rfl⟩ ⟨by decide, by decide⟩ (fun M_28 p_28 => ?_)
        obtain ⟨q1, q2⟩ := p_28
        rw [← red_app, e1, ← flat_snoc (by omega)] at q1
        refine k_iinc (ls' := [(0, vR g 0), (1, vR g j), (2, vI p), (3, vI b), (4, vI (z + 1))]) hx dX5_laySwapped_31 4 rfl rfl rfl (by decide) ?_
        refine k_goto hx dX5_laySwapped_34 ?_
        exact ih (k + 1) (z + 1) M_28 (by omega) (by omega) (by omega) q1 (ho.tr q2)
  refine k_aload_n hx dX5_laySwapped_0 0 rfl ?_
  refine k_get (v := vR g 114) hx fX5_50 dX5_laySwapped_1 n_0 L_0 rfl ?_
  refine k_vv (rest := []) hx vX5_100 dX5_laySwapped_4 (c_X4_clear isW_114) n_114 L_114 rfl rfl rfl ⟨rfl, rfl⟩ ⟨by decide, by decide⟩ (fun M_4 p_4 => ?_)
  refine k_iconst hx dX5_laySwapped_7 ?_
  refine k_istore (ls' := [(0, vR g 0), (1, vR g j), (2, vI p), (3, vI b), (4, vI 0)]) hx dX5_laySwapped_8 rfl rfl (by decide) ?_
  exact loop (v.length + 1) 0 0 M_4 rfl (by omega) (by omega) (by subst p_4; exact Wd.nil) (by rw [p_4]; exact off_up)
def csw (A : Ab) (p b : Int) : Int := (swF p b (A.2.getD 0 [])).length + (swF p b (A.2.getD 1 [])).length + (swF p b (A.2.getD 2 [])).length + (swF p b (A.2.getD 3 [])).length
theorem csw_rg {A : Ab} (hA : OkA A) (p b : Int) : 0 ≤ csw A p b ∧ csw A p b ≤ 1440 := by
  have h0 := swF_len p b (A.2.getD 0 []); have h1 := swF_len p b (A.2.getD 1 []); have h2 := swF_len p b (A.2.getD 2 []); have h3 := swF_len p b (A.2.getD 3 [])
  have m0 := (hA.2.2.2 0 (by decide)).2; have m1 := (hA.2.2.2 1 (by decide)).2; have m2 := (hA.2.2.2 2 (by decide)).2; have m3 := (hA.2.2.2 3 (by decide)).2
  unfold csw; omega
theorem c_X5_crossingsIfSwapped {g : GE} {l : Launch} {M : Mem} {A : Ab} (hA : Sd M 1 A) {p b : Int} (hp : 0 ≤ p ∧ p < 5) (hb : 0 ≤ b ∧ b < 2) : Ci g l μX5_crossingsIfSwapped [vR g 0, vI p, vI b] M (fun z M' => z = csw A p b ∧ Off 114 M M') := by
  refine Ci.of (by decide +kernel) rfl rfl (fun x hx hr => ?_)
  have loop : ∀ (f : Nat), ∀ (k : Nat) (y z : Int) (M' : Mem), z = k → k ≤ 4 → 4 - k < f → y = (if 0 < k then ((swF p b (A.2.getD 0 [])).length : Int) else 0) + (if 1 < k then ((swF p b (A.2.getD 1 [])).length : Int) else 0) + (if 2 < k then ((swF p b (A.2.getD 2 [])).length : Int) else 0) + (if 3 < k then ((swF p b (A.2.getD 3 [])).length : Int) else 0) → Off 114 M M' → K x g 0 0 LAY (NN g) M' 5 [(0, vR g 0), (1, vI p), (2, vI b), (3, vI y), (4, vI z)] [] := by
    intro f
    induction f with
    | zero => intro k y z M' hz hk hf hy ho; omega
    | succ f ih =>
      intro k y z M' hz hk hf hy ho
      refine k_iload hx dX5_crossingsIfSwapped_5 4 rfl ?_
      refine k_iconst hx dX5_crossingsIfSwapped_7 ?_
      refine k_icmp_ge hx dX5_crossingsIfSwapped_8 (by omega) (fun h_8 => ?_) (fun h_8 => ?_)
      · refine k_iload_n hx dX5_crossingsIfSwapped_43 3 rfl ?_
        refine k_ri hx hr dX5_crossingsIfSwapped_44 ?_
        refine ⟨?_, ho⟩
        rw [hy, show k = 4 by omega]; simp [csw]
      · have hk4 : k < 4 := by omega
        have hv := (hA.2.2 k hk4).off ho (by omega) (by omega) (by omega)
        have hvl := (hA.1.2.2.2 k hk4).2
        refine k_aload_n hx dX5_crossingsIfSwapped_11 0 rfl ?_
        refine k_aload_n hx dX5_crossingsIfSwapped_12 0 rfl ?_
        refine k_get (v := vR g 1) hx fX5_12 dX5_crossingsIfSwapped_13 n_0 L_0 rfl ?_
        refine k_get (v := vR g 3) hx fX5_75 dX5_crossingsIfSwapped_16 n_1 L_1 rfl ?_
        refine k_iload hx dX5_crossingsIfSwapped_19 4 rfl ?_
        refine k_aald (q := (1 + 3 + 2 * k)) hx dX5_crossingsIfSwapped_21 n_3 L_3 (by decide) (by simp only [List.length_cons, List.length_nil]; omega) (by decide) (ropes_at (s := 1) hz hk4) ?_
        refine k_iload_n hx dX5_crossingsIfSwapped_22 1 rfl ?_
        refine k_iload_n hx dX5_crossingsIfSwapped_23 2 rfl ?_
        refine k_vv (rest := []) hx vX5_115 dX5_crossingsIfSwapped_24 (c_X5_laySwapped ((isS_1 (g := g)).w hk4) hv hvl (by omega) hvl hp hb) n_0 L_0 rfl rfl rfl ⟨rfl, rfl⟩ ⟨by decide, by decide⟩ (fun M_24 p_24 => ?_)
        refine k_iload_n hx dX5_crossingsIfSwapped_27 3 rfl ?_
        refine k_aload_n hx dX5_crossingsIfSwapped_28 0 rfl ?_
        refine k_get (v := vR g 114) hx fX5_50 dX5_crossingsIfSwapped_29 n_0 L_0 rfl ?_
        refine k_get (v := vI ((swF p b (A.2.getD k [])).length)) hx fX5_79 dX5_crossingsIfSwapped_32 n_114 L_114 (congrArg vI (show M_24 114 1 = ((swF p b (A.2.getD k [])).length) from p_24.1.1)) ?_
        refine k_iadd hx dX5_crossingsIfSwapped_35 ?_
        refine k_istore_n (ls' := [(0, vR g 0), (1, vI p), (2, vI b), (3, vI (y + ((swF p b (A.2.getD k [])).length))), (4, vI z)]) hx dX5_crossingsIfSwapped_36 rfl rfl (by decide) ?_
        refine k_iinc (ls' := [(0, vR g 0), (1, vI p), (2, vI b), (3, vI (y + ((swF p b (A.2.getD k [])).length))), (4, vI (z + 1))]) hx dX5_crossingsIfSwapped_37 4 rfl rfl rfl (by decide) ?_
        refine k_goto hx dX5_crossingsIfSwapped_40 ?_
        refine ih (k + 1) _ (z + 1) M_24 (by omega) (by omega) (by omega) ?_ (ho.tr p_24.2)
        rw [hy]
        rcases (show k = 0 ∨ k = 1 ∨ k = 2 ∨ k = 3 by omega) with rfl | rfl | rfl | rfl <;> simp <;> omega
  refine k_iconst hx dX5_crossingsIfSwapped_0 ?_
  refine k_istore_n (ls' := [(0, vR g 0), (1, vI p), (2, vI b), (3, vI 0)]) hx dX5_crossingsIfSwapped_1 rfl rfl (by decide) ?_
  refine k_iconst hx dX5_crossingsIfSwapped_2 ?_
  refine k_istore (ls' := [(0, vR g 0), (1, vI p), (2, vI b), (3, vI 0), (4, vI 0)]) hx dX5_crossingsIfSwapped_3 rfl rfl (by decide) ?_
  exact loop 5 0 0 0 M rfl (by omega) (by omega) (by simp) Off.rf
theorem c_X5_fallsWithout {g : GE} {l : Launch} {M : Mem} {j cj : Nat} {v : List Int} (hJ : IsW g j cj) (hv : Wd M j v) (hcj : v.length ≤ cj) (hj : j < 113) {S : Int} (hS : 0 ≤ S ∧ S < 64) : Ci g l μX5_fallsWithout [vR g 0, vR g j, vI S] M (fun z M' => z = b2i (decide (wF S v = [])) ∧ Off 114 M M') := by
  refine Ci.of (by decide +kernel) rfl rfl (fun x hx hr => ?_)
  have h480 := hJ.2.2.2.2
  have loop : ∀ (f : Nat), ∀ (k : Nat) (z : Int) (M' : Mem), z = k → k ≤ v.length → v.length - k < f → Wd M' 114 (red ((v.take k).filter (fun c => decide (bit S (pst c) = 0)))) → Off 114 M M' → K x g 0 0 LAY (NN g) M' 9 [(0, vR g 0), (1, vR g j), (2, vI S), (3, vI z)] [] := by
    intro f
    induction f with
    | zero => intro k z M' hz hk hf hwd ho; omega
    | succ f ih =>
      intro k z M' hz hk hf hwd ho
      have hv' := hv.off ho (by omega) (by omega) (by omega)
      refine k_iload_n hx dX5_fallsWithout_9 3 rfl ?_
      refine k_aload_n hx dX5_fallsWithout_10 1 rfl ?_
      refine k_get (v := vI v.length) hx fX5_79 dX5_fallsWithout_11 hJ.2.2.1 hJ.1 (congrArg vI (show M' j 1 = v.length from hv'.1)) ?_
      refine k_icmp_ge hx dX5_fallsWithout_14 (by omega) (fun h_14 => ?_) (fun h_14 => ?_)
      · have hkv : v.take k = v := List.take_of_length_le (by omega)
        rw [hkv] at hwd
        refine k_aload_n hx dX5_fallsWithout_52 0 rfl ?_
        refine k_get (v := vR g 114) hx fX5_50 dX5_fallsWithout_53 n_0 L_0 rfl ?_
        refine k_get (v := vI ((wF S v).length)) hx fX5_79 dX5_fallsWithout_56 n_114 L_114 (congrArg vI (show M' 114 1 = ((wF S v).length) from hwd.1)) ?_
        refine k_ifne hx dX5_fallsWithout_59 (by have := hwd.1; have : (wF S v).length ≤ v.length := Nat.le_trans (red_len_le _) (List.length_filter_le _ _); omega) (fun h_59 => ?_) (fun h_59 => ?_)
        · refine k_iconst hx dX5_fallsWithout_66 ?_
          refine k_rz hx hr dX5_fallsWithout_67 (by first | exact Or.inl rfl | exact Or.inr rfl | exact b2i_or _) ?_
          exact ⟨b2i_f (fun q => h_59 (by rw [q]; rfl)), ho⟩
        · refine k_iconst hx dX5_fallsWithout_62 ?_
          refine k_goto hx dX5_fallsWithout_63 ?_
          refine k_rz hx hr dX5_fallsWithout_67 (by first | exact Or.inl rfl | exact Or.inr rfl | exact b2i_or _) ?_
          exact ⟨b2i_t (List.length_eq_zero_iff.mp (by omega)), ho⟩
      · have e1 : at0 v z = at0 v k := by rw [hz]
        have c1 := op_cr hv.2.2 (k := k) (by omega)
        rw [← e1] at c1
        have c2 := pst_rg c1
        have hbr := bit_rg S (pst (at0 v z))
        have hsn := filt_snoc (f := fun c => decide (bit S (pst c) = 0)) (v := v) (k := k) (by omega)
        have hln : (red ((v.take k).filter (fun c => decide (bit S (pst c) = 0)))).length ≤ k := by
          have h1 := red_len_le ((v.take k).filter (fun c => decide (bit S (pst c) = 0))); have h2 := List.length_filter_le (fun c => decide (bit S (pst c) = 0)) (v.take k); rw [List.length_take] at h2; omega
        refine k_aload_n hx dX5_fallsWithout_17 1 rfl ?_
        refine k_iload_n hx dX5_fallsWithout_18 3 rfl ?_
        refine k_vp (rest := []) (e := (at0 v z)) hx vX5_215 dX5_fallsWithout_19 (c_X4_at hJ hv' hcj (z := z) (by omega)) hJ.2.2.1 hJ.1 rfl rfl rfl ⟨rfl, rfl⟩ ⟨by decide, by decide⟩ ?_
        refine k_istore (ls' := [(0, vR g 0), (1, vR g j), (2, vI S), (3, vI z), (4, vI (at0 v z))]) hx dX5_fallsWithout_22 rfl rfl (by decide) ?_
        refine k_iload_n hx dX5_fallsWithout_24 2 rfl ?_
        refine k_iload hx dX5_fallsWithout_25 4 rfl ?_
        refine k_sp (rest := [vI S]) (e := (pst (at0 v z))) hx sX5_232 dX5_fallsWithout_27 (c_X5_postOf (z := (at0 v z)) (by omega)) rfl rfl rfl ⟨rfl, rfl⟩ ⟨by decide, by decide⟩ ?_
        refine k_ishr (v := zI ((zI S >>> (zI (pst (at0 v z)) &&& 31)).toInt)) hx dX5_fallsWithout_30 ((zI_of _).symm) ?_
        refine k_iconst hx dX5_fallsWithout_31 ?_
        refine k_iand (v := zI (bit S (pst (at0 v z)))) hx dX5_fallsWithout_32 (by rw [zI_of]; exact bit_ok hS c2) ?_
        refine k_ifne hx dX5_fallsWithout_33 (by omega) (fun h_33 => ?_) (fun h_33 => ?_)
        · refine k_iinc (ls' := [(0, vR g 0), (1, vR g j), (2, vI S), (3, vI (z + 1)), (4, vI (at0 v z))]) hx dX5_fallsWithout_46 3 rfl rfl rfl (by decide) ?_
          refine k_goto hx dX5_fallsWithout_49 ?_
          refine K.sub [0, 1, 2, 3] rfl ?_
          rw [if_neg (by rw [← e1]; simpa using h_33), List.append_nil] at hsn
          exact ih (k + 1) (z + 1) M' (by omega) (by omega) (by omega) (by rw [hsn]; exact hwd) ho
        · refine k_aload_n hx dX5_fallsWithout_36 0 rfl ?_
          refine k_get (v := vR g 114) hx fX5_50 dX5_fallsWithout_37 n_0 L_0 rfl ?_
          refine k_iload hx dX5_fallsWithout_40 4 rfl ?_
          refine k_vi (rest := []) hx vX5_238 dX5_fallsWithout_42 (c_X4_addPulled isW_114 hwd (by omega) (by omega) (c := at0 v z) c1) n_114 L_114 rfl rfl rfl ⟨rfl, rfl⟩ ⟨by decide, by decide⟩ (fun z_42 M_42 p_42 => ?_)
          obtain ⟨-, q1, q2, -⟩ := p_42
          rw [if_pos (by rw [← e1]; simpa using h_33)] at hsn
          have q3 : Wd M_42 114 (red ((v.take (k + 1)).filter (fun c => decide (bit S (pst c) = 0)))) := by rw [hsn, red_app, ← e1]; exact q1
          refine k_pop hx dX5_fallsWithout_45 rfl ?_
          refine k_iinc (ls' := [(0, vR g 0), (1, vR g j), (2, vI S), (3, vI (z + 1)), (4, vI (at0 v z))]) hx dX5_fallsWithout_46 3 rfl rfl rfl (by decide) ?_
          refine k_goto hx dX5_fallsWithout_49 ?_
          refine K.sub [0, 1, 2, 3] rfl ?_
          exact ih (k + 1) (z + 1) M_42 (by omega) (by omega) (by omega) q3 (ho.tr q2)
  refine k_aload_n hx dX5_fallsWithout_0 0 rfl ?_
  refine k_get (v := vR g 114) hx fX5_50 dX5_fallsWithout_1 n_0 L_0 rfl ?_
  refine k_vv (rest := []) hx vX5_100 dX5_fallsWithout_4 (c_X4_clear isW_114) n_114 L_114 rfl rfl rfl ⟨rfl, rfl⟩ ⟨by decide, by decide⟩ (fun M_4 p_4 => ?_)
  refine k_iconst hx dX5_fallsWithout_7 ?_
  refine k_istore_n (ls' := [(0, vR g 0), (1, vR g j), (2, vI S), (3, vI 0)]) hx dX5_fallsWithout_8 rfl rfl (by decide) ?_
  exact loop (v.length + 1) 0 0 M_4 rfl (by omega) (by omega) (by subst p_4; exact Wd.nil) (by rw [p_4]; exact off_up)
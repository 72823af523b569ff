/-! the class's word: posts, the first pair, windings, sameness -/
def bset (b0 b1 b2 b3 b4 b5 : Bool) : Int := b2i b0 + 2 * b2i b1 + 4 * b2i b2 + 8 * b2i b3 + 16 * b2i b4 + 32 * b2i b5
def occ (w : List Int) (p : Int) : Bool := w.any (fun c => decide (pst c = p))
/-- the set of the posts of a word -/
def pset (w : List Int) : Int := bset (occ w 0) (occ w 1) (occ w 2) (occ w 3) (occ w 4) (occ w 5)
theorem bset_rg (b0 b1 b2 b3 b4 b5 : Bool) : 0 ≤ bset b0 b1 b2 b3 b4 b5 ∧ bset b0 b1 b2 b3 b4 b5 < 64 := by
  cases b0 <;> cases b1 <;> cases b2 <;> cases b3 <;> cases b4 <;> cases b5 <;> decide
theorem occ_snoc (w : List Int) (c p : Int) : occ (w ++ [c]) p = (occ w p || decide (pst c = p)) := by simp [occ]
theorem pst_rg {c : Int} (h : 0 ≤ c ∧ c < 12) : 0 ≤ pst c ∧ pst c < 6 := by unfold pst; omega
theorem bset_or0 (b0 b1 b2 b3 b4 b5 : Bool) : zI (bset b0 b1 b2 b3 b4 b5) ||| (zI 1 <<< (zI 0 &&& 31)) = zI (bset true b1 b2 b3 b4 b5) := by
  cases b0 <;> cases b1 <;> cases b2 <;> cases b3 <;> cases b4 <;> cases b5 <;> decide +kernel
theorem bset_or1 (b0 b1 b2 b3 b4 b5 : Bool) : zI (bset b0 b1 b2 b3 b4 b5) ||| (zI 1 <<< (zI 1 &&& 31)) = zI (bset b0 true b2 b3 b4 b5) := by
  cases b0 <;> cases b1 <;> cases b2 <;> cases b3 <;> cases b4 <;> cases b5 <;> decide +kernel
theorem bset_or2 (b0 b1 b2 b3 b4 b5 : Bool) : zI (bset b0 b1 b2 b3 b4 b5) ||| (zI 1 <<< (zI 2 &&& 31)) = zI (bset b0 b1 true b3 b4 b5) := by
  cases b0 <;> cases b1 <;> cases b2 <;> cases b3 <;> cases b4 <;> cases b5 <;> decide +kernel
theorem bset_or3 (b0 b1 b2 b3 b4 b5 : Bool) : zI (bset b0 b1 b2 b3 b4 b5) ||| (zI 1 <<< (zI 3 &&& 31)) = zI (bset b0 b1 b2 true b4 b5) := by
  cases b0 <;> cases b1 <;> cases b2 <;> cases b3 <;> cases b4 <;> cases b5 <;> decide +kernel
theorem bset_or4 (b0 b1 b2 b3 b4 b5 : Bool) : zI (bset b0 b1 b2 b3 b4 b5) ||| (zI 1 <<< (zI 4 &&& 31)) = zI (bset b0 b1 b2 b3 true b5) := by
  cases b0 <;> cases b1 <;> cases b2 <;> cases b3 <;> cases b4 <;> cases b5 <;> decide +kernel
theorem bset_or5 (b0 b1 b2 b3 b4 b5 : Bool) : zI (bset b0 b1 b2 b3 b4 b5) ||| (zI 1 <<< (zI 5 &&& 31)) = zI (bset b0 b1 b2 b3 b4 true) := by
  cases b0 <;> cases b1 <;> cases b2 <;> cases b3 <;> cases b4 <;> cases b5 <;> decide +kernel
theorem pset_snoc {w : List Int} {c : Int} (h : 0 ≤ c ∧ c < 12) : zI (pset w) ||| (zI 1 <<< (zI (pst c) &&& 31)) = zI (pset (w ++ [c])) := by
  have h6 := pst_rg h
  unfold pset
  simp only [occ_snoc]
  rcases (show pst c = 0 ∨ pst c = 1 ∨ pst c = 2 ∨ pst c = 3 ∨ pst c = 4 ∨ pst c = 5 by omega) with e | e | e | e | e | e <;> rw [e]
  · rw [bset_or0]; simp
  · rw [bset_or1]; simp
  · rw [bset_or2]; simp
  · rw [bset_or3]; simp
  · rw [bset_or4]; simp
  · rw [bset_or5]; simp
/-- the first place at which two crossings cancel -/
def fpF (w : List Int) : Nat → Nat → Int
  | 0, _ => -6
  | f + 1, k => if k + 1 < w.length then (if at0 w k = op (at0 w (k + 1 : Nat)) then (k : Int) else fpF w f (k + 1)) else -6
def firstP (w : List Int) : Int := fpF w (w.length + 1) 0
def wndF (w : List Int) (p : Int) : Nat → Int
  | 0 => 0
  | k + 1 => wndF w p k + (if at0 w k = p then 1 else if at0 w k = op p then -1 else 0)
def wnd (w : List Int) (p : Int) : Int := wndF w p w.length
theorem wndF_rg (w : List Int) (p : Int) : ∀ k : Nat, -(k : Int) ≤ wndF w p k ∧ wndF w p k ≤ k
  | 0 => by simp [wndF]
  | k + 1 => by
    have := wndF_rg w p k
    rw [wndF]
    split
    · omega
    · split <;> omega

theorem c_X4_posts {g : GE} {l : Launch} {M : Mem} {i cap : Nat} {w : List Int} (hW : IsW g i cap) (hw : Wd M i w) (hc : w.length ≤ cap) : Cp g l μX4_posts [vR g i] M (pset w) := by
  refine Ci.of (by decide +kernel) rfl rfl (fun x hx hr => ?_)
  have hl := hw.1; have h480 := hW.2.2.2.2
  have loop : ∀ (f : Nat), ∀ (k : Nat) (y z : Int), z = k → k ≤ w.length → w.length - k < f → y = pset (w.take k) → K x g 0 0 LAY (NN g) M 4 [(0, vR g i), (1, vI y), (2, vI z)] [] := by
    intro f
    induction f with
    | zero => intro k y z hz hk hf hy; omega
    | succ f ih =>
      intro k y z hz hk hf hy
      refine k_iload_n hx dX4_posts_4 2 rfl ?_
      refine k_aload_n hx dX4_posts_5 0 rfl ?_
      refine k_get (v := vI (M i 1)) hx fX4_21 dX4_posts_6 hW.2.2.1 hW.1 rfl ?_
      refine k_icmp_ge hx dX4_posts_9 (by omega) (fun h_9 => ?_) (fun h_9 => ?_)
      · refine k_iload_n hx dX4_posts_32 1 rfl ?_
        refine k_ri hx hr dX4_posts_33 ?_
        exact ⟨by rw [hy, List.take_of_length_le (by omega)], rfl⟩
      · have e1 : M (i + 1) z = at0 w k := by rw [hz]; exact hw.atn (by omega)
        have c1 := op_cr hw.2.2 (k := k) (by omega)
        have hps := pset_snoc (w := w.take k) c1
        rw [take_at0 (by omega), ← hy] at hps
        refine k_iload_n hx dX4_posts_12 1 rfl ?_
        refine k_iconst hx dX4_posts_13 ?_
        refine k_aload_n hx dX4_posts_14 0 rfl ?_
        refine k_get (v := vR g (i + 1)) hx fX4_15 dX4_posts_15 hW.2.2.1 hW.1 rfl ?_
        refine k_iload_n hx dX4_posts_18 2 rfl ?_
        refine k_iald (v := (at0 w k)) hx dX4_posts_19 hW.2.2.2.1 hW.2.1 (by omega) (by have := hW.2.2.2.2; omega) (e1) ?_
        refine k_np (rest := [vI 1, vI y]) (e := (pst (at0 w k))) hx nX4_61 dX4_posts_20 (c_X5_postOf (z := (at0 w k)) (by omega)) rfl rfl rfl ⟨rfl, rfl⟩ ⟨by decide, by decide⟩ ?_
        refine k_ishl (v := zI ((zI 1 <<< (zI (pst (at0 w k)) &&& 31)).toInt)) hx dX4_posts_23 ((zI_of _).symm) ?_
        refine k_ior (v := zI (pset (w.take (k + 1)))) hx dX4_posts_24 (by rw [zI_of]; exact hps) ?_
        refine k_istore_n (ls' := [(0, vR g i), (1, vI (pset (w.take (k + 1)))), (2, vI z)]) hx dX4_posts_25 rfl rfl (by decide) ?_
        refine k_iinc (ls' := [(0, vR g i), (1, vI (pset (w.take (k + 1)))), (2, vI (z + 1))]) hx dX4_posts_26 2 rfl rfl rfl (by decide) ?_
        refine k_goto hx dX4_posts_29 ?_
        exact ih (k + 1) _ (z + 1) (by omega) (by omega) (by omega) rfl
  refine k_iconst hx dX4_posts_0 ?_
  refine k_istore_n (ls' := [(0, vR g i), (1, vI 0)]) hx dX4_posts_1 rfl rfl (by decide) ?_
  refine k_iconst hx dX4_posts_2 ?_
  refine k_istore_n (ls' := [(0, vR g i), (1, vI 0), (2, vI 0)]) hx dX4_posts_3 rfl rfl (by decide) ?_
  exact loop (w.length + 1) 0 0 0 rfl (by omega) (by omega) (by rw [List.take_zero]; rfl)
theorem c_X4_firstPair {g : GE} {l : Launch} {M : Mem} {i cap : Nat} {w : List Int} (hW : IsW g i cap) (hw : Wd M i w) (hc : w.length ≤ cap) : Cp g l μX4_firstPair [vR g i] M (firstP w) := by
  refine Ci.of (by decide +kernel) rfl rfl (fun x hx hr => ?_)
  have hl := hw.1; have h480 := hW.2.2.2.2
  have loop : ∀ (f : Nat), ∀ (k e : Nat) (z : Int), z = k → k ≤ w.length → w.length < e + k → w.length + 1 - k ≤ f → fpF w e k = firstP w → K x g 0 0 LAY (NN g) M 2 [(0, vR g i), (1, vI z)] [] := by
    intro f
    induction f with
    | zero => intro k e z hz hk he hf hfp; omega
    | succ f ih =>
      intro k e z hz hk he hf hfp
      refine k_iload_n hx dX4_firstPair_2 1 rfl ?_
      refine k_iconst hx dX4_firstPair_3 ?_
      refine k_iadd hx dX4_firstPair_4 ?_
      refine k_aload_n hx dX4_firstPair_5 0 rfl ?_
      refine k_get (v := vI (M i 1)) hx fX4_21 dX4_firstPair_6 hW.2.2.1 hW.1 rfl ?_
      refine k_icmp_ge hx dX4_firstPair_9 (by omega) (fun h_9 => ?_) (fun h_9 => ?_)
      · refine k_bipush hx dX4_firstPair_40 (by decide +kernel) ?_
        refine k_ri hx hr dX4_firstPair_42 ?_
        refine ⟨?_, rfl⟩
        rw [← hfp]
        cases e with
        | zero => rfl
        | succ e => rw [fpF, if_neg (by omega)]
      · obtain ⟨e, rfl⟩ : ∃ e2, e = e2 + 1 := ⟨e - 1, by omega⟩
        rw [fpF, if_pos (by omega)] at hfp
        have e1 : M (i + 1) z = at0 w k := by rw [hz]; exact hw.atn (by omega)
        have e2 : M (i + 1) (z + 1) = at0 w (k + 1 : Nat) := by rw [hz]; exact hw.atn (k := k + 1) (by omega)
        have c1 := op_cr hw.2.2 (k := k) (by omega)
        have c2 := op_cr hw.2.2 (k := k + 1) (by omega)
        have c3 := op_rg c2
        refine k_aload_n hx dX4_firstPair_12 0 rfl ?_
        refine k_get (v := vR g (i + 1)) hx fX4_15 dX4_firstPair_13 hW.2.2.1 hW.1 rfl ?_
        refine k_iload_n hx dX4_firstPair_16 1 rfl ?_
        refine k_iald (v := (at0 w k)) hx dX4_firstPair_17 hW.2.2.2.1 hW.2.1 (by omega) (by have := hW.2.2.2.2; omega) (e1) ?_
        refine k_aload_n hx dX4_firstPair_18 0 rfl ?_
        refine k_get (v := vR g (i + 1)) hx fX4_15 dX4_firstPair_19 hW.2.2.1 hW.1 rfl ?_
        refine k_iload_n hx dX4_firstPair_22 1 rfl ?_
        refine k_iconst hx dX4_firstPair_23 ?_
        refine k_iadd hx dX4_firstPair_24 ?_
        refine k_iald (v := (at0 w (k + 1 : Nat))) hx dX4_firstPair_25 hW.2.2.2.1 hW.2.1 (by omega) (by have := hW.2.2.2.2; omega) (e2) ?_
        refine k_np (rest := [vI (at0 w k)]) (e := (op (at0 w (k + 1 : Nat)))) hx nX4_25 dX4_firstPair_26 (c_X5_opposite (z := (at0 w (k + 1 : Nat))) (by omega)) rfl rfl rfl ⟨rfl, rfl⟩ ⟨by decide, by decide⟩ ?_
        refine k_icmp_ne hx dX4_firstPair_29 (by omega) (fun h_29 => ?_) (fun h_29 => ?_)
        · refine k_iinc (ls' := [(0, vR g i), (1, vI (z + 1))]) hx dX4_firstPair_34 1 rfl rfl rfl (by decide) ?_
          refine k_goto hx dX4_firstPair_37 ?_
          exact ih (k + 1) e (z + 1) (by omega) (by omega) (by omega) (by omega) (by rw [← hfp, if_neg h_29])
        · refine k_iload_n hx dX4_firstPair_32 1 rfl ?_
          refine k_ri hx hr dX4_firstPair_33 ?_
          exact ⟨by rw [← hfp, if_pos h_29]; exact hz, rfl⟩
  refine k_iconst hx dX4_firstPair_0 ?_
  refine k_istore_n (ls' := [(0, vR g i), (1, vI 0)]) hx dX4_firstPair_1 rfl rfl (by decide) ?_
  exact loop (w.length + 1) 0 (w.length + 1) 0 rfl (by omega) (by omega) (by omega) rfl
theorem c_X4_windings {g : GE} {l : Launch} {M : Mem} {i cap : Nat} {w : List Int} (hW : IsW g i cap) (hw : Wd M i w) (hc : w.length ≤ cap) {p : Int} (hp : 0 ≤ p ∧ p < 6) : Cp g l μX4_windings [vR g i, vI p] M (wnd w p) := by
  refine Ci.of (by decide +kernel) rfl rfl (fun x hx hr => ?_)
  have hl := hw.1; have h480 := hW.2.2.2.2
  have hop := op_rg (c := p) (by omega)
  have loop : ∀ (f : Nat), ∀ (k : Nat) (y z : Int), z = k → k ≤ w.length → w.length - k < f → y = wndF w p k → K x g 0 0 LAY (NN g) M 4 [(0, vR g i), (1, vI p), (2, vI y), (3, vI z)] [] := by
    intro f
    induction f with
    | zero => intro k y z hz hk hf hy; omega
    | succ f ih =>
      intro k y z hz hk hf hy
      refine k_iload_n hx dX4_windings_4 3 rfl ?_
      refine k_aload_n hx dX4_windings_5 0 rfl ?_
      refine k_get (v := vI (M i 1)) hx fX4_21 dX4_windings_6 hW.2.2.1 hW.1 rfl ?_
      refine k_icmp_ge hx dX4_windings_9 (by omega) (fun h_9 => ?_) (fun h_9 => ?_)
      · refine k_iload_n hx dX4_windings_50 2 rfl ?_
        refine k_ri hx hr dX4_windings_51 ?_
        exact ⟨by rw [hy, show k = w.length by omega]; rfl, rfl⟩
      · have e1 : M (i + 1) z = at0 w k := by rw [hz]; exact hw.atn (by omega)
        have c1 := op_cr hw.2.2 (k := k) (by omega)
        have hst : wndF w p (k + 1) = wndF w p k + (if at0 w k = p then 1 else if at0 w k = op p then -1 else 0) := rfl
        refine k_aload_n hx dX4_windings_12 0 rfl ?_
        refine k_get (v := vR g (i + 1)) hx fX4_15 dX4_windings_13 hW.2.2.1 hW.1 rfl ?_
        refine k_iload_n hx dX4_windings_16 3 rfl ?_
        refine k_iald (v := (at0 w k)) hx dX4_windings_17 hW.2.2.2.1 hW.2.1 (by omega) (by have := hW.2.2.2.2; omega) (e1) ?_
        refine k_iload_n hx dX4_windings_18 1 rfl ?_
        refine k_icmp_ne hx dX4_windings_19 (by omega) (fun h_19 => ?_) (fun h_19 => ?_)
        · refine k_aload_n hx dX4_windings_28 0 rfl ?_
          refine k_get (v := vR g (i + 1)) hx fX4_15 dX4_windings_29 hW.2.2.1 hW.1 rfl ?_
          refine k_iload_n hx dX4_windings_32 3 rfl ?_
          refine k_iald (v := (at0 w k)) hx dX4_windings_33 hW.2.2.2.1 hW.2.1 (by omega) (by have := hW.2.2.2.2; omega) (e1) ?_
          refine k_iload_n hx dX4_windings_34 1 rfl ?_
          refine k_np (rest := [vI (at0 w k)]) (e := (op p)) hx nX4_25 dX4_windings_35 (c_X5_opposite (z := p) (by omega)) rfl rfl rfl ⟨rfl, rfl⟩ ⟨by decide, by decide⟩ ?_
          refine k_icmp_ne hx dX4_windings_38 (by omega) (fun h_38 => ?_) (fun h_38 => ?_)
          · refine k_iinc (ls' := [(0, vR g i), (1, vI p), (2, vI y), (3, vI (z + 1))]) hx dX4_windings_44 3 rfl rfl rfl (by decide) ?_
            refine k_goto hx dX4_windings_47 ?_
            exact ih (k + 1) _ (z + 1) (by omega) (by omega) (by omega) (by rw [hst, hy]; rw [if_neg h_19, if_neg h_38]; omega)
          · refine k_iinc (ls' := [(0, vR g i), (1, vI p), (2, vI (y + (-1))), (3, vI z)]) hx dX4_windings_41 2 rfl rfl rfl (by decide) ?_
            refine k_iinc (ls' := [(0, vR g i), (1, vI p), (2, vI (y + (-1))), (3, vI (z + 1))]) hx dX4_windings_44 3 rfl rfl rfl (by decide) ?_
            refine k_goto hx dX4_windings_47 ?_
            exact ih (k + 1) _ (z + 1) (by omega) (by omega) (by omega) (by rw [hst, hy]; rw [if_neg h_19, if_pos h_38])
        · refine k_iinc (ls' := [(0, vR g i), (1, vI p), (2, vI (y + 1)), (3, vI z)]) hx dX4_windings_22 2 rfl rfl rfl (by decide) ?_
          refine k_goto hx dX4_windings_25 ?_
          refine k_iinc (ls' := [(0, vR g i), (1, vI p), (2, vI (y + 1)), (3, vI (z + 1))]) hx dX4_windings_44 3 rfl rfl rfl (by decide) ?_
          refine k_goto hx dX4_windings_47 ?_
          exact ih (k + 1) _ (z + 1) (by omega) (by omega) (by omega) (by rw [hst, hy]; rw [if_pos h_19])
  refine k_iconst hx dX4_windings_0 ?_
  refine k_istore_n (ls' := [(0, vR g i), (1, vI p), (2, vI 0)]) hx dX4_windings_1 rfl rfl (by decide) ?_
  refine k_iconst hx dX4_windings_2 ?_
  refine k_istore_n (ls' := [(0, vR g i), (1, vI p), (2, vI 0), (3, vI 0)]) hx dX4_windings_3 rfl rfl (by decide) ?_
  exact loop (w.length + 1) 0 0 0 rfl (by omega) (by omega) rfl
/-! the reference: questions about words -/
theorem c_X6_firstPair {g : GE} {l : Launch} {M : Mem} {A : Ab} (hA : Fl M 121 0 A) {r : Int} (hro : 0 ≤ r ∧ r < 4) : Cp g l μX6_firstPair [vR g 120, vI r] M (firstP (rope A r)) := by
  refine Ci.of (by decide +kernel) rfl rfl (fun x hx hr => ?_)
  have hrl := (hA.1.rope hro).2
  have hrc := (hA.1.rope hro).1
  have loop : ∀ (f : Nat), ∀ (k e : Nat) (z : Int), z = k → k ≤ (rope A r).length → (rope A r).length < e + k → (rope A r).length + 1 - k ≤ f → fpF (rope A r) e k = firstP (rope A r) → K x g 0 0 LAY NN M 2 [(0, vR g 120), (1, vI r), (2, vI z)] [] := by
    intro f
    induction f with
    | zero => intro k e z hz hk he hf hfp; omega
    | succ f ih =>
      intro k e z hz hk he hf hfp
      refine k_iload_n hx dX6_firstPair_2 2 rfl ?_
      refine k_iconst hx dX6_firstPair_3 ?_
      refine k_iadd hx dX6_firstPair_4 ?_
      refine k_aload_n hx dX6_firstPair_5 0 rfl ?_
      refine k_iload_n hx dX6_firstPair_6 1 rfl ?_
      refine k_vp (rest := [vI (z + 1)]) (e := ((rope A r).length)) hx vX6_65 dX6_firstPair_7 (c_X6_many hA hro) n_120 L_120 rfl rfl rfl ⟨rfl, rfl⟩ ⟨by decide, by decide⟩ ?_
      refine k_icmp_ge hx dX6_firstPair_10 (by omega) (fun h_10 => ?_) (fun h_10 => ?_)
      · refine k_bipush hx dX6_firstPair_41 (by decide +kernel) ?_
        refine k_ri hx hr dX6_firstPair_43 ?_
        refine ⟨?_, rfl⟩
        rw [← hfp]
        cases e with
        | zero => rfl
        | succ e => rw [fpF, if_neg (by omega)]
      · obtain ⟨e, rfl⟩ : ∃ e2, e = e2 + 1 := ⟨e - 1, by omega⟩
        rw [fpF, if_pos (by omega)] at hfp
        have e1 : at0 (rope A r) z = at0 (rope A r) k := by rw [hz]
        have e2 : at0 (rope A r) (z + 1) = at0 (rope A r) (k + 1 : Nat) := by rw [hz]; rfl
        have c1 := op_cr hrc (k := k) (by omega)
        have c2 := op_cr hrc (k := k + 1) (by omega)
        rw [← e1] at c1; rw [← e2] at c2; rw [← e1, ← e2] at hfp
        refine k_aload_n hx dX6_firstPair_13 0 rfl ?_
        refine k_iload_n hx dX6_firstPair_14 1 rfl ?_
        refine k_iload_n hx dX6_firstPair_15 2 rfl ?_
        refine k_vp (rest := []) (e := (at0 (rope A r) z)) hx vX6_69 dX6_firstPair_16 (c_X6_at hA hro (k := z) (by omega)) n_120 L_120 rfl rfl rfl ⟨rfl, rfl⟩ ⟨by decide, by decide⟩ ?_
        refine k_aload_n hx dX6_firstPair_19 0 rfl ?_
        refine k_iload_n hx dX6_firstPair_20 1 rfl ?_
        refine k_iload_n hx dX6_firstPair_21 2 rfl ?_
        refine k_iconst hx dX6_firstPair_22 ?_
        refine k_iadd hx dX6_firstPair_23 ?_
        refine k_vp (rest := [vI (at0 (rope A r) z)]) (e := (at0 (rope A r) (z + 1))) hx vX6_69 dX6_firstPair_24 (c_X6_at hA hro (k := z + 1) (by omega)) n_120 L_120 rfl rfl rfl ⟨rfl, rfl⟩ ⟨by decide, by decide⟩ ?_
        refine k_sp (rest := []) (e := (b2i (decide ((at0 (rope A r) z) = op (at0 (rope A r) (z + 1)))))) hx sX6_57 dX6_firstPair_27 (c_X6_cancel (a := (at0 (rope A r) z)) (b := (at0 (rope A r) (z + 1))) (by omega)) rfl rfl rfl ⟨rfl, rfl⟩ ⟨by decide, by decide⟩ ?_
        refine k_beq hx dX6_firstPair_30 (fun h_30 => ?_) (fun h_30 => ?_)
        · refine k_iinc (ls' := [(0, vR g 120), (1, vI r), (2, vI (z + 1))]) hx dX6_firstPair_35 2 rfl rfl rfl (by decide) ?_
          refine k_goto hx dX6_firstPair_38 ?_
          exact ih (k + 1) e (z + 1) (by omega) (by omega) (by omega) (by omega) (by rw [← hfp, if_neg h_30])
        · refine k_iload_n hx dX6_firstPair_33 2 rfl ?_
          refine k_ri hx hr dX6_firstPair_34 ?_
          exact ⟨by rw [← hfp, if_pos h_30]; exact hz, rfl⟩
  refine k_iconst hx dX6_firstPair_0 ?_
  refine k_istore_n (ls' := [(0, vR g 120), (1, vI r), (2, vI 0)]) hx dX6_firstPair_1 rfl rfl (by decide) ?_
  exact loop ((rope A r).length + 1) 0 ((rope A r).length + 1) 0 rfl (by omega) (by omega) (by omega) rfl
theorem c_X6_widths {g : GE} {l : Launch} {M : Mem} {A : Ab} (hA : Fl M 121 0 A) {w : List Int} (hw : Wk M w) (hl : w.length ≤ 1000) : Cp g l μX6_widths [vR g 120] M (wsum A.1 w) := by
  refine Ci.of (by decide +kernel) rfl rfl (fun x hx hr => ?_)
  have loop : ∀ (f : Nat), ∀ (k : Nat) (y z : Int), z = k → k ≤ w.length → w.length - k < f → y = wsF A.1 w k → K x g 0 0 LAY NN M 4 [(0, vR g 120), (1, vI y), (2, vI z)] [] := by
    intro f
    induction f with
    | zero => intro k y z hz hk hf hy; omega
    | succ f ih =>
      intro k y z hz hk hf hy
      refine k_iload_n hx dX6_widths_4 2 rfl ?_
      refine k_aload_n hx dX6_widths_5 0 rfl ?_
      refine k_get (v := vI w.length) hx fX6_54 dX6_widths_6 n_120 L_120 (congrArg vI (show M 120 8 = w.length from hw.1)) ?_
      refine k_icmp_ge hx dX6_widths_9 (by omega) (fun h_9 => ?_) (fun h_9 => ?_)
      · refine k_iload_n hx dX6_widths_35 1 rfl ?_
        refine k_ri hx hr dX6_widths_36 ?_
        exact ⟨by rw [hy, show k = w.length by omega]; rfl, rfl⟩
      · have e1 : M 126 z = at0 w k := by rw [hz]; exact hw.at (by omega) (by omega)
        have c1 := op_cr hw.2.2 (k := k) (by omega)
        have c2 := pst_rg c1
        have hpm : at0 w k % 6 = pst (at0 w k) := by unfold pst; omega
        have e2 : M 121 (at0 w k % 6) = A.1.getD (pst (at0 w k)).toNat 0 := by
          have := hA.2.1 (pst (at0 w k)) c2.1 c2.2
          rw [hpm]; rwa [show 0 + pst (at0 w k) = pst (at0 w k) by omega] at this
        refine k_iload_n hx dX6_widths_12 1 rfl ?_
        refine k_aload_n hx dX6_widths_13 0 rfl ?_
        refine k_get (v := vR g 121) hx fX6_7 dX6_widths_14 n_120 L_120 rfl ?_
        refine k_aload_n hx dX6_widths_17 0 rfl ?_
        refine k_get (v := vR g 126) hx fX6_26 dX6_widths_18 n_120 L_120 rfl ?_
        refine k_iload_n hx dX6_widths_21 2 rfl ?_
        refine k_iald (v := (at0 w k)) hx dX6_widths_22 n_126 L_126 (by omega) (by decide) (e1) ?_
        refine k_bipush hx dX6_widths_23 (by decide +kernel) ?_
        refine k_irem hx dX6_widths_25 (by omega) ?_
        refine k_iald (v := (A.1.getD (pst (at0 w k)).toNat 0)) hx dX6_widths_26 n_121 L_121 (by omega) (by decide) (e2) ?_
        refine k_iadd hx dX6_widths_27 ?_
        refine k_istore_n (ls' := [(0, vR g 120), (1, vI (y + (A.1.getD (pst (at0 w k)).toNat 0))), (2, vI z)]) hx dX6_widths_28 rfl rfl (by decide) ?_
        refine k_iinc (ls' := [(0, vR g 120), (1, vI (y + (A.1.getD (pst (at0 w k)).toNat 0))), (2, vI (z + 1))]) hx dX6_widths_29 2 rfl rfl rfl (by decide) ?_
        refine k_goto hx dX6_widths_32 ?_
        exact ih (k + 1) _ (z + 1) (by omega) (by omega) (by omega) (by rw [hy]; rfl)
  refine k_iconst hx dX6_widths_0 ?_
  refine k_istore_n (ls' := [(0, vR g 120), (1, vI 0)]) hx dX6_widths_1 rfl rfl (by decide) ?_
  refine k_iconst hx dX6_widths_2 ?_
  refine k_istore_n (ls' := [(0, vR g 120), (1, vI 0), (2, vI 0)]) hx dX6_widths_3 rfl rfl (by decide) ?_
  exact loop (w.length + 1) 0 0 0 rfl (by omega) (by omega) rfl
theorem c_X6_ofWord {g : GE} {l : Launch} {M : Mem} {A : Ab} (hA : Fl M 121 0 A) {r : Int} (hro : 0 ≤ r ∧ r < 4) : Cp g l μX6_ofWord [vR g 120, vI r] M (wsum A.1 (rope A r)) := by
  refine Ci.of (by decide +kernel) rfl rfl (fun x hx hr => ?_)
  have hrl := (hA.1.rope hro).2
  have hrc := (hA.1.rope hro).1
  have loop : ∀ (f : Nat), ∀ (k : Nat) (y z : Int), z = k → k ≤ (rope A r).length → (rope A r).length - k < f → y = wsF A.1 (rope A r) k → K x g 0 0 LAY NN M 4 [(0, vR g 120), (1, vI r), (2, vI y), (3, vI z)] [] := by
    intro f
    induction f with
    | zero => intro k y z hz hk hf hy; omega
    | succ f ih =>
      intro k y z hz hk hf hy
      refine k_iload_n hx dX6_ofWord_4 3 rfl ?_
      refine k_aload_n hx dX6_ofWord_5 0 rfl ?_
      refine k_iload_n hx dX6_ofWord_6 1 rfl ?_
      refine k_vp (rest := [vI z]) (e := ((rope A r).length)) hx vX6_65 dX6_ofWord_7 (c_X6_many hA hro) n_120 L_120 rfl rfl rfl ⟨rfl, rfl⟩ ⟨by decide, by decide⟩ ?_
      refine k_icmp_ge hx dX6_ofWord_10 (by omega) (fun h_10 => ?_) (fun h_10 => ?_)
      · refine k_iload_n hx dX6_ofWord_36 2 rfl ?_
        refine k_ri hx hr dX6_ofWord_37 ?_
        exact ⟨by rw [hy, show k = (rope A r).length by omega]; rfl, rfl⟩
      · have e1 : at0 (rope A r) z = at0 (rope A r) k := by rw [hz]
        have c1 := op_cr hrc (k := k) (by omega)
        rw [← e1] at c1
        have c2 := pst_rg c1
        have hpm : at0 (rope A r) z % 6 = pst (at0 (rope A r) z) := by unfold pst; omega
        have e2 : M 121 (at0 (rope A r) z % 6) = A.1.getD (pst (at0 (rope A r) k)).toNat 0 := by
          have := hA.2.1 (pst (at0 (rope A r) z)) c2.1 c2.2
          rw [hpm, ← e1]; rwa [show 0 + pst (at0 (rope A r) z) = pst (at0 (rope A r) z) by omega] at this
        refine k_iload_n hx dX6_ofWord_13 2 rfl ?_
        refine k_aload_n hx dX6_ofWord_14 0 rfl ?_
        refine k_get (v := vR g 121) hx fX6_7 dX6_ofWord_15 n_120 L_120 rfl ?_
        refine k_aload_n hx dX6_ofWord_18 0 rfl ?_
        refine k_iload_n hx dX6_ofWord_19 1 rfl ?_
        refine k_iload_n hx dX6_ofWord_20 3 rfl ?_
        refine k_vp (rest := [vR g 121, vI y]) (e := (at0 (rope A r) z)) hx vX6_69 dX6_ofWord_21 (c_X6_at hA hro (k := z) (by omega)) n_120 L_120 rfl rfl rfl ⟨rfl, rfl⟩ ⟨by decide, by decide⟩ ?_
        refine k_bipush hx dX6_ofWord_24 (by decide +kernel) ?_
        refine k_irem hx dX6_ofWord_26 (by omega) ?_
        refine k_iald (v := (A.1.getD (pst (at0 (rope A r) k)).toNat 0)) hx dX6_ofWord_27 n_121 L_121 (by omega) (by decide) (e2) ?_
        refine k_iadd hx dX6_ofWord_28 ?_
        refine k_istore_n (ls' := [(0, vR g 120), (1, vI r), (2, vI (y + (A.1.getD (pst (at0 (rope A r) k)).toNat 0))), (3, vI z)]) hx dX6_ofWord_29 rfl rfl (by decide) ?_
        refine k_iinc (ls' := [(0, vR g 120), (1, vI r), (2, vI (y + (A.1.getD (pst (at0 (rope A r) k)).toNat 0))), (3, vI (z + 1))]) hx dX6_ofWord_30 3 rfl rfl rfl (by decide) ?_
        refine k_goto hx dX6_ofWord_33 ?_
        exact ih (k + 1) _ (z + 1) (by omega) (by omega) (by omega) (by rw [hy]; rfl)
  refine k_iconst hx dX6_ofWord_0 ?_
  refine k_istore_n (ls' := [(0, vR g 120), (1, vI r), (2, vI 0)]) hx dX6_ofWord_1 rfl rfl (by decide) ?_
  refine k_iconst hx dX6_ofWord_2 ?_
  refine k_istore_n (ls' := [(0, vR g 120), (1, vI r), (2, vI 0), (3, vI 0)]) hx dX6_ofWord_3 rfl rfl (by decide) ?_
  exact loop ((rope A r).length + 1) 0 0 0 rfl (by omega) (by omega) rfl

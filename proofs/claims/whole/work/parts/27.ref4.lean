/-! the reference: least forms -/
theorem rot_mod {w : List Int} {a k : Nat} {z : Int} (hz : z = a + k) (ha : a < w.length) (hk : k < w.length) : (0 ≤ z % (w.length : Int) ∧ z % (w.length : Int) < w.length) ∧ at0 w (z % (w.length : Int)) = at0 (rot w a) k := by
  subst hz
  rw [rot_at (by omega) hk]
  by_cases h : a + k < w.length
  · have e : ((a : Int) + k) % (w.length : Int) = ((a + k : Nat) : Int) := by rw [Int.emod_eq_of_lt (by omega) (by omega)]; omega
    rw [e, if_pos h]; exact ⟨by omega, rfl⟩
  · have e : ((a : Int) + k) % (w.length : Int) = ((a + k - w.length : Nat) : Int) := by
      rw [← Int.sub_emod_right, Int.emod_eq_of_lt (by omega) (by omega)]; omega
    rw [e, if_neg h]; exact ⟨by omega, rfl⟩
/-- a form laid in a row of its own -/
def Fo (M : Mem) (j : Int) (a : Nat) (w : List Int) : Prop := M 120 j = w.length ∧ Ar M a 0 w ∧ Cr w
theorem Fo.at {M : Mem} {j : Int} {a : Nat} {w : List Int} (h : Fo M j a w) {z : Int} (h0 : 0 ≤ z) (h1 : z < w.length) : M a z = at0 w z := by
  have := h.2.1 z h0 h1
  rwa [show (0 : Int) + z = z by omega] at this
def OF (M M' : Mem) : Prop := (∀ a, a ≠ 120 → a ≠ 126 → a ≠ 127 → M' a = M a) ∧ ∀ k, k ≠ 8 → k ≠ 10 → M' 120 k = M 120 k
theorem OW.f {M M' : Mem} (h : OW M M') : OF M M' := ⟨fun a h1 h2 _ => h.1 a h1 h2, fun k hk _ => h.2 k hk⟩
theorem OF.tr {M M' M'' : Mem} (h : OF M M') (k : OF M' M'') : OF M M'' := ⟨fun a h1 h2 h3 => (k.1 a h1 h2 h3).trans (h.1 a h1 h2 h3), fun j hj h2 => (k.2 j hj h2).trans (h.2 j hj h2)⟩

theorem c_X6_isLess {g : GE} {l : Launch} {M : Mem} {w : List Int} (hw : Wk M w) (hl : w.length ≤ 1000) {a b : Nat} (ha : a < w.length) (hb : b < w.length) : Cp g l μX6_isLess [vR g 120, vI a, vI b] M (b2i (lexLt (rot w a) (rot w b))) := by
  refine Ci.of (by decide +kernel) rfl rfl (fun x hx hr => ?_)
  have hla := rot_len (Nat.le_of_lt ha)
  have hlb := rot_len (Nat.le_of_lt hb)
  have loop : ∀ (f : Nat), ∀ (k : Nat) (z : Int), z = k → k ≤ w.length → w.length - k < f → lexLt (rot w a) (rot w b) = lexLt ((rot w a).drop k) ((rot w b).drop k) → K x g 0 0 LAY NN M 2 [(0, vR g 120), (1, vI a), (2, vI b), (3, vI z)] [] := by
    intro f
    induction f with
    | zero => intro k z hz hk hf hst; omega
    | succ f ih =>
      intro k z hz hk hf hst
      refine k_iload_n hx dX6_isLess_2 3 rfl ?_
      refine k_aload_n hx dX6_isLess_3 0 rfl ?_
      refine k_get (v := vI w.length) hx fX6_54 dX6_isLess_4 n_120 L_120 (congrArg vI (show M 120 8 = w.length from hw.1)) ?_
      refine k_icmp_ge hx dX6_isLess_7 (by omega) (fun h_7 => ?_) (fun h_7 => ?_)
      · refine k_iconst hx dX6_isLess_66 ?_
        refine k_rz hx hr dX6_isLess_67 (by first | exact Or.inl rfl | exact Or.inr rfl | exact b2i_or _) ?_
        exact ⟨by rw [hst, lexLt_end (by omega)]; rfl, rfl⟩
      · have hkl : k < w.length := by omega
        obtain ⟨r1, e1⟩ := rot_mod (w := w) (a := a) (k := k) (z := a + z) (by omega) ha hkl
        obtain ⟨r2, e2⟩ := rot_mod (w := w) (a := b) (k := k) (z := b + z) (by omega) hb hkl
        have c1 := op_cr (rot_cr hw.2.2 a) (k := k) (by omega)
        have c2 := op_cr (rot_cr hw.2.2 b) (k := k) (by omega)
        rw [lexLt_step (by omega) (by omega)] at hst
        refine k_aload_n hx dX6_isLess_10 0 rfl ?_
        refine k_get (v := vR g 126) hx fX6_26 dX6_isLess_11 n_120 L_120 rfl ?_
        refine k_iload_n hx dX6_isLess_14 1 rfl ?_
        refine k_iload_n hx dX6_isLess_15 3 rfl ?_
        refine k_iadd hx dX6_isLess_16 ?_
        refine k_aload_n hx dX6_isLess_17 0 rfl ?_
        refine k_get (v := vI w.length) hx fX6_54 dX6_isLess_18 n_120 L_120 (congrArg vI (show M 120 8 = w.length from hw.1)) ?_
        refine k_irem hx dX6_isLess_21 (by omega) ?_
        refine k_iald (v := (at0 (rot w a) k)) hx dX6_isLess_22 n_126 L_126 (by omega) (by decide) ((hw.at r1.1 r1.2).trans e1) ?_
        refine k_istore (ls' := [(0, vR g 120), (1, vI a), (2, vI b), (3, vI z), (4, vI (at0 (rot w a) k))]) hx dX6_isLess_23 rfl rfl (by decide) ?_
        refine k_aload_n hx dX6_isLess_25 0 rfl ?_
        refine k_get (v := vR g 126) hx fX6_26 dX6_isLess_26 n_120 L_120 rfl ?_
        refine k_iload_n hx dX6_isLess_29 2 rfl ?_
        refine k_iload_n hx dX6_isLess_30 3 rfl ?_
        refine k_iadd hx dX6_isLess_31 ?_
        refine k_aload_n hx dX6_isLess_32 0 rfl ?_
        refine k_get (v := vI w.length) hx fX6_54 dX6_isLess_33 n_120 L_120 (congrArg vI (show M 120 8 = w.length from hw.1)) ?_
        refine k_irem hx dX6_isLess_36 (by omega) ?_
        refine k_iald (v := (at0 (rot w b) k)) hx dX6_isLess_37 n_126 L_126 (by omega) (by decide) ((hw.at r2.1 r2.2).trans e2) ?_
        refine k_istore (ls' := [(0, vR g 120), (1, vI a), (2, vI b), (3, vI z), (4, vI (at0 (rot w a) k)), (5, vI (at0 (rot w b) k))]) hx dX6_isLess_38 rfl rfl (by decide) ?_
        refine k_iload hx dX6_isLess_40 4 rfl ?_
        refine k_iload hx dX6_isLess_42 5 rfl ?_
        refine k_icmp_eq hx dX6_isLess_44 (by omega) (fun h_44 => ?_) (fun h_44 => ?_)
        · refine k_iinc (ls' := [(0, vR g 120), (1, vI a), (2, vI b), (3, vI (z + 1)), (4, vI (at0 (rot w a) k)), (5, vI (at0 (rot w b) k))]) hx dX6_isLess_60 3 rfl rfl rfl (by decide) ?_
          refine k_goto hx dX6_isLess_63 ?_
          refine K.sub [0, 1, 2, 3] rfl ?_
          exact ih (k + 1) (z + 1) (by omega) (by omega) (by omega) (by rw [hst, if_pos h_44])
        · refine k_iload hx dX6_isLess_47 4 rfl ?_
          refine k_iload hx dX6_isLess_49 5 rfl ?_
          refine k_icmp_ge hx dX6_isLess_51 (by omega) (fun h_51 => ?_) (fun h_51 => ?_)
          · refine k_iconst hx dX6_isLess_58 ?_
            refine k_rz hx hr dX6_isLess_59 (by first | exact Or.inl rfl | exact Or.inr rfl | exact b2i_or _) ?_
            first | exact ⟨by rw [hst, if_neg h_44]; exact b2i_t (by omega), rfl⟩ | exact ⟨by rw [hst, if_neg h_44]; exact b2i_f (by omega), rfl⟩
          · refine k_iconst hx dX6_isLess_54 ?_
            refine k_goto hx dX6_isLess_55 ?_
            refine k_rz hx hr dX6_isLess_59 (by first | exact Or.inl rfl | exact Or.inr rfl | exact b2i_or _) ?_
            first | exact ⟨by rw [hst, if_neg h_44]; exact b2i_t (by omega), rfl⟩ | exact ⟨by rw [hst, if_neg h_44]; exact b2i_f (by omega), rfl⟩
  refine k_iconst hx dX6_isLess_0 ?_
  refine k_istore_n (ls' := [(0, vR g 120), (1, vI a), (2, vI b), (3, vI 0)]) hx dX6_isLess_1 rfl rfl (by decide) ?_
  exact loop (w.length + 1) 0 0 rfl (by omega) (by omega) rfl
theorem c_X6_layForm {g : GE} {l : Launch} {M : Mem} {A : Ab} (hA : Fl M 121 0 A) {r : Int} (hro : 0 ≤ r ∧ r < 4) {t : Bool} : Cv g l μX6_layForm [vR g 120, vI r, vI (b2i t)] M (fun M' => Fo M' 10 127 (lst (turned t (rope A r))) ∧ OF M M') := by
  refine Cv.of (by decide +kernel) rfl rfl (fun x hx hr => ?_)
  have hrl := (hA.1.rope hro).2
  have htl := turned_len t (rope A r)
  have h1 := red_len_le (turned t (rope A r))
  have h2 := tight_len (red (turned t (rope A r)))
  obtain ⟨w, hw0⟩ : ∃ w, w = tight (red (turned t (rope A r))) := ⟨_, rfl⟩
  rw [← hw0] at h2
  have loop2 : ∀ (f : Nat), ∀ (k a : Nat) (z : Int) (M' : Mem), z = k → k ≤ w.length → a = leastS w → (w.length = 0 ∨ a < w.length) → w.length - k < f → Wk M' w → (∀ q : Int, 0 ≤ q → q < k → M' 127 q = at0 (rot w a) q) → OF M M' → K x g 0 0 LAY NN M' 50 [(0, vR g 120), (1, vI r), (2, vI (b2i t)), (3, vI a), (4, vI z)] [] := by
    intro f
    induction f with
    | zero => intro k a z M' hz hk ha ha2 hf hw hin ho; omega
    | succ f ih =>
      intro k a z M' hz hk ha ha2 hf hw hin ho
      refine k_iload hx dX6_layForm_50 4 rfl ?_
      refine k_aload_n hx dX6_layForm_52 0 rfl ?_
      refine k_get (v := vI w.length) hx fX6_54 dX6_layForm_53 n_120 L_120 (congrArg vI (show M' 120 8 = w.length from hw.1)) ?_
      refine k_icmp_ge hx dX6_layForm_56 (by omega) (fun h_56 => ?_) (fun h_56 => ?_)
      · refine k_aload_n hx dX6_layForm_86 0 rfl ?_
        refine k_aload_n hx dX6_layForm_87 0 rfl ?_
        refine k_get (v := vI w.length) hx fX6_54 dX6_layForm_88 n_120 L_120 (congrArg vI (show M' 120 8 = w.length from hw.1)) ?_
        refine k_putI (kz := 10) hx fX6_93 dX6_layForm_91 n_120 L_120 rfl rfl (fun M_91 hM_91 => ?_)
        refine k_rv hx hr dX6_layForm_94 ?_
        show Fo M_91 10 127 (least (tight (red (turned t (rope A r))))) ∧ OF M M_91
        rw [← hw0]
        have hll := least_len w
        refine ⟨⟨by rw [hM_91, up_s, hll], fun q q0 q1 => ?_, least_cr hw.2.2⟩, ho.tr (by rw [hM_91]; exact ⟨fun a h1 _ _ => up_i h1, fun k _ h2 => up_k h2⟩)⟩
        rw [hM_91, up_i (by decide), show (0 : Int) + q = q by omega, hin q q0 (by omega), ha]; rfl
      · have hkl : k < w.length := by omega
        obtain ⟨r1, e1⟩ := rot_mod (w := w) (a := a) (k := k) (z := a + z) (by omega) (by omega) hkl
        refine k_aload_n hx dX6_layForm_59 0 rfl ?_
        refine k_get (v := vR g 127) hx fX6_29 dX6_layForm_60 n_120 L_120 rfl ?_
        refine k_iload hx dX6_layForm_63 4 rfl ?_
        refine k_aload_n hx dX6_layForm_65 0 rfl ?_
        refine k_get (v := vR g 126) hx fX6_26 dX6_layForm_66 n_120 L_120 rfl ?_
        refine k_iload_n hx dX6_layForm_69 3 rfl ?_
        refine k_iload hx dX6_layForm_70 4 rfl ?_
        refine k_iadd hx dX6_layForm_72 ?_
        refine k_aload_n hx dX6_layForm_73 0 rfl ?_
        refine k_get (v := vI w.length) hx fX6_54 dX6_layForm_74 n_120 L_120 (congrArg vI (show M' 120 8 = w.length from hw.1)) ?_
        refine k_irem hx dX6_layForm_77 (by omega) ?_
        refine k_iald (v := (at0 (rot w a) k)) hx dX6_layForm_78 n_126 L_126 (by omega) (by decide) ((hw.at r1.1 r1.2).trans e1) ?_
        refine k_iastN hx dX6_layForm_79 n_127 L_127 (by omega) (by decide) (fun M_79 hM_79 => ?_)
        refine k_iinc (ls' := [(0, vR g 120), (1, vI r), (2, vI (b2i t)), (3, vI a), (4, vI (z + 1))]) hx dX6_layForm_80 4 rfl rfl rfl (by decide) ?_
        refine k_goto hx dX6_layForm_83 ?_
        refine ih (k + 1) a (z + 1) M_79 (by omega) (by omega) ha ha2 (by omega) ⟨by rw [hM_79, up_i (by decide)]; exact hw.1, fun q q0 q1 => by rw [hM_79, up_i (by decide)]; exact hw.2.1 q q0 q1, hw.2.2⟩ (fun q q0 q1 => ?_) (ho.tr (by rw [hM_79]; exact ⟨fun a _ _ h3 => up_i h3, fun k _ _ => by rw [up_i (by decide)]⟩))
        rw [hM_79]
        by_cases hqz : q = z
        · rw [hqz, up_s, hz]
        · rw [up_k hqz]; exact hin q q0 (by omega)
  have loop1 : ∀ (f : Nat), ∀ (k : Nat) (y z : Int) (M' : Mem), z = k → 1 ≤ k → (k ≤ w.length ∨ k = 1) → w.length - k < f → y = lsF w k → Wk M' w → OF M M' → K x g 0 0 LAY NN M' 15 [(0, vR g 120), (1, vI r), (2, vI (b2i t)), (3, vI y), (4, vI z)] [] := by
    intro f
    induction f with
    | zero => intro k y z M' hz hk1 hk hf hy hw ho; omega
    | succ f ih =>
      intro k y z M' hz hk1 hk hf hy hw ho
      have hb : lsF w k ≤ k - 1 := by have := lsF_lt w (k - 1); rwa [show k - 1 + 1 = k by omega] at this
      have hst : lsF w (k + 1) = if lexLt (rot w k) (rot w (lsF w k)) = true then k else lsF w k := rfl
      subst hy; subst hz
      refine k_iload hx dX6_layForm_15 4 rfl ?_
      refine k_aload_n hx dX6_layForm_17 0 rfl ?_
      refine k_get (v := vI w.length) hx fX6_54 dX6_layForm_18 n_120 L_120 (congrArg vI (show M' 120 8 = w.length from hw.1)) ?_
      refine k_icmp_ge hx dX6_layForm_21 (by omega) (fun h_21 => ?_) (fun h_21 => ?_)
      · refine k_iconst hx dX6_layForm_47 ?_
        refine k_istore (ls' := [(0, vR g 120), (1, vI r), (2, vI (b2i t)), (3, vI (lsF w k : Nat)), (4, vI 0)]) hx dX6_layForm_48 rfl rfl (by decide) ?_
        have hls : lsF w k = leastS w := by
          by_cases hn : w.length = 0
          · have : k = 1 := by omega
            subst this
            rw [lsF_1]; unfold leastS; rw [hn]; rfl
          · have : k = w.length := by omega
            subst this
            rfl
        exact loop2 (w.length + 1) 0 (lsF w k) 0 M' rfl (by omega) hls (by omega) (by omega) hw (fun q h0 h1 => by omega) ho
      · refine k_aload_n hx dX6_layForm_24 0 rfl ?_
        refine k_iload hx dX6_layForm_25 4 rfl ?_
        refine k_iload_n hx dX6_layForm_27 3 rfl ?_
        refine k_vp (rest := []) (e := (b2i (lexLt (rot w k) (rot w (lsF w k))))) hx vX6_90 dX6_layForm_28 (c_X6_isLess hw (by omega) (a := k) (b := lsF w k) (by omega) (by omega)) n_120 L_120 rfl rfl rfl ⟨rfl, rfl⟩ ⟨by decide, by decide⟩ ?_
        refine k_ceq hx dX6_layForm_31 (fun h_31 => ?_) (fun h_31 => ?_)
        · refine k_iload_n hx dX6_layForm_39 3 rfl ?_
          refine k_istore_n (ls' := [(0, vR g 120), (1, vI r), (2, vI (b2i t)), (3, vI (lsF w k : Nat)), (4, vI (k : Nat))]) hx dX6_layForm_40 rfl rfl (by decide) ?_
          refine k_iinc (ls' := [(0, vR g 120), (1, vI r), (2, vI (b2i t)), (3, vI (lsF w k : Nat)), (4, vI ((k : Nat) + 1))]) hx dX6_layForm_41 4 rfl rfl rfl (by decide) ?_
          refine k_goto hx dX6_layForm_44 ?_
          exact ih (k + 1) _ ((k : Int) + 1) M' (by omega) (by omega) (by omega) (by omega) (by rw [hst, if_neg (by rw [h_31]; decide)]) hw ho
        · refine k_iload hx dX6_layForm_34 4 rfl ?_
          refine k_goto hx dX6_layForm_36 ?_
          refine k_istore_n (ls' := [(0, vR g 120), (1, vI r), (2, vI (b2i t)), (3, vI (k : Nat)), (4, vI (k : Nat))]) hx dX6_layForm_40 rfl rfl (by decide) ?_
          refine k_iinc (ls' := [(0, vR g 120), (1, vI r), (2, vI (b2i t)), (3, vI (k : Nat)), (4, vI ((k : Nat) + 1))]) hx dX6_layForm_41 4 rfl rfl rfl (by decide) ?_
          refine k_goto hx dX6_layForm_44 ?_
          exact ih (k + 1) _ ((k : Int) + 1) M' (by omega) (by omega) (by omega) (by omega) (by rw [hst, if_pos h_31]) hw ho
  refine k_aload_n hx dX6_layForm_0 0 rfl ?_
  refine k_iload_n hx dX6_layForm_1 1 rfl ?_
  refine k_iload_n hx dX6_layForm_2 2 rfl ?_
  refine k_vv (rest := []) hx vX6_84 dX6_layForm_3 (c_X6_layPulled hA hro (t := t)) n_120 L_120 rfl rfl rfl ⟨rfl, rfl⟩ ⟨by decide, by decide⟩ (fun M_3 p_3 => ?_)
  refine k_aload_n hx dX6_layForm_6 0 rfl ?_
  refine k_vv (rest := []) hx vX6_87 dX6_layForm_7 (c_X6_tighten p_3.1 (by omega)) n_120 L_120 rfl rfl rfl ⟨rfl, rfl⟩ ⟨by decide, by decide⟩ (fun M_7 p_7 => ?_)
  obtain ⟨q1, q2⟩ := p_7
  rw [← hw0] at q1
  refine k_iconst hx dX6_layForm_10 ?_
  refine k_istore_n (ls' := [(0, vR g 120), (1, vI r), (2, vI (b2i t)), (3, vI 0)]) hx dX6_layForm_11 rfl rfl (by decide) ?_
  refine k_iconst hx dX6_layForm_12 ?_
  refine k_istore (ls' := [(0, vR g 120), (1, vI r), (2, vI (b2i t)), (3, vI 0), (4, vI 1)]) hx dX6_layForm_13 rfl rfl (by decide) ?_
  exact loop1 (w.length + 1) 1 0 1 M_7 rfl (by omega) (by omega) (by omega) (by rw [lsF_1]; rfl) q1 (p_3.2.tr q2).f

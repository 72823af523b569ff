/-! the reference: a rope is written; ends are taken off -/
theorem rope_setR {A : Ab} (hA : OkA A) {r z : Int} (hr : 0 ≤ r ∧ r < 4) (hz : 0 ≤ z ∧ z < 4) {w : List Int} : rope (setR A r w) z = if z = r then w else rope A z := by
  have h4 := hA.2.1
  show (A.2.set r.toNat w).getD z.toNat [] = _
  rw [getD_set (by omega)]
  by_cases h : z = r
  · rw [if_pos h, if_pos (by omega)]
  · rw [if_neg h, if_neg (by omega)]
theorem OkA.setR {A : Ab} (hA : OkA A) {r : Int} (hr : 0 ≤ r ∧ r < 4) {w : List Int} (hc : Cr w) (hl : w.length ≤ 120) : OkA (setR A r w) := by
  obtain ⟨a1, a2, a3, a4⟩ := hA
  refine ⟨a1, by show (A.2.set r.toNat w).length = 4; rw [List.length_set]; exact a2, a3, fun k hk => ?_⟩
  show Cr ((A.2.set r.toNat w).getD k []) ∧ ((A.2.set r.toNat w).getD k []).length ≤ 120
  rw [getD_set (by omega)]
  split
  · exact ⟨hc, hl⟩
  · exact a4 k hk
theorem Fl.wr {M M' : Mem} {A : Ab} (h : Fl M 121 0 A) {r : Int} (hr : 0 ≤ r ∧ r < 4) {w : List Int} (hc : Cr w) (hl : w.length ≤ 120) (hlen : M' 121 (6 + r) = w.length) (hin : ∀ z : Int, 0 ≤ z → z < w.length → M' 121 (10 + 120 * r + z) = at0 w z) (hout : ∀ q : Int, q ≠ 6 + r → ¬ (10 + 120 * r ≤ q ∧ q < 10 + 120 * r + 120) → M' 121 q = M 121 q) : Fl M' 121 0 (setR A r w) := by
  have hOk := h.1
  refine ⟨hOk.setR hr hc hl, fun p p0 p6 => ?_, fun z z0 z4 => ?_, fun z z0 z4 => ?_⟩
  · rw [hout _ (by omega) (by omega)]; exact h.2.1 p p0 p6
  · rw [rope_setR hOk hr ⟨z0, z4⟩]
    by_cases hz : z = r
    · rw [if_pos hz, hz, show 0 + 6 + r = 6 + r by omega]; exact hlen
    · rw [if_neg hz, hout _ (by omega) (by omega)]; exact h.2.2.1 z z0 z4
  · rw [rope_setR hOk hr ⟨z0, z4⟩]
    by_cases hz : z = r
    · rw [if_pos hz, hz]
      intro k k0 k1
      rw [show 0 + 10 + 120 * r + k = 10 + 120 * r + k by omega]; exact hin k k0 k1
    · rw [if_neg hz]
      intro k k0 k1
      have := (hOk.rope ⟨z0, z4⟩).2
      rw [hout _ (by omega) (by omega)]; exact h.2.2.2 z z0 z4 k k0 k1
def ON (M M' : Mem) : Prop := ∀ a, a ≠ 121 → M' a = M a

theorem c_X6_take {g : GE} {l : Launch} {M : Mem} {A : Ab} (hA : Fl M 121 0 A) {r : Int} (hro : 0 ≤ r ∧ r < 4) {w : List Int} (hw : Wk M w) (hl : w.length ≤ 120) : Cv g l μX6_take [vR g 120, vI r] M (fun M' => Fl M' 121 0 (setR A r w) ∧ ON M M') := by
  refine Cv.of (by decide +kernel) rfl rfl (fun x hx hr => ?_)
  have loop : ∀ (f : Nat), ∀ (k : Nat) (z : Int) (M' : Mem), z = k → k ≤ w.length → w.length - k < f → (∀ q : Int, 0 ≤ q → q < k → M' 121 (10 + 120 * r + q) = at0 w q) → (∀ q : Int, ¬ (10 + 120 * r ≤ q ∧ q < 10 + 120 * r + 120) → M' 121 q = M 121 q) → ON M M' → K x g 0 0 LAY NN M' 2 [(0, vR g 120), (1, vI r), (2, vI z)] [] := by
    intro f
    induction f with
    | zero => intro k z M' hz hk hf hin hout ho; omega
    | succ f ih =>
      intro k z M' hz hk hf hin hout ho
      refine k_iload_n hx dX6_take_2 2 rfl ?_
      refine k_aload_n hx dX6_take_3 0 rfl ?_
      refine k_get (v := vI w.length) hx fX6_54 dX6_take_4 n_120 L_120 (congrArg vI (show M' 120 8 = w.length from by rw [ho 120 (by decide)]; exact hw.1)) ?_
      refine k_icmp_ge hx dX6_take_7 (by omega) (fun h_7 => ?_) (fun h_7 => ?_)
      · refine k_aload_n hx dX6_take_36 0 rfl ?_
        refine k_get (v := vR g 121) hx fX6_7 dX6_take_37 n_120 L_120 rfl ?_
        refine k_bipush hx dX6_take_40 (by decide +kernel) ?_
        refine k_iload_n hx dX6_take_42 1 rfl ?_
        refine k_iadd hx dX6_take_43 ?_
        refine k_aload_n hx dX6_take_44 0 rfl ?_
        refine k_get (v := vI w.length) hx fX6_54 dX6_take_45 n_120 L_120 (congrArg vI (show M' 120 8 = w.length from by rw [ho 120 (by decide)]; exact hw.1)) ?_
        refine k_iastN hx dX6_take_48 n_121 L_121 (by omega) (by decide) (fun M_48 hM_48 => ?_)
        refine k_rv hx hr dX6_take_49 ?_
        refine ⟨hA.wr hro hw.2.2 hl ?_ (fun q q0 q1 => ?_) (fun q h1 h2 => ?_), fun a ha => by rw [hM_48, up_i ha]; exact ho a ha⟩
        · rw [hM_48, up_s]
        · rw [hM_48, up_k (by omega)]; exact hin q q0 (by omega)
        · rw [hM_48, up_k h1]; exact hout q h2
      · refine k_aload_n hx dX6_take_10 0 rfl ?_
        refine k_get (v := vR g 121) hx fX6_7 dX6_take_11 n_120 L_120 rfl ?_
        refine k_bipush hx dX6_take_14 (by decide +kernel) ?_
        refine k_bipush hx dX6_take_16 (by decide +kernel) ?_
        refine k_iload_n hx dX6_take_18 1 rfl ?_
        refine k_imul hx dX6_take_19 ?_
        refine k_iadd hx dX6_take_20 ?_
        refine k_iload_n hx dX6_take_21 2 rfl ?_
        refine k_iadd hx dX6_take_22 ?_
        refine k_aload_n hx dX6_take_23 0 rfl ?_
        refine k_get (v := vR g 126) hx fX6_26 dX6_take_24 n_120 L_120 rfl ?_
        refine k_iload_n hx dX6_take_27 2 rfl ?_
        refine k_iald (v := (at0 w z)) hx dX6_take_28 n_126 L_126 (by omega) (by decide) (by rw [ho 126 (by decide)]; exact hw.at (by omega) (by omega)) ?_
        refine k_iastN hx dX6_take_29 n_121 L_121 (by omega) (by decide) (fun M_29 hM_29 => ?_)
        refine k_iinc (ls' := [(0, vR g 120), (1, vI r), (2, vI (z + 1))]) hx dX6_take_30 2 rfl rfl rfl (by decide) ?_
        refine k_goto hx dX6_take_33 ?_
        refine ih (k + 1) (z + 1) M_29 (by omega) (by omega) (by omega) (fun q q0 q1 => ?_) (fun q hq => by rw [hM_29, up_k (by omega)]; exact hout q hq) (fun a ha => by rw [hM_29, up_i ha]; exact ho a ha)
        rw [hM_29]
        by_cases hqz : q = z
        · rw [hqz, up_s]
        · rw [up_k (by omega)]; exact hin q q0 (by omega)
  refine k_iconst hx dX6_take_0 ?_
  refine k_istore_n (ls' := [(0, vR g 120), (1, vI r), (2, vI 0)]) hx dX6_take_1 rfl rfl (by decide) ?_
  exact loop (w.length + 1) 0 0 M rfl (by omega) (by omega) (fun q h0 h1 => by omega) (fun q _ => rfl) (fun a _ => rfl)
theorem c_X6_tighten {g : GE} {l : Launch} {M : Mem} {w : List Int} (hw : Wk M w) (hl : w.length ≤ 1000) : Cv g l μX6_tighten [vR g 120] M (fun M' => Wk M' (tight w) ∧ OW M M') := by
  refine Cv.of (by decide +kernel) rfl rfl (fun x hx hr => ?_)
  have loop2 : ∀ (f : Nat), ∀ (s k : Nat) (y u : Int) (M' : Mem), y = s → u = s + k → 2 * s + k ≤ w.length → tight w = slc w s (w.length - s) → w.length - k < f → M' 120 8 = (w.length : Int) - s → (∀ q : Int, 0 ≤ q → q < k → M' 126 q = at0 w (s + q)) → (∀ q : Int, s + k ≤ q → q < w.length → M' 126 q = at0 w q) → OW M M' → K x g 0 0 LAY NN M' 53 [(0, vR g 120), (1, vI y), (2, vI u)] [] := by
    intro f
    induction f with
    | zero => intro s k y u M' hy hu hsk htt hf h8 hin hq ho; omega
    | succ f ih =>
      intro s k y u M' hy hu hsk htt hf h8 hin hq ho
      refine k_iload_n hx dX6_tighten_53 2 rfl ?_
      refine k_aload_n hx dX6_tighten_54 0 rfl ?_
      refine k_get (v := vI ((w.length : Int) - s)) hx fX6_54 dX6_tighten_55 n_120 L_120 (congrArg vI (show M' 120 8 = ((w.length : Int) - s) from h8)) ?_
      refine k_icmp_ge hx dX6_tighten_58 (by omega) (fun h_58 => ?_) (fun h_58 => ?_)
      · refine k_aload_n hx dX6_tighten_81 0 rfl ?_
        refine k_dup hx dX6_tighten_82 rfl ?_
        refine k_get (v := vI ((w.length : Int) - s)) hx fX6_54 dX6_tighten_83 n_120 L_120 (congrArg vI (show M' 120 8 = ((w.length : Int) - s) from h8)) ?_
        refine k_iload_n hx dX6_tighten_86 1 rfl ?_
        refine k_isub hx dX6_tighten_87 ?_
        refine k_putI (kz := 8) hx fX6_54 dX6_tighten_88 n_120 L_120 rfl rfl (fun M_88 hM_88 => ?_)
        refine k_rv hx hr dX6_tighten_91 ?_
        have hsl : (slc w s (w.length - s)).length = w.length - s - s := slc_len (by omega)
        rw [htt, hM_88]
        refine ⟨⟨by rw [up_s, hsl]; omega, fun q q0 q1 => ?_, slc_cr hw.2.2 _ _⟩, ho.tr OW.len⟩
        rw [hsl] at q1
        rw [up_i (by decide), show (0 : Int) + q = q by omega, hin q q0 (by omega), show q = ((q.toNat : Nat) : Int) by omega, slc_at (by omega) (by omega)]
        congr 1
      · refine k_aload_n hx dX6_tighten_61 0 rfl ?_
        refine k_get (v := vR g 126) hx fX6_26 dX6_tighten_62 n_120 L_120 rfl ?_
        refine k_iload_n hx dX6_tighten_65 2 rfl ?_
        refine k_iload_n hx dX6_tighten_66 1 rfl ?_
        refine k_isub hx dX6_tighten_67 ?_
        refine k_aload_n hx dX6_tighten_68 0 rfl ?_
        refine k_get (v := vR g 126) hx fX6_26 dX6_tighten_69 n_120 L_120 rfl ?_
        refine k_iload_n hx dX6_tighten_72 2 rfl ?_
        refine k_iald (v := (at0 w u)) hx dX6_tighten_73 n_126 L_126 (by omega) (by decide) (hq u (by omega) (by omega)) ?_
        refine k_iastN hx dX6_tighten_74 n_126 L_126 (by omega) (by decide) (fun M_74 hM_74 => ?_)
        refine k_iinc (ls' := [(0, vR g 120), (1, vI y), (2, vI (u + 1))]) hx dX6_tighten_75 2 rfl rfl rfl (by decide) ?_
        refine k_goto hx dX6_tighten_78 ?_
        refine ih s (k + 1) y (u + 1) M_74 hy (by omega) (by omega) htt (by omega) (by rw [hM_74, up_i (by decide)]; exact h8) (fun q q0 q1 => ?_) (fun q q0 q1 => by rw [hM_74, up_k (by omega)]; exact hq q (by omega) q1) (ho.tr (by rw [hM_74]; exact ⟨fun a _ h2 => up_i h2, fun k _ => by rw [up_i (by decide)]⟩))
        rw [hM_74]
        by_cases hqz : q = u - y
        · rw [hqz, up_s, show (s : Int) + (u - y) = u by omega]
        · rw [up_k hqz]; exact hin q q0 (by omega)
  have loop1 : ∀ (f : Nat), ∀ (s : Nat) (y : Int) (M' : Mem), y = s → 2 * s ≤ w.length → w.length - s < f → strip (w.length - s) (slc w s (w.length - s)) = tight w → M' 120 8 = (w.length : Int) - s → M' 126 = M 126 → OW M M' → K x g 0 0 LAY NN M' 2 [(0, vR g 120), (1, vI y)] [] := by
    intro f
    induction f with
    | zero => intro s y M' hy hs hf hst h8 h126 ho; omega
    | succ f ih =>
      intro s y M' hy hs hf hst h8 h126 ho
      have hsl : (slc w s (w.length - s)).length = w.length - s - s := slc_len (by omega)
      have hq : ∀ q : Int, 0 ≤ q → q < w.length → M' 126 q = at0 w q := fun q q0 q1 => by rw [h126]; exact hw.at q0 q1
      refine k_aload_n hx dX6_tighten_2 0 rfl ?_
      refine k_get (v := vI ((w.length : Int) - s)) hx fX6_54 dX6_tighten_3 n_120 L_120 (congrArg vI (show M' 120 8 = ((w.length : Int) - s) from h8)) ?_
      refine k_iload_n hx dX6_tighten_6 1 rfl ?_
      refine k_isub hx dX6_tighten_7 ?_
      refine k_iconst hx dX6_tighten_8 ?_
      refine k_icmp_le hx dX6_tighten_9 (by omega) (fun h_9 => ?_) (fun h_9 => ?_)
      · have htt : tight w = slc w s (w.length - s) := by rw [← hst]; exact strip_stop (fun q => by omega) _
        refine k_iload_n hx dX6_tighten_51 1 rfl ?_
        refine k_istore_n (ls' := [(0, vR g 120), (1, vI y), (2, vI y)]) hx dX6_tighten_52 rfl rfl (by decide) ?_
        exact loop2 (w.length + 1) s 0 y y M' hy (by omega) (by omega) htt (by omega) h8 (fun q h0 h1 => by omega) (fun q h0 h1 => hq q (by omega) h1) ho
      · have e0 : at0 (slc w s (w.length - s)) 0 = at0 w y := by
          have := slc_at (v := w) (a := s) (b := w.length - s) (k := 0) (by omega) (by omega)
          rw [hy]; simpa using this
        have e1 : at0 (slc w s (w.length - s)) ((slc w s (w.length - s)).length - 1 : Nat) = at0 w ((w.length : Int) - s - 1) := by
          rw [hsl, slc_at (by omega) (by omega)]; congr 1; omega
        have c0 := at0_in hw.2.2 (z := y) (by omega) (by omega)
        have c1 := at0_in hw.2.2 (z := (w.length : Int) - s - 1) (by omega) (by omega)
        refine k_aload_n hx dX6_tighten_12 0 rfl ?_
        refine k_get (v := vR g 126) hx fX6_26 dX6_tighten_13 n_120 L_120 rfl ?_
        refine k_iload_n hx dX6_tighten_16 1 rfl ?_
        refine k_iald (v := (at0 w y)) hx dX6_tighten_17 n_126 L_126 (by omega) (by decide) (hq y (by omega) (by omega)) ?_
        refine k_aload_n hx dX6_tighten_18 0 rfl ?_
        refine k_get (v := vR g 126) hx fX6_26 dX6_tighten_19 n_120 L_120 rfl ?_
        refine k_aload_n hx dX6_tighten_22 0 rfl ?_
        refine k_get (v := vI ((w.length : Int) - s)) hx fX6_54 dX6_tighten_23 n_120 L_120 (congrArg vI (show M' 120 8 = ((w.length : Int) - s) from h8)) ?_
        refine k_iconst hx dX6_tighten_26 ?_
        refine k_isub hx dX6_tighten_27 ?_
        refine k_iald (v := (at0 w ((w.length : Int) - s - 1))) hx dX6_tighten_28 n_126 L_126 (by omega) (by decide) (hq _ (by omega) (by omega)) ?_
        refine k_sp (rest := []) (e := (b2i (decide ((at0 w y) = op (at0 w ((w.length : Int) - s - 1)))))) hx sX6_57 dX6_tighten_29 (c_X6_cancel (a := (at0 w y)) (b := (at0 w ((w.length : Int) - s - 1))) (by omega)) rfl rfl rfl ⟨rfl, rfl⟩ ⟨by decide, by decide⟩ ?_
        refine k_beq hx dX6_tighten_32 (fun h_32 => ?_) (fun h_32 => ?_)
        · have htt : tight w = slc w s (w.length - s) := by rw [← hst]; exact strip_stop (fun q => h_32 (by rw [← e0, ← e1]; exact q.2)) _
          refine k_iload_n hx dX6_tighten_51 1 rfl ?_
          refine k_istore_n (ls' := [(0, vR g 120), (1, vI y), (2, vI y)]) hx dX6_tighten_52 rfl rfl (by decide) ?_
          exact loop2 (w.length + 1) s 0 y y M' hy (by omega) (by omega) htt (by omega) h8 (fun q h0 h1 => by omega) (fun q h0 h1 => hq q (by omega) h1) ho
        · refine k_iinc (ls' := [(0, vR g 120), (1, vI (y + 1))]) hx dX6_tighten_35 1 rfl rfl rfl (by decide) ?_
          refine k_aload_n hx dX6_tighten_38 0 rfl ?_
          refine k_dup hx dX6_tighten_39 rfl ?_
          refine k_get (v := vI ((w.length : Int) - s)) hx fX6_54 dX6_tighten_40 n_120 L_120 (congrArg vI (show M' 120 8 = ((w.length : Int) - s) from h8)) ?_
          refine k_iconst hx dX6_tighten_43 ?_
          refine k_isub hx dX6_tighten_44 ?_
          refine k_putI (kz := 8) hx fX6_54 dX6_tighten_45 n_120 L_120 rfl rfl (fun M_45 hM_45 => ?_)
          refine k_goto hx dX6_tighten_48 ?_
          refine ih (s + 1) (y + 1) M_45 (by omega) (by omega) (by omega) ?_ (by rw [hM_45, up_s]; omega) (by rw [hM_45, up_i (by decide)]; exact h126) (ho.tr (by rw [hM_45]; exact OW.len))
          rw [← hst, strip_go (f := w.length - s) (f' := w.length - (s + 1)) (by omega) ⟨by omega, by rw [e0, e1]; exact h_32⟩, slc_slc rfl (by omega)]
  refine k_iconst hx dX6_tighten_0 ?_
  refine k_istore_n (ls' := [(0, vR g 120), (1, vI 0)]) hx dX6_tighten_1 rfl rfl (by decide) ?_
  exact loop1 (w.length + 1) 0 0 M rfl (by omega) (by omega) (by rw [Nat.sub_zero, slc_all]; rfl) (by rw [hw.1]; omega) rfl OW.rf

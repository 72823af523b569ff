/-! the reference: words laid into what is worked at -/
theorem Fl.w {M M' : Mem} {A : Ab} (h : Fl M 121 0 A) (ho : OW M M') : Fl M' 121 0 A := h.eq (ho.1 121 (by decide) (by decide))
theorem act_len (s w : List Int) : (act s w).length ≤ s.length + w.length := by
  induction w generalizing s with
  | nil => simp [act]
  | cons c t ih => have := ih (psh s c); have h2 := psh_len (w := s) (c := c); show (act (psh s c) t).length ≤ _; simp only [List.length_cons]; omega
theorem act_take {s w : List Int} {k : Nat} (h : k < w.length) : act s (w.take (k + 1)) = psh (act s (w.take k)) (at0 w k) := by
  rw [← take_at0 h, act_app]; rfl
def turned (t : Bool) (w : List Int) : List Int := if t = true then trn w else w
theorem turned_len (t : Bool) (w : List Int) : (turned t w).length = w.length := by unfold turned; split; exact trn_len w; rfl
theorem turned_cr {t : Bool} {w : List Int} (h : Cr w) : Cr (turned t w) := by unfold turned; split; exact cr_trn h; exact h

theorem c_X6_pushRope {g : GE} {l : Launch} {M : Mem} {A : Ab} (hA : Fl M 121 0 A) {r : Int} (hro : 0 ≤ r ∧ r < 4) {t : Bool} {w : List Int} (hw : Wk M w) (hl : w.length ≤ 880) : Cv g l μX6_pushRope [vR g 120, vI r, vI (b2i t)] M (fun M' => Wk M' (act w (turned t (rope A r))) ∧ OW M M') := by
  refine Cv.of (by decide +kernel) rfl rfl (fun x hx hr => ?_)
  have hrl := (hA.1.rope hro).2
  have hrc := (hA.1.rope hro).1
  have htl := turned_len t (rope A r)
  have htc := turned_cr (t := t) hrc
  have loop : ∀ (f : Nat), ∀ (k : Nat) (z : Int) (M' : Mem), z = k → k ≤ (rope A r).length → (rope A r).length - k < f → Wk M' (act w ((turned t (rope A r)).take k)) → OW M M' → K x g 0 0 LAY NN M' 2 [(0, vR g 120), (1, vI r), (2, vI (b2i t)), (3, vI z)] [] := by
    intro f
    induction f with
    | zero => intro k z M' hz hk hf hwk ho; omega
    | succ f ih =>
      intro k z M' hz hk hf hwk ho
      have hA' := hA.w ho
      have hal := act_len w ((turned t (rope A r)).take k)
      rw [List.length_take, htl] at hal
      refine k_iload_n hx dX6_pushRope_2 3 rfl ?_
      refine k_aload_n hx dX6_pushRope_3 0 rfl ?_
      refine k_iload_n hx dX6_pushRope_4 1 rfl ?_
      refine k_vp (rest := [vI z]) (e := ((rope A r).length)) hx vX6_65 dX6_pushRope_5 (c_X6_many hA' hro) n_120 L_120 rfl rfl rfl ⟨rfl, rfl⟩ ⟨by decide, by decide⟩ ?_
      refine k_icmp_ge hx dX6_pushRope_8 (by omega) (fun h_8 => ?_) (fun h_8 => ?_)
      · refine k_rv hx hr dX6_pushRope_51 ?_
        rw [List.take_of_length_le (by omega)] at hwk
        exact ⟨hwk, ho⟩
      · have hkl : k < (rope A r).length := by omega
        have hcr := op_cr htc (k := k) (by omega)
        have hst := act_take (s := w) (w := turned t (rope A r)) (k := k) (by omega)
        refine k_aload_n hx dX6_pushRope_11 0 rfl ?_
        refine k_iload_n hx dX6_pushRope_12 2 rfl ?_
        refine k_ceq hx dX6_pushRope_13 (fun h_13 => ?_) (fun h_13 => ?_)
        · refine k_aload_n hx dX6_pushRope_36 0 rfl ?_
          refine k_iload_n hx dX6_pushRope_37 1 rfl ?_
          refine k_iload_n hx dX6_pushRope_38 3 rfl ?_
          have hta : at0 (turned t (rope A r)) k = at0 (rope A r) z := by
            rw [h_13]
            show at0 (rope A r) k = _
            rw [hz]
          have hac := at0_in hrc (z := z) (by omega) (by omega)
          refine k_vp (rest := [vR g 120]) (e := (at0 (rope A r) z)) hx vX6_69 dX6_pushRope_39 (c_X6_at hA' hro (k := z) (by omega)) n_120 L_120 rfl rfl rfl ⟨rfl, rfl⟩ ⟨by decide, by decide⟩ ?_
          refine k_vv (rest := []) hx vX6_76 dX6_pushRope_42 (c_X6_push hwk (by omega) (c := at0 (rope A r) z) (by rw [← hta]; exact hcr)) n_120 L_120 rfl rfl rfl ⟨rfl, rfl⟩ ⟨by decide, by decide⟩ (fun M_42 p_42 => ?_)
          rw [← hta, ← hst] at p_42
          refine k_iinc (ls' := [(0, vR g 120), (1, vI r), (2, vI (b2i t)), (3, vI (z + 1))]) hx dX6_pushRope_45 3 rfl rfl rfl (by decide) ?_
          refine k_goto hx dX6_pushRope_48 ?_
          exact ih (k + 1) (z + 1) M_42 (by omega) (by omega) (by omega) p_42.1 (ho.tr p_42.2)
        · refine k_aload_n hx dX6_pushRope_16 0 rfl ?_
          refine k_iload_n hx dX6_pushRope_17 1 rfl ?_
          refine k_aload_n hx dX6_pushRope_18 0 rfl ?_
          refine k_iload_n hx dX6_pushRope_19 1 rfl ?_
          refine k_vp (rest := [vI r, vR g 120, vR g 120]) (e := ((rope A r).length)) hx vX6_65 dX6_pushRope_20 (c_X6_many hA' hro) n_120 L_120 rfl rfl rfl ⟨rfl, rfl⟩ ⟨by decide, by decide⟩ ?_
          refine k_iconst hx dX6_pushRope_23 ?_
          refine k_isub hx dX6_pushRope_24 ?_
          refine k_iload_n hx dX6_pushRope_25 3 rfl ?_
          refine k_isub hx dX6_pushRope_26 ?_
          have hta : at0 (turned t (rope A r)) k = op (at0 (rope A r) ((rope A r).length - 1 - z)) := by
            rw [h_13]
            show at0 (trn (rope A r)) k = _
            rw [trn_at hkl]; congr 2; omega
          have hac := at0_in hrc (z := (rope A r).length - 1 - z) (by omega) (by omega)
          refine k_vp (rest := [vR g 120]) (e := (at0 (rope A r) ((rope A r).length - 1 - z))) hx vX6_69 dX6_pushRope_27 (c_X6_at hA' hro (k := (rope A r).length - 1 - z) (by omega)) n_120 L_120 rfl rfl rfl ⟨rfl, rfl⟩ ⟨by decide, by decide⟩ ?_
          refine k_sp (rest := [vR g 120]) (e := (op (at0 (rope A r) ((rope A r).length - 1 - z)))) hx sX6_73 dX6_pushRope_30 (c_X6_otherSide (a := (at0 (rope A r) ((rope A r).length - 1 - z))) (by omega)) rfl rfl rfl ⟨rfl, rfl⟩ ⟨by decide, by decide⟩ ?_
          refine k_goto hx dX6_pushRope_33 ?_
          refine k_vv (rest := []) hx vX6_76 dX6_pushRope_42 (c_X6_push hwk (by omega) (c := op (at0 (rope A r) ((rope A r).length - 1 - z))) (by rw [← hta]; exact hcr)) n_120 L_120 rfl rfl rfl ⟨rfl, rfl⟩ ⟨by decide, by decide⟩ (fun M_42 p_42 => ?_)
          rw [← hta, ← hst] at p_42
          refine k_iinc (ls' := [(0, vR g 120), (1, vI r), (2, vI (b2i t)), (3, vI (z + 1))]) hx dX6_pushRope_45 3 rfl rfl rfl (by decide) ?_
          refine k_goto hx dX6_pushRope_48 ?_
          exact ih (k + 1) (z + 1) M_42 (by omega) (by omega) (by omega) p_42.1 (ho.tr p_42.2)
  refine k_iconst hx dX6_pushRope_0 ?_
  refine k_istore_n (ls' := [(0, vR g 120), (1, vI r), (2, vI (b2i t)), (3, vI 0)]) hx dX6_pushRope_1 rfl rfl (by decide) ?_
  exact loop ((rope A r).length + 1) 0 0 M rfl (by omega) (by omega) (by simpa [act] using hw) OW.rf
theorem c_X6_layPulled {g : GE} {l : Launch} {M : Mem} {A : Ab} (hA : Fl M 121 0 A) {r : Int} (hro : 0 ≤ r ∧ r < 4) {t : Bool} : Cv g l μX6_layPulled [vR g 120, vI r, vI (b2i t)] M (fun M' => Wk M' (red (turned t (rope A r))) ∧ OW M M') := by
  refine Cv.of (by decide +kernel) rfl rfl (fun x hx hr => ?_)
  refine k_aload_n hx dX6_layPulled_0 0 rfl ?_
  refine k_iconst hx dX6_layPulled_1 ?_
  refine k_putI (kz := 8) hx fX6_54 dX6_layPulled_2 n_120 L_120 rfl rfl (fun M_2 hM_2 => ?_)
  refine k_aload_n hx dX6_layPulled_5 0 rfl ?_
  refine k_iload_n hx dX6_layPulled_6 1 rfl ?_
  refine k_iload_n hx dX6_layPulled_7 2 rfl ?_
  refine k_vv (rest := []) hx vX6_80 dX6_layPulled_8 (c_X6_pushRope (A := A) (w := []) (by rw [hM_2]; exact hA.w OW.len) hro (by rw [hM_2]; exact Wk.nil) (by simp)) n_120 L_120 rfl rfl rfl ⟨rfl, rfl⟩ ⟨by decide, by decide⟩ (fun M_8 p_8 => ?_)
  refine k_rv hx hr dX6_layPulled_11 ?_
  subst hM_2
  exact ⟨p_8.1, OW.len.tr p_8.2⟩

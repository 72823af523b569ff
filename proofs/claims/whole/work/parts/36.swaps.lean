/-! the reference: posts change places -/
theorem c_X6_pushSwapped {g : GE} {l : Launch} {M : Mem} {w : List Int} (hw : Wk M w) (hl : w.length + 3 ≤ 1000) {c : Int} (hc : 0 ≤ c ∧ c < 12) {p b : Int} (hp : 0 ≤ p ∧ p < 5) (hb : 0 ≤ b ∧ b < 2) : Cv g l μX6_pushSwapped [vR g 120, vI c, vI p, vI b] M (fun M' => Wk M' ((swp p b c).foldl psh w) ∧ OW M M') := by
  refine Cv.of (by decide +kernel) rfl rfl (fun x hx hr => ?_)
  have h6 := pst_rg hc
  have hpm : c % 6 = pst c := by unfold pst; omega
  have hside : c / 6 * 6 = c - pst c := by unfold pst; omega
  have hop : op (p + b) = p + b + 6 := by unfold op; rw [if_pos (by omega)]
  have hop2 : op (p + b + 6) = p + b := by unfold op; rw [if_neg (by omega)]; omega
  rcases (show b = 0 ∨ b = 1 by omega) with rfl | rfl
  · refine k_iload_n hx dX6_pushSwapped_0 1 rfl ?_
    refine k_bipush hx dX6_pushSwapped_1 (by decide +kernel) ?_
    refine k_idiv hx dX6_pushSwapped_3 (by omega) ?_
    refine k_bipush hx dX6_pushSwapped_4 (by decide +kernel) ?_
    refine k_imul hx dX6_pushSwapped_6 ?_
    refine k_istore (ls' := [(0, vR g 120), (1, vI c), (2, vI p), (3, vI 0), (4, vI ((c / 6) * 6))]) hx dX6_pushSwapped_7 rfl rfl (by decide) ?_
    refine k_iload_n hx dX6_pushSwapped_9 2 rfl ?_
    refine k_iload_n hx dX6_pushSwapped_10 3 rfl ?_
    refine k_iadd hx dX6_pushSwapped_11 ?_
    refine k_istore (ls' := [(0, vR g 120), (1, vI c), (2, vI p), (3, vI 0), (4, vI ((c / 6) * 6)), (5, vI (p + 0))]) hx dX6_pushSwapped_12 rfl rfl (by decide) ?_
    refine k_iload_n hx dX6_pushSwapped_14 2 rfl ?_
    refine k_iconst hx dX6_pushSwapped_15 ?_
    refine k_iadd hx dX6_pushSwapped_16 ?_
    refine k_iload_n hx dX6_pushSwapped_17 3 rfl ?_
    refine k_isub hx dX6_pushSwapped_18 ?_
    refine k_istore (ls' := [(0, vR g 120), (1, vI c), (2, vI p), (3, vI 0), (4, vI ((c / 6) * 6)), (5, vI (p + 0)), (6, vI ((p + 1) - 0))]) hx dX6_pushSwapped_19 rfl rfl (by decide) ?_
    refine k_iload_n hx dX6_pushSwapped_21 1 rfl ?_
    refine k_bipush hx dX6_pushSwapped_22 (by decide +kernel) ?_
    refine k_irem hx dX6_pushSwapped_24 (by omega) ?_
    refine k_iload hx dX6_pushSwapped_25 5 rfl ?_
    refine k_icmp_ne hx dX6_pushSwapped_27 (by omega) (fun h_27 => ?_) (fun h_27 => ?_)
    · refine k_aload_n hx dX6_pushSwapped_78 0 rfl ?_
      refine k_iload_n hx dX6_pushSwapped_79 1 rfl ?_
      refine k_bipush hx dX6_pushSwapped_80 (by decide +kernel) ?_
      refine k_irem hx dX6_pushSwapped_82 (by omega) ?_
      refine k_iload hx dX6_pushSwapped_83 6 rfl ?_
      refine k_icmp_ne hx dX6_pushSwapped_85 (by omega) (fun h_85 => ?_) (fun h_85 => ?_)
      · have hsw : swp p 0 c = [c] := by unfold swp; rw [if_neg (by omega), if_neg (by omega)]
        refine k_iload_n hx dX6_pushSwapped_96 1 rfl ?_
        refine k_vv (rest := []) hx vX6_76 dX6_pushSwapped_97 (c_X6_push hw (by omega) (c := c) (by omega)) n_120 L_120 rfl rfl rfl ⟨rfl, rfl⟩ ⟨by decide, by decide⟩ (fun M_97 p_97 => ?_)
        refine k_rv hx hr dX6_pushSwapped_100 ?_
        rw [hsw]; exact ⟨p_97.1, p_97.2⟩
      · have hsw : swp p 0 c = [p + 0 + c / 6 * 6] := by unfold swp; rw [if_neg (by omega), if_pos (by omega), ← hside]
        refine k_iload hx dX6_pushSwapped_88 5 rfl ?_
        refine k_iload hx dX6_pushSwapped_90 4 rfl ?_
        refine k_iadd hx dX6_pushSwapped_92 ?_
        refine k_goto hx dX6_pushSwapped_93 ?_
        refine k_vv (rest := []) hx vX6_76 dX6_pushSwapped_97 (c_X6_push hw (by omega) (c := ((p + 0) + ((c / 6) * 6))) (by omega)) n_120 L_120 rfl rfl rfl ⟨rfl, rfl⟩ ⟨by decide, by decide⟩ (fun M_97 p_97 => ?_)
        refine k_rv hx hr dX6_pushSwapped_100 ?_
        rw [hsw]; exact ⟨p_97.1, p_97.2⟩
    · have hpc : pst c = p + 0 := by rw [← hpm]; exact h_27
      have hsw : swp p 0 c = [p + 0, p + 1 - 0 + c / 6 * 6, p + 0 + 6] := by unfold swp; rw [if_pos hpc, if_pos rfl, hop, ← hside]
      refine k_aload_n hx dX6_pushSwapped_30 0 rfl ?_
      refine k_iload_n hx dX6_pushSwapped_31 3 rfl ?_
      refine k_ifne hx dX6_pushSwapped_32 (by omega) (fun h_32 => absurd h_32 (by omega)) (fun h_32 => ?_)
      refine k_iload hx dX6_pushSwapped_35 5 rfl ?_
      refine k_goto hx dX6_pushSwapped_37 ?_
      refine k_vv (rest := []) hx vX6_76 dX6_pushSwapped_45 (c_X6_push hw (by omega) (c := (p + 0)) (by omega)) n_120 L_120 rfl rfl rfl ⟨rfl, rfl⟩ ⟨by decide, by decide⟩ (fun M_45 p_45 => ?_)
      have hl1 := psh_len (w := w) (c := p + 0)
      refine k_aload_n hx dX6_pushSwapped_48 0 rfl ?_
      refine k_iload hx dX6_pushSwapped_49 6 rfl ?_
      refine k_iload hx dX6_pushSwapped_51 4 rfl ?_
      refine k_iadd hx dX6_pushSwapped_53 ?_
      refine k_vv (rest := []) hx vX6_76 dX6_pushSwapped_54 (c_X6_push p_45.1 (by omega) (c := (((p + 1) - 0) + ((c / 6) * 6))) (by omega)) n_120 L_120 rfl rfl rfl ⟨rfl, rfl⟩ ⟨by decide, by decide⟩ (fun M_54 p_54 => ?_)
      have hl2 := psh_len (w := psh w (p + 0)) (c := p + 1 - 0 + c / 6 * 6)
      refine k_aload_n hx dX6_pushSwapped_57 0 rfl ?_
      refine k_iload_n hx dX6_pushSwapped_58 3 rfl ?_
      refine k_ifne hx dX6_pushSwapped_59 (by omega) (fun h_59 => absurd h_59 (by omega)) (fun h_59 => ?_)
      refine k_iload hx dX6_pushSwapped_62 5 rfl ?_
      refine k_bipush hx dX6_pushSwapped_64 (by decide +kernel) ?_
      refine k_iadd hx dX6_pushSwapped_66 ?_
      refine k_goto hx dX6_pushSwapped_67 ?_
      refine k_vv (rest := []) hx vX6_76 dX6_pushSwapped_72 (c_X6_push p_54.1 (by omega) (c := ((p + 0) + 6)) (by omega)) n_120 L_120 rfl rfl rfl ⟨rfl, rfl⟩ ⟨by decide, by decide⟩ (fun M_72 p_72 => ?_)
      refine k_goto hx dX6_pushSwapped_75 ?_
      refine k_rv hx hr dX6_pushSwapped_100 ?_
      rw [hsw]; exact ⟨p_72.1, (p_45.2.tr p_54.2).tr p_72.2⟩
  · refine k_iload_n hx dX6_pushSwapped_0 1 rfl ?_
    refine k_bipush hx dX6_pushSwapped_1 (by decide +kernel) ?_
    refine k_idiv hx dX6_pushSwapped_3 (by omega) ?_
    refine k_bipush hx dX6_pushSwapped_4 (by decide +kernel) ?_
    refine k_imul hx dX6_pushSwapped_6 ?_
    refine k_istore (ls' := [(0, vR g 120), (1, vI c), (2, vI p), (3, vI 1), (4, vI ((c / 6) * 6))]) hx dX6_pushSwapped_7 rfl rfl (by decide) ?_
    refine k_iload_n hx dX6_pushSwapped_9 2 rfl ?_
    refine k_iload_n hx dX6_pushSwapped_10 3 rfl ?_
    refine k_iadd hx dX6_pushSwapped_11 ?_
    refine k_istore (ls' := [(0, vR g 120), (1, vI c), (2, vI p), (3, vI 1), (4, vI ((c / 6) * 6)), (5, vI (p + 1))]) hx dX6_pushSwapped_12 rfl rfl (by decide) ?_
    refine k_iload_n hx dX6_pushSwapped_14 2 rfl ?_
    refine k_iconst hx dX6_pushSwapped_15 ?_
    refine k_iadd hx dX6_pushSwapped_16 ?_
    refine k_iload_n hx dX6_pushSwapped_17 3 rfl ?_
    refine k_isub hx dX6_pushSwapped_18 ?_
    refine k_istore (ls' := [(0, vR g 120), (1, vI c), (2, vI p), (3, vI 1), (4, vI ((c / 6) * 6)), (5, vI (p + 1)), (6, vI ((p + 1) - 1))]) hx dX6_pushSwapped_19 rfl rfl (by decide) ?_
    refine k_iload_n hx dX6_pushSwapped_21 1 rfl ?_
    refine k_bipush hx dX6_pushSwapped_22 (by decide +kernel) ?_
    refine k_irem hx dX6_pushSwapped_24 (by omega) ?_
    refine k_iload hx dX6_pushSwapped_25 5 rfl ?_
    refine k_icmp_ne hx dX6_pushSwapped_27 (by omega) (fun h_27 => ?_) (fun h_27 => ?_)
    · refine k_aload_n hx dX6_pushSwapped_78 0 rfl ?_
      refine k_iload_n hx dX6_pushSwapped_79 1 rfl ?_
      refine k_bipush hx dX6_pushSwapped_80 (by decide +kernel) ?_
      refine k_irem hx dX6_pushSwapped_82 (by omega) ?_
      refine k_iload hx dX6_pushSwapped_83 6 rfl ?_
      refine k_icmp_ne hx dX6_pushSwapped_85 (by omega) (fun h_85 => ?_) (fun h_85 => ?_)
      · have hsw : swp p 1 c = [c] := by unfold swp; rw [if_neg (by omega), if_neg (by omega)]
        refine k_iload_n hx dX6_pushSwapped_96 1 rfl ?_
        refine k_vv (rest := []) hx vX6_76 dX6_pushSwapped_97 (c_X6_push hw (by omega) (c := c) (by omega)) n_120 L_120 rfl rfl rfl ⟨rfl, rfl⟩ ⟨by decide, by decide⟩ (fun M_97 p_97 => ?_)
        refine k_rv hx hr dX6_pushSwapped_100 ?_
        rw [hsw]; exact ⟨p_97.1, p_97.2⟩
      · have hsw : swp p 1 c = [p + 1 + c / 6 * 6] := by unfold swp; rw [if_neg (by omega), if_pos (by omega), ← hside]
        refine k_iload hx dX6_pushSwapped_88 5 rfl ?_
        refine k_iload hx dX6_pushSwapped_90 4 rfl ?_
        refine k_iadd hx dX6_pushSwapped_92 ?_
        refine k_goto hx dX6_pushSwapped_93 ?_
        refine k_vv (rest := []) hx vX6_76 dX6_pushSwapped_97 (c_X6_push hw (by omega) (c := ((p + 1) + ((c / 6) * 6))) (by omega)) n_120 L_120 rfl rfl rfl ⟨rfl, rfl⟩ ⟨by decide, by decide⟩ (fun M_97 p_97 => ?_)
        refine k_rv hx hr dX6_pushSwapped_100 ?_
        rw [hsw]; exact ⟨p_97.1, p_97.2⟩
    · have hpc : pst c = p + 1 := by rw [← hpm]; exact h_27
      have hsw : swp p 1 c = [p + 1 + 6, p + 1 - 1 + c / 6 * 6, p + 1] := by unfold swp; rw [if_pos hpc, if_neg (by decide), hop, hop2, ← hside]
      refine k_aload_n hx dX6_pushSwapped_30 0 rfl ?_
      refine k_iload_n hx dX6_pushSwapped_31 3 rfl ?_
      refine k_ifne hx dX6_pushSwapped_32 (by omega) (fun h_32 => ?_) (fun h_32 => absurd h_32 (by omega))
      refine k_iload hx dX6_pushSwapped_40 5 rfl ?_
      refine k_bipush hx dX6_pushSwapped_42 (by decide +kernel) ?_
      refine k_iadd hx dX6_pushSwapped_44 ?_
      refine k_vv (rest := []) hx vX6_76 dX6_pushSwapped_45 (c_X6_push hw (by omega) (c := ((p + 1) + 6)) (by omega)) n_120 L_120 rfl rfl rfl ⟨rfl, rfl⟩ ⟨by decide, by decide⟩ (fun M_45 p_45 => ?_)
      have hl1 := psh_len (w := w) (c := p + 1 + 6)
      refine k_aload_n hx dX6_pushSwapped_48 0 rfl ?_
      refine k_iload hx dX6_pushSwapped_49 6 rfl ?_
      refine k_iload hx dX6_pushSwapped_51 4 rfl ?_
      refine k_iadd hx dX6_pushSwapped_53 ?_
      refine k_vv (rest := []) hx vX6_76 dX6_pushSwapped_54 (c_X6_push p_45.1 (by omega) (c := (((p + 1) - 1) + ((c / 6) * 6))) (by omega)) n_120 L_120 rfl rfl rfl ⟨rfl, rfl⟩ ⟨by decide, by decide⟩ (fun M_54 p_54 => ?_)
      have hl2 := psh_len (w := psh w (p + 1 + 6)) (c := p + 1 - 1 + c / 6 * 6)
      refine k_aload_n hx dX6_pushSwapped_57 0 rfl ?_
      refine k_iload_n hx dX6_pushSwapped_58 3 rfl ?_
      refine k_ifne hx dX6_pushSwapped_59 (by omega) (fun h_59 => ?_) (fun h_59 => absurd h_59 (by omega))
      refine k_iload hx dX6_pushSwapped_70 5 rfl ?_
      refine k_vv (rest := []) hx vX6_76 dX6_pushSwapped_72 (c_X6_push p_54.1 (by omega) (c := (p + 1)) (by omega)) n_120 L_120 rfl rfl rfl ⟨rfl, rfl⟩ ⟨by decide, by decide⟩ (fun M_72 p_72 => ?_)
      refine k_goto hx dX6_pushSwapped_75 ?_
      refine k_rv hx hr dX6_pushSwapped_100 ?_
      rw [hsw]; exact ⟨p_72.1, (p_45.2.tr p_54.2).tr p_72.2⟩

theorem c_X6_laySwapped {g : GE} {l : Launch} {M : Mem} {A : Ab} (hA : Fl M 121 0 A) {r : Int} (hro : 0 ≤ r ∧ r < 4) {p b : Int} (hp : 0 ≤ p ∧ p < 5) (hb : 0 ≤ b ∧ b < 2) : Cv g l μX6_laySwapped [vR g 120, vI r, vI p, vI b] M (fun M' => Wk M' (swF p b (rope A r)) ∧ OW M M') := by
  refine Cv.of (by decide +kernel) rfl rfl (fun x hx hr => ?_)
  have hrl := (hA.1.rope hro).2
  have hrc := (hA.1.rope hro).1
  have loop : ∀ (f : Nat), ∀ (k : Nat) (z : Int) (M' : Mem), z = k → k ≤ (rope A r).length → (rope A r).length - k < f → Wk M' (red (((rope A r).take k).flatMap (swp p b))) → OW M M' → K x g 0 0 LAY NN M' 8 [(0, vR g 120), (1, vI r), (2, vI p), (3, vI b), (4, vI z)] [] := by
    intro f
    induction f with
    | zero => intro k z M' hz hk hf hwk ho; omega
    | succ f ih =>
      intro k z M' hz hk hf hwk ho
      have hA' := hA.w ho
      have hal : (red (((rope A r).take k).flatMap (swp p b))).length ≤ 3 * k := by
        have h1 := red_len_le (((rope A r).take k).flatMap (swp p b))
        have h2 := flat_len (swp_len p b) ((rope A r).take k)
        rw [List.length_take] at h2; omega
      refine k_iload hx dX6_laySwapped_8 4 rfl ?_
      refine k_aload_n hx dX6_laySwapped_10 0 rfl ?_
      refine k_iload_n hx dX6_laySwapped_11 1 rfl ?_
      refine k_vp (rest := [vI z]) (e := ((rope A r).length)) hx vX6_65 dX6_laySwapped_12 (c_X6_many hA' hro) n_120 L_120 rfl rfl rfl ⟨rfl, rfl⟩ ⟨by decide, by decide⟩ ?_
      refine k_icmp_ge hx dX6_laySwapped_15 (by omega) (fun h_15 => ?_) (fun h_15 => ?_)
      · refine k_rv hx hr dX6_laySwapped_37 ?_
        rw [List.take_of_length_le (by omega)] at hwk
        exact ⟨hwk, ho⟩
      · have hkl : k < (rope A r).length := by omega
        have hcr := at0_in hrc (z := z) (by omega) (by omega)
        have hst : red (((rope A r).take (k + 1)).flatMap (swp p b)) = (swp p b (at0 (rope A r) z)).foldl psh (red (((rope A r).take k).flatMap (swp p b))) := by
          rw [← take_at0 hkl, List.flatMap_append, red_app, ← hz]; simp
        refine k_aload_n hx dX6_laySwapped_18 0 rfl ?_
        refine k_aload_n hx dX6_laySwapped_19 0 rfl ?_
        refine k_iload_n hx dX6_laySwapped_20 1 rfl ?_
        refine k_iload hx dX6_laySwapped_21 4 rfl ?_
        refine k_vp (rest := [vR g 120]) (e := (at0 (rope A r) z)) hx vX6_69 dX6_laySwapped_23 (c_X6_at hA' hro (k := z) (by omega)) n_120 L_120 rfl rfl rfl ⟨rfl, rfl⟩ ⟨by decide, by decide⟩ ?_
        refine k_iload_n hx dX6_laySwapped_26 2 rfl ?_
        refine k_iload_n hx dX6_laySwapped_27 3 rfl ?_
        refine k_vv (rest := []) hx vX6_109 dX6_laySwapped_28 (c_X6_pushSwapped hwk (by omega) hcr hp hb) n_120 L_120 rfl rfl rfl ⟨rfl, rfl⟩ ⟨by decide, by decide⟩ (fun M_28 p_28 => ?_)
        rw [← hst] at p_28
        refine k_iinc (ls' := [(0, vR g 120), (1, vI r), (2, vI p), (3, vI b), (4, vI (z + 1))]) hx dX6_laySwapped_31 4 rfl rfl rfl (by decide) ?_
        refine k_goto hx dX6_laySwapped_34 ?_
        exact ih (k + 1) (z + 1) M_28 (by omega) (by omega) (by omega) p_28.1 (ho.tr p_28.2)
  refine k_aload_n hx dX6_laySwapped_0 0 rfl ?_
  refine k_iconst hx dX6_laySwapped_1 ?_
  refine k_putI (kz := 8) hx fX6_54 dX6_laySwapped_2 n_120 L_120 rfl rfl (fun M_2 hM_2 => ?_)
  refine k_iconst hx dX6_laySwapped_5 ?_
  refine k_istore (ls' := [(0, vR g 120), (1, vI r), (2, vI p), (3, vI b), (4, vI 0)]) hx dX6_laySwapped_6 rfl rfl (by decide) ?_
  exact loop ((rope A r).length + 1) 0 0 M_2 rfl (by omega) (by omega) (by rw [hM_2]; exact Wk.nil) (by rw [hM_2]; exact OW.len)
theorem c_X6_all {g : GE} {l : Launch} {M : Mem} {A : Ab} (hA : Fl M 121 0 A) : Cp g l μX6_all [vR g 120] M (allC A) := by
  refine Ci.of (by decide +kernel) rfl rfl (fun x hx hr => ?_)
  refine k_aload_n hx dX6_all_0 0 rfl ?_
  refine k_iconst hx dX6_all_1 ?_
  refine k_vp (rest := []) (e := ((rope A 0).length)) hx vX6_65 dX6_all_2 (c_X6_many hA (r := 0) (by omega)) n_120 L_120 rfl rfl rfl ⟨rfl, rfl⟩ ⟨by decide, by decide⟩ ?_
  refine k_aload_n hx dX6_all_5 0 rfl ?_
  refine k_iconst hx dX6_all_6 ?_
  refine k_vp (rest := [vI ((rope A 0).length)]) (e := ((rope A 1).length)) hx vX6_65 dX6_all_7 (c_X6_many hA (r := 1) (by omega)) n_120 L_120 rfl rfl rfl ⟨rfl, rfl⟩ ⟨by decide, by decide⟩ ?_
  refine k_iadd hx dX6_all_10 ?_
  refine k_aload_n hx dX6_all_11 0 rfl ?_
  refine k_iconst hx dX6_all_12 ?_
  refine k_vp (rest := [vI (((rope A 0).length) + ((rope A 1).length))]) (e := ((rope A 2).length)) hx vX6_65 dX6_all_13 (c_X6_many hA (r := 2) (by omega)) n_120 L_120 rfl rfl rfl ⟨rfl, rfl⟩ ⟨by decide, by decide⟩ ?_
  refine k_iadd hx dX6_all_16 ?_
  refine k_aload_n hx dX6_all_17 0 rfl ?_
  refine k_iconst hx dX6_all_18 ?_
  refine k_vp (rest := [vI ((((rope A 0).length) + ((rope A 1).length)) + ((rope A 2).length))]) (e := ((rope A 3).length)) hx vX6_65 dX6_all_19 (c_X6_many hA (r := 3) (by omega)) n_120 L_120 rfl rfl rfl ⟨rfl, rfl⟩ ⟨by decide, by decide⟩ ?_
  refine k_iadd hx dX6_all_22 ?_
  refine k_ri hx hr dX6_all_23 ?_
  exact ⟨rfl, rfl⟩

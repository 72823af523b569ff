/-! all that is told of a rope -/
theorem wsF_1 (ws w : List Int) (k : Nat) : wsF ws w (k + 1) = wsF ws w k + ws.getD (pst (at0 w k)).toNat 0 := rfl
theorem wndF_1 (w : List Int) (p : Int) (k : Nat) : wndF w p (k + 1) = wndF w p k + (if at0 w k = p then 1 else if at0 w k = op p then -1 else 0) := rfl

set_option maxHeartbeats 8000000 in
theorem c_L_isTold {g : GE} {l : Launch} {M : Mem} {σ : Sg} (hI : Inv M σ) {z : Int} (hz : 0 ≤ z ∧ z < 4) (hl : (rope σ.1 z).length ≤ 60) : Ca g l μL_isTold 2 128 [vR g 0, vI z] M (fun y M' => y = 1 ∧ Inv M' σ) := by
  refine Ca.of (by decide +kernel) rfl rfl (fun x hx hr => ?_)
  have hvc : Cr (rope σ.1 z) := (hI.1.rope hz).1.2.2
  have hwV := wsF_rg hI.1.1.2.2.1 hvc (rope σ.1 z).length (Nat.le_refl _)
  have hwVe : wsum σ.1.1 (rope σ.1 z) = wsF σ.1.1 (rope σ.1 z) (rope σ.1 z).length := rfl
  refine k_bipush hx dL_isTold_0 (by decide +kernel) ?_
  refine k_new64 (ls := fun q => [(0, rf q 0), (1, vI z)]) (st := fun q => []) hx dL_isTold_2 ⟨by decide, by decide⟩ (fun g1 i1 M_2 hs_g1 hA_i1 ha_g1 ho_i1 => ?_)
  have hx_g1 := hx.sm hs_g1
  have hr_g1 := hr.sm hs_g1
  show K _ _ _ _ _ _ _ 4 [(0, vR g1 0), (1, vI z)] [vR g1 i1]
  have I_2 : Inv M_2 σ := hI.hi hA_i1.1 ho_i1
  refine k_astore_n (ls' := [(0, vR g1 0), (1, vI z), (2, vR g1 i1)]) hx_g1 dL_isTold_4 rfl rfl (by decide) ?_
  refine k_aload_n hx_g1 dL_isTold_5 0 rfl ?_
  refine k_iload_n hx_g1 dL_isTold_6 1 rfl ?_
  refine k_aload_n hx_g1 dL_isTold_7 2 rfl ?_
  refine k_sv (rest := []) hx_g1 sL_31 dL_isTold_8 (c_L_read I_2 hz hA_i1 (by omega)) rfl rfl rfl ⟨rfl, rfl⟩ ⟨by decide, by decide⟩ (fun M_8 p_8 => ?_)
  obtain ⟨w_8, I_8, o_8⟩ := p_8
  refine k_iconst hx_g1 dL_isTold_11 ?_
  refine k_istore_n (ls' := [(0, vR g1 0), (1, vI z), (2, vR g1 i1), (3, vI 0)]) hx_g1 dL_isTold_12 rfl rfl (by decide) ?_
  refine k_bipush hx_g1 dL_isTold_13 (by decide +kernel) ?_
  refine k_istore (ls' := [(0, vR g1 0), (1, vI z), (2, vR g1 i1), (3, vI 0), (4, vI (-6))]) hx_g1 dL_isTold_15 rfl rfl (by decide) ?_
  refine k_aload_n hx_g1 dL_isTold_17 2 rfl ?_
  refine k_iconst hx_g1 dL_isTold_18 ?_
  refine k_iald (v := ((rope σ.1 z).length)) hx_g1 dL_isTold_19 hA_i1.2 (LAY_hi hA_i1.1) (by omega) (by decide) (w_8.1) ?_
  refine k_istore (ls' := [(0, vR g1 0), (1, vI z), (2, vR g1 i1), (3, vI 0), (4, vI (-6)), (5, vI ((rope σ.1 z).length))]) hx_g1 dL_isTold_20 rfl rfl (by decide) ?_
  have loop1 : ∀ (f1 : Nat), ∀ (kn : Nat) (wd pr y : Int) (M' : Mem), y = kn → kn ≤ (rope σ.1 z).length → kn < f1 → wd = wsum σ.1.1 (rope σ.1 z) - wsF σ.1.1 (rope σ.1 z) kn → pr = fpF (rope σ.1 z) ((rope σ.1 z).length + 1 - kn) kn → Inv M' σ → Wa M' i1 (rope σ.1 z) → K x g1 1 64 LAY (NN g1) M' 22 [(0, vR g1 0), (1, vI z), (2, vR g1 i1), (3, vI wd), (4, vI pr), (5, vI y)] [] := by
    intro f1
    induction f1 with
    | zero => intro kn wd pr y M' hy hk hf hwd hpr I' hwa; omega
    | succ f1 ih1 =>
      intro kn wd pr y M' hy hk hf hwd hpr I' hwa
      refine k_iload hx_g1 dL_isTold_22 5 rfl ?_
      refine k_ifle hx_g1 dL_isTold_24 (by omega) (fun h_24 => ?_) (fun h_24 => ?_)
      · have hkn : kn = 0 := by omega
        subst hkn
        have hwd0 : wd = wsum σ.1.1 (rope σ.1 z) := by rw [hwd]; show wsum σ.1.1 (rope σ.1 z) - 0 = _; omega
        have hpr0 : pr = firstP (rope σ.1 z) := hpr
        have hpg := fp_rg (rope σ.1 z) ((rope σ.1 z).length + 1) 0
        have hpe : firstP (rope σ.1 z) = fpF (rope σ.1 z) ((rope σ.1 z).length + 1) 0 := rfl
        have loopp : ∀ (fp : Nat), ∀ (pn : Nat) (p : Int) (M' : Mem), p = pn → pn ≤ 6 → 6 - pn < fp → Inv M' σ → Wa M' i1 (rope σ.1 z) → K x g1 1 64 LAY (NN g1) M' 85 [(0, vR g1 0), (1, vI z), (2, vR g1 i1), (3, vI wd), (4, vI pr), (5, vI p)] [] := by
          intro fp
          induction fp with
          | zero => intro pn p M' hp hp6 hf I' hwa; omega
          | succ fp ihp =>
            intro pn p M' hp hp6 hf I' hwa
            refine k_iload hx_g1 dL_isTold_85 5 rfl ?_
            refine k_bipush hx_g1 dL_isTold_87 (by decide +kernel) ?_
            refine k_icmp_ge hx_g1 dL_isTold_89 (by omega) (fun h_89 => ?_) (fun h_89 => ?_)
            · refine k_aload_n hx_g1 dL_isTold_169 0 rfl ?_
              refine k_iload_n hx_g1 dL_isTold_170 1 rfl ?_
              refine k_iconst hx_g1 dL_isTold_171 ?_
              refine k_vi (rest := []) hx_g1 vL_8 dL_isTold_172 (q_of I' hz (k := 1) (by decide)) n_0 L_0 rfl rfl rfl ⟨rfl, rfl⟩ ⟨by decide, by decide⟩ (fun z_172 M_172 p_172 => ?_)
              obtain ⟨e_172, I_172, o_172⟩ := p_172
              have I_172 : Inv M_172 σ := I_172
              have e_172 : z_172 = wsum σ.1.1 (rope σ.1 z) := by rw [e_172]; rfl
              subst e_172
              refine k_iload_n hx_g1 dL_isTold_175 3 rfl ?_
              refine k_icmp_ne hx_g1 dL_isTold_176 (by omega) (fun h_176 => absurd h_176 (by omega)) (fun h_176 => ?_)
              refine k_aload_n hx_g1 dL_isTold_179 0 rfl ?_
              refine k_iload_n hx_g1 dL_isTold_180 1 rfl ?_
              refine k_bipush hx_g1 dL_isTold_181 (by decide +kernel) ?_
              refine k_vi (rest := []) hx_g1 vL_8 dL_isTold_183 (q_of I_172 hz (k := 7) (by decide)) n_0 L_0 rfl rfl rfl ⟨rfl, rfl⟩ ⟨by decide, by decide⟩ (fun z_183 M_183 p_183 => ?_)
              obtain ⟨e_183, I_183, o_183⟩ := p_183
              have I_183 : Inv M_183 σ := I_183
              have e_183 : z_183 = firstP (rope σ.1 z) := by rw [e_183]; rfl
              subst e_183
              have hw2 : Wa M_183 i1 (rope σ.1 z) := (hwa.same (o_172 i1 hA_i1.1)).same (o_183 i1 hA_i1.1)
              refine k_iload hx_g1 dL_isTold_186 4 rfl ?_
              refine k_icmp_eq hx_g1 dL_isTold_188 (by omega) (fun h_188 => ?_) (fun h_188 => absurd h_188 (by omega))
              refine k_aload_n hx_g1 dL_isTold_193 2 rfl ?_
              refine k_sv (rest := []) hx_g1 sL_41 dL_isTold_194 (c_L_pull hA_i1 hw2 (by omega)) rfl rfl rfl ⟨rfl, rfl⟩ ⟨by decide, by decide⟩ (fun M_194 p_194 => ?_)
              obtain ⟨w_194, o_194⟩ := p_194
              have I_194 := I_183.hi hA_i1.1 o_194
              have hrl := red_len_le (rope σ.1 z)
              have hrc : Cr (red (rope σ.1 z)) := red_cr hvc
              have hrgR := wsF_rg hI.1.1.2.2.1 hrc (red (rope σ.1 z)).length (Nat.le_refl _)
              have hwR : wsum σ.1.1 (red (rope σ.1 z)) = wsF σ.1.1 (red (rope σ.1 z)) (red (rope σ.1 z)).length := rfl
              have loop3 : ∀ (f3 : Nat), ∀ (kk : Nat) (sm y : Int) (M' : Mem), y = kk + 1 → kk ≤ (red (rope σ.1 z)).length → (red (rope σ.1 z)).length - kk < f3 → sm = wsF σ.1.1 (red (rope σ.1 z)) kk → Inv M' σ → Wa M' i1 (red (rope σ.1 z)) → K x g1 1 64 LAY (NN g1) M' 203 [(0, vR g1 0), (1, vI z), (2, vR g1 i1), (3, vI wd), (4, vI pr), (5, vI sm), (6, vI y)] [] := by
                intro f3
                induction f3 with
                | zero => intro kk sm y M' hy hk hf hsm I' hwa; omega
                | succ f3 ih3 =>
                  intro kk sm y M' hy hk hf hsm I' hwa
                  have hrg := wsF_rg hI.1.1.2.2.1 hrc kk hk
                  refine k_iload hx_g1 dL_isTold_203 6 rfl ?_
                  refine k_aload_n hx_g1 dL_isTold_205 2 rfl ?_
                  refine k_iconst hx_g1 dL_isTold_206 ?_
                  refine k_iald (v := ((red (rope σ.1 z)).length)) hx_g1 dL_isTold_207 hA_i1.2 (LAY_hi hA_i1.1) (by omega) (by decide) (hwa.1) ?_
                  refine k_icmp_gt hx_g1 dL_isTold_208 (by omega) (fun h_208 => ?_) (fun h_208 => ?_)
                  · have hsm2 : sm = wsum σ.1.1 (red (rope σ.1 z)) := by rw [hsm, show kk = (red (rope σ.1 z)).length by omega]; rfl
                    have j299 : ∀ (M3 : Mem), Inv M3 σ → Wa M3 i1 (red (rope σ.1 z)) → ∀ k6 : Int, K x g1 1 64 LAY (NN g1) M3 299 [(0, vR g1 0), (1, vI z), (2, vR g1 i1), (3, vI wd), (4, vI pr), (5, vI sm), (6, vI k6)] [] := by
                      intro M3 I3 hwa k6
                      have j337 : ∀ (s : Nat) (fr tz : Int), fr = s + 1 → tz = (red (rope σ.1 z)).length - s → 2 * s ≤ (red (rope σ.1 z)).length → tight (red (rope σ.1 z)) = slc (red (rope σ.1 z)) s ((red (rope σ.1 z)).length - s) → K x g1 1 64 LAY (NN g1) M3 337 [(0, vR g1 0), (1, vI z), (2, vR g1 i1), (3, vI wd), (4, vI pr), (5, vI sm), (6, vI fr), (7, vI tz)] [] := by
                        intro s fr tz hfr htz hs2 hti
                        have htl : (tight (red (rope σ.1 z))).length = (red (rope σ.1 z)).length - s - s := by rw [hti]; exact slc_len (by omega)
                        refine k_aload_n hx_g1 dL_isTold_337 0 rfl ?_
                        refine k_iload_n hx_g1 dL_isTold_338 1 rfl ?_
                        refine k_aload_n hx_g1 dL_isTold_339 2 rfl ?_
                        refine k_iload hx_g1 dL_isTold_340 6 rfl ?_
                        refine k_iload hx_g1 dL_isTold_342 7 rfl ?_
                        refine k_iload hx_g1 dL_isTold_344 6 rfl ?_
                        refine k_isub hx_g1 dL_isTold_346 ?_
                        refine k_iconst hx_g1 dL_isTold_347 ?_
                        refine k_iadd hx_g1 dL_isTold_348 ?_
                        refine k_sa (ls := fun q => [(0, rf q 0), (1, vI z), (2, rf q i1), (3, vI wd), (4, vI pr), (5, vI sm), (6, vI fr), (7, vI tz)]) (As := fun q => [rf q 0, vI z, rf q i1, vI fr, vI ((tz - fr) + 1)]) hx_g1 sL_48 dL_isTold_349 (c_L_isLeast I3 hz hA_i1 rfl (a := fr) (n := tz - fr + 1) (by omega) (by omega) (by omega) (fun k k0 k1 => by
                          rw [hwa.2.1 _ (by omega) (by omega), hti, show k = ((k.toNat : Nat) : Int) by omega, slc_at (by omega) (by omega)]
                          congr 1; omega)) rfl rfl ⟨rfl, rfl⟩ ⟨Nat.le_of_ble_eq_true rfl, Nat.le_of_ble_eq_true rfl⟩ (fun g2 z_349 M_349 hs_g2 p_349 => ?_)
                        have hx_g2 := hx_g1.sm hs_g2
                        have hr_g2 := hr_g1.sm hs_g2
                        obtain ⟨rfl, I_349⟩ := p_349
                        show K _ _ _ _ _ _ _ 352 [(0, vR g2 0), (1, vI z), (2, vR g2 i1), (3, vI wd), (4, vI pr), (5, vI sm), (6, vI fr), (7, vI tz)] [vI 1]
                        refine k_za hx_g2 hr_g2 ⟨by decide, by decide⟩ dL_isTold_352 (by first | exact Or.inl rfl | exact Or.inr rfl | exact b2i_or _) ?_
                        exact ⟨rfl, I_349⟩
                      have loop4 : ∀ (f4 : Nat), ∀ (s e : Nat) (fr tz : Int), fr = s + 1 → tz = (red (rope σ.1 z)).length - s → 2 * s ≤ (red (rope σ.1 z)).length → (red (rope σ.1 z)).length ≤ e + 2 * s → (red (rope σ.1 z)).length - s < f4 → tight (red (rope σ.1 z)) = strip e (slc (red (rope σ.1 z)) s ((red (rope σ.1 z)).length - s)) → K x g1 1 64 LAY (NN g1) M3 307 [(0, vR g1 0), (1, vI z), (2, vR g1 i1), (3, vI wd), (4, vI pr), (5, vI sm), (6, vI fr), (7, vI tz)] [] := by
                        intro f4
                        induction f4 with
                        | zero => intro s e fr tz hfr htz hs2 he hf hst; omega
                        | succ f4 ih4 =>
                          intro s e fr tz hfr htz hs2 he hf hst
                          have hsl : (slc (red (rope σ.1 z)) s ((red (rope σ.1 z)).length - s)).length = (red (rope σ.1 z)).length - s - s := slc_len (by omega)
                          refine k_iload hx_g1 dL_isTold_307 6 rfl ?_
                          refine k_iload hx_g1 dL_isTold_309 7 rfl ?_
                          refine k_icmp_ge hx_g1 dL_isTold_311 (by omega) (fun h_311 => ?_) (fun h_311 => ?_)
                          · exact j337 s fr tz hfr htz (by omega) (by rw [hst]; exact strip_stop (fun q => by first | omega | exact h_325 (e1.symm.trans (q.2.trans (congrArg op e2)))) e)
                          · have cA := at0_z hwa.2.2 (z := fr - 1) (by omega) (by omega)
                            have cB := at0_z hwa.2.2 (z := tz - 1) (by omega) (by omega)
                            have e1 : at0 (slc (red (rope σ.1 z)) s ((red (rope σ.1 z)).length - s)) (0 : Nat) = at0 (red (rope σ.1 z)) (fr - 1) := by rw [slc_at (by omega) (by omega)]; congr 1; omega
                            have e2 : at0 (slc (red (rope σ.1 z)) s ((red (rope σ.1 z)).length - s)) ((slc (red (rope σ.1 z)) s ((red (rope σ.1 z)).length - s)).length - 1 : Nat) = at0 (red (rope σ.1 z)) (tz - 1) := by rw [hsl, slc_at (by omega) (by omega)]; congr 1; omega
                            refine k_aload_n hx_g1 dL_isTold_314 2 rfl ?_
                            refine k_iload hx_g1 dL_isTold_315 6 rfl ?_
                            refine k_iald (v := (at0 (red (rope σ.1 z)) (fr - 1))) hx_g1 dL_isTold_317 hA_i1.2 (LAY_hi hA_i1.1) (by omega) (by decide) (hwa.2.1 _ (by omega) (by omega)) ?_
                            refine k_aload_n hx_g1 dL_isTold_318 2 rfl ?_
                            refine k_iload hx_g1 dL_isTold_319 7 rfl ?_
                            refine k_iald (v := (at0 (red (rope σ.1 z)) (tz - 1))) hx_g1 dL_isTold_321 hA_i1.2 (LAY_hi hA_i1.1) (by omega) (by decide) (hwa.2.1 _ (by omega) (by omega)) ?_
                            refine k_sp (rest := []) (e := (b2i (decide ((at0 (red (rope σ.1 z)) (fr - 1)) = op (at0 (red (rope σ.1 z)) (tz - 1)))))) hx_g1 sL_23 dL_isTold_322 (c_L_cancel (a := (at0 (red (rope σ.1 z)) (fr - 1))) (b := (at0 (red (rope σ.1 z)) (tz - 1))) (by omega) (by omega)) rfl rfl rfl ⟨rfl, rfl⟩ ⟨by decide, by decide⟩ ?_
                            refine k_beq hx_g1 dL_isTold_325 (fun h_325 => ?_) (fun h_325 => ?_)
                            · exact j337 s fr tz hfr htz (by omega) (by rw [hst]; exact strip_stop (fun q => by first | omega | exact h_325 (e1.symm.trans (q.2.trans (congrArg op e2)))) e)
                            · refine k_iinc (ls' := [(0, vR g1 0), (1, vI z), (2, vR g1 i1), (3, vI wd), (4, vI pr), (5, vI sm), (6, vI (fr + 1)), (7, vI tz)]) hx_g1 dL_isTold_328 6 rfl rfl rfl (by decide) ?_
                              refine k_iinc (ls' := [(0, vR g1 0), (1, vI z), (2, vR g1 i1), (3, vI wd), (4, vI pr), (5, vI sm), (6, vI (fr + 1)), (7, vI (tz + (-1)))]) hx_g1 dL_isTold_331 7 rfl rfl rfl (by decide) ?_
                              refine k_goto hx_g1 dL_isTold_334 ?_
                              exact ih4 (s + 1) (e - 1) (fr + 1) (tz + (-1)) (by omega) (by omega) (by omega) (by omega) (by omega) (by
                                rw [hst, ← slc_slc rfl (by omega)]
                                exact strip_go (by omega) ⟨by omega, e1.trans (h_325.trans (congrArg op e2.symm))⟩)
                      refine k_iconst hx_g1 dL_isTold_299 ?_
                      refine k_istore (ls' := [(0, vR g1 0), (1, vI z), (2, vR g1 i1), (3, vI wd), (4, vI pr), (5, vI sm), (6, vI 1)]) hx_g1 dL_isTold_300 rfl rfl (by decide) ?_
                      refine k_aload_n hx_g1 dL_isTold_302 2 rfl ?_
                      refine k_iconst hx_g1 dL_isTold_303 ?_
                      refine k_iald (v := ((red (rope σ.1 z)).length)) hx_g1 dL_isTold_304 hA_i1.2 (LAY_hi hA_i1.1) (by omega) (by decide) (hwa.1) ?_
                      refine k_istore (ls' := [(0, vR g1 0), (1, vI z), (2, vR g1 i1), (3, vI wd), (4, vI pr), (5, vI sm), (6, vI 1), (7, vI ((red (rope σ.1 z)).length))]) hx_g1 dL_isTold_305 rfl rfl (by decide) ?_
                      exact loop4 ((red (rope σ.1 z)).length + 1) 0 (red (rope σ.1 z)).length 1 (red (rope σ.1 z)).length (by omega) (by omega) (by omega) (by omega) (by omega) (by rw [Nat.sub_zero, slc_all]; rfl)
                    refine k_aload_n hx_g1 dL_isTold_233 0 rfl ?_
                    refine k_iload_n hx_g1 dL_isTold_234 1 rfl ?_
                    refine k_iconst hx_g1 dL_isTold_235 ?_
                    refine k_vi (rest := []) hx_g1 vL_8 dL_isTold_236 (q_of I' hz (k := 2) (by decide)) n_0 L_0 rfl rfl rfl ⟨rfl, rfl⟩ ⟨by decide, by decide⟩ (fun z_236 M_236 p_236 => ?_)
                    obtain ⟨e_236, I_236, o_236⟩ := p_236
                    have I_236 : Inv M_236 σ := I_236
                    have e_236 : z_236 = ((red (rope σ.1 z)).length : Int) := by rw [e_236]; rfl
                    subst e_236
                    refine k_aload_n hx_g1 dL_isTold_239 2 rfl ?_
                    refine k_iconst hx_g1 dL_isTold_240 ?_
                    refine k_iald (v := ((red (rope σ.1 z)).length)) hx_g1 dL_isTold_241 hA_i1.2 (LAY_hi hA_i1.1) (by omega) (by decide) ((hwa.same (o_236 i1 hA_i1.1)).1) ?_
                    refine k_icmp_ne hx_g1 dL_isTold_242 (by omega) (fun h_242 => absurd h_242 (by omega)) (fun h_242 => ?_)
                    refine k_aload_n hx_g1 dL_isTold_245 0 rfl ?_
                    refine k_iload_n hx_g1 dL_isTold_246 1 rfl ?_
                    refine k_iconst hx_g1 dL_isTold_247 ?_
                    refine k_vi (rest := []) hx_g1 vL_8 dL_isTold_248 (q_of I_236 hz (k := 3) (by decide)) n_0 L_0 rfl rfl rfl ⟨rfl, rfl⟩ ⟨by decide, by decide⟩ (fun z_248 M_248 p_248 => ?_)
                    obtain ⟨e_248, I_248, o_248⟩ := p_248
                    have I_248 : Inv M_248 σ := I_248
                    have e_248 : z_248 = wsum σ.1.1 (red (rope σ.1 z)) := by rw [e_248]; rfl
                    subst e_248
                    refine k_iload hx_g1 dL_isTold_251 5 rfl ?_
                    refine k_icmp_ne hx_g1 dL_isTold_253 (by omega) (fun h_253 => absurd h_253 (by omega)) (fun h_253 => ?_)
                    refine k_aload_n hx_g1 dL_isTold_256 0 rfl ?_
                    refine k_iload_n hx_g1 dL_isTold_257 1 rfl ?_
                    refine k_bipush hx_g1 dL_isTold_258 (by decide +kernel) ?_
                    refine k_vi (rest := []) hx_g1 vL_8 dL_isTold_260 (q_of I_248 hz (k := 8) (by decide)) n_0 L_0 rfl rfl rfl ⟨rfl, rfl⟩ ⟨by decide, by decide⟩ (fun z_260 M_260 p_260 => ?_)
                    obtain ⟨e_260, I_260, o_260⟩ := p_260
                    have I_260 : Inv M_260 σ := I_260
                    have e_260 : z_260 = b2i (decide (red (rope σ.1 z) = [])) := by rw [e_260]; show b2i (decide (wF 0 (rope σ.1 z) = [])) = _; rw [wF_0]
                    subst e_260
                    have hwb : Wa M_260 i1 (red (rope σ.1 z)) := ((hwa.same (o_236 i1 hA_i1.1)).same (o_248 i1 hA_i1.1)).same (o_260 i1 hA_i1.1)
                    refine k_aload_n hx_g1 dL_isTold_263 2 rfl ?_
                    refine k_iconst hx_g1 dL_isTold_264 ?_
                    refine k_iald (v := ((red (rope σ.1 z)).length)) hx_g1 dL_isTold_265 hA_i1.2 (LAY_hi hA_i1.1) (by omega) (by decide) (hwb.1) ?_
                    refine k_ifne hx_g1 dL_isTold_266 (by omega) (fun h_266 => ?_) (fun h_266 => ?_)
                    · have hbz : b2i (decide (red (rope σ.1 z) = [])) = 0 := (b2i_f (fun q => h_266 (by rw [q]; rfl))).symm
                      refine k_iconst hx_g1 dL_isTold_273 ?_
                      refine k_icmp_ne hx_g1 dL_isTold_274 (by omega) (fun h_274 => absurd h_274 (by omega)) (fun h_274 => ?_)
                      refine k_aload_n hx_g1 dL_isTold_277 0 rfl ?_
                      refine k_iload_n hx_g1 dL_isTold_278 1 rfl ?_
                      refine k_iconst hx_g1 dL_isTold_279 ?_
                      refine k_vi (rest := []) hx_g1 vL_45 dL_isTold_280 (q_falls I_260 hz) n_0 L_0 rfl rfl rfl ⟨rfl, rfl⟩ ⟨by decide, by decide⟩ (fun z_280 M_280 p_280 => ?_)
                      obtain ⟨e_280, I_280, o_280⟩ := p_280
                      have I_280 : Inv M_280 σ := I_280
                      have e_280 : z_280 = b2i (decide (red (rope σ.1 z) = [])) := by rw [e_280]
                      subst e_280
                      have hwc : Wa M_280 i1 (red (rope σ.1 z)) := hwb.same (o_280 i1 hA_i1.1)
                      refine k_aload_n hx_g1 dL_isTold_283 2 rfl ?_
                      refine k_iconst hx_g1 dL_isTold_284 ?_
                      refine k_iald (v := ((red (rope σ.1 z)).length)) hx_g1 dL_isTold_285 hA_i1.2 (LAY_hi hA_i1.1) (by omega) (by decide) (hwc.1) ?_
                      refine k_ifne hx_g1 dL_isTold_286 (by omega) (fun h_286 => ?_) (fun h_286 => absurd h_286 (by omega))
                      refine k_iconst hx_g1 dL_isTold_293 ?_
                      refine k_icmp_eq hx_g1 dL_isTold_294 (by omega) (fun h_294 => ?_) (fun h_294 => absurd h_294 (by omega))
                      exact j299 M_280 I_280 hwc y
                    · have hbz : b2i (decide (red (rope σ.1 z) = [])) = 1 := (b2i_t (List.length_eq_zero_iff.mp (by omega))).symm
                      refine k_iconst hx_g1 dL_isTold_269 ?_
                      refine k_goto hx_g1 dL_isTold_270 ?_
                      refine k_icmp_ne hx_g1 dL_isTold_274 (by omega) (fun h_274 => absurd h_274 (by omega)) (fun h_274 => ?_)
                      refine k_aload_n hx_g1 dL_isTold_277 0 rfl ?_
                      refine k_iload_n hx_g1 dL_isTold_278 1 rfl ?_
                      refine k_iconst hx_g1 dL_isTold_279 ?_
                      refine k_vi (rest := []) hx_g1 vL_45 dL_isTold_280 (q_falls I_260 hz) n_0 L_0 rfl rfl rfl ⟨rfl, rfl⟩ ⟨by decide, by decide⟩ (fun z_280 M_280 p_280 => ?_)
                      obtain ⟨e_280, I_280, o_280⟩ := p_280
                      have I_280 : Inv M_280 σ := I_280
                      have e_280 : z_280 = b2i (decide (red (rope σ.1 z) = [])) := by rw [e_280]
                      subst e_280
                      have hwc : Wa M_280 i1 (red (rope σ.1 z)) := hwb.same (o_280 i1 hA_i1.1)
                      refine k_aload_n hx_g1 dL_isTold_283 2 rfl ?_
                      refine k_iconst hx_g1 dL_isTold_284 ?_
                      refine k_iald (v := ((red (rope σ.1 z)).length)) hx_g1 dL_isTold_285 hA_i1.2 (LAY_hi hA_i1.1) (by omega) (by decide) (hwc.1) ?_
                      refine k_ifne hx_g1 dL_isTold_286 (by omega) (fun h_286 => absurd h_286 (by omega)) (fun h_286 => ?_)
                      refine k_iconst hx_g1 dL_isTold_289 ?_
                      refine k_goto hx_g1 dL_isTold_290 ?_
                      refine k_icmp_eq hx_g1 dL_isTold_294 (by omega) (fun h_294 => ?_) (fun h_294 => absurd h_294 (by omega))
                      exact j299 M_280 I_280 hwc y
                  · have hc := at0_z hwa.2.2 (z := y - 1) (by omega) (by omega)
                    have h6 := mod6 hc
                    have hpr := pst_rg hc
                    refine k_iload hx_g1 dL_isTold_211 5 rfl ?_
                    refine k_aload_n hx_g1 dL_isTold_213 0 rfl ?_
                    refine k_aload_n hx_g1 dL_isTold_214 2 rfl ?_
                    refine k_iload hx_g1 dL_isTold_215 6 rfl ?_
                    refine k_iald (v := (at0 (red (rope σ.1 z)) (y - 1))) hx_g1 dL_isTold_217 hA_i1.2 (LAY_hi hA_i1.1) (by omega) (by decide) (hwa.2.1 _ (by omega) (by omega)) ?_
                    refine k_bipush hx_g1 dL_isTold_218 (by decide +kernel) ?_
                    refine k_irem hx_g1 dL_isTold_220 (by omega) ?_
                    rw [h6]
                    refine k_vi (rest := [vI sm]) hx_g1 vL_35 dL_isTold_221 (q_count I' (p := pst (at0 (red (rope σ.1 z)) (y - 1))) hpr) n_0 L_0 rfl rfl rfl ⟨rfl, rfl⟩ ⟨by decide, by decide⟩ (fun z_221 M_221 p_221 => ?_)
                    obtain ⟨e_221, I_221, o_221⟩ := p_221
                    have I_221 : Inv M_221 σ := I_221
                    have e_221 : z_221 = (σ.1.1).getD (pst (at0 (red (rope σ.1 z)) (y - 1))).toNat 0 := by rw [e_221]
                    subst e_221
                    refine k_iadd hx_g1 dL_isTold_224 ?_
                    refine k_istore (ls' := [(0, vR g1 0), (1, vI z), (2, vR g1 i1), (3, vI wd), (4, vI pr), (5, vI (sm + ((σ.1.1).getD (pst (at0 (red (rope σ.1 z)) (y - 1))).toNat 0))), (6, vI y)]) hx_g1 dL_isTold_225 rfl rfl (by decide) ?_
                    refine k_iinc (ls' := [(0, vR g1 0), (1, vI z), (2, vR g1 i1), (3, vI wd), (4, vI pr), (5, vI (sm + ((σ.1.1).getD (pst (at0 (red (rope σ.1 z)) (y - 1))).toNat 0))), (6, vI (y + 1))]) hx_g1 dL_isTold_227 6 rfl rfl rfl (by decide) ?_
                    refine k_goto hx_g1 dL_isTold_230 ?_
                    exact ih3 (kk + 1) _ (y + 1) M_221 (by omega) (by omega) (by omega) (by rw [wsF_1, hsm, show y - 1 = (kk : Int) by omega]) I_221 (hwa.same (o_221 i1 hA_i1.1))
              refine k_iconst hx_g1 dL_isTold_197 ?_
              refine k_istore (ls' := [(0, vR g1 0), (1, vI z), (2, vR g1 i1), (3, vI wd), (4, vI pr), (5, vI 0)]) hx_g1 dL_isTold_198 rfl rfl (by decide) ?_
              refine k_iconst hx_g1 dL_isTold_200 ?_
              refine k_istore (ls' := [(0, vR g1 0), (1, vI z), (2, vR g1 i1), (3, vI wd), (4, vI pr), (5, vI 0), (6, vI 1)]) hx_g1 dL_isTold_201 rfl rfl (by decide) ?_
              exact loop3 ((red (rope σ.1 z)).length + 1) 0 0 1 M_194 (by omega) (by omega) (by omega) rfl I_194 w_194
            · have loopw : ∀ (fw : Nat), ∀ (kk : Nat) (wn y : Int), y = kk + 1 → kk ≤ (rope σ.1 z).length → (rope σ.1 z).length - kk < fw → wn = 1000 + wndF (rope σ.1 z) p kk → K x g1 1 64 LAY (NN g1) M' 100 [(0, vR g1 0), (1, vI z), (2, vR g1 i1), (3, vI wd), (4, vI pr), (5, vI p), (6, vI wn), (7, vI y)] [] := by
                intro fw
                induction fw with
                | zero => intro kk wn y hy hk hf hwn; omega
                | succ fw ihw =>
                  intro kk wn y hy hk hf hwn
                  have hwr := wndF_rg (rope σ.1 z) p kk
                  refine k_iload hx_g1 dL_isTold_100 7 rfl ?_
                  refine k_aload_n hx_g1 dL_isTold_102 2 rfl ?_
                  refine k_iconst hx_g1 dL_isTold_103 ?_
                  refine k_iald (v := ((rope σ.1 z).length)) hx_g1 dL_isTold_104 hA_i1.2 (LAY_hi hA_i1.1) (by omega) (by decide) (hwa.1) ?_
                  refine k_icmp_gt hx_g1 dL_isTold_105 (by omega) (fun h_105 => ?_) (fun h_105 => ?_)
                  · refine k_aload_n hx_g1 dL_isTold_149 0 rfl ?_
                    refine k_iload_n hx_g1 dL_isTold_150 1 rfl ?_
                    refine k_iload hx_g1 dL_isTold_151 5 rfl ?_
                    refine k_vi (rest := []) hx_g1 vL_38 dL_isTold_153 (q_winds I' hz (p := p) (by omega)) n_0 L_0 rfl rfl rfl ⟨rfl, rfl⟩ ⟨by decide, by decide⟩ (fun z_153 M_153 p_153 => ?_)
                    obtain ⟨e_153, I_153, o_153⟩ := p_153
                    have I_153 : Inv M_153 σ := I_153
                    have e_153 : z_153 = 1000 + wnd (rope σ.1 z) p := by rw [e_153]
                    subst e_153
                    have hwe : wn = 1000 + wnd (rope σ.1 z) p := by rw [hwn, show kk = (rope σ.1 z).length by omega]; rfl
                    refine k_iload hx_g1 dL_isTold_156 6 rfl ?_
                    refine k_icmp_eq hx_g1 dL_isTold_158 (by omega) (fun h_158 => ?_) (fun h_158 => absurd h_158 (by omega))
                    refine k_iinc (ls' := [(0, vR g1 0), (1, vI z), (2, vR g1 i1), (3, vI wd), (4, vI pr), (5, vI (p + 1)), (6, vI wn), (7, vI y)]) hx_g1 dL_isTold_163 5 rfl rfl rfl (by decide) ?_
                    refine k_goto hx_g1 dL_isTold_166 ?_
                    refine K.sub [0, 1, 2, 3, 4, 5] rfl ?_
                    exact ihp (pn + 1) (p + 1) M_153 (by omega) (by omega) (by omega) I_153 (hwa.same (o_153 i1 hA_i1.1))
                  · have hc := at0_z hwa.2.2 (z := y - 1) (by omega) (by omega)
                    have e1 : at0 (rope σ.1 z) (y - 1) = at0 (rope σ.1 z) kk := by congr 1; omega
                    have e2 : op p = p + 6 := by unfold op; rw [if_pos (by omega)]
                    have hst := wndF_1 (rope σ.1 z) p kk
                    refine k_iload hx_g1 dL_isTold_108 6 rfl ?_
                    refine k_aload_n hx_g1 dL_isTold_110 2 rfl ?_
                    refine k_iload hx_g1 dL_isTold_111 7 rfl ?_
                    refine k_iald (v := (at0 (rope σ.1 z) (y - 1))) hx_g1 dL_isTold_113 hA_i1.2 (LAY_hi hA_i1.1) (by omega) (by decide) (hwa.2.1 _ (by omega) (by omega)) ?_
                    refine k_iload hx_g1 dL_isTold_114 5 rfl ?_
                    refine k_icmp_ne hx_g1 dL_isTold_116 (by omega) (fun h_116 => ?_) (fun h_116 => ?_)
                    · refine k_aload_n hx_g1 dL_isTold_123 2 rfl ?_
                      refine k_iload hx_g1 dL_isTold_124 7 rfl ?_
                      refine k_iald (v := (at0 (rope σ.1 z) (y - 1))) hx_g1 dL_isTold_126 hA_i1.2 (LAY_hi hA_i1.1) (by omega) (by decide) (hwa.2.1 _ (by omega) (by omega)) ?_
                      refine k_iload hx_g1 dL_isTold_127 5 rfl ?_
                      refine k_bipush hx_g1 dL_isTold_129 (by decide +kernel) ?_
                      refine k_iadd hx_g1 dL_isTold_131 ?_
                      refine k_icmp_ne hx_g1 dL_isTold_132 (by omega) (fun h_132 => ?_) (fun h_132 => ?_)
                      · refine k_iconst hx_g1 dL_isTold_139 ?_
                        refine k_iadd hx_g1 dL_isTold_140 ?_
                        refine k_istore (ls' := [(0, vR g1 0), (1, vI z), (2, vR g1 i1), (3, vI wd), (4, vI pr), (5, vI p), (6, vI (wn + 0)), (7, vI y)]) hx_g1 dL_isTold_141 rfl rfl (by decide) ?_
                        refine k_iinc (ls' := [(0, vR g1 0), (1, vI z), (2, vR g1 i1), (3, vI wd), (4, vI pr), (5, vI p), (6, vI (wn + 0)), (7, vI (y + 1))]) hx_g1 dL_isTold_143 7 rfl rfl rfl (by decide) ?_
                        refine k_goto hx_g1 dL_isTold_146 ?_
                        exact ihw (kk + 1) _ (y + 1) (by omega) (by omega) (by omega) (by rw [hst, hwn, ← e1]; rw [if_neg (by omega), if_neg (by omega)]; omega)
                      · refine k_iconst hx_g1 dL_isTold_135 ?_
                        refine k_goto hx_g1 dL_isTold_136 ?_
                        refine k_iadd hx_g1 dL_isTold_140 ?_
                        refine k_istore (ls' := [(0, vR g1 0), (1, vI z), (2, vR g1 i1), (3, vI wd), (4, vI pr), (5, vI p), (6, vI (wn + (-1))), (7, vI y)]) hx_g1 dL_isTold_141 rfl rfl (by decide) ?_
                        refine k_iinc (ls' := [(0, vR g1 0), (1, vI z), (2, vR g1 i1), (3, vI wd), (4, vI pr), (5, vI p), (6, vI (wn + (-1))), (7, vI (y + 1))]) hx_g1 dL_isTold_143 7 rfl rfl rfl (by decide) ?_
                        refine k_goto hx_g1 dL_isTold_146 ?_
                        exact ihw (kk + 1) _ (y + 1) (by omega) (by omega) (by omega) (by rw [hst, hwn, ← e1]; rw [if_neg (by omega), if_pos (by omega)]; omega)
                    · refine k_iconst hx_g1 dL_isTold_119 ?_
                      refine k_goto hx_g1 dL_isTold_120 ?_
                      refine k_iadd hx_g1 dL_isTold_140 ?_
                      refine k_istore (ls' := [(0, vR g1 0), (1, vI z), (2, vR g1 i1), (3, vI wd), (4, vI pr), (5, vI p), (6, vI (wn + 1)), (7, vI y)]) hx_g1 dL_isTold_141 rfl rfl (by decide) ?_
                      refine k_iinc (ls' := [(0, vR g1 0), (1, vI z), (2, vR g1 i1), (3, vI wd), (4, vI pr), (5, vI p), (6, vI (wn + 1)), (7, vI (y + 1))]) hx_g1 dL_isTold_143 7 rfl rfl rfl (by decide) ?_
                      refine k_goto hx_g1 dL_isTold_146 ?_
                      exact ihw (kk + 1) _ (y + 1) (by omega) (by omega) (by omega) (by rw [hst, hwn, ← e1]; rw [if_pos (by omega)]; omega)
              refine k_sipush hx_g1 dL_isTold_92 (by decide +kernel) ?_
              refine k_istore (ls' := [(0, vR g1 0), (1, vI z), (2, vR g1 i1), (3, vI wd), (4, vI pr), (5, vI p), (6, vI 1000)]) hx_g1 dL_isTold_95 rfl rfl (by decide) ?_
              refine k_iconst hx_g1 dL_isTold_97 ?_
              refine k_istore (ls' := [(0, vR g1 0), (1, vI z), (2, vR g1 i1), (3, vI wd), (4, vI pr), (5, vI p), (6, vI 1000), (7, vI 1)]) hx_g1 dL_isTold_98 rfl rfl (by decide) ?_
              exact loopw ((rope σ.1 z).length + 1) 0 1000 1 (by omega) (by omega) (by omega) rfl
        refine k_iconst hx_g1 dL_isTold_82 ?_
        refine k_istore (ls' := [(0, vR g1 0), (1, vI z), (2, vR g1 i1), (3, vI wd), (4, vI pr), (5, vI 0)]) hx_g1 dL_isTold_83 rfl rfl (by decide) ?_
        exact loopp 7 0 0 M' (by omega) (by omega) (by omega) I' hwa
      · obtain ⟨m, rfl⟩ : ∃ m, kn = m + 1 := ⟨kn - 1, by omega⟩
        have hc := at0_z hwa.2.2 (z := y - 1) (by omega) (by omega)
        have e1 : at0 (rope σ.1 z) (y - 1) = at0 (rope σ.1 z) m := by congr 1; omega
        have e2 : at0 (rope σ.1 z) y = at0 (rope σ.1 z) (m + 1 : Nat) := by congr 1
        have h6 := mod6 hc
        have hpr2 := pst_rg hc
        have hst := fp_step (w := rope σ.1 z) (k := m) (by omega)
        have hws := wsF_1 σ.1.1 (rope σ.1 z) m
        refine k_iload_n hx_g1 dL_isTold_27 3 rfl ?_
        refine k_aload_n hx_g1 dL_isTold_28 0 rfl ?_
        refine k_aload_n hx_g1 dL_isTold_29 2 rfl ?_
        refine k_iload hx_g1 dL_isTold_30 5 rfl ?_
        refine k_iald (v := (at0 (rope σ.1 z) (y - 1))) hx_g1 dL_isTold_32 hA_i1.2 (LAY_hi hA_i1.1) (by omega) (by decide) (hwa.2.1 _ (by omega) (by omega)) ?_
        refine k_bipush hx_g1 dL_isTold_33 (by decide +kernel) ?_
        refine k_irem hx_g1 dL_isTold_35 (by omega) ?_
        rw [h6]
        refine k_vi (rest := [vI wd]) hx_g1 vL_35 dL_isTold_36 (q_count I' (p := pst (at0 (rope σ.1 z) (y - 1))) hpr2) n_0 L_0 rfl rfl rfl ⟨rfl, rfl⟩ ⟨by decide, by decide⟩ (fun z_36 M_36 p_36 => ?_)
        obtain ⟨e_36, I_36, o_36⟩ := p_36
        have I_36 : Inv M_36 σ := I_36
        have e_36 : z_36 = (σ.1.1).getD (pst (at0 (rope σ.1 z) (y - 1))).toNat 0 := by rw [e_36]
        subst e_36
        have hwb : Wa M_36 i1 (rope σ.1 z) := hwa.same (o_36 i1 hA_i1.1)
        refine k_iadd hx_g1 dL_isTold_39 ?_
        refine k_istore_n (ls' := [(0, vR g1 0), (1, vI z), (2, vR g1 i1), (3, vI (wd + ((σ.1.1).getD (pst (at0 (rope σ.1 z) (y - 1))).toNat 0))), (4, vI pr), (5, vI y)]) hx_g1 dL_isTold_40 rfl rfl (by decide) ?_
        refine k_iload hx_g1 dL_isTold_41 5 rfl ?_
        refine k_aload_n hx_g1 dL_isTold_43 2 rfl ?_
        refine k_iconst hx_g1 dL_isTold_44 ?_
        refine k_iald (v := ((rope σ.1 z).length)) hx_g1 dL_isTold_45 hA_i1.2 (LAY_hi hA_i1.1) (by omega) (by decide) (hwb.1) ?_
        refine k_icmp_ge hx_g1 dL_isTold_46 (by omega) (fun h_46 => ?_) (fun h_46 => ?_)
        · refine k_iload hx_g1 dL_isTold_72 4 rfl ?_
          refine k_istore (ls' := [(0, vR g1 0), (1, vI z), (2, vR g1 i1), (3, vI (wd + ((σ.1.1).getD (pst (at0 (rope σ.1 z) (y - 1))).toNat 0))), (4, vI pr), (5, vI y)]) hx_g1 dL_isTold_74 rfl rfl (by decide) ?_
          refine k_iinc (ls' := [(0, vR g1 0), (1, vI z), (2, vR g1 i1), (3, vI (wd + ((σ.1.1).getD (pst (at0 (rope σ.1 z) (y - 1))).toNat 0))), (4, vI pr), (5, vI (y + (-1)))]) hx_g1 dL_isTold_76 5 rfl rfl rfl (by decide) ?_
          refine k_goto hx_g1 dL_isTold_79 ?_
          exact ih1 m _ _ (y + (-1)) M_36 (by omega) (by omega) (by omega) (by rw [hwd, hws, ← e1]; omega) (by rw [hst]; rw [if_neg (fun q => by first | omega | exact h_62 (by rw [e1, e2]; exact q.2))]; exact hpr) I_36 hwb
        · refine k_aload_n hx_g1 dL_isTold_49 2 rfl ?_
          refine k_iload hx_g1 dL_isTold_50 5 rfl ?_
          have hc2 := at0_z hwa.2.2 (z := y) (by omega) (by omega)
          refine k_iald (v := (at0 (rope σ.1 z) (y - 1))) hx_g1 dL_isTold_52 hA_i1.2 (LAY_hi hA_i1.1) (by omega) (by decide) (hwb.2.1 _ (by omega) (by omega)) ?_
          refine k_aload_n hx_g1 dL_isTold_53 2 rfl ?_
          refine k_iload hx_g1 dL_isTold_54 5 rfl ?_
          refine k_iconst hx_g1 dL_isTold_56 ?_
          refine k_iadd hx_g1 dL_isTold_57 ?_
          refine k_iald (v := (at0 (rope σ.1 z) y)) hx_g1 dL_isTold_58 hA_i1.2 (LAY_hi hA_i1.1) (by omega) (by decide) (by rw [hwb.2.1 _ (by omega) (by omega)]; congr 1; omega) ?_
          refine k_sp (rest := []) (e := (b2i (decide ((at0 (rope σ.1 z) (y - 1)) = op (at0 (rope σ.1 z) y))))) hx_g1 sL_23 dL_isTold_59 (c_L_cancel (a := (at0 (rope σ.1 z) (y - 1))) (b := (at0 (rope σ.1 z) y)) (by omega) (by omega)) rfl rfl rfl ⟨rfl, rfl⟩ ⟨by decide, by decide⟩ ?_
          refine k_beq hx_g1 dL_isTold_62 (fun h_62 => ?_) (fun h_62 => ?_)
          · refine k_iload hx_g1 dL_isTold_72 4 rfl ?_
            refine k_istore (ls' := [(0, vR g1 0), (1, vI z), (2, vR g1 i1), (3, vI (wd + ((σ.1.1).getD (pst (at0 (rope σ.1 z) (y - 1))).toNat 0))), (4, vI pr), (5, vI y)]) hx_g1 dL_isTold_74 rfl rfl (by decide) ?_
            refine k_iinc (ls' := [(0, vR g1 0), (1, vI z), (2, vR g1 i1), (3, vI (wd + ((σ.1.1).getD (pst (at0 (rope σ.1 z) (y - 1))).toNat 0))), (4, vI pr), (5, vI (y + (-1)))]) hx_g1 dL_isTold_76 5 rfl rfl rfl (by decide) ?_
            refine k_goto hx_g1 dL_isTold_79 ?_
            exact ih1 m _ _ (y + (-1)) M_36 (by omega) (by omega) (by omega) (by rw [hwd, hws, ← e1]; omega) (by rw [hst]; rw [if_neg (fun q => by first | omega | exact h_62 (by rw [e1, e2]; exact q.2))]; exact hpr) I_36 hwb
          · refine k_iload hx_g1 dL_isTold_65 5 rfl ?_
            refine k_iconst hx_g1 dL_isTold_67 ?_
            refine k_isub hx_g1 dL_isTold_68 ?_
            refine k_goto hx_g1 dL_isTold_69 ?_
            refine k_istore (ls' := [(0, vR g1 0), (1, vI z), (2, vR g1 i1), (3, vI (wd + ((σ.1.1).getD (pst (at0 (rope σ.1 z) (y - 1))).toNat 0))), (4, vI (y - 1)), (5, vI y)]) hx_g1 dL_isTold_74 rfl rfl (by decide) ?_
            refine k_iinc (ls' := [(0, vR g1 0), (1, vI z), (2, vR g1 i1), (3, vI (wd + ((σ.1.1).getD (pst (at0 (rope σ.1 z) (y - 1))).toNat 0))), (4, vI (y - 1)), (5, vI (y + (-1)))]) hx_g1 dL_isTold_76 5 rfl rfl rfl (by decide) ?_
            refine k_goto hx_g1 dL_isTold_79 ?_
            exact ih1 m _ _ (y + (-1)) M_36 (by omega) (by omega) (by omega) (by rw [hwd, hws, ← e1]; omega) (by rw [hst]; rw [if_pos ⟨by omega, by rw [← e1, ← e2]; exact h_62⟩]; omega) I_36 hwb
  exact loop1 ((rope σ.1 z).length + 1) (rope σ.1 z).length 0 (-6) (rope σ.1 z).length M_8 rfl (Nat.le_refl _) (by omega) (by show (0 : Int) = wsF _ _ _ - _; omega) (by rw [show (rope σ.1 z).length + 1 - (rope σ.1 z).length = 0 + 1 by omega, fpF, if_neg (by omega)]) I_8 w_8

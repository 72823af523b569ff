/-! the law's least form -/
theorem rot_mod {t : List Int} {r k : Nat} (hr : r < t.length) (hk : k < t.length) : at0 t (((r : Int) + k) % (t.length : Int)) = at0 (rot t r) k := by
  rw [rot_at (Nat.le_of_lt hr) hk]
  have e : ((r : Int) + k) % (t.length : Int) = (((r + k) % t.length : Nat) : Int) := by rw [Int.natCast_emod, Int.natCast_add]
  rw [e]
  by_cases h : r + k < t.length
  · rw [if_pos h, Nat.mod_eq_of_lt h]
  · rw [if_neg h, Nat.mod_eq_sub_mod (by omega), Nat.mod_eq_of_lt (by omega)]
theorem sh_mod2 {t : List Int} {r k : Nat} : at0 t (((r : Int) + k) % (t.length : Int)) = at0 t ((r + k) % t.length : Nat) := by
  have e : ((r : Int) + k) % (t.length : Int) = (((r + k) % t.length : Nat) : Int) := by rw [Int.natCast_emod, Int.natCast_add]
  rw [e]
theorem lst_t {v : List Int} : lst v = least (tight (red v)) := rfl
theorem rot_eq {t u : List Int} {r : Nat} (hr : r ≤ t.length) (hu : u.length = t.length) (h : ∀ j : Nat, j < t.length → at0 (rot t r) j = at0 u j) : rot t r = u := by
  have hl := rot_len hr
  exact ext_at0 (by omega) (fun k hk => h k (by omega))
theorem pset_le (w : List Int) : 0 ≤ pset w ∧ pset w < 64 := bset_rg _ _ _ _ _ _

set_option maxHeartbeats 4000000 in
theorem c_L_isLeast {g : GE} {l : Launch} {M : Mem} {σ : Sg} (hI : Inv M σ) {z : Int} (hz : 0 ≤ z ∧ z < 4) {i : Nat} (hA : IsA g i) {t : List Int} (ht : t = tight (red (rope σ.1 z))) {a n : Int} (ha : 1 ≤ a) (hn : n = t.length) (han : a + n ≤ 64) (hw : ∀ k : Int, 0 ≤ k → k < n → M i (a + k) = at0 t k) : Ca g l μL_isLeast 1 64 [vR g 0, vI z, vR g i, vI a, vI n] M (fun y M' => y = 1 ∧ Inv M' σ) := by
  refine Ca.of (by decide +kernel) rfl rfl (fun x hx hr => ?_)
  obtain ⟨u, hu⟩ : ∃ u, u = least t := ⟨_, rfl⟩
  have hul : u = lst (rope σ.1 z) := by rw [hu, ht]
  have hulen : u.length = t.length := by rw [hu]; exact least_len t
  have htc : Cr t := by rw [ht]; exact tight_cr (red_cr (hI.1.rope hz).1.2.2)
  have huc : Cr u := by rw [hu]; exact least_cr htc
  have hsl0 := leastS_lt (w := t)
  refine k_aload_n hx dL_isLeast_0 0 rfl ?_
  refine k_iload_n hx dL_isLeast_1 1 rfl ?_
  refine k_iconst hx dL_isLeast_2 ?_
  refine k_vi (rest := []) hx vL_8 dL_isLeast_3 (q_of hI hz (k := 4) (by decide)) n_0 L_0 rfl rfl rfl ⟨rfl, rfl⟩ ⟨by decide, by decide⟩ (fun z_3 M_3 p_3 => ?_)
  obtain ⟨e_3, I_3, o_3⟩ := p_3
  have I_3 : Inv M_3 σ := I_3
  have e_3 : z_3 = t.length := by rw [e_3, ht]; rfl
  subst e_3
  refine k_iload hx dL_isLeast_6 4 rfl ?_
  refine k_icmp_ne hx dL_isLeast_8 (by omega) (fun h_8 => absurd h_8 (by omega)) (fun h_8 => ?_)
  refine k_aload_n hx dL_isLeast_11 0 rfl ?_
  refine k_iload_n hx dL_isLeast_12 1 rfl ?_
  refine k_iload hx dL_isLeast_13 4 rfl ?_
  refine k_vi (rest := []) hx vL_52 dL_isLeast_15 (q_least I_3 hz (k := n) (by omega)) n_0 L_0 rfl rfl rfl ⟨rfl, rfl⟩ ⟨by decide, by decide⟩ (fun z_15 M_15 p_15 => ?_)
  obtain ⟨e_15, I_15, o_15⟩ := p_15
  have I_15 : Inv M_15 σ := I_15
  have e_15 : z_15 = -1 := by rw [e_15]; show at0 (lst (rope σ.1 z)) n = -1; rw [← hul]; exact at0_out (by omega)
  subst e_15
  refine k_iconst hx dL_isLeast_18 ?_
  refine k_icmp_ne hx dL_isLeast_19 (by omega) (fun h_19 => absurd h_19 (by omega)) (fun h_19 => ?_)
  refine k_aload_n hx dL_isLeast_22 0 rfl ?_
  refine k_iload_n hx dL_isLeast_23 1 rfl ?_
  refine k_iconst hx dL_isLeast_24 ?_
  refine k_vi (rest := []) hx vL_52 dL_isLeast_25 (q_least I_15 hz (k := -1) (by omega)) n_0 L_0 rfl rfl rfl ⟨rfl, rfl⟩ ⟨by decide, by decide⟩ (fun z_25 M_25 p_25 => ?_)
  obtain ⟨e_25, I_25, o_25⟩ := p_25
  have I_25 : Inv M_25 σ := I_25
  have e_25 : z_25 = -1 := by rw [e_25]; show at0 (lst (rope σ.1 z)) (-1) = -1; exact at0_out (by omega)
  subst e_25
  refine k_iconst hx dL_isLeast_28 ?_
  refine k_icmp_eq hx dL_isLeast_29 (by omega) (fun h_29 => ?_) (fun h_29 => absurd h_29 (by omega))
  refine k_bipush hx dL_isLeast_34 (by decide +kernel) ?_
  refine k_new64 (ls := fun q => [(0, rf q 0), (1, vI z), (2, rf q i), (3, vI a), (4, vI n)]) (st := fun q => []) hx dL_isLeast_36 ⟨by decide, by decide⟩ (fun g1 i1 M_36 hs_g1 hA_i1 ha_g1 ho_i1 => ?_)
  have hx_g1 := hx.sm hs_g1
  have hr_g1 := hr.sm hs_g1
  show K _ _ _ _ _ _ _ 38 [(0, vR g1 0), (1, vI z), (2, vR g1 i), (3, vI a), (4, vI n)] [vR g1 i1]
  have hA1 := (ha_g1 _ hA).1
  have hne : i ≠ i1 := (ha_g1 _ hA).2
  have I_36 : Inv M_36 σ := I_25.hi hA_i1.1 ho_i1
  have o36 : ∀ b, 120 ≤ b → b ≠ i1 → M_36 b = M b := fun b hb hb2 => by rw [ho_i1 b hb2, o_25 b hb, o_15 b hb]; exact o_3 b hb
  refine k_astore (ls' := [(0, vR g1 0), (1, vI z), (2, vR g1 i), (3, vI a), (4, vI n), (5, vR g1 i1)]) hx_g1 dL_isLeast_38 rfl rfl (by decide) ?_
  refine k_iconst hx_g1 dL_isLeast_40 ?_
  refine k_istore (ls' := [(0, vR g1 0), (1, vI z), (2, vR g1 i), (3, vI a), (4, vI n), (5, vR g1 i1), (6, vI 0)]) hx_g1 dL_isLeast_41 rfl rfl (by decide) ?_
  have loop1 : ∀ (f1 : Nat), ∀ (k : Nat) (y : Int) (M' : Mem), y = k → k ≤ t.length → t.length - k < f1 → Inv M' σ → (∀ j : Int, 0 ≤ j → j < k → M' i1 j = at0 u j) → (∀ b, 120 ≤ b → b ≠ i1 → M' b = M b) → K x g1 1 64 LAY (NN g1) M' 43 [(0, vR g1 0), (1, vI z), (2, vR g1 i), (3, vI a), (4, vI n), (5, vR g1 i1), (6, vI y)] [] := by
    intro f1
    induction f1 with
    | zero => intro k y M' hy hk hf I' hfm ho; omega
    | succ f1 ih1 =>
      intro k y M' hy hk hf I' hfm ho
      refine k_iload hx_g1 dL_isLeast_43 6 rfl ?_
      refine k_iload hx_g1 dL_isLeast_45 4 rfl ?_
      refine k_icmp_ge hx_g1 dL_isLeast_47 (by omega) (fun h_47 => ?_) (fun h_47 => ?_)
      · obtain ⟨M1, hM1⟩ : ∃ m, m = M' := ⟨_, rfl⟩
        rw [← hM1]
        have hI1 : Inv M1 σ := by rw [hM1]; exact I'
        have hform : ∀ k : Int, 0 ≤ k → k < n → M1 i1 k = at0 u k := fun k k0 k1 => by rw [hM1]; exact hfm k k0 (by omega)
        have hwI : ∀ k : Int, 0 ≤ k → k < n → M1 i (a + k) = at0 t k := fun k k0 k1 => by rw [hM1, ho i hA1.1 hne]; exact hw k k0 k1
        have loop2 : ∀ (f : Nat), ∀ (r : Nat) (fz po pw q : Int), q = r → r ≤ t.length → t.length - r < f → (fz = 0 ∨ fz = 1) → ((n = 0 ∨ leastS t < r) → fz = 1) → po = pset (t.take r) → pw = shc t r → K x g1 1 64 LAY (NN g1) M1 98 [(0, vR g1 0), (1, vI z), (2, vR g1 i), (3, vI a), (4, vI n), (5, vR g1 i1), (6, vI fz), (7, vI po), (8, vI pw), (9, vI q)] [] := by
          intro f
          induction f with
          | zero => intro r fz po pw q hq hr hf hf01 hfd hpo hpw; omega
          | succ f ih =>
            intro r fz po pw q hq hr hf hf01 hfd hpo hpw
            have hpr0 := pset_le (t.take r)
            have hsl := shc_le t r
            refine k_iload hx_g1 dL_isLeast_98 9 rfl ?_
            refine k_iload hx_g1 dL_isLeast_100 4 rfl ?_
            refine k_icmp_ge hx_g1 dL_isLeast_102 (by omega) (fun h_102 => ?_) (fun h_102 => ?_)
            · refine k_iload hx_g1 dL_isLeast_287 6 rfl ?_
              refine k_ifeq hx_g1 dL_isLeast_289 (by omega) (fun h_289 => absurd h_289 (by have := hfd (by by_cases e : n = 0; exact Or.inl e; exact Or.inr (by rcases leastS_lt (w := t) with h | h <;> omega)); omega)) (fun h_289 => ?_)
              refine k_aload_n hx_g1 dL_isLeast_292 0 rfl ?_
              refine k_iload_n hx_g1 dL_isLeast_293 1 rfl ?_
              refine k_iconst hx_g1 dL_isLeast_294 ?_
              refine k_vi (rest := []) hx_g1 vL_8 dL_isLeast_295 (q_of hI1 hz (k := 5) (by decide)) n_0 L_0 rfl rfl rfl ⟨rfl, rfl⟩ ⟨by decide, by decide⟩ (fun z_295 M_295 p_295 => ?_)
              obtain ⟨e_295, I_295, o_295⟩ := p_295
              have I_295 : Inv M_295 σ := I_295
              have e_295 : z_295 = power t := by rw [e_295, ht]; rfl
              subst e_295
              have hpt : pw = power t := by rw [hpw, show r = t.length by omega, shc_power]
              have hpl : power t ≤ t.length + 1 := by rw [← shc_power]; exact shc_le t t.length
              refine k_iload hx_g1 dL_isLeast_298 8 rfl ?_
              refine k_icmp_ne hx_g1 dL_isLeast_300 (by omega) (fun h_300 => absurd h_300 (by omega)) (fun h_300 => ?_)
              refine k_aload_n hx_g1 dL_isLeast_303 0 rfl ?_
              refine k_iload_n hx_g1 dL_isLeast_304 1 rfl ?_
              refine k_bipush hx_g1 dL_isLeast_305 (by decide +kernel) ?_
              refine k_vi (rest := []) hx_g1 vL_8 dL_isLeast_307 (q_of I_295 hz (k := 6) (by decide)) n_0 L_0 rfl rfl rfl ⟨rfl, rfl⟩ ⟨by decide, by decide⟩ (fun z_307 M_307 p_307 => ?_)
              obtain ⟨e_307, I_307, o_307⟩ := p_307
              have I_307 : Inv M_307 σ := I_307
              have e_307 : z_307 = pset t := by rw [e_307, ht]; rfl
              subst e_307
              have hpt2 : po = pset t := by rw [hpo, List.take_of_length_le (by omega)]
              have hpr := pset_le t
              refine k_iload hx_g1 dL_isLeast_310 7 rfl ?_
              refine k_icmp_ne hx_g1 dL_isLeast_312 (by omega) (fun h_312 => absurd h_312 (by omega)) (fun h_312 => ?_)
              refine k_iconst hx_g1 dL_isLeast_315 ?_
              refine k_goto hx_g1 dL_isLeast_316 ?_
              refine k_za hx_g1 hr_g1 ⟨by decide, by decide⟩ dL_isLeast_320 (by first | exact Or.inl rfl | exact Or.inr rfl | exact b2i_or _) ?_
              exact ⟨rfl, I_307⟩
            · have hrl : (rot t r).length = t.length := rot_len (by omega)
              have hc0 := op_cr htc (k := r) (by omega)
              have hqr : at0 t q = at0 t r := by rw [hq]
              have hmn := least_min (w := t) (j := r) (by omega)
              have hps : zI (pset (t.take r)) ||| (zI 1 <<< (zI (pst (at0 t q)) &&& 31)) = zI (pset (t.take (r + 1))) := by
                rw [hqr, pset_snoc hc0, take_at0 (by omega)]
              have h6 := mod6 hc0
              rw [← hqr] at h6 hc0
              have j205 : ∀ (fz : Int), (fz = 0 ∨ fz = 1) → ((n = 0 ∨ leastS t < r + 1) → fz = 1) → ∀ (k10 : Int), K x g1 1 64 LAY (NN g1) M1 205 [(0, vR g1 0), (1, vI z), (2, vR g1 i), (3, vI a), (4, vI n), (5, vR g1 i1), (6, vI fz), (7, vI (pset (t.take (r + 1)))), (8, vI pw), (9, vI q), (10, vI k10)] [] := by
                intro fz hf01 hfd k10
                have loopB : ∀ (fB : Nat), ∀ (sn : Nat) (bz s : Int), s = sn → sn ≤ t.length → t.length - sn < fB → ((bz = 1 ∧ 0 < r ∧ ∀ j : Nat, j < sn → at0 t j = at0 t ((r + j) % t.length : Nat)) ∨ (bz = 0 ∧ ¬ (0 < r ∧ Sh t r))) → K x g1 1 64 LAY (NN g1) M1 220 [(0, vR g1 0), (1, vI z), (2, vR g1 i), (3, vI a), (4, vI n), (5, vR g1 i1), (6, vI fz), (7, vI (pset (t.take (r + 1)))), (8, vI pw), (9, vI q), (11, vI bz), (12, vI s)] [] := by
                  intro fB
                  induction fB with
                  | zero => intro sn bz s hs hk hf hb; omega
                  | succ fB ihB =>
                    intro sn bz s hs hk hf hb
                    have hbz : bz = 0 ∨ bz = 1 := by omega
                    refine k_iload hx_g1 dL_isLeast_220 11 rfl ?_
                    refine k_iload hx_g1 dL_isLeast_222 4 rfl ?_
                    refine k_icmp_ge hx_g1 dL_isLeast_224 (by omega) (fun h_224 => ?_) (fun h_224 => ?_)
                    · refine k_iload hx_g1 dL_isLeast_266 8 rfl ?_
                      refine k_iload hx_g1 dL_isLeast_268 10 rfl ?_
                      refine k_ifeq hx_g1 dL_isLeast_270 (by omega) (fun h_270 => ?_) (fun h_270 => ?_)
                      · have hnot : ¬ (0 < r ∧ Sh t r) := by
                          rcases hb with ⟨e, -, -⟩ | ⟨-, e⟩
                          · omega
                          · exact e
                        refine k_iconst hx_g1 dL_isLeast_277 ?_
                        refine k_iadd hx_g1 dL_isLeast_278 ?_
                        refine k_istore (ls' := [(0, vR g1 0), (1, vI z), (2, vR g1 i), (3, vI a), (4, vI n), (5, vR g1 i1), (6, vI fz), (7, vI (pset (t.take (r + 1)))), (8, vI (pw + 0)), (9, vI q), (11, vI bz), (12, vI s)]) hx_g1 dL_isLeast_279 rfl rfl (by decide) ?_
                        refine k_iinc (ls' := [(0, vR g1 0), (1, vI z), (2, vR g1 i), (3, vI a), (4, vI n), (5, vR g1 i1), (6, vI fz), (7, vI (pset (t.take (r + 1)))), (8, vI (pw + 0)), (9, vI (q + 1)), (11, vI bz), (12, vI s)]) hx_g1 dL_isLeast_281 9 rfl rfl rfl (by decide) ?_
                        refine k_goto hx_g1 dL_isLeast_284 ?_
                        refine K.sub [0, 1, 2, 3, 4, 5, 6, 7, 8, 9] rfl ?_
                        exact ih (r + 1) fz (pset (t.take (r + 1))) (pw + 0) (q + 1) (by omega) (by omega) (by omega) hf01 (fun hh => hfd (by omega)) rfl (by rw [shc, hpw, if_neg hnot]; omega)
                      · have hsame : 0 < r ∧ Sh t r := by
                          rcases hb with ⟨-, e1, e2⟩ | ⟨e, -⟩
                          · exact ⟨e1, fun j hj => e2 j (by omega)⟩
                          · omega
                        refine k_iconst hx_g1 dL_isLeast_273 ?_
                        refine k_goto hx_g1 dL_isLeast_274 ?_
                        refine k_iadd hx_g1 dL_isLeast_278 ?_
                        refine k_istore (ls' := [(0, vR g1 0), (1, vI z), (2, vR g1 i), (3, vI a), (4, vI n), (5, vR g1 i1), (6, vI fz), (7, vI (pset (t.take (r + 1)))), (8, vI (pw + 1)), (9, vI q), (11, vI bz), (12, vI s)]) hx_g1 dL_isLeast_279 rfl rfl (by decide) ?_
                        refine k_iinc (ls' := [(0, vR g1 0), (1, vI z), (2, vR g1 i), (3, vI a), (4, vI n), (5, vR g1 i1), (6, vI fz), (7, vI (pset (t.take (r + 1)))), (8, vI (pw + 1)), (9, vI (q + 1)), (11, vI bz), (12, vI s)]) hx_g1 dL_isLeast_281 9 rfl rfl rfl (by decide) ?_
                        refine k_goto hx_g1 dL_isLeast_284 ?_
                        refine K.sub [0, 1, 2, 3, 4, 5, 6, 7, 8, 9] rfl ?_
                        exact ih (r + 1) fz (pset (t.take (r + 1))) (pw + 1) (q + 1) (by omega) (by omega) (by omega) hf01 (fun hh => hfd (by omega)) rfl (by rw [shc, hpw, if_pos hsame]; omega)
                    · refine k_iload hx_g1 dL_isLeast_227 10 rfl ?_
                      refine k_ifeq hx_g1 dL_isLeast_229 (by omega) (fun h_229 => ?_) (fun h_229 => ?_)
                      · have hnot : ¬ (0 < r ∧ Sh t r) := by
                          rcases hb with ⟨e, -, -⟩ | ⟨-, e⟩
                          · omega
                          · exact e
                        refine k_iload hx_g1 dL_isLeast_266 8 rfl ?_
                        refine k_iload hx_g1 dL_isLeast_268 10 rfl ?_
                        refine k_ifeq hx_g1 dL_isLeast_270 (by omega) (fun h_270 => ?_) (fun h_270 => ?_)
                        · have hnot : ¬ (0 < r ∧ Sh t r) := by
                            rcases hb with ⟨e, -, -⟩ | ⟨-, e⟩
                            · omega
                            · exact e
                          refine k_iconst hx_g1 dL_isLeast_277 ?_
                          refine k_iadd hx_g1 dL_isLeast_278 ?_
                          refine k_istore (ls' := [(0, vR g1 0), (1, vI z), (2, vR g1 i), (3, vI a), (4, vI n), (5, vR g1 i1), (6, vI fz), (7, vI (pset (t.take (r + 1)))), (8, vI (pw + 0)), (9, vI q), (11, vI bz), (12, vI s)]) hx_g1 dL_isLeast_279 rfl rfl (by decide) ?_
                          refine k_iinc (ls' := [(0, vR g1 0), (1, vI z), (2, vR g1 i), (3, vI a), (4, vI n), (5, vR g1 i1), (6, vI fz), (7, vI (pset (t.take (r + 1)))), (8, vI (pw + 0)), (9, vI (q + 1)), (11, vI bz), (12, vI s)]) hx_g1 dL_isLeast_281 9 rfl rfl rfl (by decide) ?_
                          refine k_goto hx_g1 dL_isLeast_284 ?_
                          refine K.sub [0, 1, 2, 3, 4, 5, 6, 7, 8, 9] rfl ?_
                          exact ih (r + 1) fz (pset (t.take (r + 1))) (pw + 0) (q + 1) (by omega) (by omega) (by omega) hf01 (fun hh => hfd (by omega)) rfl (by rw [shc, hpw, if_neg hnot]; omega)
                        · have hsame : 0 < r ∧ Sh t r := by
                            rcases hb with ⟨-, e1, e2⟩ | ⟨e, -⟩
                            · exact ⟨e1, fun j hj => e2 j (by omega)⟩
                            · omega
                          refine k_iconst hx_g1 dL_isLeast_273 ?_
                          refine k_goto hx_g1 dL_isLeast_274 ?_
                          refine k_iadd hx_g1 dL_isLeast_278 ?_
                          refine k_istore (ls' := [(0, vR g1 0), (1, vI z), (2, vR g1 i), (3, vI a), (4, vI n), (5, vR g1 i1), (6, vI fz), (7, vI (pset (t.take (r + 1)))), (8, vI (pw + 1)), (9, vI q), (11, vI bz), (12, vI s)]) hx_g1 dL_isLeast_279 rfl rfl (by decide) ?_
                          refine k_iinc (ls' := [(0, vR g1 0), (1, vI z), (2, vR g1 i), (3, vI a), (4, vI n), (5, vR g1 i1), (6, vI fz), (7, vI (pset (t.take (r + 1)))), (8, vI (pw + 1)), (9, vI (q + 1)), (11, vI bz), (12, vI s)]) hx_g1 dL_isLeast_281 9 rfl rfl rfl (by decide) ?_
                          refine k_goto hx_g1 dL_isLeast_284 ?_
                          refine K.sub [0, 1, 2, 3, 4, 5, 6, 7, 8, 9] rfl ?_
                          exact ih (r + 1) fz (pset (t.take (r + 1))) (pw + 1) (q + 1) (by omega) (by omega) (by omega) hf01 (fun hh => hfd (by omega)) rfl (by rw [shc, hpw, if_pos hsame]; omega)
                      · obtain ⟨hr0, hall⟩ : 0 < r ∧ ∀ j : Nat, j < sn → at0 t j = at0 t ((r + j) % t.length : Nat) := by
                          rcases hb with ⟨-, e1, e2⟩ | ⟨e, -⟩
                          · exact ⟨e1, e2⟩
                          · omega
                        have cA := at0_z htc (z := s) (by omega) (by omega)
                        have cB := at0_z htc (z := (q + s) % n) (Int.emod_nonneg _ (by omega)) (by have := Int.emod_lt_of_pos (q + s) (show 0 < n by omega); omega)
                        have m0 := Int.emod_nonneg (q + s) (show n ≠ 0 by omega)
                        have m1 := Int.emod_lt_of_pos (q + s) (show 0 < n by omega)
                        refine k_aload_n hx_g1 dL_isLeast_232 2 rfl ?_
                        refine k_iload_n hx_g1 dL_isLeast_233 3 rfl ?_
                        refine k_iload hx_g1 dL_isLeast_234 11 rfl ?_
                        refine k_iadd hx_g1 dL_isLeast_236 ?_
                        
                        refine k_iald (v := (at0 t (s : Int))) hx_g1 dL_isLeast_237 hA1.2 (LAY_hi hA1.1) (by omega) (by decide) (hwI s (by omega) (by omega)) ?_
                        refine k_aload_n hx_g1 dL_isLeast_238 2 rfl ?_
                        refine k_iload_n hx_g1 dL_isLeast_239 3 rfl ?_
                        refine k_iload hx_g1 dL_isLeast_240 9 rfl ?_
                        refine k_iload hx_g1 dL_isLeast_242 11 rfl ?_
                        refine k_iadd hx_g1 dL_isLeast_244 ?_
                        refine k_iload hx_g1 dL_isLeast_245 4 rfl ?_
                        refine k_irem hx_g1 dL_isLeast_247 (by omega) ?_
                        refine k_iadd hx_g1 dL_isLeast_248 ?_
                        refine k_iald (v := (at0 t ((q + s) % n))) hx_g1 dL_isLeast_249 hA1.2 (LAY_hi hA1.1) (by omega) (by decide) (hwI _ (Int.emod_nonneg _ (by omega)) (Int.emod_lt_of_pos _ (by omega))) ?_
                        refine k_icmp_ne hx_g1 dL_isLeast_250 (by omega) (fun h_250 => ?_) (fun h_250 => ?_)
                        · refine k_iconst hx_g1 dL_isLeast_257 ?_
                          refine k_istore (ls' := [(0, vR g1 0), (1, vI z), (2, vR g1 i), (3, vI a), (4, vI n), (5, vR g1 i1), (6, vI fz), (7, vI (pset (t.take (r + 1)))), (8, vI pw), (9, vI q), (11, vI 0), (12, vI s)]) hx_g1 dL_isLeast_258 rfl rfl (by decide) ?_
                          refine k_iinc (ls' := [(0, vR g1 0), (1, vI z), (2, vR g1 i), (3, vI a), (4, vI n), (5, vR g1 i1), (6, vI fz), (7, vI (pset (t.take (r + 1)))), (8, vI pw), (9, vI q), (11, vI 0), (12, vI (s + 1))]) hx_g1 dL_isLeast_260 11 rfl rfl rfl (by decide) ?_
                          refine k_goto hx_g1 dL_isLeast_263 ?_
                          refine K.sub [0, 1, 2, 3, 4, 5, 6, 7, 8, 9, 10, 11] rfl ?_
                          exact ihB (sn + 1) 0 (s + 1) (by omega) (by omega) (by omega) (Or.inr ⟨rfl, fun hh => h_250 (by have e1 := hh.2 sn (by omega); rw [hs, hq, hn, sh_mod2]; exact e1)⟩)
                        · refine k_iconst hx_g1 dL_isLeast_253 ?_
                          refine k_goto hx_g1 dL_isLeast_254 ?_
                          refine k_istore (ls' := [(0, vR g1 0), (1, vI z), (2, vR g1 i), (3, vI a), (4, vI n), (5, vR g1 i1), (6, vI fz), (7, vI (pset (t.take (r + 1)))), (8, vI pw), (9, vI q), (11, vI 1), (12, vI s)]) hx_g1 dL_isLeast_258 rfl rfl (by decide) ?_
                          refine k_iinc (ls' := [(0, vR g1 0), (1, vI z), (2, vR g1 i), (3, vI a), (4, vI n), (5, vR g1 i1), (6, vI fz), (7, vI (pset (t.take (r + 1)))), (8, vI pw), (9, vI q), (11, vI 1), (12, vI (s + 1))]) hx_g1 dL_isLeast_260 11 rfl rfl rfl (by decide) ?_
                          refine k_goto hx_g1 dL_isLeast_263 ?_
                          refine K.sub [0, 1, 2, 3, 4, 5, 6, 7, 8, 9, 10, 11] rfl ?_
                          exact ihB (sn + 1) 1 (s + 1) (by omega) (by omega) (by omega) (Or.inl ⟨rfl, hr0, fun j hj => by
                            by_cases e : j = sn
                            · subst e; rw [hs, hq, hn, sh_mod2] at h_250; omega
                            · exact hall j (by omega)⟩)
                refine k_iload hx_g1 dL_isLeast_205 9 rfl ?_
                refine k_ifle hx_g1 dL_isLeast_207 (by omega) (fun h_207 => ?_) (fun h_207 => ?_)
                · refine k_iconst hx_g1 dL_isLeast_214 ?_
                  refine k_istore (ls' := [(0, vR g1 0), (1, vI z), (2, vR g1 i), (3, vI a), (4, vI n), (5, vR g1 i1), (6, vI fz), (7, vI (pset (t.take (r + 1)))), (8, vI pw), (9, vI q), (10, vI k10), (11, vI 0)]) hx_g1 dL_isLeast_215 rfl rfl (by decide) ?_
                  refine k_iconst hx_g1 dL_isLeast_217 ?_
                  refine k_istore (ls' := [(0, vR g1 0), (1, vI z), (2, vR g1 i), (3, vI a), (4, vI n), (5, vR g1 i1), (6, vI fz), (7, vI (pset (t.take (r + 1)))), (8, vI pw), (9, vI q), (10, vI k10), (11, vI 0), (12, vI 0)]) hx_g1 dL_isLeast_218 rfl rfl (by decide) ?_
                  refine K.sub [0, 1, 2, 3, 4, 5, 6, 7, 8, 9, 11, 12] rfl ?_
                  exact loopB (t.length + 1) 0 0 0 rfl (by omega) (by omega) (Or.inr ⟨rfl, fun hh => by omega⟩)
                · refine k_iconst hx_g1 dL_isLeast_210 ?_
                  refine k_goto hx_g1 dL_isLeast_211 ?_
                  refine k_istore (ls' := [(0, vR g1 0), (1, vI z), (2, vR g1 i), (3, vI a), (4, vI n), (5, vR g1 i1), (6, vI fz), (7, vI (pset (t.take (r + 1)))), (8, vI pw), (9, vI q), (10, vI k10), (11, vI 1)]) hx_g1 dL_isLeast_215 rfl rfl (by decide) ?_
                  refine k_iconst hx_g1 dL_isLeast_217 ?_
                  refine k_istore (ls' := [(0, vR g1 0), (1, vI z), (2, vR g1 i), (3, vI a), (4, vI n), (5, vR g1 i1), (6, vI fz), (7, vI (pset (t.take (r + 1)))), (8, vI pw), (9, vI q), (10, vI k10), (11, vI 1), (12, vI 0)]) hx_g1 dL_isLeast_218 rfl rfl (by decide) ?_
                  refine K.sub [0, 1, 2, 3, 4, 5, 6, 7, 8, 9, 11, 12] rfl ?_
                  exact loopB (t.length + 1) 0 1 0 rfl (by omega) (by omega) (Or.inl ⟨rfl, by omega, fun j hj => by omega⟩)
              have j157 : ∀ (k : Nat) (k10 : Int), k10 = k → k ≤ t.length → (∀ j : Nat, j < k → at0 (rot t r) j = at0 u j) → (k < t.length → at0 (rot t r) k ≠ at0 u k) → lexLt ((rot t r).drop k) (u.drop k) = false → K x g1 1 64 LAY (NN g1) M1 157 [(0, vR g1 0), (1, vI z), (2, vR g1 i), (3, vI a), (4, vI n), (5, vR g1 i1), (6, vI fz), (7, vI (pset (t.take (r + 1)))), (8, vI pw), (9, vI q), (10, vI k10)] [] := by
                intro k k10 hk10 hk hall hdiff hlex
                have hge : k10 < n → at0 u k10 ≤ at0 t ((q + k10) % n) := fun e => by
                  have st := lexLt_step (u := rot t r) (v := u) (k := k) (by omega) (by omega)
                  rw [hlex, if_neg (hdiff (by omega))] at st
                  have st2 := of_decide_eq_false st.symm
                  rw [hq, hk10, hn, rot_mod (by omega) (by omega)]
                  omega
                have hfnd : (n = 0 ∨ leastS t < r + 1) → ¬ (fz = 0 ∧ ¬ k10 = n) := fun hh e => by
                  rcases hh with e0 | e0
                  · exact absurd (hfd (Or.inl e0)) (by omega)
                  · by_cases e1 : leastS t < r
                    · exact absurd (hfd (Or.inr e1)) (by omega)
                    · have e2 : leastS t = r := by omega
                      have e3 : rot t r = u := by rw [hu, ← e2]; rfl
                      exact hdiff (by omega) (by rw [e3])
                refine k_iload hx_g1 dL_isLeast_157 6 rfl ?_
                refine k_ifne hx_g1 dL_isLeast_159 (by omega) (fun h_159 => ?_) (fun h_159 => ?_)
                · refine k_iconst hx_g1 dL_isLeast_169 ?_
                  refine k_goto hx_g1 dL_isLeast_170 ?_
                  refine k_istore (ls' := [(0, vR g1 0), (1, vI z), (2, vR g1 i), (3, vI a), (4, vI n), (5, vR g1 i1), (6, vI 1), (7, vI (pset (t.take (r + 1)))), (8, vI pw), (9, vI q), (10, vI k10)]) hx_g1 dL_isLeast_174 rfl rfl (by decide) ?_
                  refine k_iload hx_g1 dL_isLeast_176 10 rfl ?_
                  refine k_iload hx_g1 dL_isLeast_178 4 rfl ?_
                  refine k_icmp_ge hx_g1 dL_isLeast_180 (by omega) (fun h_180 => ?_) (fun h_180 => ?_)
                  · exact j205 1 (by omega) (fun hh => rfl) k10
                  · have cA := at0_z htc (z := (q + k10) % n) (Int.emod_nonneg _ (by omega)) (by have := Int.emod_lt_of_pos (q + k10) (show 0 < n by omega); omega)
                    have m0 := Int.emod_nonneg (q + k10) (show n ≠ 0 by omega)
                    have m1 := Int.emod_lt_of_pos (q + k10) (show 0 < n by omega)
                    have cB := at0_z huc (z := k10) (by omega) (by omega)
                    refine k_aload_n hx_g1 dL_isLeast_183 2 rfl ?_
                    refine k_iload_n hx_g1 dL_isLeast_184 3 rfl ?_
                    refine k_iload hx_g1 dL_isLeast_185 9 rfl ?_
                    refine k_iload hx_g1 dL_isLeast_187 10 rfl ?_
                    refine k_iadd hx_g1 dL_isLeast_189 ?_
                    refine k_iload hx_g1 dL_isLeast_190 4 rfl ?_
                    refine k_irem hx_g1 dL_isLeast_192 (by omega) ?_
                    refine k_iadd hx_g1 dL_isLeast_193 ?_
                    refine k_iald (v := (at0 t ((q + k10) % n))) hx_g1 dL_isLeast_194 hA1.2 (LAY_hi hA1.1) (by omega) (by decide) (hwI _ (Int.emod_nonneg _ (by omega)) (Int.emod_lt_of_pos _ (by omega))) ?_
                    refine k_aload hx_g1 dL_isLeast_195 5 rfl ?_
                    refine k_iload hx_g1 dL_isLeast_197 10 rfl ?_
                    refine k_iald (v := (at0 u k10)) hx_g1 dL_isLeast_199 hA_i1.2 (LAY_hi hA_i1.1) (by omega) (by decide) (hform k10 (by omega) (by omega)) ?_
                    refine k_icmp_ge hx_g1 dL_isLeast_200 (by omega) (fun h_200 => ?_) (fun h_200 => absurd h_200 (by have := hge (by omega); omega))
                    exact j205 1 (by omega) (fun hh => rfl) k10
                · refine k_iload hx_g1 dL_isLeast_162 10 rfl ?_
                  refine k_iload hx_g1 dL_isLeast_164 4 rfl ?_
                  refine k_icmp_ne hx_g1 dL_isLeast_166 (by omega) (fun h_166 => ?_) (fun h_166 => ?_)
                  · refine k_iconst hx_g1 dL_isLeast_173 ?_
                    refine k_istore (ls' := [(0, vR g1 0), (1, vI z), (2, vR g1 i), (3, vI a), (4, vI n), (5, vR g1 i1), (6, vI 0), (7, vI (pset (t.take (r + 1)))), (8, vI pw), (9, vI q), (10, vI k10)]) hx_g1 dL_isLeast_174 rfl rfl (by decide) ?_
                    refine k_iload hx_g1 dL_isLeast_176 10 rfl ?_
                    refine k_iload hx_g1 dL_isLeast_178 4 rfl ?_
                    refine k_icmp_ge hx_g1 dL_isLeast_180 (by omega) (fun h_180 => ?_) (fun h_180 => ?_)
                    · exact j205 0 (by omega) (fun hh => absurd (hfnd hh) (by omega)) k10
                    · have cA := at0_z htc (z := (q + k10) % n) (Int.emod_nonneg _ (by omega)) (by have := Int.emod_lt_of_pos (q + k10) (show 0 < n by omega); omega)
                      have m0 := Int.emod_nonneg (q + k10) (show n ≠ 0 by omega)
                      have m1 := Int.emod_lt_of_pos (q + k10) (show 0 < n by omega)
                      have cB := at0_z huc (z := k10) (by omega) (by omega)
                      refine k_aload_n hx_g1 dL_isLeast_183 2 rfl ?_
                      refine k_iload_n hx_g1 dL_isLeast_184 3 rfl ?_
                      refine k_iload hx_g1 dL_isLeast_185 9 rfl ?_
                      refine k_iload hx_g1 dL_isLeast_187 10 rfl ?_
                      refine k_iadd hx_g1 dL_isLeast_189 ?_
                      refine k_iload hx_g1 dL_isLeast_190 4 rfl ?_
                      refine k_irem hx_g1 dL_isLeast_192 (by omega) ?_
                      refine k_iadd hx_g1 dL_isLeast_193 ?_
                      refine k_iald (v := (at0 t ((q + k10) % n))) hx_g1 dL_isLeast_194 hA1.2 (LAY_hi hA1.1) (by omega) (by decide) (hwI _ (Int.emod_nonneg _ (by omega)) (Int.emod_lt_of_pos _ (by omega))) ?_
                      refine k_aload hx_g1 dL_isLeast_195 5 rfl ?_
                      refine k_iload hx_g1 dL_isLeast_197 10 rfl ?_
                      refine k_iald (v := (at0 u k10)) hx_g1 dL_isLeast_199 hA_i1.2 (LAY_hi hA_i1.1) (by omega) (by decide) (hform k10 (by omega) (by omega)) ?_
                      refine k_icmp_ge hx_g1 dL_isLeast_200 (by omega) (fun h_200 => ?_) (fun h_200 => absurd h_200 (by have := hge (by omega); omega))
                      exact j205 0 (by omega) (fun hh => absurd (hfnd hh) (by omega)) k10
                  · refine k_iconst hx_g1 dL_isLeast_169 ?_
                    refine k_goto hx_g1 dL_isLeast_170 ?_
                    refine k_istore (ls' := [(0, vR g1 0), (1, vI z), (2, vR g1 i), (3, vI a), (4, vI n), (5, vR g1 i1), (6, vI 1), (7, vI (pset (t.take (r + 1)))), (8, vI pw), (9, vI q), (10, vI k10)]) hx_g1 dL_isLeast_174 rfl rfl (by decide) ?_
                    refine k_iload hx_g1 dL_isLeast_176 10 rfl ?_
                    refine k_iload hx_g1 dL_isLeast_178 4 rfl ?_
                    refine k_icmp_ge hx_g1 dL_isLeast_180 (by omega) (fun h_180 => ?_) (fun h_180 => ?_)
                    · exact j205 1 (by omega) (fun hh => rfl) k10
                    · have cA := at0_z htc (z := (q + k10) % n) (Int.emod_nonneg _ (by omega)) (by have := Int.emod_lt_of_pos (q + k10) (show 0 < n by omega); omega)
                      have m0 := Int.emod_nonneg (q + k10) (show n ≠ 0 by omega)
                      have m1 := Int.emod_lt_of_pos (q + k10) (show 0 < n by omega)
                      have cB := at0_z huc (z := k10) (by omega) (by omega)
                      refine k_aload_n hx_g1 dL_isLeast_183 2 rfl ?_
                      refine k_iload_n hx_g1 dL_isLeast_184 3 rfl ?_
                      refine k_iload hx_g1 dL_isLeast_185 9 rfl ?_
                      refine k_iload hx_g1 dL_isLeast_187 10 rfl ?_
                      refine k_iadd hx_g1 dL_isLeast_189 ?_
                      refine k_iload hx_g1 dL_isLeast_190 4 rfl ?_
                      refine k_irem hx_g1 dL_isLeast_192 (by omega) ?_
                      refine k_iadd hx_g1 dL_isLeast_193 ?_
                      refine k_iald (v := (at0 t ((q + k10) % n))) hx_g1 dL_isLeast_194 hA1.2 (LAY_hi hA1.1) (by omega) (by decide) (hwI _ (Int.emod_nonneg _ (by omega)) (Int.emod_lt_of_pos _ (by omega))) ?_
                      refine k_aload hx_g1 dL_isLeast_195 5 rfl ?_
                      refine k_iload hx_g1 dL_isLeast_197 10 rfl ?_
                      refine k_iald (v := (at0 u k10)) hx_g1 dL_isLeast_199 hA_i1.2 (LAY_hi hA_i1.1) (by omega) (by decide) (hform k10 (by omega) (by omega)) ?_
                      refine k_icmp_ge hx_g1 dL_isLeast_200 (by omega) (fun h_200 => ?_) (fun h_200 => absurd h_200 (by have := hge (by omega); omega))
                      exact j205 1 (by omega) (fun hh => rfl) k10
              have loopA : ∀ (fA : Nat), ∀ (k : Nat) (k10 : Int), k10 = k → k ≤ t.length → t.length - k < fA → (∀ j : Nat, j < k → at0 (rot t r) j = at0 u j) → lexLt ((rot t r).drop k) (u.drop k) = false → K x g1 1 64 LAY (NN g1) M1 124 [(0, vR g1 0), (1, vI z), (2, vR g1 i), (3, vI a), (4, vI n), (5, vR g1 i1), (6, vI fz), (7, vI (pset (t.take (r + 1)))), (8, vI pw), (9, vI q), (10, vI k10)] [] := by
                intro fA
                induction fA with
                | zero => intro k k10 hk10 hk hf hall hlex; omega
                | succ fA ihA =>
                  intro k k10 hk10 hk hf hall hlex
                  refine k_iload hx_g1 dL_isLeast_124 10 rfl ?_
                  refine k_iload hx_g1 dL_isLeast_126 4 rfl ?_
                  refine k_icmp_ge hx_g1 dL_isLeast_128 (by omega) (fun h_128 => ?_) (fun h_128 => ?_)
                  · first | exact j157 k k10 hk10 hk hall (fun e => absurd e (by omega)) hlex | exact j157 k k10 hk10 hk hall (fun _ e => by rw [e1, e2] at h_148; exact h_148 e) hlex
                  · have cA := at0_z htc (z := (q + k10) % n) (Int.emod_nonneg _ (by omega)) (by have := Int.emod_lt_of_pos (q + k10) (show 0 < n by omega); omega)
                    have m0 := Int.emod_nonneg (q + k10) (show n ≠ 0 by omega)
                    have m1 := Int.emod_lt_of_pos (q + k10) (show 0 < n by omega)
                    have cB := at0_z huc (z := k10) (by omega) (by omega)
                    have e1 : at0 t ((q + k10) % n) = at0 (rot t r) k := by rw [hq, hk10, hn, rot_mod (by omega) (by omega)]
                    have e2 : at0 u k10 = at0 u k := by rw [hk10]
                    have st := lexLt_step (u := rot t r) (v := u) (k := k) (by omega) (by omega)
                    refine k_aload_n hx_g1 dL_isLeast_131 2 rfl ?_
                    refine k_iload_n hx_g1 dL_isLeast_132 3 rfl ?_
                    refine k_iload hx_g1 dL_isLeast_133 9 rfl ?_
                    refine k_iload hx_g1 dL_isLeast_135 10 rfl ?_
                    refine k_iadd hx_g1 dL_isLeast_137 ?_
                    refine k_iload hx_g1 dL_isLeast_138 4 rfl ?_
                    refine k_irem hx_g1 dL_isLeast_140 (by omega) ?_
                    refine k_iadd hx_g1 dL_isLeast_141 ?_
                    refine k_iald (v := (at0 t ((q + k10) % n))) hx_g1 dL_isLeast_142 hA1.2 (LAY_hi hA1.1) (by omega) (by decide) (hwI _ (Int.emod_nonneg _ (by omega)) (Int.emod_lt_of_pos _ (by omega))) ?_
                    refine k_aload hx_g1 dL_isLeast_143 5 rfl ?_
                    refine k_iload hx_g1 dL_isLeast_145 10 rfl ?_
                    refine k_iald (v := (at0 u k10)) hx_g1 dL_isLeast_147 hA_i1.2 (LAY_hi hA_i1.1) (by omega) (by decide) (hform k10 (by omega) (by omega)) ?_
                    refine k_icmp_ne hx_g1 dL_isLeast_148 (by omega) (fun h_148 => ?_) (fun h_148 => ?_)
                    · first | exact j157 k k10 hk10 hk hall (fun e => absurd e (by omega)) hlex | exact j157 k k10 hk10 hk hall (fun _ e => by rw [e1, e2] at h_148; exact h_148 e) hlex
                    · refine k_iinc (ls' := [(0, vR g1 0), (1, vI z), (2, vR g1 i), (3, vI a), (4, vI n), (5, vR g1 i1), (6, vI fz), (7, vI (pset (t.take (r + 1)))), (8, vI pw), (9, vI q), (10, vI (k10 + 1))]) hx_g1 dL_isLeast_151 10 rfl rfl rfl (by decide) ?_
                      refine k_goto hx_g1 dL_isLeast_154 ?_
                      exact ihA (k + 1) (k10 + 1) (by omega) (by omega) (by omega) (fun j hj => by
                        by_cases e : j = k
                        · subst e; rw [← e1, ← e2]; omega
                        · exact hall j (by omega)) (by rw [← hlex, st, if_pos (by rw [← e1, ← e2]; omega)])
              refine k_iconst hx_g1 dL_isLeast_105 ?_
              refine k_istore (ls' := [(0, vR g1 0), (1, vI z), (2, vR g1 i), (3, vI a), (4, vI n), (5, vR g1 i1), (6, vI fz), (7, vI po), (8, vI pw), (9, vI q), (10, vI 0)]) hx_g1 dL_isLeast_106 rfl rfl (by decide) ?_
              refine k_iload hx_g1 dL_isLeast_108 7 rfl ?_
              refine k_iconst hx_g1 dL_isLeast_110 ?_
              refine k_aload_n hx_g1 dL_isLeast_111 2 rfl ?_
              refine k_iload_n hx_g1 dL_isLeast_112 3 rfl ?_
              refine k_iload hx_g1 dL_isLeast_113 9 rfl ?_
              refine k_iadd hx_g1 dL_isLeast_115 ?_
              refine k_iald (v := (at0 t q)) hx_g1 dL_isLeast_116 hA1.2 (LAY_hi hA1.1) (by omega) (by decide) (hwI q (by omega) (by omega)) ?_
              refine k_bipush hx_g1 dL_isLeast_117 (by decide +kernel) ?_
              refine k_irem hx_g1 dL_isLeast_119 (by omega) ?_
              rw [h6]
              refine k_ishl (v := zI ((zI 1 <<< (zI (pst (at0 t q)) &&& 31)).toInt)) hx_g1 dL_isLeast_120 ((zI_of _).symm) ?_
              refine k_ior (v := zI (pset (t.take (r + 1)))) hx_g1 dL_isLeast_121 (by rw [zI_of, hpo]; exact hps) ?_
              refine k_istore (ls' := [(0, vR g1 0), (1, vI z), (2, vR g1 i), (3, vI a), (4, vI n), (5, vR g1 i1), (6, vI fz), (7, vI (pset (t.take (r + 1)))), (8, vI pw), (9, vI q), (10, vI 0)]) hx_g1 dL_isLeast_122 rfl rfl (by decide) ?_
              refine K.sub [0, 1, 2, 3, 4, 5, 6, 7, 8, 9, 10] rfl ?_
              exact loopA (t.length + 1) 0 0 rfl (by omega) (by omega) (fun j hj => by omega) (by rw [List.drop_zero, List.drop_zero, hu]; exact hmn)
        refine k_iload hx_g1 dL_isLeast_68 4 rfl ?_
        refine k_ifne hx_g1 dL_isLeast_70 (by omega) (fun h_70 => ?_) (fun h_70 => ?_)
        · refine k_iconst hx_g1 dL_isLeast_77 ?_
          refine k_istore (ls' := [(0, vR g1 0), (1, vI z), (2, vR g1 i), (3, vI a), (4, vI n), (5, vR g1 i1), (6, vI 0)]) hx_g1 dL_isLeast_78 rfl rfl (by decide) ?_
          refine k_iconst hx_g1 dL_isLeast_80 ?_
          refine k_istore (ls' := [(0, vR g1 0), (1, vI z), (2, vR g1 i), (3, vI a), (4, vI n), (5, vR g1 i1), (6, vI 0), (7, vI 0)]) hx_g1 dL_isLeast_81 rfl rfl (by decide) ?_
          refine k_iload hx_g1 dL_isLeast_83 4 rfl ?_
          refine k_ifne hx_g1 dL_isLeast_85 (by omega) (fun h_85 => ?_) (fun h_85 => absurd h_85 (by omega))
          refine k_iconst hx_g1 dL_isLeast_92 ?_
          refine k_istore (ls' := [(0, vR g1 0), (1, vI z), (2, vR g1 i), (3, vI a), (4, vI n), (5, vR g1 i1), (6, vI 0), (7, vI 0), (8, vI 1)]) hx_g1 dL_isLeast_93 rfl rfl (by decide) ?_
          refine k_iconst hx_g1 dL_isLeast_95 ?_
          refine k_istore (ls' := [(0, vR g1 0), (1, vI z), (2, vR g1 i), (3, vI a), (4, vI n), (5, vR g1 i1), (6, vI 0), (7, vI 0), (8, vI 1), (9, vI 0)]) hx_g1 dL_isLeast_96 rfl rfl (by decide) ?_
          exact loop2 (t.length + 1) 0 0 0 1 0 rfl (by omega) (by omega) (Or.inl rfl) (fun e => by omega) rfl (by rw [shc, if_neg (by omega)]; rfl)
        · refine k_iconst hx_g1 dL_isLeast_73 ?_
          refine k_goto hx_g1 dL_isLeast_74 ?_
          refine k_istore (ls' := [(0, vR g1 0), (1, vI z), (2, vR g1 i), (3, vI a), (4, vI n), (5, vR g1 i1), (6, vI 1)]) hx_g1 dL_isLeast_78 rfl rfl (by decide) ?_
          refine k_iconst hx_g1 dL_isLeast_80 ?_
          refine k_istore (ls' := [(0, vR g1 0), (1, vI z), (2, vR g1 i), (3, vI a), (4, vI n), (5, vR g1 i1), (6, vI 1), (7, vI 0)]) hx_g1 dL_isLeast_81 rfl rfl (by decide) ?_
          refine k_iload hx_g1 dL_isLeast_83 4 rfl ?_
          refine k_ifne hx_g1 dL_isLeast_85 (by omega) (fun h_85 => absurd h_85 (by omega)) (fun h_85 => ?_)
          refine k_iconst hx_g1 dL_isLeast_88 ?_
          refine k_goto hx_g1 dL_isLeast_89 ?_
          refine k_istore (ls' := [(0, vR g1 0), (1, vI z), (2, vR g1 i), (3, vI a), (4, vI n), (5, vR g1 i1), (6, vI 1), (7, vI 0), (8, vI 0)]) hx_g1 dL_isLeast_93 rfl rfl (by decide) ?_
          refine k_iconst hx_g1 dL_isLeast_95 ?_
          refine k_istore (ls' := [(0, vR g1 0), (1, vI z), (2, vR g1 i), (3, vI a), (4, vI n), (5, vR g1 i1), (6, vI 1), (7, vI 0), (8, vI 0), (9, vI 0)]) hx_g1 dL_isLeast_96 rfl rfl (by decide) ?_
          exact loop2 (t.length + 1) 0 1 0 0 0 rfl (by omega) (by omega) (Or.inr rfl) (fun _ => rfl) rfl (by rw [shc, if_pos (by omega)]; rfl)
      · refine k_aload hx_g1 dL_isLeast_50 5 rfl ?_
        refine k_iload hx_g1 dL_isLeast_52 6 rfl ?_
        refine k_aload_n hx_g1 dL_isLeast_54 0 rfl ?_
        refine k_iload_n hx_g1 dL_isLeast_55 1 rfl ?_
        refine k_iload hx_g1 dL_isLeast_56 6 rfl ?_
        refine k_vi (rest := [vI y, vR g1 i1]) hx_g1 vL_52 dL_isLeast_58 (q_least I' hz (k := y) (by omega)) n_0 L_0 rfl rfl rfl ⟨rfl, rfl⟩ ⟨by decide, by decide⟩ (fun z_58 M_58 p_58 => ?_)
        obtain ⟨rfl, I_58, o_58⟩ := p_58
        have I_58 : Inv M_58 σ := I_58
        refine k_iastN hx_g1 dL_isLeast_61 hA_i1.2 (LAY_hi hA_i1.1) (by omega) (by decide) (fun M_61 hM_61 => ?_)
        refine k_iinc (ls' := [(0, vR g1 0), (1, vI z), (2, vR g1 i), (3, vI a), (4, vI n), (5, vR g1 i1), (6, vI (y + 1))]) hx_g1 dL_isLeast_62 6 rfl rfl rfl (by decide) ?_
        refine k_goto hx_g1 dL_isLeast_65 ?_
        refine ih1 (k + 1) (y + 1) M_61 (by omega) (by omega) (by omega) (I_58.hi hA_i1.1 (fun b hb => by rw [hM_61, up_i hb])) (fun j j0 j1 => ?_) (fun b hb hb2 => by rw [hM_61, up_i hb2, o_58 b hb]; exact ho b hb hb2)
        rw [hM_61]
        by_cases e : j = y
        · subst e; rw [up_s, ← hul]
        · rw [up_k e, o_58 i1 hA_i1.1]; exact hfm j j0 (by omega)
  exact loop1 (t.length + 1) 0 0 M_36 rfl (by omega) (by omega) I_36 (fun j j0 j1 => by omega) o36

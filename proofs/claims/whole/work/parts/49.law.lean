/-! the law: its calls, its loop -/
theorem inv_lo {M M' : Mem} {σ : Sg} (h : Inv M σ) (ho : ∀ a, a < 120 → M' a = M a) : Inv M' σ := h.same (fun a ha => ho a (by omega))
theorem invM_hi {M M' : Mem} {σ : Sg} (h : InvM M σ) (ho : ∀ a, 120 ≤ a → M' a = M a) : InvM M' σ := by
  obtain ⟨h1, ⟨h2, h3, h4⟩, h5, h6, h7⟩ := h
  refine ⟨h1.eq (ho 121 (by decide)), ⟨by rw [ho 120 (by decide)]; exact h2, h3, fun j A hj => (h4 j A hj).eq (ho 122 (by decide))⟩, fun k hk => by rw [ho 124 (by decide)]; exact h5 k hk, fun k A hk hs => (h6 k A hk hs).eq (ho 123 (by decide)), ?_⟩
  unfold Pm; rw [ho 125 (by decide), ho 120 (by decide)]; exact h7
/-- the script's numbers -/
def scz (xs : Nat → Int32) (z : Int) : Int := (xs z.toNat).toInt
theorem scz_rg (xs : Nat → Int32) (z : Int) : -2147483648 ≤ scz xs z ∧ scz xs z < 2147483648 := i32_rg _
def SC (x : Fx) (g : GE) (b Ln : Nat) (xs : Nat → Int32) : Prop := va_X b Ln xs (xS x) (xS x).heap ∧ b < (xS x).heap.size ∧ g.1 = (xS x).heap.size ∧ Ln ≤ 2048
section SCR
variable {x : Fx} {g : GE} {cc : ByteArray} {own : String} {nL : Nat} {R : Room} {cs sl : Nat} {L : Lay} {n : Nat} {M : Mem} {pc pc' tgt : Nat} {ls : List (Nat × Value)} {st : List Value} {b Ln : Nat} {xs : Nat → Int32}
theorem k_sld (hx : Cx x g cc own nL R) (hs : SC x g b Ln xs) {z : Int} (hd : At cc pc .iaload 1 pc') (hz : 0 ≤ z ∧ z < Ln) (kk : K x g cs sl L n M pc' ls (vI (scz xs z) :: st)) : K x g cs sl L n M pc ls (vI z :: .ref b :: st) := by
  intro H locs la hR hS hl
  obtain ⟨h1, h2⟩ := hd; subst h2
  obtain ⟨hX, hb, hg, hL⟩ := hs
  have hc := zI_clamp (N := Ln) hz.1 hz.2 (by omega)
  have hn : (zI z).toNatClampNeg = z.toNat := by omega
  refine va_sld hx.1 hx.2.1 hX hb (by show ¬ g.1 ≤ b; omega) hS (zI_in hz.1 hz.2 (by omega)) h1 ?_
  have e : vI (scz xs z) = Value.int (xs z.toNat) := congrArg Value.int (zI_of _)
  rw [hn, ← e]
  exact kk H locs la hR hS hl
theorem k_slen (hx : Cx x g cc own nL R) (hs : SC x g b Ln xs) (hd : At cc pc .arraylength 1 pc') (kk : K x g cs sl L n M pc' ls (vI Ln :: st)) : K x g cs sl L n M pc ls (.ref b :: st) := by
  intro H locs la hR hS hl
  obtain ⟨h1, h2⟩ := hd; subst h2
  obtain ⟨hX, hb, hg, hL⟩ := hs
  refine va_slen hx.1 hx.2.1 hX hb (by show ¬ g.1 ≤ b; omega) hS h1 ?_
  have e : vI (Ln : Int) = Value.int (Int32.ofNat Ln) := congrArg Value.int Int32.ofInt_eq_ofNat
  rw [← e]
  exact kk H locs la hR hS hl
/-- the same answer twice -/
theorem k_icmp_eqS (hx : Cx x g cc own nL R) {a : Int} (hd : Br cc pc (.if_icmp .eq) pc' tgt) (kt : K x g cs sl L n M tgt ls st) : K x g cs sl L n M pc ls (vI a :: vI a :: st) := by
  intro H locs la hR hS hl
  obtain ⟨off, h1, h2, h3⟩ := hd; subst h2
  exact lv_icmp_eq hx.1 hx.2.1 h1 h3 (fun _ => kt H locs la hR hS hl) (fun q => absurd rfl q)
end SCR
theorem law_0 {x : Fx} {g : GE} {b Ln : Nat} {xs : Nat → Int32} (hx : Cx x g cL_law RL 4 room_1) (hs : SC x g b Ln xs) {z : Int} (hz : 0 ≤ z ∧ z + 4 ≤ Ln) {M : Mem} {σ : Sg} (hI : Inv M σ) (hJ : InvM M σ) (kk : ∀ (M' : Mem) (σ' : Sg), Inv M' σ' → InvM M' σ' → K x g 134 34947 LAY NN M' 900 [(0, .ref b), (1, vR g 0), (2, vR g 120), (3, vI z)] []) : K x g 134 34947 LAY NN M 152 [(0, .ref b), (1, vR g 0), (2, vR g 120), (3, vI z)] [] := by
  have hLn := hs.2.2.2
  refine k_aload_n hx dL_law_152 1 rfl ?_
  refine k_aload_n hx dL_law_153 0 rfl ?_
  refine k_iload_n hx dL_law_154 3 rfl ?_
  refine k_iconst hx dL_law_155 ?_
  refine k_iadd hx dL_law_156 ?_
  refine k_sld hx hs dL_law_157 (by omega) ?_
  refine k_aload_n hx dL_law_158 0 rfl ?_
  refine k_iload_n hx dL_law_159 3 rfl ?_
  refine k_iconst hx dL_law_160 ?_
  refine k_iadd hx dL_law_161 ?_
  refine k_sld hx hs dL_law_162 (by omega) ?_
  refine k_vi (rest := []) hx vL_13 dL_law_163 (c_X5_width hI (scz_rg xs (z + 1)) (scz_rg xs (z + 2))) n_0 L_0 rfl rfl rfl ⟨rfl, rfl⟩ ⟨Nat.le_of_ble_eq_true rfl, Nat.le_of_ble_eq_true rfl⟩ (fun z_163 M_163 p_163 => ?_)
  obtain ⟨e1, h1, h2⟩ := p_163
  have hJ1 := invM_hi hJ h2
  refine k_aload_n hx dL_law_166 2 rfl ?_
  refine k_aload_n hx dL_law_167 0 rfl ?_
  refine k_iload_n hx dL_law_168 3 rfl ?_
  refine k_iconst hx dL_law_169 ?_
  refine k_iadd hx dL_law_170 ?_
  refine k_sld hx hs dL_law_171 (by omega) ?_
  refine k_aload_n hx dL_law_172 0 rfl ?_
  refine k_iload_n hx dL_law_173 3 rfl ?_
  refine k_iconst hx dL_law_174 ?_
  refine k_iadd hx dL_law_175 ?_
  refine k_sld hx hs dL_law_176 (by omega) ?_
  refine k_vi (rest := [vI z_163]) hx vL_17 dL_law_177 (c_X6_width hJ1 (scz_rg xs (z + 1)) (scz_rg xs (z + 2))) n_120 L_120 rfl rfl rfl ⟨rfl, rfl⟩ ⟨Nat.le_of_ble_eq_true rfl, Nat.le_of_ble_eq_true rfl⟩ (fun z_177 M_177 p_177 => ?_)
  obtain ⟨e2, h3, h4⟩ := p_177
  obtain rfl : z_177 = z_163 := e2.trans e1.symm
  refine k_icmp_eqS hx dL_law_180 ?_
  exact kk _ _ (inv_lo h1 h4) h3
theorem law_1 {x : Fx} {g : GE} {b Ln : Nat} {xs : Nat → Int32} (hx : Cx x g cL_law RL 4 room_1) (hs : SC x g b Ln xs) {z : Int} (hz : 0 ≤ z ∧ z + 4 ≤ Ln) {M : Mem} {σ : Sg} (hI : Inv M σ) (hJ : InvM M σ) (kk : ∀ (M' : Mem) (σ' : Sg), Inv M' σ' → InvM M' σ' → K x g 134 34947 LAY NN M' 900 [(0, .ref b), (1, vR g 0), (2, vR g 120), (3, vI z)] []) : K x g 134 34947 LAY NN M 185 [(0, .ref b), (1, vR g 0), (2, vR g 120), (3, vI z)] [] := by
  have hLn := hs.2.2.2
  refine k_aload_n hx dL_law_185 1 rfl ?_
  refine k_aload_n hx dL_law_186 0 rfl ?_
  refine k_iload_n hx dL_law_187 3 rfl ?_
  refine k_iconst hx dL_law_188 ?_
  refine k_iadd hx dL_law_189 ?_
  refine k_sld hx hs dL_law_190 (by omega) ?_
  refine k_aload_n hx dL_law_191 0 rfl ?_
  refine k_iload_n hx dL_law_192 3 rfl ?_
  refine k_iconst hx dL_law_193 ?_
  refine k_iadd hx dL_law_194 ?_
  refine k_sld hx hs dL_law_195 (by omega) ?_
  refine k_vi (rest := []) hx vL_18 dL_law_196 (c_X5_cross hI (scz_rg xs (z + 1)) (scz_rg xs (z + 2))) n_0 L_0 rfl rfl rfl ⟨rfl, rfl⟩ ⟨Nat.le_of_ble_eq_true rfl, Nat.le_of_ble_eq_true rfl⟩ (fun z_196 M_196 p_196 => ?_)
  obtain ⟨e1, h1, h2⟩ := p_196
  have hJ1 := invM_hi hJ h2
  refine k_aload_n hx dL_law_199 2 rfl ?_
  refine k_aload_n hx dL_law_200 0 rfl ?_
  refine k_iload_n hx dL_law_201 3 rfl ?_
  refine k_iconst hx dL_law_202 ?_
  refine k_iadd hx dL_law_203 ?_
  refine k_sld hx hs dL_law_204 (by omega) ?_
  refine k_aload_n hx dL_law_205 0 rfl ?_
  refine k_iload_n hx dL_law_206 3 rfl ?_
  refine k_iconst hx dL_law_207 ?_
  refine k_iadd hx dL_law_208 ?_
  refine k_sld hx hs dL_law_209 (by omega) ?_
  refine k_vi (rest := [vI z_196]) hx vL_21 dL_law_210 (c_X6_cross hJ1 (scz_rg xs (z + 1)) (scz_rg xs (z + 2))) n_120 L_120 rfl rfl rfl ⟨rfl, rfl⟩ ⟨Nat.le_of_ble_eq_true rfl, Nat.le_of_ble_eq_true rfl⟩ (fun z_210 M_210 p_210 => ?_)
  obtain ⟨e2, h3, h4⟩ := p_210
  obtain rfl : z_210 = z_196 := e2.trans e1.symm
  refine k_icmp_eqS hx dL_law_213 ?_
  exact kk _ _ (inv_lo h1 h4) h3
theorem law_2 {x : Fx} {g : GE} {b Ln : Nat} {xs : Nat → Int32} (hx : Cx x g cL_law RL 4 room_1) (hs : SC x g b Ln xs) {z : Int} (hz : 0 ≤ z ∧ z + 4 ≤ Ln) {M : Mem} {σ : Sg} (hI : Inv M σ) (hJ : InvM M σ) (kk : ∀ (M' : Mem) (σ' : Sg), Inv M' σ' → InvM M' σ' → K x g 134 34947 LAY NN M' 900 [(0, .ref b), (1, vR g 0), (2, vR g 120), (3, vI z)] []) : K x g 134 34947 LAY NN M 218 [(0, .ref b), (1, vR g 0), (2, vR g 120), (3, vI z)] [] := by
  have hLn := hs.2.2.2
  refine k_aload_n hx dL_law_218 1 rfl ?_
  refine k_aload_n hx dL_law_219 0 rfl ?_
  refine k_iload_n hx dL_law_220 3 rfl ?_
  refine k_iconst hx dL_law_221 ?_
  refine k_iadd hx dL_law_222 ?_
  refine k_sld hx hs dL_law_223 (by omega) ?_
  refine k_aload_n hx dL_law_224 0 rfl ?_
  refine k_iload_n hx dL_law_225 3 rfl ?_
  refine k_iconst hx dL_law_226 ?_
  refine k_iadd hx dL_law_227 ?_
  refine k_sld hx hs dL_law_228 (by omega) ?_
  refine k_vi (rest := []) hx vL_22 dL_law_229 (c_X5_back hI (scz_rg xs (z + 1)) (scz_rg xs (z + 2))) n_0 L_0 rfl rfl rfl ⟨rfl, rfl⟩ ⟨Nat.le_of_ble_eq_true rfl, Nat.le_of_ble_eq_true rfl⟩ (fun z_229 M_229 p_229 => ?_)
  obtain ⟨e1, h1, h2⟩ := p_229
  have hJ1 := invM_hi hJ h2
  refine k_aload_n hx dL_law_232 2 rfl ?_
  refine k_aload_n hx dL_law_233 0 rfl ?_
  refine k_iload_n hx dL_law_234 3 rfl ?_
  refine k_iconst hx dL_law_235 ?_
  refine k_iadd hx dL_law_236 ?_
  refine k_sld hx hs dL_law_237 (by omega) ?_
  refine k_aload_n hx dL_law_238 0 rfl ?_
  refine k_iload_n hx dL_law_239 3 rfl ?_
  refine k_iconst hx dL_law_240 ?_
  refine k_iadd hx dL_law_241 ?_
  refine k_sld hx hs dL_law_242 (by omega) ?_
  refine k_vi (rest := [vI z_229]) hx vL_25 dL_law_243 (c_X6_back hJ1 (scz_rg xs (z + 1)) (scz_rg xs (z + 2))) n_120 L_120 rfl rfl rfl ⟨rfl, rfl⟩ ⟨Nat.le_of_ble_eq_true rfl, Nat.le_of_ble_eq_true rfl⟩ (fun z_243 M_243 p_243 => ?_)
  obtain ⟨e2, h3, h4⟩ := p_243
  obtain rfl : z_243 = z_229 := e2.trans e1.symm
  refine k_icmp_eqS hx dL_law_246 ?_
  exact kk _ _ (inv_lo h1 h4) h3
theorem law_3 {x : Fx} {g : GE} {b Ln : Nat} {xs : Nat → Int32} (hx : Cx x g cL_law RL 4 room_1) (hs : SC x g b Ln xs) {z : Int} (hz : 0 ≤ z ∧ z + 4 ≤ Ln) {M : Mem} {σ : Sg} (hI : Inv M σ) (hJ : InvM M σ) (kk : ∀ (M' : Mem) (σ' : Sg), Inv M' σ' → InvM M' σ' → K x g 134 34947 LAY NN M' 900 [(0, .ref b), (1, vR g 0), (2, vR g 120), (3, vI z)] []) : K x g 134 34947 LAY NN M 251 [(0, .ref b), (1, vR g 0), (2, vR g 120), (3, vI z)] [] := by
  have hLn := hs.2.2.2
  refine k_aload_n hx dL_law_251 1 rfl ?_
  refine k_aload_n hx dL_law_252 0 rfl ?_
  refine k_iload_n hx dL_law_253 3 rfl ?_
  refine k_iconst hx dL_law_254 ?_
  refine k_iadd hx dL_law_255 ?_
  refine k_sld hx hs dL_law_256 (by omega) ?_
  refine k_vi (rest := []) hx vL_26 dL_law_257 (c_X5_pull hI (scz_rg xs (z + 1))) n_0 L_0 rfl rfl rfl ⟨rfl, rfl⟩ ⟨Nat.le_of_ble_eq_true rfl, Nat.le_of_ble_eq_true rfl⟩ (fun z_257 M_257 p_257 => ?_)
  obtain ⟨e1, h1, h2⟩ := p_257
  have hJ1 := invM_hi hJ h2
  refine k_aload_n hx dL_law_260 2 rfl ?_
  refine k_aload_n hx dL_law_261 0 rfl ?_
  refine k_iload_n hx dL_law_262 3 rfl ?_
  refine k_iconst hx dL_law_263 ?_
  refine k_iadd hx dL_law_264 ?_
  refine k_sld hx hs dL_law_265 (by omega) ?_
  refine k_vi (rest := [vI z_257]) hx vL_30 dL_law_266 (c_X6_pull hJ1 (scz_rg xs (z + 1))) n_120 L_120 rfl rfl rfl ⟨rfl, rfl⟩ ⟨Nat.le_of_ble_eq_true rfl, Nat.le_of_ble_eq_true rfl⟩ (fun z_266 M_266 p_266 => ?_)
  obtain ⟨e2, h3, h4⟩ := p_266
  obtain rfl : z_266 = z_257 := e2.trans e1.symm
  refine k_icmp_eqS hx dL_law_269 ?_
  exact kk _ _ (inv_lo h1 h4) h3
theorem law_4 {x : Fx} {g : GE} {b Ln : Nat} {xs : Nat → Int32} (hx : Cx x g cL_law RL 4 room_1) (hs : SC x g b Ln xs) {z : Int} (hz : 0 ≤ z ∧ z + 4 ≤ Ln) {M : Mem} {σ : Sg} (hI : Inv M σ) (hJ : InvM M σ) (kk : ∀ (M' : Mem) (σ' : Sg), Inv M' σ' → InvM M' σ' → K x g 134 34947 LAY NN M' 900 [(0, .ref b), (1, vR g 0), (2, vR g 120), (3, vI z)] []) : K x g 134 34947 LAY NN M 274 [(0, .ref b), (1, vR g 0), (2, vR g 120), (3, vI z)] [] := by
  have hLn := hs.2.2.2
  refine k_aload_n hx dL_law_274 1 rfl ?_
  refine k_aload_n hx dL_law_275 0 rfl ?_
  refine k_iload_n hx dL_law_276 3 rfl ?_
  refine k_iconst hx dL_law_277 ?_
  refine k_iadd hx dL_law_278 ?_
  refine k_sld hx hs dL_law_279 (by omega) ?_
  refine k_aload_n hx dL_law_280 0 rfl ?_
  refine k_iload_n hx dL_law_281 3 rfl ?_
  refine k_iconst hx dL_law_282 ?_
  refine k_iadd hx dL_law_283 ?_
  refine k_sld hx hs dL_law_284 (by omega) ?_
  refine k_vi (rest := []) hx vL_31 dL_law_285 (c_X5_join hI (scz_rg xs (z + 1)) (scz_rg xs (z + 2))) n_0 L_0 rfl rfl rfl ⟨rfl, rfl⟩ ⟨Nat.le_of_ble_eq_true rfl, Nat.le_of_ble_eq_true rfl⟩ (fun z_285 M_285 p_285 => ?_)
  obtain ⟨e1, h1, h2⟩ := p_285
  have hJ1 := invM_hi hJ h2
  refine k_aload_n hx dL_law_288 2 rfl ?_
  refine k_aload_n hx dL_law_289 0 rfl ?_
  refine k_iload_n hx dL_law_290 3 rfl ?_
  refine k_iconst hx dL_law_291 ?_
  refine k_iadd hx dL_law_292 ?_
  refine k_sld hx hs dL_law_293 (by omega) ?_
  refine k_aload_n hx dL_law_294 0 rfl ?_
  refine k_iload_n hx dL_law_295 3 rfl ?_
  refine k_iconst hx dL_law_296 ?_
  refine k_iadd hx dL_law_297 ?_
  refine k_sld hx hs dL_law_298 (by omega) ?_
  refine k_vi (rest := [vI z_285]) hx vL_34 dL_law_299 (c_X6_join hJ1 (scz_rg xs (z + 1)) (scz_rg xs (z + 2))) n_120 L_120 rfl rfl rfl ⟨rfl, rfl⟩ ⟨Nat.le_of_ble_eq_true rfl, Nat.le_of_ble_eq_true rfl⟩ (fun z_299 M_299 p_299 => ?_)
  obtain ⟨e2, h3, h4⟩ := p_299
  obtain rfl : z_299 = z_285 := e2.trans e1.symm
  refine k_icmp_eqS hx dL_law_302 ?_
  exact kk _ _ (inv_lo h1 h4) h3
theorem law_5 {x : Fx} {g : GE} {b Ln : Nat} {xs : Nat → Int32} (hx : Cx x g cL_law RL 4 room_1) (hs : SC x g b Ln xs) {z : Int} (hz : 0 ≤ z ∧ z + 4 ≤ Ln) {M : Mem} {σ : Sg} (hI : Inv M σ) (hJ : InvM M σ) (kk : ∀ (M' : Mem) (σ' : Sg), Inv M' σ' → InvM M' σ' → K x g 134 34947 LAY NN M' 900 [(0, .ref b), (1, vR g 0), (2, vR g 120), (3, vI z)] []) : K x g 134 34947 LAY NN M 307 [(0, .ref b), (1, vR g 0), (2, vR g 120), (3, vI z)] [] := by
  have hLn := hs.2.2.2
  refine k_aload_n hx dL_law_307 1 rfl ?_
  refine k_aload_n hx dL_law_308 0 rfl ?_
  refine k_iload_n hx dL_law_309 3 rfl ?_
  refine k_iconst hx dL_law_310 ?_
  refine k_iadd hx dL_law_311 ?_
  refine k_sld hx hs dL_law_312 (by omega) ?_
  refine k_vi (rest := []) hx vL_35 dL_law_313 (c_X5_turn hI (scz_rg xs (z + 1))) n_0 L_0 rfl rfl rfl ⟨rfl, rfl⟩ ⟨Nat.le_of_ble_eq_true rfl, Nat.le_of_ble_eq_true rfl⟩ (fun z_313 M_313 p_313 => ?_)
  obtain ⟨e1, h1, h2⟩ := p_313
  have hJ1 := invM_hi hJ h2
  refine k_aload_n hx dL_law_316 2 rfl ?_
  refine k_aload_n hx dL_law_317 0 rfl ?_
  refine k_iload_n hx dL_law_318 3 rfl ?_
  refine k_iconst hx dL_law_319 ?_
  refine k_iadd hx dL_law_320 ?_
  refine k_sld hx hs dL_law_321 (by omega) ?_
  refine k_vi (rest := [vI z_313]) hx vL_38 dL_law_322 (c_X6_turn hJ1 (scz_rg xs (z + 1))) n_120 L_120 rfl rfl rfl ⟨rfl, rfl⟩ ⟨Nat.le_of_ble_eq_true rfl, Nat.le_of_ble_eq_true rfl⟩ (fun z_322 M_322 p_322 => ?_)
  obtain ⟨e2, h3, h4⟩ := p_322
  obtain rfl : z_322 = z_313 := e2.trans e1.symm
  refine k_icmp_eqS hx dL_law_325 ?_
  exact kk _ _ (inv_lo h1 h4) h3
theorem law_6 {x : Fx} {g : GE} {b Ln : Nat} {xs : Nat → Int32} (hx : Cx x g cL_law RL 4 room_1) (hs : SC x g b Ln xs) {z : Int} (hz : 0 ≤ z ∧ z + 4 ≤ Ln) {M : Mem} {σ : Sg} (hI : Inv M σ) (hJ : InvM M σ) (kk : ∀ (M' : Mem) (σ' : Sg), Inv M' σ' → InvM M' σ' → K x g 134 34947 LAY NN M' 900 [(0, .ref b), (1, vR g 0), (2, vR g 120), (3, vI z)] []) : K x g 134 34947 LAY NN M 330 [(0, .ref b), (1, vR g 0), (2, vR g 120), (3, vI z)] [] := by
  have hLn := hs.2.2.2
  refine k_aload_n hx dL_law_330 1 rfl ?_
  refine k_aload_n hx dL_law_331 0 rfl ?_
  refine k_iload_n hx dL_law_332 3 rfl ?_
  refine k_iconst hx dL_law_333 ?_
  refine k_iadd hx dL_law_334 ?_
  refine k_sld hx hs dL_law_335 (by omega) ?_
  refine k_aload_n hx dL_law_336 0 rfl ?_
  refine k_iload_n hx dL_law_337 3 rfl ?_
  refine k_iconst hx dL_law_338 ?_
  refine k_iadd hx dL_law_339 ?_
  refine k_sld hx hs dL_law_340 (by omega) ?_
  refine k_vi (rest := []) hx vL_39 dL_law_341 (c_X5_weave hI (scz_rg xs (z + 1)) (scz_rg xs (z + 2))) n_0 L_0 rfl rfl rfl ⟨rfl, rfl⟩ ⟨Nat.le_of_ble_eq_true rfl, Nat.le_of_ble_eq_true rfl⟩ (fun z_341 M_341 p_341 => ?_)
  obtain ⟨e1, h1, h2⟩ := p_341
  have hJ1 := invM_hi hJ h2
  refine k_aload_n hx dL_law_344 2 rfl ?_
  refine k_aload_n hx dL_law_345 0 rfl ?_
  refine k_iload_n hx dL_law_346 3 rfl ?_
  refine k_iconst hx dL_law_347 ?_
  refine k_iadd hx dL_law_348 ?_
  refine k_sld hx hs dL_law_349 (by omega) ?_
  refine k_aload_n hx dL_law_350 0 rfl ?_
  refine k_iload_n hx dL_law_351 3 rfl ?_
  refine k_iconst hx dL_law_352 ?_
  refine k_iadd hx dL_law_353 ?_
  refine k_sld hx hs dL_law_354 (by omega) ?_
  refine k_vi (rest := [vI z_341]) hx vL_42 dL_law_355 (c_X6_weave hJ1 (scz_rg xs (z + 1)) (scz_rg xs (z + 2))) n_120 L_120 rfl rfl rfl ⟨rfl, rfl⟩ ⟨Nat.le_of_ble_eq_true rfl, Nat.le_of_ble_eq_true rfl⟩ (fun z_355 M_355 p_355 => ?_)
  obtain ⟨e2, h3, h4⟩ := p_355
  obtain rfl : z_355 = z_341 := e2.trans e1.symm
  refine k_icmp_eqS hx dL_law_358 ?_
  exact kk _ _ (inv_lo h1 h4) h3
theorem law_7 {x : Fx} {g : GE} {b Ln : Nat} {xs : Nat → Int32} (hx : Cx x g cL_law RL 4 room_1) (hs : SC x g b Ln xs) {z : Int} (hz : 0 ≤ z ∧ z + 4 ≤ Ln) {M : Mem} {σ : Sg} (hI : Inv M σ) (hJ : InvM M σ) (kk : ∀ (M' : Mem) (σ' : Sg), Inv M' σ' → InvM M' σ' → K x g 134 34947 LAY NN M' 900 [(0, .ref b), (1, vR g 0), (2, vR g 120), (3, vI z)] []) : K x g 134 34947 LAY NN M 363 [(0, .ref b), (1, vR g 0), (2, vR g 120), (3, vI z)] [] := by
  have hLn := hs.2.2.2
  refine k_aload_n hx dL_law_363 1 rfl ?_
  refine k_aload_n hx dL_law_364 0 rfl ?_
  refine k_iload_n hx dL_law_365 3 rfl ?_
  refine k_iconst hx dL_law_366 ?_
  refine k_iadd hx dL_law_367 ?_
  refine k_sld hx hs dL_law_368 (by omega) ?_
  refine k_aload_n hx dL_law_369 0 rfl ?_
  refine k_iload_n hx dL_law_370 3 rfl ?_
  refine k_iconst hx dL_law_371 ?_
  refine k_iadd hx dL_law_372 ?_
  refine k_sld hx hs dL_law_373 (by omega) ?_
  refine k_vi (rest := []) hx vL_43 dL_law_374 (c_X5_swap hI (scz_rg xs (z + 1)) (scz_rg xs (z + 2))) n_0 L_0 rfl rfl rfl ⟨rfl, rfl⟩ ⟨Nat.le_of_ble_eq_true rfl, Nat.le_of_ble_eq_true rfl⟩ (fun z_374 M_374 p_374 => ?_)
  obtain ⟨e1, h1, h2⟩ := p_374
  have hJ1 := invM_hi hJ h2
  refine k_aload_n hx dL_law_377 2 rfl ?_
  refine k_aload_n hx dL_law_378 0 rfl ?_
  refine k_iload_n hx dL_law_379 3 rfl ?_
  refine k_iconst hx dL_law_380 ?_
  refine k_iadd hx dL_law_381 ?_
  refine k_sld hx hs dL_law_382 (by omega) ?_
  refine k_aload_n hx dL_law_383 0 rfl ?_
  refine k_iload_n hx dL_law_384 3 rfl ?_
  refine k_iconst hx dL_law_385 ?_
  refine k_iadd hx dL_law_386 ?_
  refine k_sld hx hs dL_law_387 (by omega) ?_
  refine k_vi (rest := [vI z_374]) hx vL_46 dL_law_388 (c_X6_swap hJ1 (scz_rg xs (z + 1)) (scz_rg xs (z + 2))) n_120 L_120 rfl rfl rfl ⟨rfl, rfl⟩ ⟨Nat.le_of_ble_eq_true rfl, Nat.le_of_ble_eq_true rfl⟩ (fun z_388 M_388 p_388 => ?_)
  obtain ⟨e2, h3, h4⟩ := p_388
  obtain rfl : z_388 = z_374 := e2.trans e1.symm
  refine k_icmp_eqS hx dL_law_391 ?_
  exact kk _ _ (inv_lo h1 h4) h3
theorem law_8 {x : Fx} {g : GE} {b Ln : Nat} {xs : Nat → Int32} (hx : Cx x g cL_law RL 4 room_1) (hs : SC x g b Ln xs) {z : Int} (hz : 0 ≤ z ∧ z + 4 ≤ Ln) {M : Mem} {σ : Sg} (hI : Inv M σ) (hJ : InvM M σ) (kk : ∀ (M' : Mem) (σ' : Sg), Inv M' σ' → InvM M' σ' → K x g 134 34947 LAY NN M' 900 [(0, .ref b), (1, vR g 0), (2, vR g 120), (3, vI z)] []) : K x g 134 34947 LAY NN M 396 [(0, .ref b), (1, vR g 0), (2, vR g 120), (3, vI z)] [] := by
  have hLn := hs.2.2.2
  refine k_aload_n hx dL_law_396 1 rfl ?_
  refine k_aload_n hx dL_law_397 0 rfl ?_
  refine k_iload_n hx dL_law_398 3 rfl ?_
  refine k_iconst hx dL_law_399 ?_
  refine k_iadd hx dL_law_400 ?_
  refine k_sld hx hs dL_law_401 (by omega) ?_
  refine k_i2l hx dL_law_402 ?_
  refine k_bipush hx dL_law_403 (by decide +kernel) ?_
  refine k_lshl hx dL_law_405 ?_
  refine k_aload_n hx dL_law_406 0 rfl ?_
  refine k_iload_n hx dL_law_407 3 rfl ?_
  refine k_iconst hx dL_law_408 ?_
  refine k_iadd hx dL_law_409 ?_
  refine k_sld hx hs dL_law_410 (by omega) ?_
  refine k_i2l hx dL_law_411 ?_
  refine k_ldc2 hx dL_law_412 qL_47 ?_
  refine k_land hx dL_law_415 ?_
  refine k_lor hx dL_law_416 ?_
  refine k_vi (rest := []) hx vL_49 dL_law_417 (c_X5_put hI) n_0 L_0 rfl rfl rfl ⟨rfl, rfl⟩ ⟨Nat.le_of_ble_eq_true rfl, Nat.le_of_ble_eq_true rfl⟩ (fun z_417 M_417 p_417 => ?_)
  obtain ⟨e1, h1, h2⟩ := p_417
  have hJ1 := invM_hi hJ h2
  refine k_aload_n hx dL_law_420 2 rfl ?_
  refine k_aload_n hx dL_law_421 0 rfl ?_
  refine k_iload_n hx dL_law_422 3 rfl ?_
  refine k_iconst hx dL_law_423 ?_
  refine k_iadd hx dL_law_424 ?_
  refine k_sld hx hs dL_law_425 (by omega) ?_
  refine k_i2l hx dL_law_426 ?_
  refine k_bipush hx dL_law_427 (by decide +kernel) ?_
  refine k_lshl hx dL_law_429 ?_
  refine k_aload_n hx dL_law_430 0 rfl ?_
  refine k_iload_n hx dL_law_431 3 rfl ?_
  refine k_iconst hx dL_law_432 ?_
  refine k_iadd hx dL_law_433 ?_
  refine k_sld hx hs dL_law_434 (by omega) ?_
  refine k_i2l hx dL_law_435 ?_
  refine k_ldc2 hx dL_law_436 qL_47 ?_
  refine k_land hx dL_law_439 ?_
  refine k_lor hx dL_law_440 ?_
  refine k_vi (rest := [vI z_417]) hx vL_53 dL_law_441 (c_X6_put hJ1) n_120 L_120 rfl rfl rfl ⟨rfl, rfl⟩ ⟨Nat.le_of_ble_eq_true rfl, Nat.le_of_ble_eq_true rfl⟩ (fun z_441 M_441 p_441 => ?_)
  obtain ⟨e2, h3, h4⟩ := p_441
  obtain rfl : z_441 = z_417 := e2.trans e1.symm
  refine k_icmp_eqS hx dL_law_444 ?_
  exact kk _ _ (inv_lo h1 h4) h3
theorem law_9 {x : Fx} {g : GE} {b Ln : Nat} {xs : Nat → Int32} (hx : Cx x g cL_law RL 4 room_1) (hs : SC x g b Ln xs) {z : Int} (hz : 0 ≤ z ∧ z + 4 ≤ Ln) {M : Mem} {σ : Sg} (hI : Inv M σ) (hJ : InvM M σ) (kk : ∀ (M' : Mem) (σ' : Sg), Inv M' σ' → InvM M' σ' → K x g 134 34947 LAY NN M' 900 [(0, .ref b), (1, vR g 0), (2, vR g 120), (3, vI z)] []) : K x g 134 34947 LAY NN M 449 [(0, .ref b), (1, vR g 0), (2, vR g 120), (3, vI z)] [] := by
  have hLn := hs.2.2.2
  refine k_aload_n hx dL_law_449 1 rfl ?_
  refine k_vi (rest := []) hx vL_54 dL_law_450 (c_X5_wipe hI) n_0 L_0 rfl rfl rfl ⟨rfl, rfl⟩ ⟨Nat.le_of_ble_eq_true rfl, Nat.le_of_ble_eq_true rfl⟩ (fun z_450 M_450 p_450 => ?_)
  obtain ⟨e1, h1, h2⟩ := p_450
  have hJ1 := invM_hi hJ h2
  refine k_aload_n hx dL_law_453 2 rfl ?_
  refine k_vi (rest := [vI z_450]) hx vL_58 dL_law_454 (c_X6_wipe hJ1) n_120 L_120 rfl rfl rfl ⟨rfl, rfl⟩ ⟨Nat.le_of_ble_eq_true rfl, Nat.le_of_ble_eq_true rfl⟩ (fun z_454 M_454 p_454 => ?_)
  obtain ⟨e2, h3, h4⟩ := p_454
  obtain rfl : z_454 = z_450 := e2.trans e1.symm
  refine k_icmp_eqS hx dL_law_457 ?_
  exact kk _ _ (inv_lo h1 h4) h3
theorem law_10 {x : Fx} {g : GE} {b Ln : Nat} {xs : Nat → Int32} (hx : Cx x g cL_law RL 4 room_1) (hs : SC x g b Ln xs) {z : Int} (hz : 0 ≤ z ∧ z + 4 ≤ Ln) {M : Mem} {σ : Sg} (hI : Inv M σ) (hJ : InvM M σ) (kk : ∀ (M' : Mem) (σ' : Sg), Inv M' σ' → InvM M' σ' → K x g 134 34947 LAY NN M' 900 [(0, .ref b), (1, vR g 0), (2, vR g 120), (3, vI z)] []) : K x g 134 34947 LAY NN M 462 [(0, .ref b), (1, vR g 0), (2, vR g 120), (3, vI z)] [] := by
  have hLn := hs.2.2.2
  refine k_aload_n hx dL_law_462 1 rfl ?_
  refine k_vi (rest := []) hx vL_59 dL_law_463 (c_X5_fault hI) n_0 L_0 rfl rfl rfl ⟨rfl, rfl⟩ ⟨Nat.le_of_ble_eq_true rfl, Nat.le_of_ble_eq_true rfl⟩ (fun z_463 M_463 p_463 => ?_)
  obtain ⟨e1, h1, h2⟩ := p_463
  have hJ1 := invM_hi hJ h2
  refine k_aload_n hx dL_law_466 2 rfl ?_
  refine k_vi (rest := [vI z_463]) hx vL_62 dL_law_467 (c_X6_fault hJ1) n_120 L_120 rfl rfl rfl ⟨rfl, rfl⟩ ⟨Nat.le_of_ble_eq_true rfl, Nat.le_of_ble_eq_true rfl⟩ (fun z_467 M_467 p_467 => ?_)
  obtain ⟨e2, h3, h4⟩ := p_467
  obtain rfl : z_467 = z_463 := e2.trans e1.symm
  refine k_icmp_eqS hx dL_law_470 ?_
  exact kk _ _ (inv_lo h1 h4) h3
theorem law_11 {x : Fx} {g : GE} {b Ln : Nat} {xs : Nat → Int32} (hx : Cx x g cL_law RL 4 room_1) (hs : SC x g b Ln xs) {z : Int} (hz : 0 ≤ z ∧ z + 4 ≤ Ln) {M : Mem} {σ : Sg} (hI : Inv M σ) (hJ : InvM M σ) (kk : ∀ (M' : Mem) (σ' : Sg), Inv M' σ' → InvM M' σ' → K x g 134 34947 LAY NN M' 900 [(0, .ref b), (1, vR g 0), (2, vR g 120), (3, vI z)] []) : K x g 134 34947 LAY NN M 475 [(0, .ref b), (1, vR g 0), (2, vR g 120), (3, vI z)] [] := by
  have hLn := hs.2.2.2
  refine k_aload_n hx dL_law_475 1 rfl ?_
  refine k_aload_n hx dL_law_476 0 rfl ?_
  refine k_iload_n hx dL_law_477 3 rfl ?_
  refine k_iconst hx dL_law_478 ?_
  refine k_iadd hx dL_law_479 ?_
  refine k_sld hx hs dL_law_480 (by omega) ?_
  refine k_vi (rest := []) hx vL_63 dL_law_481 (c_X5_load hI (scz_rg xs (z + 1))) n_0 L_0 rfl rfl rfl ⟨rfl, rfl⟩ ⟨Nat.le_of_ble_eq_true rfl, Nat.le_of_ble_eq_true rfl⟩ (fun z_481 M_481 p_481 => ?_)
  obtain ⟨e1, h1, h2⟩ := p_481
  have hJ1 := invM_hi hJ h2
  refine k_aload_n hx dL_law_484 2 rfl ?_
  refine k_aload_n hx dL_law_485 0 rfl ?_
  refine k_iload_n hx dL_law_486 3 rfl ?_
  refine k_iconst hx dL_law_487 ?_
  refine k_iadd hx dL_law_488 ?_
  refine k_sld hx hs dL_law_489 (by omega) ?_
  refine k_vi (rest := [vI z_481]) hx vL_66 dL_law_490 (c_X6_load hJ1 (scz_rg xs (z + 1))) n_120 L_120 rfl rfl rfl ⟨rfl, rfl⟩ ⟨Nat.le_of_ble_eq_true rfl, Nat.le_of_ble_eq_true rfl⟩ (fun z_490 M_490 p_490 => ?_)
  obtain ⟨e2, h3, h4⟩ := p_490
  obtain rfl : z_490 = z_481 := e2.trans e1.symm
  refine k_icmp_eqS hx dL_law_493 ?_
  exact kk _ _ (inv_lo h1 h4) h3
theorem law_12 {x : Fx} {g : GE} {b Ln : Nat} {xs : Nat → Int32} (hx : Cx x g cL_law RL 4 room_1) (hs : SC x g b Ln xs) {z : Int} (hz : 0 ≤ z ∧ z + 4 ≤ Ln) {M : Mem} {σ : Sg} (hI : Inv M σ) (hJ : InvM M σ) (kk : ∀ (M' : Mem) (σ' : Sg), Inv M' σ' → InvM M' σ' → K x g 134 34947 LAY NN M' 900 [(0, .ref b), (1, vR g 0), (2, vR g 120), (3, vI z)] []) : K x g 134 34947 LAY NN M 498 [(0, .ref b), (1, vR g 0), (2, vR g 120), (3, vI z)] [] := by
  have hLn := hs.2.2.2
  refine k_aload_n hx dL_law_498 1 rfl ?_
  refine k_aload_n hx dL_law_499 0 rfl ?_
  refine k_iload_n hx dL_law_500 3 rfl ?_
  refine k_iconst hx dL_law_501 ?_
  refine k_iadd hx dL_law_502 ?_
  refine k_sld hx hs dL_law_503 (by omega) ?_
  refine k_aload_n hx dL_law_504 0 rfl ?_
  refine k_iload_n hx dL_law_505 3 rfl ?_
  refine k_iconst hx dL_law_506 ?_
  refine k_iadd hx dL_law_507 ?_
  refine k_sld hx hs dL_law_508 (by omega) ?_
  refine k_vi (rest := []) hx vL_67 dL_law_509 (c_X5_crossing hI (scz_rg xs (z + 1)) (scz_rg xs (z + 2))) n_0 L_0 rfl rfl rfl ⟨rfl, rfl⟩ ⟨Nat.le_of_ble_eq_true rfl, Nat.le_of_ble_eq_true rfl⟩ (fun z_509 M_509 p_509 => ?_)
  obtain ⟨e1, h1, h2⟩ := p_509
  have hJ1 := invM_hi hJ h2
  refine k_aload_n hx dL_law_512 2 rfl ?_
  refine k_aload_n hx dL_law_513 0 rfl ?_
  refine k_iload_n hx dL_law_514 3 rfl ?_
  refine k_iconst hx dL_law_515 ?_
  refine k_iadd hx dL_law_516 ?_
  refine k_sld hx hs dL_law_517 (by omega) ?_
  refine k_aload_n hx dL_law_518 0 rfl ?_
  refine k_iload_n hx dL_law_519 3 rfl ?_
  refine k_iconst hx dL_law_520 ?_
  refine k_iadd hx dL_law_521 ?_
  refine k_sld hx hs dL_law_522 (by omega) ?_
  refine k_vi (rest := [vI z_509]) hx vL_70 dL_law_523 (c_X6_crossing hJ1 (scz_rg xs (z + 1)) (scz_rg xs (z + 2))) n_120 L_120 rfl rfl rfl ⟨rfl, rfl⟩ ⟨Nat.le_of_ble_eq_true rfl, Nat.le_of_ble_eq_true rfl⟩ (fun z_523 M_523 p_523 => ?_)
  obtain ⟨e2, h3, h4⟩ := p_523
  obtain rfl : z_523 = z_509 := e2.trans e1.symm
  refine k_icmp_eqS hx dL_law_526 ?_
  exact kk _ _ (inv_lo h1 h4) h3
theorem law_13 {x : Fx} {g : GE} {b Ln : Nat} {xs : Nat → Int32} (hx : Cx x g cL_law RL 4 room_1) (hs : SC x g b Ln xs) {z : Int} (hz : 0 ≤ z ∧ z + 4 ≤ Ln) {M : Mem} {σ : Sg} (hI : Inv M σ) (hJ : InvM M σ) (kk : ∀ (M' : Mem) (σ' : Sg), Inv M' σ' → InvM M' σ' → K x g 134 34947 LAY NN M' 900 [(0, .ref b), (1, vR g 0), (2, vR g 120), (3, vI z)] []) : K x g 134 34947 LAY NN M 531 [(0, .ref b), (1, vR g 0), (2, vR g 120), (3, vI z)] [] := by
  have hLn := hs.2.2.2
  refine k_aload_n hx dL_law_531 1 rfl ?_
  refine k_aload_n hx dL_law_532 0 rfl ?_
  refine k_iload_n hx dL_law_533 3 rfl ?_
  refine k_iconst hx dL_law_534 ?_
  refine k_iadd hx dL_law_535 ?_
  refine k_sld hx hs dL_law_536 (by omega) ?_
  refine k_aload_n hx dL_law_537 0 rfl ?_
  refine k_iload_n hx dL_law_538 3 rfl ?_
  refine k_iconst hx dL_law_539 ?_
  refine k_iadd hx dL_law_540 ?_
  refine k_sld hx hs dL_law_541 (by omega) ?_
  refine k_vi (rest := []) hx vL_71 dL_law_542 (c_X5_ofRope hI (scz_rg xs (z + 1)) (scz_rg xs (z + 2))) n_0 L_0 rfl rfl rfl ⟨rfl, rfl⟩ ⟨Nat.le_of_ble_eq_true rfl, Nat.le_of_ble_eq_true rfl⟩ (fun z_542 M_542 p_542 => ?_)
  obtain ⟨e1, h1, h2⟩ := p_542
  have hJ1 := invM_hi hJ h2
  refine k_aload_n hx dL_law_545 2 rfl ?_
  refine k_aload_n hx dL_law_546 0 rfl ?_
  refine k_iload_n hx dL_law_547 3 rfl ?_
  refine k_iconst hx dL_law_548 ?_
  refine k_iadd hx dL_law_549 ?_
  refine k_sld hx hs dL_law_550 (by omega) ?_
  refine k_aload_n hx dL_law_551 0 rfl ?_
  refine k_iload_n hx dL_law_552 3 rfl ?_
  refine k_iconst hx dL_law_553 ?_
  refine k_iadd hx dL_law_554 ?_
  refine k_sld hx hs dL_law_555 (by omega) ?_
  refine k_vi (rest := [vI z_542]) hx vL_74 dL_law_556 (c_X6_ofRope hJ1 (scz_rg xs (z + 1)) (scz_rg xs (z + 2))) n_120 L_120 rfl rfl rfl ⟨rfl, rfl⟩ ⟨Nat.le_of_ble_eq_true rfl, Nat.le_of_ble_eq_true rfl⟩ (fun z_556 M_556 p_556 => ?_)
  obtain ⟨e2, h3, h4⟩ := p_556
  obtain rfl : z_556 = z_542 := e2.trans e1.symm
  refine k_icmp_eqS hx dL_law_559 ?_
  exact kk _ _ (inv_lo h1 h4) h3
theorem law_14 {x : Fx} {g : GE} {b Ln : Nat} {xs : Nat → Int32} (hx : Cx x g cL_law RL 4 room_1) (hs : SC x g b Ln xs) {z : Int} (hz : 0 ≤ z ∧ z + 4 ≤ Ln) {M : Mem} {σ : Sg} (hI : Inv M σ) (hJ : InvM M σ) (kk : ∀ (M' : Mem) (σ' : Sg), Inv M' σ' → InvM M' σ' → K x g 134 34947 LAY NN M' 900 [(0, .ref b), (1, vR g 0), (2, vR g 120), (3, vI z)] []) : K x g 134 34947 LAY NN M 564 [(0, .ref b), (1, vR g 0), (2, vR g 120), (3, vI z)] [] := by
  have hLn := hs.2.2.2
  refine k_aload_n hx dL_law_564 1 rfl ?_
  refine k_aload_n hx dL_law_565 0 rfl ?_
  refine k_iload_n hx dL_law_566 3 rfl ?_
  refine k_iconst hx dL_law_567 ?_
  refine k_iadd hx dL_law_568 ?_
  refine k_sld hx hs dL_law_569 (by omega) ?_
  refine k_aload_n hx dL_law_570 0 rfl ?_
  refine k_iload_n hx dL_law_571 3 rfl ?_
  refine k_iconst hx dL_law_572 ?_
  refine k_iadd hx dL_law_573 ?_
  refine k_sld hx hs dL_law_574 (by omega) ?_
  refine k_vi (rest := []) hx vL_75 dL_law_575 (c_X5_winds hI (scz_rg xs (z + 1)) (scz_rg xs (z + 2))) n_0 L_0 rfl rfl rfl ⟨rfl, rfl⟩ ⟨Nat.le_of_ble_eq_true rfl, Nat.le_of_ble_eq_true rfl⟩ (fun z_575 M_575 p_575 => ?_)
  obtain ⟨e1, h1, h2⟩ := p_575
  have hJ1 := invM_hi hJ h2
  refine k_aload_n hx dL_law_578 2 rfl ?_
  refine k_aload_n hx dL_law_579 0 rfl ?_
  refine k_iload_n hx dL_law_580 3 rfl ?_
  refine k_iconst hx dL_law_581 ?_
  refine k_iadd hx dL_law_582 ?_
  refine k_sld hx hs dL_law_583 (by omega) ?_
  refine k_aload_n hx dL_law_584 0 rfl ?_
  refine k_iload_n hx dL_law_585 3 rfl ?_
  refine k_iconst hx dL_law_586 ?_
  refine k_iadd hx dL_law_587 ?_
  refine k_sld hx hs dL_law_588 (by omega) ?_
  refine k_vi (rest := [vI z_575]) hx vL_78 dL_law_589 (c_X6_winds hJ1 (scz_rg xs (z + 1)) (scz_rg xs (z + 2))) n_120 L_120 rfl rfl rfl ⟨rfl, rfl⟩ ⟨Nat.le_of_ble_eq_true rfl, Nat.le_of_ble_eq_true rfl⟩ (fun z_589 M_589 p_589 => ?_)
  obtain ⟨e2, h3, h4⟩ := p_589
  obtain rfl : z_589 = z_575 := e2.trans e1.symm
  refine k_icmp_eqS hx dL_law_592 ?_
  exact kk _ _ (inv_lo h1 h4) h3
theorem law_15 {x : Fx} {g : GE} {b Ln : Nat} {xs : Nat → Int32} (hx : Cx x g cL_law RL 4 room_1) (hs : SC x g b Ln xs) {z : Int} (hz : 0 ≤ z ∧ z + 4 ≤ Ln) {M : Mem} {σ : Sg} (hI : Inv M σ) (hJ : InvM M σ) (kk : ∀ (M' : Mem) (σ' : Sg), Inv M' σ' → InvM M' σ' → K x g 134 34947 LAY NN M' 900 [(0, .ref b), (1, vR g 0), (2, vR g 120), (3, vI z)] []) : K x g 134 34947 LAY NN M 597 [(0, .ref b), (1, vR g 0), (2, vR g 120), (3, vI z)] [] := by
  have hLn := hs.2.2.2
  refine k_aload_n hx dL_law_597 1 rfl ?_
  refine k_aload_n hx dL_law_598 0 rfl ?_
  refine k_iload_n hx dL_law_599 3 rfl ?_
  refine k_iconst hx dL_law_600 ?_
  refine k_iadd hx dL_law_601 ?_
  refine k_sld hx hs dL_law_602 (by omega) ?_
  refine k_aload_n hx dL_law_603 0 rfl ?_
  refine k_iload_n hx dL_law_604 3 rfl ?_
  refine k_iconst hx dL_law_605 ?_
  refine k_iadd hx dL_law_606 ?_
  refine k_sld hx hs dL_law_607 (by omega) ?_
  refine k_vi (rest := []) hx vL_79 dL_law_608 (c_X5_least hI (scz_rg xs (z + 1)) (scz_rg xs (z + 2))) n_0 L_0 rfl rfl rfl ⟨rfl, rfl⟩ ⟨Nat.le_of_ble_eq_true rfl, Nat.le_of_ble_eq_true rfl⟩ (fun z_608 M_608 p_608 => ?_)
  obtain ⟨e1, h1, h2⟩ := p_608
  have hJ1 := invM_hi hJ h2
  refine k_aload_n hx dL_law_611 2 rfl ?_
  refine k_aload_n hx dL_law_612 0 rfl ?_
  refine k_iload_n hx dL_law_613 3 rfl ?_
  refine k_iconst hx dL_law_614 ?_
  refine k_iadd hx dL_law_615 ?_
  refine k_sld hx hs dL_law_616 (by omega) ?_
  refine k_aload_n hx dL_law_617 0 rfl ?_
  refine k_iload_n hx dL_law_618 3 rfl ?_
  refine k_iconst hx dL_law_619 ?_
  refine k_iadd hx dL_law_620 ?_
  refine k_sld hx hs dL_law_621 (by omega) ?_
  refine k_vi (rest := [vI z_608]) hx vL_82 dL_law_622 (c_X6_least hJ1 (scz_rg xs (z + 1)) (scz_rg xs (z + 2))) n_120 L_120 rfl rfl rfl ⟨rfl, rfl⟩ ⟨Nat.le_of_ble_eq_true rfl, Nat.le_of_ble_eq_true rfl⟩ (fun z_622 M_622 p_622 => ?_)
  obtain ⟨e2, h3, h4⟩ := p_622
  obtain rfl : z_622 = z_608 := e2.trans e1.symm
  refine k_icmp_eqS hx dL_law_625 ?_
  exact kk _ _ (inv_lo h1 h4) h3
theorem law_16 {x : Fx} {g : GE} {b Ln : Nat} {xs : Nat → Int32} (hx : Cx x g cL_law RL 4 room_1) (hs : SC x g b Ln xs) {z : Int} (hz : 0 ≤ z ∧ z + 4 ≤ Ln) {M : Mem} {σ : Sg} (hI : Inv M σ) (hJ : InvM M σ) (kk : ∀ (M' : Mem) (σ' : Sg), Inv M' σ' → InvM M' σ' → K x g 134 34947 LAY NN M' 900 [(0, .ref b), (1, vR g 0), (2, vR g 120), (3, vI z)] []) : K x g 134 34947 LAY NN M 630 [(0, .ref b), (1, vR g 0), (2, vR g 120), (3, vI z)] [] := by
  have hLn := hs.2.2.2
  refine k_aload_n hx dL_law_630 1 rfl ?_
  refine k_aload_n hx dL_law_631 0 rfl ?_
  refine k_iload_n hx dL_law_632 3 rfl ?_
  refine k_iconst hx dL_law_633 ?_
  refine k_iadd hx dL_law_634 ?_
  refine k_sld hx hs dL_law_635 (by omega) ?_
  refine k_vi (rest := []) hx vL_83 dL_law_636 (c_X5_count hI (scz_rg xs (z + 1))) n_0 L_0 rfl rfl rfl ⟨rfl, rfl⟩ ⟨Nat.le_of_ble_eq_true rfl, Nat.le_of_ble_eq_true rfl⟩ (fun z_636 M_636 p_636 => ?_)
  obtain ⟨e1, h1, h2⟩ := p_636
  have hJ1 := invM_hi hJ h2
  refine k_aload_n hx dL_law_639 2 rfl ?_
  refine k_aload_n hx dL_law_640 0 rfl ?_
  refine k_iload_n hx dL_law_641 3 rfl ?_
  refine k_iconst hx dL_law_642 ?_
  refine k_iadd hx dL_law_643 ?_
  refine k_sld hx hs dL_law_644 (by omega) ?_
  refine k_vi (rest := [vI z_636]) hx vL_86 dL_law_645 (c_X6_count hJ1 (scz_rg xs (z + 1))) n_120 L_120 rfl rfl rfl ⟨rfl, rfl⟩ ⟨Nat.le_of_ble_eq_true rfl, Nat.le_of_ble_eq_true rfl⟩ (fun z_645 M_645 p_645 => ?_)
  obtain ⟨e2, h3, h4⟩ := p_645
  obtain rfl : z_645 = z_636 := e2.trans e1.symm
  refine k_icmp_eqS hx dL_law_648 ?_
  exact kk _ _ (inv_lo h1 h4) h3
theorem law_17 {x : Fx} {g : GE} {b Ln : Nat} {xs : Nat → Int32} (hx : Cx x g cL_law RL 4 room_1) (hs : SC x g b Ln xs) {z : Int} (hz : 0 ≤ z ∧ z + 4 ≤ Ln) {M : Mem} {σ : Sg} (hI : Inv M σ) (hJ : InvM M σ) (kk : ∀ (M' : Mem) (σ' : Sg), Inv M' σ' → InvM M' σ' → K x g 134 34947 LAY NN M' 900 [(0, .ref b), (1, vR g 0), (2, vR g 120), (3, vI z)] []) : K x g 134 34947 LAY NN M 653 [(0, .ref b), (1, vR g 0), (2, vR g 120), (3, vI z)] [] := by
  have hLn := hs.2.2.2
  refine k_aload_n hx dL_law_653 1 rfl ?_
  refine k_aload_n hx dL_law_654 0 rfl ?_
  refine k_iload_n hx dL_law_655 3 rfl ?_
  refine k_iconst hx dL_law_656 ?_
  refine k_iadd hx dL_law_657 ?_
  refine k_sld hx hs dL_law_658 (by omega) ?_
  refine k_aload_n hx dL_law_659 0 rfl ?_
  refine k_iload_n hx dL_law_660 3 rfl ?_
  refine k_iconst hx dL_law_661 ?_
  refine k_iadd hx dL_law_662 ?_
  refine k_sld hx hs dL_law_663 (by omega) ?_
  refine k_vi (rest := []) hx vL_87 dL_law_664 (c_X5_falls hI (scz_rg xs (z + 1)) (scz_rg xs (z + 2))) n_0 L_0 rfl rfl rfl ⟨rfl, rfl⟩ ⟨Nat.le_of_ble_eq_true rfl, Nat.le_of_ble_eq_true rfl⟩ (fun z_664 M_664 p_664 => ?_)
  obtain ⟨e1, h1, h2⟩ := p_664
  have hJ1 := invM_hi hJ h2
  refine k_aload_n hx dL_law_667 2 rfl ?_
  refine k_aload_n hx dL_law_668 0 rfl ?_
  refine k_iload_n hx dL_law_669 3 rfl ?_
  refine k_iconst hx dL_law_670 ?_
  refine k_iadd hx dL_law_671 ?_
  refine k_sld hx hs dL_law_672 (by omega) ?_
  refine k_aload_n hx dL_law_673 0 rfl ?_
  refine k_iload_n hx dL_law_674 3 rfl ?_
  refine k_iconst hx dL_law_675 ?_
  refine k_iadd hx dL_law_676 ?_
  refine k_sld hx hs dL_law_677 (by omega) ?_
  refine k_vi (rest := [vI z_664]) hx vL_90 dL_law_678 (c_X6_falls hJ1 (scz_rg xs (z + 1)) (scz_rg xs (z + 2))) n_120 L_120 rfl rfl rfl ⟨rfl, rfl⟩ ⟨Nat.le_of_ble_eq_true rfl, Nat.le_of_ble_eq_true rfl⟩ (fun z_678 M_678 p_678 => ?_)
  obtain ⟨e2, h3, h4⟩ := p_678
  obtain rfl : z_678 = z_664 := e2.trans e1.symm
  refine k_icmp_eqS hx dL_law_681 ?_
  exact kk _ _ (inv_lo h1 h4) h3
theorem law_18 {x : Fx} {g : GE} {b Ln : Nat} {xs : Nat → Int32} (hx : Cx x g cL_law RL 4 room_1) (hs : SC x g b Ln xs) {z : Int} (hz : 0 ≤ z ∧ z + 4 ≤ Ln) {M : Mem} {σ : Sg} (hI : Inv M σ) (hJ : InvM M σ) (kk : ∀ (M' : Mem) (σ' : Sg), Inv M' σ' → InvM M' σ' → K x g 134 34947 LAY NN M' 900 [(0, .ref b), (1, vR g 0), (2, vR g 120), (3, vI z)] []) : K x g 134 34947 LAY NN M 686 [(0, .ref b), (1, vR g 0), (2, vR g 120), (3, vI z)] [] := by
  have hLn := hs.2.2.2
  refine k_aload_n hx dL_law_686 1 rfl ?_
  refine k_aload_n hx dL_law_687 0 rfl ?_
  refine k_iload_n hx dL_law_688 3 rfl ?_
  refine k_iconst hx dL_law_689 ?_
  refine k_iadd hx dL_law_690 ?_
  refine k_sld hx hs dL_law_691 (by omega) ?_
  refine k_aload_n hx dL_law_692 0 rfl ?_
  refine k_iload_n hx dL_law_693 3 rfl ?_
  refine k_iconst hx dL_law_694 ?_
  refine k_iadd hx dL_law_695 ?_
  refine k_sld hx hs dL_law_696 (by omega) ?_
  refine k_vi (rest := []) hx vL_91 dL_law_697 (c_X5_fellingI hI (scz_rg xs (z + 1)) (scz_rg xs (z + 2))) n_0 L_0 rfl rfl rfl ⟨rfl, rfl⟩ ⟨Nat.le_of_ble_eq_true rfl, Nat.le_of_ble_eq_true rfl⟩ (fun z_697 M_697 p_697 => ?_)
  obtain ⟨e1, h1, h2⟩ := p_697
  have hJ1 := invM_hi hJ h2
  refine k_aload_n hx dL_law_700 2 rfl ?_
  refine k_aload_n hx dL_law_701 0 rfl ?_
  refine k_iload_n hx dL_law_702 3 rfl ?_
  refine k_iconst hx dL_law_703 ?_
  refine k_iadd hx dL_law_704 ?_
  refine k_sld hx hs dL_law_705 (by omega) ?_
  refine k_aload_n hx dL_law_706 0 rfl ?_
  refine k_iload_n hx dL_law_707 3 rfl ?_
  refine k_iconst hx dL_law_708 ?_
  refine k_iadd hx dL_law_709 ?_
  refine k_sld hx hs dL_law_710 (by omega) ?_
  refine k_vi (rest := [vI z_697]) hx vL_94 dL_law_711 (c_X6_felling hJ1 (scz_rg xs (z + 1)) (scz_rg xs (z + 2))) n_120 L_120 rfl rfl rfl ⟨rfl, rfl⟩ ⟨Nat.le_of_ble_eq_true rfl, Nat.le_of_ble_eq_true rfl⟩ (fun z_711 M_711 p_711 => ?_)
  obtain ⟨e2, h3, h4⟩ := p_711
  obtain rfl : z_711 = z_697 := e2.trans e1.symm
  refine k_icmp_eqS hx dL_law_714 ?_
  exact kk _ _ (inv_lo h1 h4) h3
theorem law_19 {x : Fx} {g : GE} {b Ln : Nat} {xs : Nat → Int32} (hx : Cx x g cL_law RL 4 room_1) (hs : SC x g b Ln xs) {z : Int} (hz : 0 ≤ z ∧ z + 4 ≤ Ln) {M : Mem} {σ : Sg} (hI : Inv M σ) (hJ : InvM M σ) (kk : ∀ (M' : Mem) (σ' : Sg), Inv M' σ' → InvM M' σ' → K x g 134 34947 LAY NN M' 900 [(0, .ref b), (1, vR g 0), (2, vR g 120), (3, vI z)] []) : K x g 134 34947 LAY NN M 719 [(0, .ref b), (1, vR g 0), (2, vR g 120), (3, vI z)] [] := by
  have hLn := hs.2.2.2
  refine k_aload_n hx dL_law_719 1 rfl ?_
  refine k_aload_n hx dL_law_720 0 rfl ?_
  refine k_iload_n hx dL_law_721 3 rfl ?_
  refine k_iconst hx dL_law_722 ?_
  refine k_iadd hx dL_law_723 ?_
  refine k_sld hx hs dL_law_724 (by omega) ?_
  refine k_aload_n hx dL_law_725 0 rfl ?_
  refine k_iload_n hx dL_law_726 3 rfl ?_
  refine k_iconst hx dL_law_727 ?_
  refine k_iadd hx dL_law_728 ?_
  refine k_sld hx hs dL_law_729 (by omega) ?_
  refine k_aload_n hx dL_law_730 0 rfl ?_
  refine k_iload_n hx dL_law_731 3 rfl ?_
  refine k_iconst hx dL_law_732 ?_
  refine k_iadd hx dL_law_733 ?_
  refine k_sld hx hs dL_law_734 (by omega) ?_
  refine k_vi (rest := []) hx vL_95 dL_law_735 (c_X5_both hI (scz_rg xs (z + 1)) (scz_rg xs (z + 2)) (scz_rg xs (z + 3))) n_0 L_0 rfl rfl rfl ⟨rfl, rfl⟩ ⟨Nat.le_of_ble_eq_true rfl, Nat.le_of_ble_eq_true rfl⟩ (fun z_735 M_735 p_735 => ?_)
  obtain ⟨e1, h1, h2⟩ := p_735
  have hJ1 := invM_hi hJ h2
  refine k_aload_n hx dL_law_738 2 rfl ?_
  refine k_aload_n hx dL_law_739 0 rfl ?_
  refine k_iload_n hx dL_law_740 3 rfl ?_
  refine k_iconst hx dL_law_741 ?_
  refine k_iadd hx dL_law_742 ?_
  refine k_sld hx hs dL_law_743 (by omega) ?_
  refine k_aload_n hx dL_law_744 0 rfl ?_
  refine k_iload_n hx dL_law_745 3 rfl ?_
  refine k_iconst hx dL_law_746 ?_
  refine k_iadd hx dL_law_747 ?_
  refine k_sld hx hs dL_law_748 (by omega) ?_
  refine k_aload_n hx dL_law_749 0 rfl ?_
  refine k_iload_n hx dL_law_750 3 rfl ?_
  refine k_iconst hx dL_law_751 ?_
  refine k_iadd hx dL_law_752 ?_
  refine k_sld hx hs dL_law_753 (by omega) ?_
  refine k_vi (rest := [vI z_735]) hx vL_99 dL_law_754 (c_X6_both hJ1 (scz_rg xs (z + 1)) (scz_rg xs (z + 2)) (scz_rg xs (z + 3))) n_120 L_120 rfl rfl rfl ⟨rfl, rfl⟩ ⟨Nat.le_of_ble_eq_true rfl, Nat.le_of_ble_eq_true rfl⟩ (fun z_754 M_754 p_754 => ?_)
  obtain ⟨e2, h3, h4⟩ := p_754
  obtain rfl : z_754 = z_735 := e2.trans e1.symm
  refine k_icmp_eqS hx dL_law_757 ?_
  exact kk _ _ (inv_lo h1 h4) h3
theorem law_20 {x : Fx} {g : GE} {b Ln : Nat} {xs : Nat → Int32} (hx : Cx x g cL_law RL 4 room_1) (hs : SC x g b Ln xs) {z : Int} (hz : 0 ≤ z ∧ z + 4 ≤ Ln) {M : Mem} {σ : Sg} (hI : Inv M σ) (hJ : InvM M σ) (kk : ∀ (M' : Mem) (σ' : Sg), Inv M' σ' → InvM M' σ' → K x g 134 34947 LAY NN M' 900 [(0, .ref b), (1, vR g 0), (2, vR g 120), (3, vI z)] []) : K x g 134 34947 LAY NN M 762 [(0, .ref b), (1, vR g 0), (2, vR g 120), (3, vI z)] [] := by
  have hLn := hs.2.2.2
  refine k_aload_n hx dL_law_762 1 rfl ?_
  refine k_aload_n hx dL_law_763 0 rfl ?_
  refine k_iload_n hx dL_law_764 3 rfl ?_
  refine k_iconst hx dL_law_765 ?_
  refine k_iadd hx dL_law_766 ?_
  refine k_sld hx hs dL_law_767 (by omega) ?_
  refine k_vi (rest := []) hx vL_100 dL_law_768 (c_X5_cuts hI (scz_rg xs (z + 1))) n_0 L_0 rfl rfl rfl ⟨rfl, rfl⟩ ⟨Nat.le_of_ble_eq_true rfl, Nat.le_of_ble_eq_true rfl⟩ (fun z_768 M_768 p_768 => ?_)
  obtain ⟨e1, h1, h2⟩ := p_768
  have hJ1 := invM_hi hJ h2
  refine k_aload_n hx dL_law_771 2 rfl ?_
  refine k_aload_n hx dL_law_772 0 rfl ?_
  refine k_iload_n hx dL_law_773 3 rfl ?_
  refine k_iconst hx dL_law_774 ?_
  refine k_iadd hx dL_law_775 ?_
  refine k_sld hx hs dL_law_776 (by omega) ?_
  refine k_vi (rest := [vI z_768]) hx vL_103 dL_law_777 (c_X6_cuts hJ1 (scz_rg xs (z + 1))) n_120 L_120 rfl rfl rfl ⟨rfl, rfl⟩ ⟨Nat.le_of_ble_eq_true rfl, Nat.le_of_ble_eq_true rfl⟩ (fun z_777 M_777 p_777 => ?_)
  obtain ⟨e2, h3, h4⟩ := p_777
  obtain rfl : z_777 = z_768 := e2.trans e1.symm
  refine k_icmp_eqS hx dL_law_780 ?_
  exact kk _ _ (inv_lo h1 h4) h3
theorem law_21 {x : Fx} {g : GE} {b Ln : Nat} {xs : Nat → Int32} (hx : Cx x g cL_law RL 4 room_1) (hs : SC x g b Ln xs) {z : Int} (hz : 0 ≤ z ∧ z + 4 ≤ Ln) {M : Mem} {σ : Sg} (hI : Inv M σ) (hJ : InvM M σ) (kk : ∀ (M' : Mem) (σ' : Sg), Inv M' σ' → InvM M' σ' → K x g 134 34947 LAY NN M' 900 [(0, .ref b), (1, vR g 0), (2, vR g 120), (3, vI z)] []) : K x g 134 34947 LAY NN M 785 [(0, .ref b), (1, vR g 0), (2, vR g 120), (3, vI z)] [] := by
  have hLn := hs.2.2.2
  refine k_aload_n hx dL_law_785 1 rfl ?_
  refine k_aload_n hx dL_law_786 0 rfl ?_
  refine k_iload_n hx dL_law_787 3 rfl ?_
  refine k_iconst hx dL_law_788 ?_
  refine k_iadd hx dL_law_789 ?_
  refine k_sld hx hs dL_law_790 (by omega) ?_
  refine k_aload_n hx dL_law_791 0 rfl ?_
  refine k_iload_n hx dL_law_792 3 rfl ?_
  refine k_iconst hx dL_law_793 ?_
  refine k_iadd hx dL_law_794 ?_
  refine k_sld hx hs dL_law_795 (by omega) ?_
  refine k_vi (rest := []) hx vL_104 dL_law_796 (c_X5_ifSwapped hI (scz_rg xs (z + 1)) (scz_rg xs (z + 2))) n_0 L_0 rfl rfl rfl ⟨rfl, rfl⟩ ⟨Nat.le_of_ble_eq_true rfl, Nat.le_of_ble_eq_true rfl⟩ (fun z_796 M_796 p_796 => ?_)
  obtain ⟨e1, h1, h2⟩ := p_796
  have hJ1 := invM_hi hJ h2
  refine k_aload_n hx dL_law_799 2 rfl ?_
  refine k_aload_n hx dL_law_800 0 rfl ?_
  refine k_iload_n hx dL_law_801 3 rfl ?_
  refine k_iconst hx dL_law_802 ?_
  refine k_iadd hx dL_law_803 ?_
  refine k_sld hx hs dL_law_804 (by omega) ?_
  refine k_aload_n hx dL_law_805 0 rfl ?_
  refine k_iload_n hx dL_law_806 3 rfl ?_
  refine k_iconst hx dL_law_807 ?_
  refine k_iadd hx dL_law_808 ?_
  refine k_sld hx hs dL_law_809 (by omega) ?_
  refine k_vi (rest := [vI z_796]) hx vL_107 dL_law_810 (c_X6_ifSwapped hJ1 (scz_rg xs (z + 1)) (scz_rg xs (z + 2))) n_120 L_120 rfl rfl rfl ⟨rfl, rfl⟩ ⟨Nat.le_of_ble_eq_true rfl, Nat.le_of_ble_eq_true rfl⟩ (fun z_810 M_810 p_810 => ?_)
  obtain ⟨e2, h3, h4⟩ := p_810
  obtain rfl : z_810 = z_796 := e2.trans e1.symm
  refine k_icmp_eqS hx dL_law_813 ?_
  exact kk _ _ (inv_lo h1 h4) h3
theorem law_22 {x : Fx} {g : GE} {b Ln : Nat} {xs : Nat → Int32} (hx : Cx x g cL_law RL 4 room_1) (hs : SC x g b Ln xs) {z : Int} (hz : 0 ≤ z ∧ z + 4 ≤ Ln) {M : Mem} {σ : Sg} (hI : Inv M σ) (hJ : InvM M σ) (kk : ∀ (M' : Mem) (σ' : Sg), Inv M' σ' → InvM M' σ' → K x g 134 34947 LAY NN M' 900 [(0, .ref b), (1, vR g 0), (2, vR g 120), (3, vI z)] []) : K x g 134 34947 LAY NN M 818 [(0, .ref b), (1, vR g 0), (2, vR g 120), (3, vI z)] [] := by
  have hLn := hs.2.2.2
  refine k_aload_n hx dL_law_818 1 rfl ?_
  refine k_aload_n hx dL_law_819 0 rfl ?_
  refine k_iload_n hx dL_law_820 3 rfl ?_
  refine k_iconst hx dL_law_821 ?_
  refine k_iadd hx dL_law_822 ?_
  refine k_sld hx hs dL_law_823 (by omega) ?_
  refine k_vi (rest := []) hx vL_108 dL_law_824 (c_X5_bestSwap hI (scz_rg xs (z + 1))) n_0 L_0 rfl rfl rfl ⟨rfl, rfl⟩ ⟨Nat.le_of_ble_eq_true rfl, Nat.le_of_ble_eq_true rfl⟩ (fun z_824 M_824 p_824 => ?_)
  obtain ⟨e1, h1, h2⟩ := p_824
  have hJ1 := invM_hi hJ h2
  refine k_aload_n hx dL_law_827 2 rfl ?_
  refine k_aload_n hx dL_law_828 0 rfl ?_
  refine k_iload_n hx dL_law_829 3 rfl ?_
  refine k_iconst hx dL_law_830 ?_
  refine k_iadd hx dL_law_831 ?_
  refine k_sld hx hs dL_law_832 (by omega) ?_
  refine k_vi (rest := [vI z_824]) hx vL_111 dL_law_833 (c_X6_bestSwap hJ1 (scz_rg xs (z + 1))) n_120 L_120 rfl rfl rfl ⟨rfl, rfl⟩ ⟨Nat.le_of_ble_eq_true rfl, Nat.le_of_ble_eq_true rfl⟩ (fun z_833 M_833 p_833 => ?_)
  obtain ⟨e2, h3, h4⟩ := p_833
  obtain rfl : z_833 = z_824 := e2.trans e1.symm
  refine k_icmp_eqS hx dL_law_836 ?_
  exact kk _ _ (inv_lo h1 h4) h3
theorem law_23 {x : Fx} {g : GE} {b Ln : Nat} {xs : Nat → Int32} (hx : Cx x g cL_law RL 4 room_1) (hs : SC x g b Ln xs) {z : Int} (hz : 0 ≤ z ∧ z + 4 ≤ Ln) {M : Mem} {σ : Sg} (hI : Inv M σ) (hJ : InvM M σ) (kk : ∀ (M' : Mem) (σ' : Sg), Inv M' σ' → InvM M' σ' → K x g 134 34947 LAY NN M' 900 [(0, .ref b), (1, vR g 0), (2, vR g 120), (3, vI z)] []) : K x g 134 34947 LAY NN M 841 [(0, .ref b), (1, vR g 0), (2, vR g 120), (3, vI z)] [] := by
  have hLn := hs.2.2.2
  refine k_aload_n hx dL_law_841 1 rfl ?_
  refine k_vi (rest := []) hx vL_112 dL_law_842 (c_X5_undo hI) n_0 L_0 rfl rfl rfl ⟨rfl, rfl⟩ ⟨Nat.le_of_ble_eq_true rfl, Nat.le_of_ble_eq_true rfl⟩ (fun z_842 M_842 p_842 => ?_)
  obtain ⟨e1, h1, h2⟩ := p_842
  have hJ1 := invM_hi hJ h2
  refine k_aload_n hx dL_law_845 2 rfl ?_
  refine k_vi (rest := [vI z_842]) hx vL_115 dL_law_846 (c_X6_undo hJ1) n_120 L_120 rfl rfl rfl ⟨rfl, rfl⟩ ⟨Nat.le_of_ble_eq_true rfl, Nat.le_of_ble_eq_true rfl⟩ (fun z_846 M_846 p_846 => ?_)
  obtain ⟨e2, h3, h4⟩ := p_846
  obtain rfl : z_846 = z_842 := e2.trans e1.symm
  refine k_icmp_eqS hx dL_law_849 ?_
  exact kk _ _ (inv_lo h1 h4) h3
theorem law_24 {x : Fx} {g : GE} {b Ln : Nat} {xs : Nat → Int32} (hx : Cx x g cL_law RL 4 room_1) (hs : SC x g b Ln xs) {z : Int} (hz : 0 ≤ z ∧ z + 4 ≤ Ln) {M : Mem} {σ : Sg} (hI : Inv M σ) (hJ : InvM M σ) (kk : ∀ (M' : Mem) (σ' : Sg), Inv M' σ' → InvM M' σ' → K x g 134 34947 LAY NN M' 900 [(0, .ref b), (1, vR g 0), (2, vR g 120), (3, vI z)] []) : K x g 134 34947 LAY NN M 854 [(0, .ref b), (1, vR g 0), (2, vR g 120), (3, vI z)] [] := by
  have hLn := hs.2.2.2
  refine k_aload_n hx dL_law_854 1 rfl ?_
  refine k_aload_n hx dL_law_855 0 rfl ?_
  refine k_iload_n hx dL_law_856 3 rfl ?_
  refine k_iconst hx dL_law_857 ?_
  refine k_iadd hx dL_law_858 ?_
  refine k_sld hx hs dL_law_859 (by omega) ?_
  refine k_vi (rest := []) hx vL_116 dL_law_860 (c_X5_save hI (scz_rg xs (z + 1))) n_0 L_0 rfl rfl rfl ⟨rfl, rfl⟩ ⟨Nat.le_of_ble_eq_true rfl, Nat.le_of_ble_eq_true rfl⟩ (fun z_860 M_860 p_860 => ?_)
  obtain ⟨e1, h1, h2⟩ := p_860
  have hJ1 := invM_hi hJ h2
  refine k_aload_n hx dL_law_863 2 rfl ?_
  refine k_aload_n hx dL_law_864 0 rfl ?_
  refine k_iload_n hx dL_law_865 3 rfl ?_
  refine k_iconst hx dL_law_866 ?_
  refine k_iadd hx dL_law_867 ?_
  refine k_sld hx hs dL_law_868 (by omega) ?_
  refine k_vi (rest := [vI z_860]) hx vL_119 dL_law_869 (c_X6_save hJ1 (scz_rg xs (z + 1))) n_120 L_120 rfl rfl rfl ⟨rfl, rfl⟩ ⟨Nat.le_of_ble_eq_true rfl, Nat.le_of_ble_eq_true rfl⟩ (fun z_869 M_869 p_869 => ?_)
  obtain ⟨e2, h3, h4⟩ := p_869
  obtain rfl : z_869 = z_860 := e2.trans e1.symm
  refine k_icmp_eqS hx dL_law_872 ?_
  exact kk _ _ (inv_lo h1 h4) h3
theorem law_25 {x : Fx} {g : GE} {b Ln : Nat} {xs : Nat → Int32} (hx : Cx x g cL_law RL 4 room_1) (hs : SC x g b Ln xs) {z : Int} (hz : 0 ≤ z ∧ z + 4 ≤ Ln) {M : Mem} {σ : Sg} (hI : Inv M σ) (hJ : InvM M σ) (kk : ∀ (M' : Mem) (σ' : Sg), Inv M' σ' → InvM M' σ' → K x g 134 34947 LAY NN M' 900 [(0, .ref b), (1, vR g 0), (2, vR g 120), (3, vI z)] []) : K x g 134 34947 LAY NN M 877 [(0, .ref b), (1, vR g 0), (2, vR g 120), (3, vI z)] [] := by
  have hLn := hs.2.2.2
  refine k_aload_n hx dL_law_877 1 rfl ?_
  refine k_aload_n hx dL_law_878 0 rfl ?_
  refine k_iload_n hx dL_law_879 3 rfl ?_
  refine k_iconst hx dL_law_880 ?_
  refine k_iadd hx dL_law_881 ?_
  refine k_sld hx hs dL_law_882 (by omega) ?_
  refine k_vi (rest := []) hx vL_120 dL_law_883 (c_X5_restore hI (scz_rg xs (z + 1))) n_0 L_0 rfl rfl rfl ⟨rfl, rfl⟩ ⟨Nat.le_of_ble_eq_true rfl, Nat.le_of_ble_eq_true rfl⟩ (fun z_883 M_883 p_883 => ?_)
  obtain ⟨e1, h1, h2⟩ := p_883
  have hJ1 := invM_hi hJ h2
  refine k_aload_n hx dL_law_886 2 rfl ?_
  refine k_aload_n hx dL_law_887 0 rfl ?_
  refine k_iload_n hx dL_law_888 3 rfl ?_
  refine k_iconst hx dL_law_889 ?_
  refine k_iadd hx dL_law_890 ?_
  refine k_sld hx hs dL_law_891 (by omega) ?_
  refine k_vi (rest := [vI z_883]) hx vL_123 dL_law_892 (c_X6_restore hJ1 (scz_rg xs (z + 1))) n_120 L_120 rfl rfl rfl ⟨rfl, rfl⟩ ⟨Nat.le_of_ble_eq_true rfl, Nat.le_of_ble_eq_true rfl⟩ (fun z_892 M_892 p_892 => ?_)
  obtain ⟨e2, h3, h4⟩ := p_892
  obtain rfl : z_892 = z_883 := e2.trans e1.symm
  refine k_icmp_eqS hx dL_law_895 ?_
  exact kk _ _ (inv_lo h1 h4) h3
theorem law_loop {x : Fx} {g : GE} {b Ln : Nat} {xs : Nat → Int32} (hx : Cx x g cL_law RL 4 room_1) (hs : SC x g b Ln xs) (fin : ∀ (M : Mem) (ls : List (Nat × Value)), K x g 134 34947 LAY NN M 907 ls [vI 1]) : ∀ (f : Nat) (z : Int) (M : Mem) (σ : Sg), (0 ≤ z ∧ z ≤ Ln) → Ln - z < f → Inv M σ → InvM M σ → K x g 134 34947 LAY NN M 18 [(0, .ref b), (1, vR g 0), (2, vR g 120), (3, vI z)] [] := by
  have hLn := hs.2.2.2
  intro f
  induction f with
  | zero => intro z M σ h0 hf hI hJ; omega
  | succ f ih =>
    intro z M σ h0 hf hI hJ
    refine k_iload_n hx dL_law_18 3 rfl ?_
    refine k_aload_n hx dL_law_19 0 rfl ?_
    refine k_slen hx hs dL_law_20 ?_
    refine k_iconst hx dL_law_21 ?_
    refine k_isub hx dL_law_22 ?_
    refine k_icmp_gt hx dL_law_23 (by omega) (fun h_23 => ?_) (fun h_23 => ?_)
    · refine k_iconst hx dL_law_906 ?_
      exact fin _ _
    · have hz : 0 ≤ z ∧ z + 4 ≤ Ln := by omega
      refine k_aload_n hx dL_law_26 0 rfl ?_
      refine k_iload_n hx dL_law_27 3 rfl ?_
      refine k_sld hx hs dL_law_28 (by omega) ?_
      obtain ⟨a, har, ha⟩ : ∃ a : Int, (-2147483648 ≤ a ∧ a < 2147483648) ∧ zI (scz xs z) &&& zI 31 = zI a := ⟨_, i32_rg _, (zI_of _).symm⟩
      refine k_bipush hx dL_law_29 (by decide +kernel) ?_
      refine k_iand (v := zI a) hx dL_law_31 (ha) ?_
      have next : ∀ (M' : Mem) (σ' : Sg), Inv M' σ' → InvM M' σ' → K x g 134 34947 LAY NN M' 900 [(0, .ref b), (1, vR g 0), (2, vR g 120), (3, vI z)] [] := by
        intro M' σ' hI2 hJ2
        refine k_iinc (ls' := [(0, .ref b), (1, vR g 0), (2, vR g 120), (3, vI (z + 4))]) hx dL_law_900 3 rfl rfl rfl (by decide) ?_
        refine k_goto hx dL_law_903 ?_
        exact ih (z + 4) _ _ (by omega) (by omega) hI2 hJ2
      rcases (show a = 0 ∨ a = 1 ∨ a = 2 ∨ a = 3 ∨ a = 4 ∨ a = 5 ∨ a = 6 ∨ a = 7 ∨ a = 8 ∨ a = 9 ∨ a = 10 ∨ a = 11 ∨ a = 12 ∨ a = 13 ∨ a = 14 ∨ a = 15 ∨ a = 16 ∨ a = 17 ∨ a = 18 ∨ a = 19 ∨ a = 20 ∨ a = 21 ∨ a = 22 ∨ a = 23 ∨ a = 24 ∨ a = 25 ∨ (a < 0 ∨ 25 < a) by omega) with rfl | rfl | rfl | rfl | rfl | rfl | rfl | rfl | rfl | rfl | rfl | rfl | rfl | rfl | rfl | rfl | rfl | rfl | rfl | rfl | rfl | rfl | rfl | rfl | rfl | rfl | hout
      · refine k_tsIn (off := 120) (tgt := 152) hx dL_law_32 (by omega) (by omega) (by omega) rfl rfl ?_
        exact law_0 hx hs (by omega) hI hJ next
      · refine k_tsIn (off := 153) (tgt := 185) hx dL_law_32 (by omega) (by omega) (by omega) rfl rfl ?_
        exact law_1 hx hs (by omega) hI hJ next
      · refine k_tsIn (off := 186) (tgt := 218) hx dL_law_32 (by omega) (by omega) (by omega) rfl rfl ?_
        exact law_2 hx hs (by omega) hI hJ next
      · refine k_tsIn (off := 219) (tgt := 251) hx dL_law_32 (by omega) (by omega) (by omega) rfl rfl ?_
        exact law_3 hx hs (by omega) hI hJ next
      · refine k_tsIn (off := 242) (tgt := 274) hx dL_law_32 (by omega) (by omega) (by omega) rfl rfl ?_
        exact law_4 hx hs (by omega) hI hJ next
      · refine k_tsIn (off := 275) (tgt := 307) hx dL_law_32 (by omega) (by omega) (by omega) rfl rfl ?_
        exact law_5 hx hs (by omega) hI hJ next
      · refine k_tsIn (off := 298) (tgt := 330) hx dL_law_32 (by omega) (by omega) (by omega) rfl rfl ?_
        exact law_6 hx hs (by omega) hI hJ next
      · refine k_tsIn (off := 331) (tgt := 363) hx dL_law_32 (by omega) (by omega) (by omega) rfl rfl ?_
        exact law_7 hx hs (by omega) hI hJ next
      · refine k_tsIn (off := 364) (tgt := 396) hx dL_law_32 (by omega) (by omega) (by omega) rfl rfl ?_
        exact law_8 hx hs (by omega) hI hJ next
      · refine k_tsIn (off := 417) (tgt := 449) hx dL_law_32 (by omega) (by omega) (by omega) rfl rfl ?_
        exact law_9 hx hs (by omega) hI hJ next
      · refine k_tsIn (off := 430) (tgt := 462) hx dL_law_32 (by omega) (by omega) (by omega) rfl rfl ?_
        exact law_10 hx hs (by omega) hI hJ next
      · refine k_tsIn (off := 443) (tgt := 475) hx dL_law_32 (by omega) (by omega) (by omega) rfl rfl ?_
        exact law_11 hx hs (by omega) hI hJ next
      · refine k_tsIn (off := 466) (tgt := 498) hx dL_law_32 (by omega) (by omega) (by omega) rfl rfl ?_
        exact law_12 hx hs (by omega) hI hJ next
      · refine k_tsIn (off := 499) (tgt := 531) hx dL_law_32 (by omega) (by omega) (by omega) rfl rfl ?_
        exact law_13 hx hs (by omega) hI hJ next
      · refine k_tsIn (off := 532) (tgt := 564) hx dL_law_32 (by omega) (by omega) (by omega) rfl rfl ?_
        exact law_14 hx hs (by omega) hI hJ next
      · refine k_tsIn (off := 565) (tgt := 597) hx dL_law_32 (by omega) (by omega) (by omega) rfl rfl ?_
        exact law_15 hx hs (by omega) hI hJ next
      · refine k_tsIn (off := 598) (tgt := 630) hx dL_law_32 (by omega) (by omega) (by omega) rfl rfl ?_
        exact law_16 hx hs (by omega) hI hJ next
      · refine k_tsIn (off := 621) (tgt := 653) hx dL_law_32 (by omega) (by omega) (by omega) rfl rfl ?_
        exact law_17 hx hs (by omega) hI hJ next
      · refine k_tsIn (off := 654) (tgt := 686) hx dL_law_32 (by omega) (by omega) (by omega) rfl rfl ?_
        exact law_18 hx hs (by omega) hI hJ next
      · refine k_tsIn (off := 687) (tgt := 719) hx dL_law_32 (by omega) (by omega) (by omega) rfl rfl ?_
        exact law_19 hx hs (by omega) hI hJ next
      · refine k_tsIn (off := 730) (tgt := 762) hx dL_law_32 (by omega) (by omega) (by omega) rfl rfl ?_
        exact law_20 hx hs (by omega) hI hJ next
      · refine k_tsIn (off := 753) (tgt := 785) hx dL_law_32 (by omega) (by omega) (by omega) rfl rfl ?_
        exact law_21 hx hs (by omega) hI hJ next
      · refine k_tsIn (off := 786) (tgt := 818) hx dL_law_32 (by omega) (by omega) (by omega) rfl rfl ?_
        exact law_22 hx hs (by omega) hI hJ next
      · refine k_tsIn (off := 809) (tgt := 841) hx dL_law_32 (by omega) (by omega) (by omega) rfl rfl ?_
        exact law_23 hx hs (by omega) hI hJ next
      · refine k_tsIn (off := 822) (tgt := 854) hx dL_law_32 (by omega) (by omega) (by omega) rfl rfl ?_
        exact law_24 hx hs (by omega) hI hJ next
      · refine k_tsIn (off := 845) (tgt := 877) hx dL_law_32 (by omega) (by omega) (by omega) rfl rfl ?_
        exact law_25 hx hs (by omega) hI hJ next
      · refine k_tsOut (tgt := 900) hx dL_law_32 rfl (by omega) (by omega) ?_
        exact next _ _ hI hJ

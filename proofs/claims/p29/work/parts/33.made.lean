/-! the law: arrays that are made, the script, calls of methods that make arrays -/
def Sm (g g1 : GE) : Prop := g1.1 = g.1 ∧ g1.2.1 = g.2.1 ∧ g1.2.2.1 = g.2.2.1
abbrev rf (a i : Nat) : Value := .ref (a + i)
theorem Sm.rf {g : GE} : Sm g g := ⟨rfl, rfl, rfl⟩
theorem Cx.sm {x : Fx} {g g1 : GE} {cc : ByteArray} {own : String} {nL : Nat} {R : Room} (h : Sm g g1) (hx : Cx x g cc own nL R) : Cx x g1 cc own nL R := by
  obtain ⟨a, b, c, d⟩ := g
  obtain ⟨a', b', c', d'⟩ := g1
  obtain ⟨h1, h2, h3⟩ := h
  dsimp only at h1 h2 h3
  subst h1; subst h2; subst h3
  exact hx
theorem Rx.sm {x : Fx} {g g1 : GE} {mc ms : Nat} {ret : Option FieldType} {post : Option Value → Lay → Nat → Mem → Prop} (hr : Rx x g mc ms ret post) (h : Sm g g1) : Rx x g1 mc ms ret post := by
  obtain ⟨a, b, c, d⟩ := g
  obtain ⟨a', b', c', d'⟩ := g1
  obtain ⟨h1, h2, h3⟩ := h
  dsimp only at h1 h2 h3
  subst h1; subst h2; subst h3
  exact hr
theorem K.wid {x : Fx} {g : GE} {cs sl cs' sl' : Nat} {L : Lay} {n : Nat} {M : Mem} {pc : Nat} {ls : List (Nat × Value)} {st : List Value} (h : cs ≤ cs' ∧ sl ≤ sl') (k : K x g cs' sl' L n M pc ls st) : K x g cs sl L n M pc ls st := fun H locs la hR hS hl => W.widen h.1 h.2 (k H locs la hR hS hl)
/-- the world has grown to n -/
def gk (g : GE) (k : Nat) : GE := (g.1, g.2.1, g.2.2.1, k)
def PA (post : Int → Mem → Prop) : Option Value → Lay → Nat → Mem → Prop := fun r L n M' => L = LAY ∧ 120 ≤ n ∧ ∃ z, r = some (vI z) ∧ post z M'
def Ca (g : GE) (l : Launch) (μ : Mu) (mc ms : Nat) (av : List Value) (M : Mem) (post : Int → Mem → Prop) : Prop := Ct g l μ mc ms av LAY (NN g) M (PA post)
theorem Ca.of {g : GE} {l : Launch} {μ : Mu} {mc ms : Nat} {av : List Value} {M : Mem} {post : Int → Mem → Prop} (hy : plainName μ.1.cls = true) (hav : Nat.ble (lg_sl av).length μ.2.2.1 = true) {ls : List (Nat × Value)} (hls : lv_args 0 av = ls)
    (body : ∀ x : Fx, Cx x g μ.2.1 μ.1.cls μ.2.2.1 (mRm μ mc ms) → Rx x g mc ms μ.2.2.2.1 (PA post) → K x g 0 0 LAY (NN g) M 0 ls []) : Ca g l μ mc ms av M post := Ct.of hy hav (fun x _ hx _ hr => hls ▸ body x hx hr)
/-- the script's numbers -/
def scz (xs : Nat → Int32) (z : Int) : Int := (xs z.toNat).toInt
theorem scz_rg (xs : Nat → Int32) (z : Int) : -2147483648 ≤ scz xs z ∧ scz xs z < 2147483648 := i32_rg _
def SC (x : Fx) (g : GE) (b Ln : Nat) (xs : Nat → Int32) : Prop := va_X b Ln xs (xS x) (xS x).heap ∧ b < g.1 ∧ Ln ≤ 260
theorem SC.lt {x : Fx} {g : GE} {b Ln : Nat} {xs : Nat → Int32} (h : SC x g b Ln xs) : b < (xS x).heap.size := by
  obtain ⟨⟨scr, h1, -⟩, -⟩ := h
  exact (Array.getElem?_eq_some_iff.mp h1).1
theorem SC.sm {x : Fx} {g g1 : GE} {b Ln : Nat} {xs : Nat → Int32} (h : SC x g b Ln xs) (hs : Sm g g1) : SC x g1 b Ln xs := ⟨h.1, by rw [hs.1]; exact h.2.1, h.2.2⟩
def Pzs (g : GE) (av : List Value) (L : Lay) (n : Nat) (M : Mem) (b Ln : Nat) (xs : Nat → Int32) : Array Value → State → Prop := fun a U => Pz g av L n M a U ∧ va_X b Ln xs U U.heap ∧ b < g.1 ∧ Ln ≤ 260
/-- a contract of a method that reads the script -/
def Cts (g : GE) (l : Launch) (μ : Mu) (mc ms : Nat) (av : List Value) (L : Lay) (n : Nat) (M : Mem) (b Ln : Nat) (xs : Nat → Int32) (post : Option Value → Lay → Nat → Mem → Prop) : Prop :=
  Met l μ.1 (mW μ) (mRm μ mc ms) (Pzs g av L n M b Ln xs) (Qz g post) mc ms (fun q => g.1 ≤ q)
theorem Pzs.blind {g : GE} {av : List Value} {L : Lay} {n : Nat} {M : Mem} {b Ln : Nat} {xs : Nat → Int32} : FrameBlind (Pzs g av L n M b Ln xs) := fun a U q mk h => ⟨Pz.blind a U q mk h.1, va_X.moved (Vm.Alike.refl _) h.2.1, h.2.2⟩
theorem Cts.of {g : GE} {l : Launch} {μ : Mu} {mc ms : Nat} {av : List Value} {L : Lay} {n : Nat} {M : Mem} {b Ln : Nat} {xs : Nat → Int32} {post : Option Value → Lay → Nat → Mem → Prop} (hy : plainName μ.1.cls = true) (hav : Nat.ble (lg_sl av).length μ.2.2.1 = true) {ls : List (Nat × Value)} (hls : lv_args 0 av = ls)
    (body : ∀ x : Fx, Cx x g μ.2.1 μ.1.cls μ.2.2.1 (mRm μ mc ms) → SC x g b Ln xs → Rx x g mc ms μ.2.2.2.1 post → K x g 0 0 L n M 0 ls []) : Cts g l μ mc ms av L n M b Ln xs post := by
  refine Met.ofW (cc := μ.2.1) (maxL := μ.2.2.1) (ret := μ.2.2.2.1) hy rfl ?_
  intro p e s m args below meth c s₁ B hml hv
  obtain ⟨⟨rfl, hR, hK⟩, hX⟩ := hv
  have hts := atoms_spec (ws := mW μ) B.pre
  have hl := lv_entry av (n := μ.2.2.1) (Nat.le_of_ble_eq_true hav)
  have k := body (p, l, e, mRm μ mc ms, s, m, av.toArray, below, meth, c, MQ below (Qz g post) av.toArray s mc ms (fun q => g.1 ≤ q))
    ⟨B.exec, B.bytes, hml, findClass_of_methodNamed B.named, fun w h => hts w (List.mem_cons_of_mem _ h), hK, rfl⟩ hX ⟨B.notSynchronized, B.returns, rfl⟩
  rw [lg_entry_eq]
  subst hls
  refine k s.heap [] _ hR va_S.rf ?_
  show lv_has _ c.maxLocals _
  rw [hml]
  exact hl
section LROWS
variable {x : Fx} {g : GE} {cc : ByteArray} {own : String} {nL : Nat} {R : Room} {cs sl mc ms : Nat} {L : Lay} {n : Nat} {M : Mem} {pc pc' tgt index na b Ln : Nat} {xs : Nat → Int32} {μ : Mu}
theorem k_ldc {ls : List (Nat × Value)} {st : List Value} (hx : Cx x g cc own nL R) {v : Int} (hd : At cc pc (.ldc index) 2 pc') (hc : Cond.constant own index (zI v) ∈ TB) (kk : K x g cs sl L n M pc' ls (vI v :: st)) : K x g cs sl L n M pc ls st := by
  intro H locs la hR hS hl
  obtain ⟨hex, hcc, hnl, how, hts, hK, -⟩ := hx
  obtain ⟨hd1, hd2⟩ := hd
  subst hd2
  exact lv_ldc hex hcc how (hts _ hc) hd1 (kk H locs la hR hS hl)
theorem k_sld {ls : List (Nat × Value)} {st : List Value} (hx : Cx x g cc own nL R) (hs : SC x g b Ln xs) {z : Int} (hd : At cc pc .iaload 1 pc') (hz : 0 ≤ z ∧ z < Ln) (kk : K x g cs sl L n M pc' ls (vI (scz xs z) :: st)) : K x g cs sl L n M pc ls (vI z :: .ref b :: st) := by
  intro H locs la hR hS hl
  obtain ⟨h1, h2⟩ := hd; subst h2
  have hbs := hs.lt
  obtain ⟨hX, hg, hL⟩ := hs
  have hc := zI_clamp (N := Ln) hz.1 hz.2 (by omega)
  have hn : (zI z).toNatClampNeg = z.toNat := by omega
  refine va_sld hx.1 hx.2.1 hX hbs (by show ¬ g.1 ≤ b; omega) hS (zI_in hz.1 hz.2 (by omega)) h1 ?_
  have e : vI (scz xs z) = Value.int (xs z.toNat) := congrArg Value.int (zI_of _)
  rw [hn, ← e]
  exact kk H locs la hR hS hl
theorem k_slen {ls : List (Nat × Value)} {st : List Value} (hx : Cx x g cc own nL R) (hs : SC x g b Ln xs) (hd : At cc pc .arraylength 1 pc') (kk : K x g cs sl L n M pc' ls (vI Ln :: st)) : K x g cs sl L n M pc ls (.ref b :: st) := by
  intro H locs la hR hS hl
  obtain ⟨h1, h2⟩ := hd; subst h2
  have hbs := hs.lt
  obtain ⟨hX, hg, hL⟩ := hs
  refine va_slen hx.1 hx.2.1 hX hbs (by show ¬ g.1 ≤ b; omega) hS h1 ?_
  have e : vI (Ln : Int) = Value.int (Int32.ofNat Ln) := congrArg Value.int Int32.ofInt_eq_ofNat
  rw [← e]
  exact kk H locs la hR hS hl
theorem k_za {ls : List (Nat × Value)} {post : Int → Mem → Prop} (hx : Cx x g cc own nL R) (hm : Rx x g mc ms (some .boolean) (PA post)) (hw : cs ≤ mc ∧ sl ≤ ms) {z : Int} (hd : At cc pc .ireturn 1 (pc + 1)) (hz : z = 0 ∨ z = 1) (hp : post z M) : K x g cs sl LAY (NN g) M pc ls [vI z] := K.wid hw (k_zret hx hm hd hz ⟨rfl, Nat.le_add_right _ _, z, rfl, hp⟩)
theorem k_new64 {ls : Nat → List (Nat × Value)} {st : Nat → List Value} (hx : Cx x g cc own nL R) (hd : At cc pc (.newarray .int) 2 pc') (hc : cs + 1 ≤ R.cells ∧ sl + 64 ≤ R.slots)
    (kk : ∀ (g1 : GE) (i : Nat) (M' : Mem), Sm g g1 → IsA g1 i → (∀ j, IsA g j → IsA g1 j ∧ j ≠ i) → OA i M M' → K x g1 (cs + 1) (sl + 64) LAY (NN g1) M' pc' (ls g1.1) (vR g1 i :: st g1.1)) : K x g cs sl LAY (NN g) M pc (ls g.1) (vI 64 :: st g.1) := by
  refine k_newaI (N := 64) hx hd rfl (by decide) hc (fun L' M' hL hM => ?_)
  have e : L' = LAY := by
    rw [hL]; funext j
    by_cases h : j = NN g
    · subst h; rw [upL_s, LAY_hi (Nat.le_add_right _ _)]
    · rw [upL_n h]
  subst e
  exact kk (gk g (g.2.2.2 + 1)) (NN g) M' ⟨rfl, rfl, rfl⟩ ⟨Nat.le_add_right _ _, Nat.lt_succ_self _⟩ (fun j hj => ⟨⟨hj.1, Nat.lt_succ_of_lt hj.2⟩, Nat.ne_of_lt hj.2⟩) (fun a ha => by rw [hM, clr_n ha])
/-- a call of a method that makes arrays -/
theorem k_sa {post : Int → Mem → Prop} {ls : Nat → List (Nat × Value)} {As : Nat → List Value} (hx : Cx x g cc own nL R) (hlk : lkS own index μ na) (hd : At cc pc (.invokestatic index) 3 pc') (hC : Ca g (xL x) μ mc ms (As g.1) M post) (hn : (As g.1).length = na) {st : List Value} (hst : st = (As g.1).reverse) (hroom : Nat.ble (μ.2.2.2.2.1 + 1) R.frames = true ∧ Nat.ble (8 + (μ.2.2.1 + 11) + μ.2.2.2.2.2) R.locals = true) (hcell : cs + mc ≤ R.cells ∧ sl + ms ≤ R.slots)
    (kk : ∀ (g1 : GE) (z : Int) (M' : Mem), Sm g g1 → post z M' → K x g1 (cs + mc) (sl + ms) LAY (NN g1) M' pc' (ls g1.1) [vI z]) : K x g cs sl LAY (NN g) M pc (ls g.1) st := by
  refine k_callS (rest := []) hx hlk hd hC hn (by rw [hst, List.append_nil]) rfl hroom hcell (fun r L' n' M' ⟨h1, h2, z, h3, h4⟩ => ?_)
  subst h1; subst h3
  obtain ⟨e, rfl⟩ : ∃ e, n' = 120 + e := ⟨n' - 120, by omega⟩
  exact kk (gk g e) z M' ⟨rfl, rfl, rfl⟩ h4
theorem k_callSs {post : Option Value → Lay → Nat → Mem → Prop} {ls : List (Nat × Value)} {As st rest : List Value} (hx : Cx x g cc own nL R) (hs : SC x g b Ln xs) (hlk : lkS own index μ na) (hd : At cc pc (.invokestatic index) 3 pc') (hC : Cts g (xL x) μ mc ms As L n M b Ln xs post) (hn : As.length = na) (hst : st = As.reverse ++ rest) (hcat : Nat.ble (rest.map fun v => v.category).sum 8 = true) (hroom : Nat.ble (μ.2.2.2.2.1 + 1) R.frames = true ∧ Nat.ble (8 + (μ.2.2.1 + 11) + μ.2.2.2.2.2) R.locals = true) (hcell : cs + mc ≤ R.cells ∧ sl + ms ≤ R.slots)
    (kk : ∀ (r : Option Value) (L' : Lay) (n' : Nat) (M' : Mem), post r L' n' M' → K x g (cs + mc) (sl + ms) L' n' M' pc' ls (r.toList ++ rest)) : K x g cs sl L n M pc ls st := by
  intro H locs la hR hS hl
  obtain ⟨hd1, hd2⟩ := hd
  subst hd2
  obtain ⟨w1, w2, w3, w4, hdesc⟩ := hlk
  have hts := hx.2.2.2.2.1
  have hRm : xR x = R := hx.2.2.2.2.2.2
  have hbs := hs.lt
  obtain ⟨hX, hb, hL⟩ := hs
  have hXH : va_X b Ln xs (xS x) H := hX.kept (hS.2.1 b hbs (by show ¬ g.1 ≤ b; omega))
  refine k_run (a := As.toArray) hx hS hl ?_ kk
  refine va_runS (own := own) (cc := cc) (nL := nL) (Ts := TB) (n := na) (ret := μ.2.2.2.1) (bytes := μ.2.1) (maxL := μ.2.2.1) ⟨hx.1, hx.2.1, hx.2.2.1, hx.2.2.2.1, hts⟩ hC ?_ ⟨Pzs.blind, fun U hU hW => ⟨Pz.of hR hx.2.2.2.2.2.1 hU hW, by rw [hU]; exact va_X.moved hW.alike hXH, hb, hL⟩⟩ rfl hn (hl.1.trans hx.2.2.1) hst (lv_room (pc := pc) (m := xM x) (ls := la) (rest := st) (Nat.le_of_ble_eq_true hcat)) hd1 (by rw [hRm]; exact hcell)
  refine va_cwS na hts ?_ rfl rfl rfl hdesc (by rw [hRm]; exact ⟨Nat.le_of_ble_eq_true hroom.1, Nat.le_of_ble_eq_true hroom.2⟩)
  intro w hw
  rcases List.mem_append.mp hw with h | h
  · have h2 : w ∈ TB := by
      rcases List.mem_cons.mp h with rfl | h; exact w1
      rcases List.mem_cons.mp h with rfl | h; exact w2
      rcases List.mem_cons.mp h with rfl | h; exact w3
      cases h
    exact ⟨h2, gTB h2⟩
  · exact gdTB w4 w h
theorem k_sas {post : Int → Mem → Prop} {ls : Nat → List (Nat × Value)} {As : Nat → List Value} (hx : Cx x g cc own nL R) (hs : SC x g b Ln xs) (hlk : lkS own index μ na) (hd : At cc pc (.invokestatic index) 3 pc') (hC : Cts g (xL x) μ mc ms (As g.1) LAY (NN g) M b Ln xs (PA post)) (hn : (As g.1).length = na) {st : List Value} (hst : st = (As g.1).reverse) (hroom : Nat.ble (μ.2.2.2.2.1 + 1) R.frames = true ∧ Nat.ble (8 + (μ.2.2.1 + 11) + μ.2.2.2.2.2) R.locals = true) (hcell : cs + mc ≤ R.cells ∧ sl + ms ≤ R.slots)
    (kk : ∀ (g1 : GE) (z : Int) (M' : Mem), Sm g g1 → post z M' → K x g1 (cs + mc) (sl + ms) LAY (NN g1) M' pc' (ls g1.1) [vI z]) : K x g cs sl LAY (NN g) M pc (ls g.1) st := by
  refine k_callSs (rest := []) hx hs hlk hd hC hn (by rw [hst, List.append_nil]) rfl hroom hcell (fun r L' n' M' ⟨h1, h2, z, h3, h4⟩ => ?_)
  subst h1; subst h3
  obtain ⟨e, rfl⟩ : ∃ e, n' = 120 + e := ⟨n' - 120, by omega⟩
  exact kk (gk g e) z M' ⟨rfl, rfl, rfl⟩ h4
theorem k_sis {post : Int → Mem → Prop} {ls : List (Nat × Value)} {As st rest : List Value} (hx : Cx x g cc own nL R) (hs : SC x g b Ln xs) (hlk : lkS own index μ na) (hd : At cc pc (.invokestatic index) 3 pc') (hC : Cts g (xL x) μ 0 0 As LAY (NN g) M b Ln xs (Pi g post)) (hn : As.length = na) (hst : st = As.reverse ++ rest) (hcat : Nat.ble (rest.map fun v => v.category).sum 8 = true) (hroom : Nat.ble (μ.2.2.2.2.1 + 1) R.frames = true ∧ Nat.ble (8 + (μ.2.2.1 + 11) + μ.2.2.2.2.2) R.locals = true) (hcell : cs ≤ R.cells ∧ sl ≤ R.slots)
    (kk : ∀ (z : Int) (M' : Mem), post z M' → K x g cs sl LAY (NN g) M' pc' ls (vI z :: rest)) : K x g cs sl LAY (NN g) M pc ls st :=
  k_callSs hx hs hlk hd hC hn hst hcat hroom hcell (fun r L' n' M' ⟨h1, h2, z, h3, h4⟩ => by subst h1; subst h2; subst h3; exact kk z M' h4)
end LROWS
theorem qL_7 : Cond.constant RL 7 (zI 4194303) ∈ TB := tb_of 157 (by decide +kernel) (by decide +kernel)
theorem and_rg (a : Int32) : 0 ≤ (a &&& zI 4194303).toInt ∧ (a &&& zI 4194303).toInt ≤ 4194303 := by
  have h : (a &&& zI 4194303).toBitVec = a.toBitVec &&& 4194303#32 := rfl
  have h2 : (a &&& zI 4194303).toBitVec.toNat ≤ 4194303 := by
    rw [h, BitVec.toNat_and]
    exact Nat.and_le_right
  have e : (a &&& zI 4194303).toInt = (a &&& zI 4194303).toBitVec.toInt := rfl
  rw [e, BitVec.toInt_eq_toNat_cond]
  split <;> omega

theorem c_L_cell {g : GE} {l : Launch} {M : Mem} {b Ln : Nat} {xs : Nat → Int32} {k n : Int} (hk : 0 ≤ k ∧ k < 1000) (hn : 0 < n ∧ n ≤ 1000) : Cts g l μL_cell 0 0 [.ref b, vI k, vI n] LAY (NN g) M b Ln xs (Pi g (fun z M' => (0 ≤ z ∧ z < n) ∧ M' = M)) := by
  refine Cts.of (by decide +kernel) rfl rfl (fun x hx hs hr => ?_)
  have hs260 := hs.2.2
  refine k_aload_n hx dL_cell_0 0 rfl ?_
  refine k_slen hx hs dL_cell_1 ?_
  refine k_ifne hx dL_cell_2 (by omega) (fun h_2 => ?_) (fun h_2 => ?_)
  · have hkm := Int.emod_nonneg k (show (Ln : Int) ≠ 0 by omega)
    have hkm2 := Int.emod_lt_of_pos k (show (0 : Int) < Ln by omega)
    obtain ⟨v, hv⟩ : ∃ v, v = (zI (scz xs (k % Ln)) >>> (zI (k % 7) &&& 31) &&& zI 4194303).toInt := ⟨_, rfl⟩
    have hvr := and_rg (zI (scz xs (k % Ln)) >>> (zI (k % 7) &&& 31))
    rw [← hv] at hvr
    refine k_aload_n hx dL_cell_14 0 rfl ?_
    refine k_iload_n hx dL_cell_15 1 rfl ?_
    refine k_aload_n hx dL_cell_16 0 rfl ?_
    refine k_slen hx hs dL_cell_17 ?_
    refine k_irem hx dL_cell_18 (by omega) ?_
    refine k_sld hx hs dL_cell_19 (by omega) ?_
    refine k_iload_n hx dL_cell_20 1 rfl ?_
    refine k_bipush hx dL_cell_21 (by decide +kernel) ?_
    refine k_irem hx dL_cell_23 (by omega) ?_
    refine k_ishr (v := zI ((zI (scz xs (k % Ln)) >>> (zI (k % 7) &&& 31)).toInt)) hx dL_cell_24 ((zI_of _).symm) ?_
    refine k_ldc (v := 4194303) hx dL_cell_25 qL_7 ?_
    refine k_iand (v := zI v) hx dL_cell_27 (by rw [zI_of, hv, zI_of]) ?_
    refine k_iload_n hx dL_cell_28 2 rfl ?_
    refine k_irem hx dL_cell_29 (by omega) ?_
    have hm1 := Int.emod_nonneg (0 : Int) (show (n : Int) ≠ 0 by omega)
    refine k_ri hx hr dL_cell_30 ?_
    exact ⟨⟨Int.emod_nonneg _ (by omega), Int.emod_lt_of_pos _ hn.1⟩, rfl⟩
  · refine k_iload_n hx dL_cell_5 1 rfl ?_
    refine k_bipush hx dL_cell_6 (by decide +kernel) ?_
    refine k_imul hx dL_cell_8 ?_
    refine k_iconst hx dL_cell_9 ?_
    refine k_iadd hx dL_cell_10 ?_
    refine k_goto hx dL_cell_11 ?_
    refine k_iload_n hx dL_cell_28 2 rfl ?_
    refine k_irem hx dL_cell_29 (by omega) ?_
    have hm1 := Int.emod_nonneg (0 : Int) (show (n : Int) ≠ 0 by omega)
    refine k_ri hx hr dL_cell_30 ?_
    exact ⟨⟨Int.emod_nonneg _ (by omega), Int.emod_lt_of_pos _ hn.1⟩, rfl⟩

/-! rows of fields and arrays, of calls and ends, over the world at fixed places -/
/-- the entry 'index' of 'own' is the field k of class ci -/
def FL (own : String) (index ci k : Nat) (fin : Bool) (ft : FieldType) : Prop := ∃ (C : String) (T : u_T) (N : Nat) (ty : Nat → FieldType), classes[ci]? = some (C, T, N) ∧ k < N ∧ Cond.fieldLink own index (T k).1 (T k).2.1 (T k).2.2.1 ∈ TB ∧ (∀ w ∈ u_ws C T N, w ∈ TB) ∧ (∀ k, k < N → parseFieldDescriptor (T k).2.2.1 = some (ty k)) ∧ (∀ a, a < N → ∀ b, b < N → a ≠ b → (T a).2.1 ≠ (T b).2.1) ∧ (T k).2.2.2 = fin ∧ ty k = ft ∧ (T k).1 = C
theorem Rep.up {g : GE} {n : Nat} {L : Lay} {M : Mem} {H H1 : Heap} {i : Nat} {k z : Int} (hR : Rep g n L M H) (hs : H1.size = H.size) (ho : ∀ q : Nat, q ≠ g.1 + i → H1[q]? = H[q]?) (hi : i < n) (hc : cellAt g (g.1 + i) (up M i k z i) H1 (L i)) : Rep g n L (up M i k z) H1 := by
  refine ⟨by rw [hs]; exact hR.1, fun j hj => ?_⟩
  by_cases hji : j = i
  · subst hji; exact hc
  · rw [up_i hji]
    exact (hR.2 j hj).kept (ho _ (fun q => hji (by omega)))
/-- the layout of one cell changes, its numbers stay (a reference is put) -/
def upL (L : Lay) (i : Nat) (k : LK) : Lay := fun a => if a = i then k else L a
theorem upL_s {L : Lay} {i : Nat} {k : LK} : upL L i k i = k := if_pos rfl
theorem upL_n {L : Lay} {i a : Nat} {k : LK} (h : a ≠ i) : upL L i k a = L a := if_neg h
theorem Rep.upL {g : GE} {n : Nat} {L : Lay} {M : Mem} {H H1 : Heap} {i : Nat} {k : LK} (hR : Rep g n L M H) (hs : H1.size = H.size) (ho : ∀ q : Nat, q ≠ g.1 + i → H1[q]? = H[q]?) (hi : i < n) (hc : cellAt g (g.1 + i) (M i) H1 k) : Rep g n (upL L i k) M H1 := by
  refine ⟨by rw [hs]; exact hR.1, fun j hj => ?_⟩
  by_cases hji : j = i
  · subst hji; rw [upL_s]; exact hc
  · rw [upL_n hji]
    exact (hR.2 j hj).kept (ho _ (fun q => hji (by omega)))
theorem cellAt.obj {g : GE} {a : Nat} {m : Int → Int} {H : Heap} {ci : Nat} {fs : List FS} {C : String} {T : u_T} {N : Nat} (hc : classes[ci]? = some (C, T, N)) (h : cellAt g a m H (kO ci fs)) : t_OB a (g.2.1.1 ci) N (g.2.1.2 ci) H (fun k => fv g m k (fs.getD k none)) := by
  obtain ⟨r, h1, h2⟩ := h
  have hr : r = (C, T, N) := Option.some.inj (h1.symm.trans hc)
  subst hr
  exact h2
section ROWS2
variable {x : Fx} {g : GE} {cc : ByteArray} {own : String} {nL : Nat} {R : Room} {cs sl : Nat} {L : Lay} {n : Nat} {M : Mem} {pc pc' tgt : Nat} {ls : List (Nat × Value)} {st : List Value}
theorem k_get (hx : Cx x g cc own nL R) {index ci k i : Nat} {fin : Bool} {ft : FieldType} {fs : List FS} {v : Value} (hf : FL own index ci k fin ft) (hd : At cc pc (.getfield index) 3 pc') (hi : i < n) (hL : L i = kO ci fs) (hv : fv g (M i) k (fs.getD k none) = v) (kk : K x g cs sl L n M pc' ls (v :: st)) : K x g cs sl L n M pc ls (vR g i :: st) := by
  intro H locs la hR hS hl
  obtain ⟨hex, hcc, hnl, how, hts, hK, -⟩ := hx
  obtain ⟨C, T, N, ty, hc, hk, hlk, hin, hty, hnm, -⟩ := hf
  obtain ⟨hd1, hd2⟩ := hd
  subst hd2
  have hcell := hR.2 i hi
  rw [hL] at hcell
  obtain ⟨cell, q1, q2, q3, q4⟩ := cellAt.obj hc hcell
  obtain ⟨hSl, hfc, kC, hkC, hkind⟩ := hK.1.1 ci _ hc
  obtain ⟨cf, kf, fi, f, hi', hsl⟩ := hSl k hk
  refine W.getf hex hcc how (hts _ hlk) hi' (u_facts hfc hkC (u_lays hts hin hk) hi').1 q1 (by rw [q3]; exact fun h => by cases h) (v := v) ?_ rfl rfl hd1 (kk H locs la hR hS hl)
  rw [hsl, q4 k hk]
  exact congrArg some hv
theorem k_put (hx : Cx x g cc own nL R) {index ci k i : Nat} {fs : List FS} {z : Int} {ft : FieldType} (hf : FL own index ci k false ft) (hd : At cc pc (.putfield index) 3 pc') (hi : i < n) (hL : L i = kO ci fs) (hn : fs.getD k none = none) (hz : narrow ft (vI z) = vI z ∧ fits ft (vI z) = true) (kk : K x g cs sl L n (up M i k z) pc' ls st) : K x g cs sl L n M pc ls (vI z :: vR g i :: st) := by
  intro H locs la hR hS hl
  obtain ⟨hex, hcc, hnl, how, hts, hK, -⟩ := hx
  obtain ⟨C, T, N, ty, hc, hk, hlk, hin, hty, hnm, hfin, hft, -⟩ := hf
  obtain ⟨hd1, hd2⟩ := hd
  subst hd2
  have hcell := hR.2 i hi
  rw [hL] at hcell
  obtain ⟨cell, q1, q2, q3, q4⟩ := cellAt.obj hc hcell
  have hap := va_apart (own := own) hts hin ty hty hnm hK.1 hc
  obtain ⟨hSl, hfc, kC, hkC, hkind⟩ := hK.1.1 ci _ hc
  obtain ⟨cf, kf, fi, f, hi', hsl⟩ := hSl k hk
  have hlay := hts _ (hin _ (u_in_lay hk))
  unfold u_lay at hlay
  rw [if_neg (by rw [hfin]; decide)] at hlay
  have hst := (u_facts hfc hkC (u_lays hts hin hk) hi').1
  have h6 := u_store (v := vI z) hfc hkC hkind hlay hi' (by rw [hty k hk, hft]) hz.1 hz.2
  refine W.putK hex hcc (f := f) ⟨how, hts _ hlk, ⟨_, _, _, hi'⟩, hst⟩ (by rw [q2]; exact h6) q1 q3 (by rw [hsl]; exact k2_hasslot (q4 k hk)) rfl rfl hd1 fun H' e1 e2 e3 => ?_
  rw [hsl] at e1
  refine kk H' _ la (hR.up e2 e3 hi ?_) (hS.put e2 e3 (Nat.le_add_right _ _)) hl
  rw [hL]
  refine ⟨_, hc, t_OB.to ⟨_, e1, q2, q3, t_set q4 hap hk (vI z)⟩ (fun j hj => ?_)⟩
  by_cases hjk : j = k
  · subst hjk
    rw [hn]
    simp [updV, fv, up_s]
  · have e : ∀ o : FS, fv g (M i) j o = fv g (up M i k z i) j o := fun o => by
      match o with
      | none => exact congrArg vI (up_k (show (j : Int) ≠ (k : Int) by omega)).symm
      | some none => rfl
      | some (some q) => rfl
    simp [updV, hjk]
    exact e _
/-- a reference (or null) is put: into a field that is final, in a constructor -/
theorem k_putF (hx : Cx x g cc own nL R) (hin2 : (xT x).name = "<init>") {index ci k i : Nat} {fs fs' : List FS} {v : Value} {o : FS} {ft : FieldType} (hf : FL own index ci k true ft) (hown : ∀ q : vw_C, classes[ci]? = some q → q.1 = own) (hd : At cc pc (.putfield index) 3 pc') (hi : i < n) (hL : L i = kO ci fs) (hv : ∀ m : Int → Int, fv g m k o = v) (hz : narrow ft v = v ∧ fits ft v = true) (hs : fs' = fs.set k o) (hk2 : k < fs.length) (kk : K x g cs sl (upL L i (kO ci fs')) n M pc' ls st) : K x g cs sl L n M pc ls (v :: vR g i :: st) := by
  intro H locs la hR hS hl
  obtain ⟨hex, hcc, hnl, how, hts, hK, -⟩ := hx
  obtain ⟨C, T, N, ty, hc, hk, hlk, hin, hty, hnm, hfin, hft, hdecl⟩ := hf
  obtain ⟨hd1, hd2⟩ := hd
  subst hd2
  have hcell := hR.2 i hi
  rw [hL] at hcell
  obtain ⟨cell, q1, q2, q3, q4⟩ := cellAt.obj hc hcell
  have hap := va_apart (own := own) hts hin ty hty hnm hK.1 hc
  obtain ⟨hSl, hfc, kC, hkC, hkind⟩ := hK.1.1 ci _ hc
  obtain ⟨cf, kf, fi, f, hi', hsl⟩ := hSl k hk
  have hlay := hts _ (hin _ (u_in_lay hk))
  unfold u_lay at hlay
  rw [if_pos hfin] at hlay
  have hst := (u_facts hfc hkC (u_lays hts hin hk) hi').1
  have hcf : (xM x).cls = cf := by
    obtain ⟨_, _, c', _, _, _, -, -, hf', -, -, -, hown2, -⟩ := Cond.laysFinal_spec hlay
    have e1 : c' = cf := by have := hi'.symm.trans hf'; simp at this; exact this.1.symm
    rw [hdecl, show C = own from hown _ hc] at hown2
    rw [← e1]; exact Option.some.inj (how.symm.trans hown2)
  have h6 := u_fits hfc hkC hkind (Or.inr hlay) hi' (by rw [hty k hk, hft]) hz.1 hz.2
  refine W.putFinK hex hcc how (hts _ hlk) hi' hst hcf hin2 (by rw [q2]; exact h6) q1 q3 (by rw [hsl]; exact k2_hasslot (q4 k hk)) rfl rfl hd1 fun H' e1 e2 e3 => ?_
  rw [hsl] at e1
  refine kk H' _ la (hR.upL e2 e3 hi ?_) (hS.put e2 e3 (Nat.le_add_right _ _)) hl
  subst hs
  refine ⟨_, hc, t_OB.to ⟨_, e1, q2, q3, t_set q4 hap hk v⟩ (fun j hj => ?_)⟩
  by_cases hjk : j = k
  · subst hjk
    simp [updV, List.getD_eq_getElem?_getD, List.getElem?_set, hk2, hv]
  · simp [updV, hjk, List.getD_eq_getElem?_getD, List.getElem?_set, Ne.symm hjk]
theorem k_iald (hx : Cx x g cc own nL R) {i N : Nat} {z v : Int} (hd : At cc pc .iaload 1 pc') (hi : i < n) (hL : L i = kA 0 N) (hz : 0 ≤ z ∧ z < N) (hN : N ≤ 2147483647) (hv : M i z = v) (kk : K x g cs sl L n M pc' ls (vI v :: st)) : K x g cs sl L n M pc ls (vI z :: vR g i :: st) := by
  intro H locs la hR hS hl
  obtain ⟨hex, hcc, hnl, how, hts, hK, -⟩ := hx
  obtain ⟨hd1, hd2⟩ := hd
  subst hd2; subst hv
  have hcell := hR.2 i hi
  rw [hL] at hcell
  have hc := zI_clamp hz.1 hz.2 hN
  have h1 := zI_in hz.1 hz.2 hN
  refine W.iald (v := vI (M i z)) hex hcc hcell ((hK.1.2 0 _ rfl).1 N (fun j => vI (M i (j : Int)))) (fun q => by cases q) (by rw [arrV_size]; exact h1) (by rw [arrV_read _ _ (by omega), hc]) rfl rfl hd1 (kk H locs la hR hS hl)
theorem k_iast (hx : Cx x g cc own nL R) {i N : Nat} {z v : Int} (hd : At cc pc .iastore 1 pc') (hi : i < n) (hL : L i = kA 0 N) (hz : 0 ≤ z ∧ z < N) (hN : N ≤ 2147483647) (kk : K x g cs sl L n (up M i z v) pc' ls st) : K x g cs sl L n M pc ls (vI v :: vI z :: vR g i :: st) := by
  intro H locs la hR hS hl
  obtain ⟨hex, hcc, hnl, how, hts, hK, -⟩ := hx
  obtain ⟨hd1, hd2⟩ := hd
  subst hd2
  have hcell := hR.2 i hi
  rw [hL] at hcell
  have hc := zI_clamp hz.1 hz.2 hN
  have h1 := zI_in hz.1 hz.2 hN
  refine W.iast hex hcc hcell ((hK.1.2 0 _ rfl).1 N (fun j => vI (M i (j : Int)))) (fun q => by cases q) (by rw [arrV_size]; exact h1) rfl rfl hd1 (fun H' e1 e2 e3 => ?_)
  refine kk H' _ la (hR.up e2 e3 hi ?_) (hS.put e2 e3 (Nat.le_add_right _ _)) hl
  rw [hL]
  show H'[g.1 + i]? = some (arrV (g.2.2.1 0) N (fun j => vI (up M i z v i (j : Int))))
  rw [e1, arrV_store]
  congr 2
  funext j
  by_cases hj : j = (zI z).toNatClampNeg
  · subst hj
    simp [updV, hc, up_s]
  · have : (j : Int) ≠ z := fun q => hj (by omega)
    simp [updV, hj, up_k this]
theorem k_zald (hx : Cx x g cc own nL R) {i N : Nat} {z v : Int} (hd : At cc pc .baload 1 pc') (hi : i < n) (hL : L i = kA 1 N) (hz : 0 ≤ z ∧ z < N) (hN : N ≤ 2147483647) (hv : M i z = v) (kk : K x g cs sl L n M pc' ls (vI v :: st)) : K x g cs sl L n M pc ls (vI z :: vR g i :: st) := by
  intro H locs la hR hS hl
  obtain ⟨hex, hcc, hnl, how, hts, hK, -⟩ := hx
  obtain ⟨hd1, hd2⟩ := hd
  subst hd2; subst hv
  have hcell := hR.2 i hi
  rw [hL] at hcell
  have hc := zI_clamp hz.1 hz.2 hN
  have h1 := zI_in hz.1 hz.2 hN
  refine W.zald (v := vI (M i z)) hex hcc hcell ((hK.1.2 1 _ rfl).1 N (fun j => vI (M i (j : Int)))) (fun q => by cases q) (by rw [arrV_size]; exact h1) (by rw [arrV_read _ _ (by omega), hc]) rfl rfl hd1 (kk H locs la hR hS hl)
theorem k_zast (hx : Cx x g cc own nL R) {i N : Nat} {z v : Int} (hd : At cc pc .bastore 1 pc') (hi : i < n) (hL : L i = kA 1 N) (hz : 0 ≤ z ∧ z < N) (hN : N ≤ 2147483647) (hv : v = 0 ∨ v = 1) (kk : K x g cs sl L n (up M i z v) pc' ls st) : K x g cs sl L n M pc ls (vI v :: vI z :: vR g i :: st) := by
  intro H locs la hR hS hl
  obtain ⟨hex, hcc, hnl, how, hts, hK, -⟩ := hx
  obtain ⟨hd1, hd2⟩ := hd
  subst hd2
  have hcell := hR.2 i hi
  rw [hL] at hcell
  have hc := zI_clamp hz.1 hz.2 hN
  have h1 := zI_in hz.1 hz.2 hN
  have hnar : narrow .boolean (vI v) = vI v := by rcases hv with rfl | rfl <;> decide +kernel
  refine W.zast hex hcc hcell ((hK.1.2 1 _ rfl).1 N (fun j => vI (M i (j : Int)))) (fun q => by cases q) (by rw [arrV_size]; exact h1) rfl rfl hd1 (fun H' e1 e2 e3 => ?_)
  refine kk H' _ la (hR.up e2 e3 hi ?_) (hS.put e2 e3 (Nat.le_add_right _ _)) hl
  rw [hL]
  show H'[g.1 + i]? = some (arrV (g.2.2.1 1) N (fun j => vI (up M i z v i (j : Int))))
  rw [e1, hnar, arrV_store]
  congr 2
  funext j
  by_cases hj : j = (zI z).toNatClampNeg
  · subst hj
    simp [updV, hc, up_s]
  · have : (j : Int) ≠ z := fun q => hj (by omega)
    simp [updV, hj, up_k this]
theorem k_aald (hx : Cx x g cc own nL R) {i t q : Nat} {qs : List (Option Nat)} {z : Int} (hd : At cc pc .aaload 1 pc') (hi : i < n) (hL : L i = kR t qs) (ht : t = 2 ∨ t = 3) (hz : 0 ≤ z ∧ z < qs.length) (hN : qs.length ≤ 2147483647) (hv : qs.getD z.toNat none = some q) (kk : K x g cs sl L n M pc' ls (vR g q :: st)) : K x g cs sl L n M pc ls (vI z :: vR g i :: st) := by
  intro H locs la hR hS hl
  obtain ⟨hex, hcc, hnl, how, hts, hK, -⟩ := hx
  obtain ⟨hd1, hd2⟩ := hd
  subst hd2
  have hcell := hR.2 i hi
  rw [hL] at hcell
  have hc := zI_clamp hz.1 hz.2 hN
  have h1 := zI_in hz.1 hz.2 hN
  have hidx : (zI z).toNatClampNeg = z.toNat := by omega
  have har : ∀ f, (xS x).isArrayOf (arrV (g.2.2.1 t) qs.length f) (tyT t) := fun f => by
    rcases ht with rfl | rfl
    · exact (hK.1.2 2 _ rfl).1 _ f
    · exact (hK.1.2 3 _ rfl).1 _ f
  refine W.aald (v := vR g q) hex hcc hcell (har _) (by rcases ht with rfl | rfl <;> rfl) (fun q => by cases q) (by rw [arrV_size]; exact h1) ?_ rfl rfl hd1 (kk H locs la hR hS hl)
  rw [arrV_read _ _ (by omega), hidx, hv]
  rfl
theorem k_alen (hx : Cx x g cc own nL R) {i t N : Nat} (hd : At cc pc .arraylength 1 pc') (hi : i < n) (hL : L i = kA t N) (ht : t = 0 ∨ t = 1) (kk : K x g cs sl L n M pc' ls (vI N :: st)) : K x g cs sl L n M pc ls (vR g i :: st) := by
  intro H locs la hR hS hl
  obtain ⟨hex, hcc, hnl, how, hts, hK, -⟩ := hx
  obtain ⟨hd1, hd2⟩ := hd
  subst hd2
  have hcell := hR.2 i hi
  rw [hL] at hcell
  have har : ∀ f, (xS x).isArrayOf (arrV (g.2.2.1 t) N f) (tyT t) := fun f => by
    rcases ht with rfl | rfl
    · exact (hK.1.2 0 _ rfl).1 _ f
    · exact (hK.1.2 1 _ rfl).1 _ f
  refine W.alen (n := zI N) hex hcc hcell (har _) ?_ rfl rfl hd1 (kk H locs la hR hS hl)
  rw [arrV_size]
  exact (Int32.ofInt_eq_ofNat (n := N)).symm
theorem k_ldc2 (hx : Cx x g cc own nL R) {index : Nat} {v : Int64} (hd : At cc pc (.ldc2_w index) 3 pc') (hc : Cond.constantLong own index v ∈ TB) (kk : K x g cs sl L n M pc' ls (.long v :: st)) : K x g cs sl L n M pc ls st := by
  intro H locs la hR hS hl
  obtain ⟨hex, hcc, hnl, how, hts, hK, -⟩ := hx
  obtain ⟨hd1, hd2⟩ := hd
  subst hd2
  exact lv_ldc2 hex hcc how (hts _ hc) hd1 (kk H locs la hR hS hl)
end ROWS2
/-! contracts -/
abbrev mW (μ : Mu) : List Cond := .code μ.1 μ.2.1 μ.2.2.1 μ.2.2.2.1 :: TB
abbrev mRm (μ : Mu) (mc ms : Nat) : Room := { frames := μ.2.2.2.2.1, cells := mc, slots := ms, locals := μ.2.2.2.2.2 }
def Qz (g : GE) (post : Option Value → Lay → Nat → Mem → Prop) : Array Value → State → Outcome → State → Prop := fun _ st o t => (∃ (r : Option Value) (L : Lay) (n : Nat) (M : Mem), o = .returned r ∧ post r L n M ∧ Rep g n L M t.heap) ∧ va_F (fun q => g.1 ≤ q) st t
def Pz (g : GE) (av : List Value) (L : Lay) (n : Nat) (M : Mem) : Array Value → State → Prop := va_Pc av (fun U => Rep g n L M U.heap ∧ Kn g U)
def Ct (g : GE) (l : Launch) (μ : Mu) (mc ms : Nat) (av : List Value) (L : Lay) (n : Nat) (M : Mem) (post : Option Value → Lay → Nat → Mem → Prop) : Prop :=
  Met l μ.1 (mW μ) (mRm μ mc ms) (Pz g av L n M) (Qz g post) mc ms (fun q => g.1 ≤ q)
theorem Pz.blind {g : GE} {av : List Value} {L : Lay} {n : Nat} {M : Mem} : FrameBlind (Pz g av L n M) := fun _ _ _ _ q => ⟨q.1, q.2.1, q.2.2.eq rfl⟩
theorem Pz.of {g : GE} {av : List Value} {L : Lay} {n : Nat} {M : Mem} {s U : State} {H : Heap} (hR : Rep g n L M H) (hK : Kn g s) (hU : U.heap = H) (hW : s.WarmedH U.vm) : Pz g av L n M av.toArray U := ⟨rfl, by rw [hU]; exact hR, hK.warm hW⟩
/-- how the method ends -/
def Rx (x : Fx) (g : GE) (mc ms : Nat) (ret : Option FieldType) (post : Option Value → Lay → Nat → Mem → Prop) : Prop := (xT x).locks = false ∧ (xT x).sig.returnType = ret ∧ xQ x = MQ (xB x) (Qz g post) (xA x) (xS x) mc ms (fun q => g.1 ≤ q)
theorem Ct.of {g : GE} {l : Launch} {μ : Mu} {mc ms : Nat} {av : List Value} {L : Lay} {n : Nat} {M : Mem} {post : Option Value → Lay → Nat → Mem → Prop} (hy : plainName μ.1.cls = true) (hav : Nat.ble (lg_sl av).length μ.2.2.1 = true)
    (body : ∀ x : Fx, xL x = l → Cx x g μ.2.1 μ.1.cls μ.2.2.1 (mRm μ mc ms) → (xT x).name = μ.1.name → Rx x g mc ms μ.2.2.2.1 post → K x g 0 0 L n M 0 (lv_args 0 av) []) : Ct g l μ mc ms av L n M post := by
  refine Met.ofW (cc := μ.2.1) (maxL := μ.2.2.1) (ret := μ.2.2.2.1) hy rfl ?_
  intro p e s m args below meth c s₁ B hml hv
  obtain ⟨rfl, hR, hK⟩ := hv
  have hts := atoms_spec (ws := mW μ) B.pre
  have hl := lv_entry av (n := μ.2.2.1) (Nat.le_of_ble_eq_true hav)
  have k := body (p, l, e, mRm μ mc ms, s, m, av.toArray, below, meth, c, MQ below (Qz g post) av.toArray s mc ms (fun q => g.1 ≤ q)) rfl
    ⟨B.exec, B.bytes, hml, findClass_of_methodNamed B.named, fun w h => hts w (List.mem_cons_of_mem _ h), hK, rfl⟩ (name_of_methodNamed B.named B.method).1 ⟨B.notSynchronized, B.returns, rfl⟩
  rw [lg_entry_eq]
  refine k s.heap [] _ hR va_S.rf ?_
  show lv_has _ c.maxLocals _
  rw [hml]
  exact hl
section ENDS
variable {x : Fx} {g : GE} {cc : ByteArray} {own : String} {nL : Nat} {R : Room} {mc ms : Nat} {L : Lay} {n : Nat} {M : Mem} {pc : Nat} {ls : List (Nat × Value)} {post : Option Value → Lay → Nat → Mem → Prop}
theorem k_iret (hx : Cx x g cc own nL R) (hm : Rx x g mc ms (some .int) post) {z : Int} (hd : At cc pc .ireturn 1 (pc + 1)) (hp : post (some (vI z)) L n M) : K x g mc ms L n M pc ls [vI z] := by
  intro H locs la hR hS hl
  obtain ⟨h1, h2, h3⟩ := hm
  rw [h3]
  exact W.iret hx.1 hx.2.1 h2 (fun t ht _ => ⟨⟨_, L, n, M, rfl, hp, by rw [ht]; exact hR⟩, hS.F ht⟩) (fun q hq => hS.2.2 q hq) hd.1 (hlocks := h1)
theorem k_zret (hx : Cx x g cc own nL R) (hm : Rx x g mc ms (some .boolean) post) {z : Int} (hd : At cc pc .ireturn 1 (pc + 1)) (hz : z = 0 ∨ z = 1) (hp : post (some (vI z)) L n M) : K x g mc ms L n M pc ls [vI z] := by
  intro H locs la hR hS hl
  obtain ⟨h1, h2, h3⟩ := hm
  rw [h3]
  exact W.zret hx.1 hx.2.1 h2 (by rcases hz with rfl | rfl <;> decide +kernel) (fun t ht _ => ⟨⟨_, L, n, M, rfl, hp, by rw [ht]; exact hR⟩, hS.F ht⟩) (fun q hq => hS.2.2 q hq) hd.1 (hlocks := h1)
theorem k_vret (hx : Cx x g cc own nL R) (hm : Rx x g mc ms none post) (hd : At cc pc .return_ 1 (pc + 1)) (hp : post none L n M) : K x g mc ms L n M pc ls [] := by
  intro H locs la hR hS hl
  obtain ⟨h1, h2, h3⟩ := hm
  rw [h3]
  exact W.vret hx.1 hx.2.1 h2 (fun t ht _ => ⟨⟨_, L, n, M, rfl, hp, by rw [ht]; exact hR⟩, hS.F ht⟩) (fun q hq => hS.2.2 q hq) hd.1 (hlocks := h1)
end ENDS
/-! calls: what the tables say of a call's entry -/
def lkV (own : String) (index : Nat) (μ : Mu) (ci na : Nat) : Prop := Cond.methodLink own index μ.1 ∈ TB ∧ Cond.instanceMethod μ.1 ∈ TB ∧ Cond.selects μ.1.cls μ.1 μ.1 ∈ TB ∧ Cond.initialized μ.1.cls ∈ TB ∧ Cond.code μ.1 μ.2.1 μ.2.2.1 μ.2.2.2.1 ∈ TB ∧ (μ.1.cls = μ.1.cls ∧ μ.1.cls ≠ "java/lang/invoke/MethodHandle" ∧ μ.1.cls ≠ "java/lang/invoke/VarHandle" ∧ (parseMethodDescriptor μ.1.desc).map (fun d => d.parameters.length) = some na) ∧ ∃ T N, classes[ci]? = some (μ.1.cls, T, N)
def lkS (own : String) (index : Nat) (μ : Mu) (na : Nat) : Prop := Cond.methodLink own index μ.1 ∈ TB ∧ Cond.static μ.1 ∈ TB ∧ Cond.initialized μ.1.cls ∈ TB ∧ Cond.code μ.1 μ.2.1 μ.2.2.1 μ.2.2.2.1 ∈ TB ∧ (μ.1.cls ≠ "java/lang/invoke/MethodHandle" ∧ μ.1.cls ≠ "java/lang/invoke/VarHandle" ∧ (parseMethodDescriptor μ.1.desc).map (fun d => d.parameters.length) = some na)
def lkN (own : String) (index : Nat) (μ : Mu) (host : String) (na : Nat) : Prop := (own, index, μ.1, host) ∈ nestQ ∧ Cond.static μ.1 ∈ TB ∧ Cond.initialized μ.1.cls ∈ TB ∧ Cond.code μ.1 μ.2.1 μ.2.2.1 μ.2.2.2.1 ∈ TB ∧ (μ.1.cls ≠ "java/lang/invoke/MethodHandle" ∧ μ.1.cls ≠ "java/lang/invoke/VarHandle" ∧ (parseMethodDescriptor μ.1.desc).map (fun d => d.parameters.length) = some na)
def lkI (own : String) (index : Nat) (μ : Mu) (na : Nat) : Prop := Cond.methodLink own index μ.1 ∈ TB ∧ Cond.instanceMethod μ.1 ∈ TB ∧ Cond.initialized μ.1.cls ∈ TB ∧ Cond.code μ.1 μ.2.1 μ.2.2.1 μ.2.2.2.1 ∈ TB ∧ (μ.1.cls ≠ "java/lang/invoke/MethodHandle" ∧ μ.1.cls ≠ "java/lang/invoke/VarHandle" ∧ (parseMethodDescriptor μ.1.desc).map (fun d => d.parameters.length) = some na) ∧ μ.1.name = "<init>" ∧ μ.2.2.2.1 = none
theorem gdTB {μ : Mu} (h : Cond.code μ.1 μ.2.1 μ.2.2.1 μ.2.2.2.1 ∈ TB) : GoodIn TB (mW μ) := by
  intro w hw
  rcases List.mem_cons.mp hw with rfl | hw
  · exact ⟨h, gTB h⟩
  · exact ⟨hw, gTB hw⟩
section CALLS
variable {x : Fx} {g : GE} {cc : ByteArray} {own : String} {nL : Nat} {R : Room} {cs sl mc ms : Nat} {L : Lay} {n : Nat} {M : Mem} {pc pc' index na ci i : Nat} {ls : List (Nat × Value)} {st rest As av : List Value} {μ : Mu} {post : Option Value → Lay → Nat → Mem → Prop}
theorem k_run {H : Heap} {locs : List Loc} {la : Array Slot} {a : Array Value} (hx : Cx x g cc own nL R) (hS : va_S (fun q => g.1 ≤ q) (xS x).heap H locs) (hl : lv_has la (xC x).maxLocals ls) (hr : va_Run (xP x) (xL x) (xE x) (xR x) (xS x) (xM x) (xA x) (xB x) (xT x) (xC x) H locs cs sl mc ms (F0 (xM x) pc la st) rest (Qz g post a) (fun q => g.1 ≤ q))
    (kk : ∀ (r : Option Value) (L' : Lay) (n' : Nat) (M' : Mem), post r L' n' M' → K x g (cs + mc) (sl + ms) L' n' M' (pc + 3) ls (r.toList ++ rest)) : W (xP x) (xL x) (xE x) (xR x) (xS x) (xM x) (xA x) (xB x) (xT x) (xC x) H locs cs sl (xQ x) (F0 (xM x) pc la st) := by
  intro T hT X
  obtain ⟨v, st₀, t, T', Lc, h0, X', hL, e1, e2, ⟨⟨r, L', n', M', hv, hp, hR'⟩, hz, hk⟩, stp⟩ := hr T hT X
  cases hv
  rw [h0] at hz hk
  rw [← e1] at hz hk hR'
  obtain ⟨t2, a1, b1⟩ := kk _ L' n' M' hp T'.heap (locs ++ Lc) la hR'
    ⟨Nat.le_trans hS.1 hz, fun q h1 h2 => (hk q (Nat.lt_of_lt_of_le h1 hS.1) h2).trans (hS.2.1 q h1 h2), fun q hq => by
      rcases List.mem_append.mp hq with h | h
      · exact hS.2.2 q h
      · exact hL q h⟩ hl T' rfl X'
  exact ⟨t2, stp t2 a1, b1⟩
theorem k_callV (hx : Cx x g cc own nL R) (hlk : lkV own index μ ci na) (hd : At cc pc (.invokevirtual index) 3 pc') (hC : Ct g (xL x) μ mc ms (vR g i :: As) L n M post) {fs : List FS} (hi : i < n) (hL : L i = kO ci fs) (hn : As.length = na) (hst : st = As.reverse ++ vR g i :: rest) (hcat : Nat.ble (rest.map fun v => v.category).sum 8 = true) (hroom : Nat.ble (μ.2.2.2.2.1 + 1) R.frames = true ∧ Nat.ble (8 + (μ.2.2.1 + 11) + μ.2.2.2.2.2) R.locals = true) (hcell : cs + mc ≤ R.cells ∧ sl + ms ≤ R.slots)
    (kk : ∀ (r : Option Value) (L' : Lay) (n' : Nat) (M' : Mem), post r L' n' M' → K x g (cs + mc) (sl + ms) L' n' M' pc' ls (r.toList ++ rest)) : K x g cs sl L n M pc ls st := by
  intro H locs la hR hS hl
  obtain ⟨hd1, hd2⟩ := hd
  subst hd2
  obtain ⟨w1, w2, w3, w4, w5, hdesc, T, N, hc⟩ := hlk
  have hts := hx.2.2.2.2.1
  have hRm : xR x = R := hx.2.2.2.2.2.2
  have hcell0 := hR.2 i hi
  rw [hL] at hcell0
  obtain ⟨cell, q1, q2, q3, q4⟩ := cellAt.obj hc hcell0
  have hfc := (hx.2.2.2.2.2.1.1.1 ci _ hc).2.1
  refine k_run (a := (vR g i :: As).toArray) hx hS hl ?_ kk
  refine va_runV (own := own) (C := μ.1.cls) (cc := cc) (nL := nL) (Ts := TB) (n := na) (ret := μ.2.2.2.1) (bytes := μ.2.1) (maxL := μ.2.2.1) ⟨hx.1, hx.2.1, hx.2.2.1, hx.2.2.2.1, hts⟩ hC ?_ ⟨Pz.blind, ⟨cell, q1, by rw [q3]; rfl, by rw [q2]; exact hfc⟩, fun U hU hW => Pz.of hR hx.2.2.2.2.2.1 hU hW⟩ rfl hn (hl.1.trans hx.2.2.1) hst (lv_room (pc := pc) (m := xM x) (ls := la) (rest := st) (Nat.le_of_ble_eq_true hcat)) hd1 (by rw [hRm]; exact hcell)
  refine cwV na hts ?_ rfl rfl rfl hdesc (by rw [hRm]; exact ⟨Nat.le_of_ble_eq_true hroom.1, Nat.le_of_ble_eq_true hroom.2⟩)
  intro w hw
  rcases List.mem_append.mp hw with h | h
  · have h2 : w ∈ TB := by
      rcases List.mem_cons.mp h with rfl | h; exact w1
      rcases List.mem_cons.mp h with rfl | h; exact w2
      rcases List.mem_cons.mp h with rfl | h; exact w3
      rcases List.mem_cons.mp h with rfl | h; exact w4
      cases h
    exact ⟨h2, gTB h2⟩
  · exact gdTB w5 w h
theorem k_callS (hx : Cx x g cc own nL R) (hlk : lkS own index μ na) (hd : At cc pc (.invokestatic index) 3 pc') (hC : Ct g (xL x) μ mc ms As L n M post) (hn : As.length = na) (hst : st = As.reverse ++ rest) (hcat : Nat.ble (rest.map fun v => v.category).sum 8 = true) (hroom : Nat.ble (μ.2.2.2.2.1 + 1) R.frames = true ∧ Nat.ble (8 + (μ.2.2.1 + 11) + μ.2.2.2.2.2) R.locals = true) (hcell : cs + mc ≤ R.cells ∧ sl + ms ≤ R.slots)
    (kk : ∀ (r : Option Value) (L' : Lay) (n' : Nat) (M' : Mem), post r L' n' M' → K x g (cs + mc) (sl + ms) L' n' M' pc' ls (r.toList ++ rest)) : K x g cs sl L n M pc ls st := by
  intro H locs la hR hS hl
  obtain ⟨hd1, hd2⟩ := hd
  subst hd2
  obtain ⟨w1, w2, w3, w4, hdesc⟩ := hlk
  have hts := hx.2.2.2.2.1
  have hRm : xR x = R := hx.2.2.2.2.2.2
  refine k_run (a := As.toArray) hx hS hl ?_ kk
  refine va_runS (own := own) (cc := cc) (nL := nL) (Ts := TB) (n := na) (ret := μ.2.2.2.1) (bytes := μ.2.1) (maxL := μ.2.2.1) ⟨hx.1, hx.2.1, hx.2.2.1, hx.2.2.2.1, hts⟩ hC ?_ ⟨Pz.blind, fun U hU hW => Pz.of hR hx.2.2.2.2.2.1 hU hW⟩ rfl hn (hl.1.trans hx.2.2.1) hst (lv_room (pc := pc) (m := xM x) (ls := la) (rest := st) (Nat.le_of_ble_eq_true hcat)) hd1 (by rw [hRm]; exact hcell)
  refine va_cwS na hts ?_ rfl rfl rfl hdesc (by rw [hRm]; exact ⟨Nat.le_of_ble_eq_true hroom.1, Nat.le_of_ble_eq_true hroom.2⟩)
  intro w hw
  rcases List.mem_append.mp hw with h | h
  · have h2 : w ∈ TB := by
      rcases List.mem_cons.mp h with rfl | h; exact w1
      rcases List.mem_cons.mp h with rfl | h; exact w2
      rcases List.mem_cons.mp h with rfl | h; exact w3
      cases h
    exact ⟨h2, gTB h2⟩
  · exact gdTB w4 w h
theorem k_callN {host : String} (hx : Cx x g cc own nL R) (hlk : lkN own index μ host na) (hd : At cc pc (.invokestatic index) 3 pc') (hC : Ct g (xL x) μ mc ms As L n M post) (hn : As.length = na) (hst : st = As.reverse ++ rest) (hcat : Nat.ble (rest.map fun v => v.category).sum 8 = true) (hroom : Nat.ble (μ.2.2.2.2.1 + 1) R.frames = true ∧ Nat.ble (8 + (μ.2.2.1 + 11) + μ.2.2.2.2.2) R.locals = true) (hcell : cs + mc ≤ R.cells ∧ sl + ms ≤ R.slots)
    (kk : ∀ (r : Option Value) (L' : Lay) (n' : Nat) (M' : Mem), post r L' n' M' → K x g (cs + mc) (sl + ms) L' n' M' pc' ls (r.toList ++ rest)) : K x g cs sl L n M pc ls st := by
  intro H locs la hR hS hl
  obtain ⟨hd1, hd2⟩ := hd
  subst hd2
  obtain ⟨w1, w2, w3, w4, hdesc⟩ := hlk
  have hts := hx.2.2.2.2.1
  have hRm : xR x = R := hx.2.2.2.2.2.2
  refine k_run (a := As.toArray) hx hS hl ?_ kk
  refine va_runSN (own := own) (host := host) (cc := cc) (nL := nL) (Ts := TB) (n := na) (ret := μ.2.2.2.1) (bytes := μ.2.1) (maxL := μ.2.2.1) ⟨hx.1, hx.2.1, hx.2.2.1, hx.2.2.2.1, hts⟩ hC ?_ ⟨Pz.blind, fun U hU hW => Pz.of hR hx.2.2.2.2.2.1 hU hW⟩ rfl hn (hl.1.trans hx.2.2.1) hst (lv_room (pc := pc) (m := xM x) (ls := la) (rest := st) (Nat.le_of_ble_eq_true hcat)) hd1 (by rw [hRm]; exact hcell)
  exact ⟨va_cnB na hts (gdTB w4) rfl rfl rfl (hx.2.2.2.2.2.1.2.1 _ w1) (hts _ w3) hdesc (by rw [hRm]; exact ⟨Nat.le_of_ble_eq_true hroom.1, Nat.le_of_ble_eq_true hroom.2⟩), hts _ w2, trivial⟩
theorem k_callI (hx : Cx x g cc own nL R) (hlk : lkI own index μ na) (hd : At cc pc (.invokespecial index) 3 pc') (hC : Ct g (xL x) μ mc ms (vR g i :: As) L n M post) (hn : As.length = na) (hst : st = As.reverse ++ vR g i :: rest) (hcat : Nat.ble (rest.map fun v => v.category).sum 8 = true) (hroom : Nat.ble (μ.2.2.2.2.1 + 1) R.frames = true ∧ Nat.ble (8 + (μ.2.2.1 + 11) + μ.2.2.2.2.2) R.locals = true) (hcell : cs + mc ≤ R.cells ∧ sl + ms ≤ R.slots)
    (kk : ∀ (r : Option Value) (L' : Lay) (n' : Nat) (M' : Mem), post r L' n' M' → K x g (cs + mc) (sl + ms) L' n' M' pc' ls (r.toList ++ rest)) : K x g cs sl L n M pc ls st := by
  intro H locs la hR hS hl
  obtain ⟨hd1, hd2⟩ := hd
  subst hd2
  obtain ⟨w1, w2, w3, w4, hdesc, hnm, hret⟩ := hlk
  have hts := hx.2.2.2.2.1
  have hRm : xR x = R := hx.2.2.2.2.2.2
  refine k_run (a := (vR g i :: As).toArray) hx hS hl ?_ kk
  obtain ⟨y, by', mL, rt, fr, lo⟩ := μ
  dsimp only at hret
  subst hret
  refine va_runI (own := own) (cc := cc) (nL := nL) (Ts := TB) (n := na) (bytes := by') (maxL := mL) ⟨hx.1, hx.2.1, hx.2.2.1, hx.2.2.2.1, hts⟩ hC ?_ ⟨Pz.blind, fun U hU hW => Pz.of hR hx.2.2.2.2.2.1 hU hW⟩ rfl hn (hl.1.trans hx.2.2.1) hst (lv_room (pc := pc) (m := xM x) (ls := la) (rest := st) (Nat.le_of_ble_eq_true hcat)) hd1 (by rw [hRm]; exact hcell)
  exact cwI na hts (gdTB w4) rfl rfl rfl (hts _ w3) (hts _ w1) (hts _ w2) hnm hdesc (by rw [hRm]; exact ⟨Nat.le_of_ble_eq_true hroom.1, Nat.le_of_ble_eq_true hroom.2⟩)
end CALLS

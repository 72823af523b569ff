/-! rows of making: objects and arrays stand behind one another -/
def clr (M : Mem) (i : Nat) : Mem := fun a b => if a = i then 0 else M a b
theorem clr_s {M : Mem} {i : Nat} {k : Int} : clr M i i k = 0 := if_pos rfl
theorem clr_n {M : Mem} {i a : Nat} (h : a ≠ i) : clr M i a = M a := funext fun _ => if_neg h
theorem rep_mk1 {g : GE} {n : Nat} {L : Lay} {M : Mem} {H H1 : Heap} {k : LK} (hR : Rep g n L M H) (hs : H1.size = g.1 + n + 1) (ho : ∀ q : Nat, q < g.1 + n → H1[q]? = H[q]?) (hc : cellAt g (g.1 + n) (fun _ => 0) H1 k) : Rep g (n + 1) (upL L n k) (clr M n) H1 := by
  refine ⟨by rw [hs]; omega, fun j hj => ?_⟩
  by_cases hjn : j = n
  · subst hjn
    rw [upL_s, show clr M j j = fun _ => 0 from funext fun b => if_pos rfl]
    exact hc
  · rw [upL_n hjn, clr_n hjn]
    exact (hR.2 j (by omega)).kept (ho _ (by omega))
def df : FS → Value
  | none => .int 0
  | some _ => .null
theorem df_ok {g : GE} {k : Nat} {o : FS} (h : o = none ∨ o = some none) : df o = fv g (fun _ => 0) k o := by
  rcases h with rfl | rfl
  · show Value.int 0 = Value.int (zI 0)
    rw [zI_0]
  · rfl
/-- the entry 'index' of 'own' makes an object of class ci, its fields fs at first -/
def NW (own : String) (index ci : Nat) (fs : List FS) : Prop := ∃ (C : String) (T : u_T) (N : Nat) (ty : Nat → FieldType), classes[ci]? = some (C, T, N) ∧ Cond.classLink own index C ∈ TB ∧ Cond.instantiable C N ∈ TB ∧ Cond.initialized C ∈ TB ∧ (∀ w ∈ u_ws C T N, w ∈ TB) ∧ (∀ k, k < N → parseFieldDescriptor (T k).2.2.1 = some (ty k)) ∧ fs.length = N ∧ (∀ k, k < N → defaultValue (ty k) = df (fs.getD k none)) ∧ ∀ o ∈ fs, o = none ∨ o = some none
section MAKE
variable {x : Fx} {g : GE} {cc : ByteArray} {own : String} {nL : Nat} {R : Room} {cs sl : Nat} {L : Lay} {n : Nat} {M : Mem} {pc pc' tgt : Nat} {ls : List (Nat × Value)} {st : List Value}
theorem k_new (hx : Cx x g cc own nL R) {index ci N : Nat} {fs : List FS} (hn : NW own index ci fs) (hd : At cc pc (.new index) 3 pc') (hN : fs.length = N) (hc : cs + 1 ≤ R.cells ∧ sl + N ≤ R.slots) (kk : ∀ L' M', L' = upL L n (kO ci fs) → M' = clr M n → K x g (cs + 1) (sl + N) L' (n + 1) M' pc' ls (vR g n :: st)) : K x g cs sl L n M pc ls st := by
  intro H locs la hR hS hl
  obtain ⟨hex, hcc, hnl, how, hts, hK, hRm⟩ := hx
  obtain ⟨C, T, N', ty, hci, h1, h2, h3, hin, hty, hlen, hdf, hfs⟩ := hn
  obtain ⟨hd1, hd2⟩ := hd
  subst hd2
  have hNN : N' = N := hlen.symm.trans hN
  subst hNN
  have hKn := hK.1.1 ci _ hci
  refine W.newcK hex hcc how (hts _ h1) (hts _ h2) (hts _ h3) rfl hd1 (by rw [hRm]; exact hc.1) (by rw [hRm]; exact hc.2) hKn.2.1 (h := g.1 + n) hR.1 fun H1 kC hkC e1 z1 o1 => ?_
  have hob := u_born ty hts hin hKn hkC e1 hty
  refine kk _ _ rfl rfl H1 locs la (rep_mk1 hR z1 o1 ⟨_, hci, hob.to (fun k hk => ?_)⟩) ⟨by have := hS.1; have := hR.1; omega, fun q q1 q2 => (o1 q (by have := hS.1; have := hR.1; omega)).trans (hS.2.1 q q1 q2), hS.2.2⟩ hl
  rw [hdf k hk]
  refine df_ok ?_
  have hk2 : k < fs.length := by rw [hlen]; exact hk
  rw [List.getD_eq_getElem?_getD, List.getElem?_eq_getElem hk2]
  exact hfs _ (List.getElem_mem hk2)
theorem k_newaG (hx : Cx x g cc own nL R) {t N : Nat} {z : Int} {at' : ArrayType} (ht : (t = 0 ∧ at' = .int) ∨ (t = 1 ∧ at' = .boolean)) (hd : At cc pc (.newarray at') 2 pc') (hz : z = N) (hN : N ≤ 100000) (hc : cs + 1 ≤ R.cells ∧ sl + N ≤ R.slots) (kk : ∀ L' M', L' = upL L n (kA t N) → M' = clr M n → K x g (cs + 1) (sl + N) L' (n + 1) M' pc' ls (vR g n :: st)) : K x g cs sl L n M pc ls (vI z :: st) := by
  intro H locs la hR hS hl
  obtain ⟨hex, hcc, hnl, how, hts, hK, hRm⟩ := hx
  obtain ⟨hd1, hd2⟩ := hd
  subst hd2
  subst hz
  have hcl : (zI (N : Int)).toNatClampNeg = N := by
    have := zI_clamp (z := (N : Int)) (N := N + 1) (by omega) (by omega) (by omega)
    omega
  have hng : ¬ zI (N : Int) < 0 := by
    rw [← zI_0, zI_lt (by omega)]; omega
  have key : ∀ (ty : FieldType) (H1 : Heap) (cA : ClassId), newarray.typeOf at' = ty → defaultValue ty = .int 0 → cA = g.2.2.1 t → H1[g.1 + n]? = some (arrV cA N (fun _ => defaultValue (newarray.typeOf at'))) → H1.size = g.1 + n + 1 → (∀ q, q < g.1 + n → H1[q]? = H[q]?) → W (xP x) (xL x) (xE x) (xR x) (xS x) (xM x) (xA x) (xB x) (xT x) (xC x) H1 locs (cs + 1) (sl + N) (xQ x) (F0 (xM x) (pc + 2) la (vR g n :: st)) := by
    intro ty H1 cA hty hdv hcA e1 z1 o1
    subst hcA
    refine kk _ _ rfl rfl H1 locs la (rep_mk1 hR z1 o1 ?_) ⟨by have := hS.1; have := hR.1; omega, fun q q1 q2 => (o1 q (by have := hS.1; have := hR.1; omega)).trans (hS.2.1 q q1 q2), hS.2.2⟩ hl
    show H1[g.1 + n]? = some (arrV (g.2.2.1 t) N (fun _ => Value.int (zI 0)))
    rw [e1, hty, hdv, zI_0]
  rcases ht with ⟨rfl, rfl⟩ | ⟨rfl, rfl⟩
  · refine va_newaK (atype := .int) hex hcc (hts _ ac_I) rfl hd1 rfl hng hcl (by show N * 4 ≤ 536870912; omega) (by rw [hRm]; exact hc.1) (by rw [hRm]; exact hc.2) (h := g.1 + n) hR.1 fun H1 cA e1 z1 o1 hAr hNm => ?_
    have h0 : (xS x).vm.findClass ("[" ++ (newarray.typeOf .int).toString) = some (g.2.2.1 0) := (hK.1.2 0 _ rfl).2
    exact key _ H1 cA rfl rfl (Option.some.inj (hNm.symm.trans h0)) e1 z1 o1
  · refine va_newaK (atype := .boolean) hex hcc (hts _ ac_Z) rfl hd1 rfl hng hcl (by show N * 1 ≤ 536870912; omega) (by rw [hRm]; exact hc.1) (by rw [hRm]; exact hc.2) (h := g.1 + n) hR.1 fun H1 cA e1 z1 o1 hAr hNm => ?_
    have h0 : (xS x).vm.findClass ("[" ++ (newarray.typeOf .boolean).toString) = some (g.2.2.1 1) := (hK.1.2 1 _ rfl).2
    exact key _ H1 cA rfl rfl (Option.some.inj (hNm.symm.trans h0)) e1 z1 o1
theorem k_newaI (hx : Cx x g cc own nL R) {N : Nat} {z : Int} (hd : At cc pc (.newarray .int) 2 pc') (hz : z = N) (hN : N ≤ 100000) (hc : cs + 1 ≤ R.cells ∧ sl + N ≤ R.slots) (kk : ∀ L' M', L' = upL L n (kA 0 N) → M' = clr M n → K x g (cs + 1) (sl + N) L' (n + 1) M' pc' ls (vR g n :: st)) : K x g cs sl L n M pc ls (vI z :: st) := k_newaG hx (Or.inl ⟨rfl, rfl⟩) hd hz hN hc kk
theorem k_newaZ (hx : Cx x g cc own nL R) {N : Nat} {z : Int} (hd : At cc pc (.newarray .boolean) 2 pc') (hz : z = N) (hN : N ≤ 100000) (hc : cs + 1 ≤ R.cells ∧ sl + N ≤ R.slots) (kk : ∀ L' M', L' = upL L n (kA 1 N) → M' = clr M n → K x g (cs + 1) (sl + N) L' (n + 1) M' pc' ls (vR g n :: st)) : K x g cs sl L n M pc ls (vI z :: st) := k_newaG hx (Or.inr ⟨rfl, rfl⟩) hd hz hN hc kk
theorem k_anew (hx : Cx x g cc own nL R) {t N index : Nat} {C : String} {z : Int} {qs : List (Option Nat)} (ht : (t = 2 ∧ C = RX3) ∨ (t = 3 ∧ C = RX4)) (hlk : Cond.classLink own index C ∈ TB) (hd : At cc pc (.anewarray index) 3 pc') (hz : z = N) (hN : N ≤ 100000) (hqs : qs = List.replicate N none) (hc : cs + 1 ≤ R.cells ∧ sl + N ≤ R.slots) (kk : ∀ L' M', L' = upL L n (kR t qs) → M' = clr M n → K x g (cs + 1) (sl + N) L' (n + 1) M' pc' ls (vR g n :: st)) : K x g cs sl L n M pc ls (vI z :: st) := by
  intro H locs la hR hS hl
  obtain ⟨hex, hcc, hnl, how, hts, hK, hRm⟩ := hx
  obtain ⟨hd1, hd2⟩ := hd
  subst hd2
  subst hz
  have hcl : (zI (N : Int)).toNatClampNeg = N := by
    have := zI_clamp (z := (N : Int)) (N := N + 1) (by omega) (by omega) (by omega)
    omega
  have hng : ¬ zI (N : Int) < 0 := by
    rw [← zI_0, zI_lt (by omega)]; omega
  have hao : va_AO C (xS x) := by rcases ht with ⟨-, rfl⟩ | ⟨-, rfl⟩; exact hK.2.2.1; exact hK.2.2.2
  have hnm : (xS x).vm.findClass ("[" ++ (FieldType.object C).toString) = some (g.2.2.1 t) := by
    rcases ht with ⟨rfl, rfl⟩ | ⟨rfl, rfl⟩
    · obtain ⟨_, _, _, _, _, h⟩ := (hK.1.2 2 _ rfl).2; exact h
    · obtain ⟨_, _, _, _, _, h⟩ := (hK.1.2 3 _ rfl).2; exact h
  refine W.anew hex hcc how (hts _ hlk) (va_AO.use hao) rfl hd1 rfl hng (by rw [hcl]; omega) (by rw [hRm]; exact hc.1) (by rw [hRm, hcl]; exact hc.2) fun cA kA comp f1 f2 f3 f4 => ?_
  have hcA : cA = g.2.2.1 t := Option.some.inj (f1.symm.trans hnm)
  rw [hcl]
  generalize hH1 : H.push ({ cls := cA, slots := Array.replicate N .null, vm := .none } : Cell) = H1
  have hRs := hR.1
  have z1 : H1.size = g.1 + n + 1 := by rw [← hH1, Array.size_push, hRs]
  have e1 : H1[g.1 + n]? = some (arrV cA N (fun _ => .null)) := by rw [← hH1, ← hRs, Array.getElem?_push_size, ← arrV_new]
  have o1 : ∀ q : Nat, q < g.1 + n → H1[q]? = H[q]? := fun q hq => by rw [← hH1, Array.getElem?_push, if_neg (by omega)]
  have hv : Value.ref H.size = vR g n := by rw [hRs]
  rw [hv]
  refine kk _ _ rfl rfl H1 locs la (rep_mk1 hR z1 o1 ?_) ⟨by have := hS.1; omega, fun q q1 q2 => (o1 q (by have := hS.1; omega)).trans (hS.2.1 q q1 q2), hS.2.2⟩ hl
  subst hqs
  show H1[g.1 + n]? = some (arrV (g.2.2.1 t) (List.replicate N none).length _)
  rw [e1, hcA]
  have hf : (fun j => va_rf (((List.replicate N (none : Option Nat)).getD j none).map (fun q => g.1 + q))) = fun _ => Value.null := by
    funext j
    have : (List.replicate N (none : Option Nat)).getD j none = none := by
      rw [List.getD_eq_getElem?_getD, List.getElem?_replicate]; split <;> rfl
    rw [this]; rfl
  rw [hf, List.length_replicate]
theorem k_aast (hx : Cx x g cc own nL R) {t i q ci : Nat} {qs qs' : List (Option Nat)} {z : Int} {fs : List FS} (ht : (t = 2 ∧ ci = 3) ∨ (t = 3 ∧ ci = 4)) (hd : At cc pc .aastore 1 pc') (hi : i < n) (hL : L i = kR t qs) (hq : q < n) (hLq : L q = kO ci fs) (hz : 0 ≤ z ∧ z < qs.length) (hN : qs.length ≤ 2147483647) (hs : qs' = qs.set z.toNat (some q)) (kk : ∀ L', L' = upL L i (kR t qs') → K x g cs sl L' n M pc' ls st) : K x g cs sl L n M pc ls (vR g q :: vI z :: vR g i :: st) := by
  intro H locs la hR hS hl
  obtain ⟨hex, hcc, hnl, how, hts, hK, -⟩ := hx
  obtain ⟨hd1, hd2⟩ := hd
  subst hd2
  have hcell := hR.2 i hi
  rw [hL] at hcell
  have hcq := hR.2 q hq
  rw [hLq] at hcq
  have hc := zI_clamp hz.1 hz.2 hN
  have h1 := zI_in hz.1 hz.2 hN
  have hidx : (zI z).toNatClampNeg = z.toNat := by omega
  obtain ⟨C, T, N, hci, hty⟩ : ∃ (C : String) (T : u_T) (N : Nat), classes[ci]? = some (C, T, N) ∧ tyT t = .object C := by
    rcases ht with ⟨rfl, rfl⟩ | ⟨rfl, rfl⟩
    · exact ⟨_, _, _, rfl, rfl⟩
    · exact ⟨_, _, _, rfl, rfl⟩
  obtain ⟨kA, comp, k1, k2, k3, -⟩ : ∃ (kA : Class) (comp : ClassId), (xS x).vm.classes[g.2.2.1 t]? = some kA ∧ kA.kind = .array comp (.object C) ∧ (xS x).vm.findClass C = some comp ∧ True := by
    rcases ht with ⟨rfl, rfl⟩ | ⟨rfl, rfl⟩
    · cases hci
      obtain ⟨kA, comp, a1, a2, a3, -⟩ := (hK.1.2 2 _ rfl).2
      exact ⟨kA, comp, a1, a2, a3, trivial⟩
    · cases hci
      obtain ⟨kA, comp, a1, a2, a3, -⟩ := (hK.1.2 3 _ rfl).2
      exact ⟨kA, comp, a1, a2, a3, trivial⟩
  obtain ⟨cellV, g1, g2, g3, -⟩ := cellAt.obj hci hcq
  have hcls := (hK.1.1 ci _ hci).2
  have hcomp : comp = g.2.1.1 ci := Option.some.inj (k3.symm.trans hcls.1)
  subst hcomp
  obtain ⟨kC, hkC, -⟩ := hcls.2
  refine W.aast hex hcc hcell (fun q h => by cases h) (fun h => by cases h) k1 k2 rfl hkC ⟨fun q => h1 (Or.inl q), by show _ < (arrV _ _ _).slots.size; rw [arrV_size]; omega⟩ g1 (fun q h => by rw [g3] at h; cases h) (by rw [g2]; exact hkC) (by rw [g2]; exact va_assign hcls) rfl rfl hd1 fun H1 e1 z1 o1 => ?_
  refine kk _ rfl H1 _ la (hR.upL z1 o1 hi ?_) (hS.put z1 o1 (Nat.le_add_right _ _)) hl
  subst hs
  show H1[g.1 + i]? = some (arrV (g.2.2.1 t) (qs.set z.toNat (some q)).length _)
  rw [e1, arrV_store, List.length_set, hidx]
  congr 2
  funext j
  by_cases hj : j = z.toNat
  · subst hj
    have hlt : z.toNat < qs.length := by omega
    simp [updV, List.getD_eq_getElem?_getD, hlt, va_rf]
  · simp [updV, hj, List.getD_eq_getElem?_getD, List.getElem?_set, Ne.symm hj]
theorem k_objI (hx : Cx x g cc own nL R) {index i : Nat} (hlk : Cond.methodLink own index Lib.objectInit ∈ TB) (hd : At cc pc (.invokespecial index) 3 pc') (hroom : Nat.ble 1 R.frames = true ∧ Nat.ble 12 R.locals = true) (kk : K x g cs sl L n M pc' ls []) : K x g cs sl L n M pc ls [vR g i] := by
  intro H locs la hR hS hl
  obtain ⟨hex, hcc, hnl, how, hts, hK, hRm⟩ := hx
  obtain ⟨hd1, hd2⟩ := hd
  subst hd2
  exact W.objInit hex hcc how (hts _ hlk) (hts _ o_in) (hts _ o_code) rfl hl.1 rfl hd1 (by rw [hRm]; exact Nat.le_of_ble_eq_true hroom.1) (by rw [hRm]; exact Nat.le_of_ble_eq_true hroom.2) (kk H locs la hR hS hl)
theorem k_iincV (hx : Cx x g cc own nL R) {k : Nat} {c a v : Int} (hd : At cc pc (.iinc k c) 3 pc') (j : Nat) (hj : ls[j]? = some (k, vI a)) (hv : a + c = v) {ls' : List (Nat × Value)} (hs : setL ls k (vI v) = ls') (hok : okL ls k = true) (hk : k < nL) (kk : K x g cs sl L n M pc' ls' st) : K x g cs sl L n M pc ls st := by
  subst hv
  exact k_iinc hx hd j hj hs hok hk kk
theorem k_putFN (hx : Cx x g cc own nL R) (hin2 : (xT x).name = "<init>") {index ci k i : Nat} {fs fs' : List FS} {v : Value} {o : FS} {ft : FieldType} (hf : FL own index ci k true ft) (hown : ∀ q : vw_C, classes[ci]? = some q → q.1 = own) (hd : At cc pc (.putfield index) 3 pc') (hi : i < n) (hL : L i = kO ci fs) (hv : ∀ m : Int → Int, fv g m k o = v) (hz : narrow ft v = v ∧ fits ft v = true) (hs : fs' = fs.set k o) (hk2 : k < fs.length) (kk : ∀ L', L' = upL L i (kO ci fs') → K x g cs sl L' n M pc' ls st) : K x g cs sl L n M pc ls (v :: vR g i :: st) :=
  k_putF hx hin2 hf hown hd hi hL hv hz hs hk2 (kk _ rfl)
end MAKE

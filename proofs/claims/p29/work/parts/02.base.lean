/-! ONE WORLD AT FIXED PLACES: every object of the run stands at g.1 + i; what it is, says a layout; its numbers are a function of place and index -/
abbrev Mem : Type := Nat → Int → Int
abbrev FS : Type := Option (Option Nat)
abbrev LK : Type := (Nat × List FS) ⊕ (Nat × (Nat ⊕ List (Option Nat)))
abbrev Lay : Type := Nat → LK
abbrev GE : Type := Nat × va_G × (Nat → ClassId) × Nat
abbrev kO (ci : Nat) (fs : List FS) : LK := .inl (ci, fs)
abbrev kA (t n : Nat) : LK := .inr (t, .inl n)
abbrev kR (t : Nat) (qs : List (Option Nat)) : LK := .inr (t, .inr qs)
/-- numbers: an Int32 is the image of an Int -/
def zI (z : Int) : Int32 := Int32.ofInt z
theorem zI_add (a b : Int) : zI a + zI b = zI (a + b) := (Int32.ofInt_add a b).symm
theorem zI_sub (a b : Int) : zI a - zI b = zI (a - b) := (Int32.ofInt_sub a b).symm
theorem zI_mul (a b : Int) : zI a * zI b = zI (a * b) := (Int32.ofInt_mul a b).symm
theorem zI_neg (a : Int) : - zI a = zI (-a) := (Int32.ofInt_neg a).symm
theorem zI_int {z : Int} (h : -2147483648 ≤ z ∧ z < 2147483648) : (zI z).toInt = z := Int32.toInt_ofInt_of_le (by omega) (by omega)
theorem zI_of (x : Int32) : zI x.toInt = x := Int32.ofInt_toInt x
theorem i32_rg (x : Int32) : -2147483648 ≤ x.toInt ∧ x.toInt < 2147483648 := ⟨by have := Int32.le_toInt x; omega, by have := Int32.toInt_lt x; omega⟩
theorem zI_lt {a b : Int} (h : (-2147483648 ≤ a ∧ a < 2147483648) ∧ (-2147483648 ≤ b ∧ b < 2147483648)) : zI a < zI b ↔ a < b := by
  rw [Int32.lt_iff_toInt_lt, zI_int h.1, zI_int h.2]
theorem zI_le {a b : Int} (h : (-2147483648 ≤ a ∧ a < 2147483648) ∧ (-2147483648 ≤ b ∧ b < 2147483648)) : zI a ≤ zI b ↔ a ≤ b := by
  rw [Int32.le_iff_toInt_le, zI_int h.1, zI_int h.2]
theorem zI_eq {a b : Int} (h : (-2147483648 ≤ a ∧ a < 2147483648) ∧ (-2147483648 ≤ b ∧ b < 2147483648)) : zI a = zI b ↔ a = b := by
  rw [← Int32.toInt_inj, zI_int h.1, zI_int h.2]
theorem zI_0 : zI 0 = 0 := by decide +kernel
theorem zI_1 : zI 1 = 1 := by decide +kernel
theorem zI_clamp {z : Int} {N : Nat} (h0 : 0 ≤ z) (h : z < N) (hN : N ≤ 2147483647) : (((zI z).toNatClampNeg : Nat) : Int) = z := by
  have : (zI z).toNatClampNeg = (zI z).toInt.toNat := rfl
  rw [this, zI_int (by omega)]
  omega
theorem zI_in {z : Int} {N : Nat} (h0 : 0 ≤ z) (h : z < N) (hN : N ≤ 2147483647) : ¬ (zI z < 0 ∨ N ≤ (zI z).toNatClampNeg) := by
  intro q
  rcases q with q | q
  · rw [← zI_0, zI_lt (by omega)] at q
    omega
  · have := zI_clamp h0 h hN
    omega
theorem zI_irem {a b : Int} (ha : 0 ≤ a) (hb : 0 < b) (ha2 : a < 2147483648) (hb2 : b < 2147483648) : zI a - zI a / zI b * zI b = zI (a % b) := by
  have h1 : (zI a / zI b) = zI (a / b) := by
    apply Int32.toInt.inj
    rw [Int32.toInt_div_of_ne_right _ _ (fun q => by have := congrArg Int32.toInt q; rw [zI_int (by omega)] at this; have e : (-1 : Int32).toInt = -1 := by decide +kernel
                                                     omega), zI_int (by omega), zI_int (by omega), Int.tdiv_eq_ediv_of_nonneg ha, zI_int]
    have h1 := Int.ediv_nonneg ha (Int.le_of_lt hb)
    have h2 := Int.ediv_le_self b ha
    omega
  rw [h1, zI_mul, zI_sub, Int.emod_def, Int.mul_comm]
theorem zI_idiv {a b : Int} (ha : 0 ≤ a) (hb : 0 < b) (ha2 : a < 2147483648) (hb2 : b < 2147483648) : zI a / zI b = zI (a / b) := by
  apply Int32.toInt.inj
  rw [Int32.toInt_div_of_ne_right _ _ (fun q => by have := congrArg Int32.toInt q; rw [zI_int (by omega)] at this; have e : (-1 : Int32).toInt = -1 := by decide +kernel
                                                   omega), zI_int (by omega), zI_int (by omega), Int.tdiv_eq_ediv_of_nonneg ha, zI_int]
  have h1 := Int.ediv_nonneg ha (Int.le_of_lt hb)
  have h2 := Int.ediv_le_self b ha
  omega
abbrev vI (z : Int) : Value := .int (zI z)
abbrev vR (g : GE) (i : Nat) : Value := .ref (g.1 + i)
def fv (g : GE) (m : Int → Int) (k : Nat) : FS → Value
  | none => vI (m (k : Int))
  | some none => .null
  | some (some q) => vR g q
def cellAt (g : GE) (a : Nat) (m : Int → Int) (H : Heap) : LK → Prop
  | .inl (ci, fs) => ∃ r : vw_C, classes[ci]? = some r ∧ t_OB a (g.2.1.1 ci) r.2.2 (g.2.1.2 ci) H (fun k => fv g m k (fs.getD k none))
  | .inr (t, .inl n) => H[a]? = some (arrV (g.2.2.1 t) n (fun j => vI (m (j : Int))))
  | .inr (t, .inr qs) => H[a]? = some (arrV (g.2.2.1 t) qs.length (fun j => va_rf ((qs.getD j none).map (fun q => g.1 + q))))
theorem cellAt.kept {g : GE} {a : Nat} {m : Int → Int} {H H1 : Heap} {k : LK} (h : cellAt g a m H k) (hq : H1[a]? = H[a]?) : cellAt g a m H1 k := by
  match k, h with
  | .inl (ci, fs), ⟨r, h1, h2⟩ => exact ⟨r, h1, h2.kept hq⟩
  | .inr (t, .inl n), h => exact hq.trans h
  | .inr (t, .inr qs), h => exact hq.trans h
/-- n cells from g.1 on, and none behind them -/
def Rep (g : GE) (n : Nat) (L : Lay) (M : Mem) (H : Heap) : Prop := H.size = g.1 + n ∧ ∀ i, i < n → cellAt g (g.1 + i) (M i) H (L i)
def tyT : Nat → FieldType
  | 0 => .int
  | 1 => .boolean
  | 2 => .object RX3
  | _ => .object RX4
abbrev tysT (g : GE) : List (ClassId × FieldType) := [(g.2.2.1 0, tyT 0), (g.2.2.1 1, tyT 1), (g.2.2.1 2, tyT 2), (g.2.2.1 3, tyT 3)]
def nestQ : List (String × Nat × MethodName × String) := [(RX4, 25, yX5_opposite, RX5), (RX3, 36, yX5_postOf, RX5), (RX3, 39, yX5_isPost, RX5), (RX4, 61, yX5_postOf, RX5)]
/-- what is known of classes and links -/
def Kn (g : GE) (U : State) : Prop := va_K g.2.1 classes (tysT g) U ∧ (∀ q ∈ nestQ, va_Nw (.methodLinkNest q.1 q.2.1 q.2.2.1 q.2.2.2) U) ∧ va_AO RX3 U ∧ va_AO RX4 U
theorem Kn.eq {g : GE} {u U : State} (h : u.vm = U.vm) (k : Kn g u) : Kn g U := by
  have ha : u.vm.Alike U.vm := by rw [h]; exact Vm.Alike.refl _
  exact ⟨va_K.moved ha k.1, fun q hq => va_Nw.same rfl h (k.2.1 q hq), va_AO.moved ha k.2.2.1, va_AO.moved ha k.2.2.2⟩
theorem Kn.warm {g : GE} {s U : State} (hW : s.WarmedH U.vm) (k : Kn g s) : Kn g U :=
  ⟨va_K.moved hW.alike k.1, fun q hq => va_Nw.warmM hW (k.2.1 q hq), va_AO.moved hW.alike k.2.2.1, va_AO.moved hW.alike k.2.2.2⟩
abbrev Fx : Type := Program × Launch × Env × Room × State × MethodId × Array Value × List Frame × Method × Code × (State → Prop)
abbrev xP (x : Fx) : Program := x.1
abbrev xL (x : Fx) : Launch := x.2.1
abbrev xE (x : Fx) : Env := x.2.2.1
abbrev xR (x : Fx) : Room := x.2.2.2.1
abbrev xS (x : Fx) : State := x.2.2.2.2.1
abbrev xM (x : Fx) : MethodId := x.2.2.2.2.2.1
abbrev xA (x : Fx) : Array Value := x.2.2.2.2.2.2.1
abbrev xB (x : Fx) : List Frame := x.2.2.2.2.2.2.2.1
abbrev xT (x : Fx) : Method := x.2.2.2.2.2.2.2.2.1
abbrev xC (x : Fx) : Code := x.2.2.2.2.2.2.2.2.2.1
abbrev xQ (x : Fx) : State → Prop := x.2.2.2.2.2.2.2.2.2.2
/-- the walk's goal: at pc, with these locals and this stack, over this world -/
def K (x : Fx) (g : GE) (cs sl : Nat) (L : Lay) (n : Nat) (M : Mem) (pc : Nat) (ls : List (Nat × Value)) (st : List Value) : Prop :=
  ∀ (H : Heap) (locs : List Loc) (la : Array Slot), Rep g n L M H → va_S (fun q => g.1 ≤ q) (xS x).heap H locs → lv_has la (xC x).maxLocals ls →
    W (xP x) (xL x) (xE x) (xR x) (xS x) (xM x) (xA x) (xB x) (xT x) (xC x) H locs cs sl (xQ x) (F0 (xM x) pc la st)
/-- what the method stands on -/
def Cx (x : Fx) (g : GE) (cc : ByteArray) (own : String) (nL : Nat) (R : Room) : Prop :=
  (xP x).tables.exec = Jvm.exec ∧ (xC x).code = cc ∧ (xC x).maxLocals = nL ∧ (xS x).vm.findClass own = some (xM x).cls ∧ (∀ w ∈ TB, w.before (xA x) (xS x) = true) ∧ Kn g (xS x) ∧ xR x = R
def At (cc : ByteArray) (pc : Nat) (i : Instr) (len pc' : Nat) : Prop := decode cc pc = .ok (i, len) ∧ pc + len = pc'
def Br (cc : ByteArray) (pc : Nat) (f : Int → Instr) (pc' tgt : Nat) : Prop := ∃ off : Int, decode cc pc = .ok (f off, 3) ∧ pc + 3 = pc' ∧ (pc : Int) + off = (tgt : Int)
def insL (i : Nat) (v : Value) : List (Nat × Value) → List (Nat × Value)
  | [] => [(i, v)]
  | q :: t => bif Nat.blt i q.1 then (i, v) :: q :: t else q :: insL i v t
def setL (ls : List (Nat × Value)) (i : Nat) (v : Value) : List (Nat × Value) := insL i v (ls.filter (fun q => !(q.1 == i)))
def okL (ls : List (Nat × Value)) (i : Nat) : Bool := ls.all (fun q => !(q.1 + 1 == i && q.2.category == 2))
theorem insL_mem {i : Nat} {v : Value} {q : Nat × Value} : ∀ {ls : List (Nat × Value)}, q ∈ insL i v ls → q = (i, v) ∨ q ∈ ls
  | [], h => by simpa [insL] using h
  | a :: t, h => by
    unfold insL at h
    cases hb : Nat.blt i a.1
    · rw [hb] at h
      rcases List.mem_cons.mp h with h | h
      · exact Or.inr (by rw [h]; exact List.mem_cons_self)
      · rcases insL_mem h with h | h
        · exact Or.inl h
        · exact Or.inr (List.mem_cons_of_mem _ h)
    · rw [hb] at h
      rcases List.mem_cons.mp h with h | h
      · exact Or.inl h
      · exact Or.inr h
theorem setL_has {la : Array Slot} {nL i : Nat} {v : Value} {ls : List (Nat × Value)} (hok : okL ls i = true) (h : lv_has la nL ((i, v) :: ls.filter (fun q => !(q.1 == i) && !(q.1 + 1 == i && q.2.category == 2)))) : lv_has la nL (setL ls i v) := by
  refine ⟨h.1, h.2.1, fun q hq => ?_⟩
  rcases insL_mem hq with h1 | h1
  · rw [h1]; exact h.2.2 _ List.mem_cons_self
  · obtain ⟨h2, h3⟩ := List.mem_filter.mp h1
    refine h.2.2 q (List.mem_cons_of_mem _ (List.mem_filter.mpr ⟨h2, ?_⟩))
    have h4 := List.all_eq_true.mp hok q h2
    rw [h3, h4]
    rfl
/-- a long takes two places -/
def okL2 (ls : List (Nat × Value)) (i : Nat) : Bool := ls.all (fun q => !(q.1 == i + 1) && !(q.1 + 1 == i && q.2.category == 2))
theorem setL_has2 {la : Array Slot} {nL i : Nat} {v : Value} {ls : List (Nat × Value)} (hok : okL2 ls i = true) (h : lv_has la nL ((i, v) :: ls.filter (fun q => !(q.1 == i) && (!(q.1 == i + 1) && !(q.1 + 1 == i && q.2.category == 2))))) : lv_has la nL (setL ls i v) := by
  refine ⟨h.1, h.2.1, fun q hq => ?_⟩
  rcases insL_mem hq with h1 | h1
  · rw [h1]; exact h.2.2 _ List.mem_cons_self
  · obtain ⟨h2, h3⟩ := List.mem_filter.mp h1
    refine h.2.2 q (List.mem_cons_of_mem _ (List.mem_filter.mpr ⟨h2, ?_⟩))
    have h4 := List.all_eq_true.mp hok q h2
    rw [h3, h4]
    rfl
def up (M : Mem) (i : Nat) (k z : Int) : Mem := fun a b => if a = i ∧ b = k then z else M a b
theorem up_s {M : Mem} {i : Nat} {k z : Int} : up M i k z i k = z := if_pos ⟨rfl, rfl⟩
theorem up_k {M : Mem} {i : Nat} {k z : Int} {j : Int} (h : j ≠ k) : up M i k z i j = M i j := if_neg fun q => h q.2
theorem up_i {M : Mem} {i : Nat} {k z : Int} {a : Nat} (h : a ≠ i) : up M i k z a = M a := funext fun b => if_neg fun q => h q.1
section ROWS
variable {x : Fx} {g : GE} {cc : ByteArray} {own : String} {nL : Nat} {R : Room} {cs sl : Nat} {L : Lay} {n : Nat} {M : Mem} {pc pc' tgt : Nat} {ls : List (Nat × Value)} {st : List Value}
theorem K.sub {ls' : List (Nat × Value)} (ks : List Nat) (hl : lv_pick ls ks = ls') (k : K x g cs sl L n M pc ls' st) : K x g cs sl L n M pc ls st := fun H locs la hR hS h => k H locs la hR hS (lv_sub h ks hl)
theorem k_iconst (hx : Cx x g cc own nL R) {z : Int} (hd : At cc pc (.iconst z) 1 pc') (k : K x g cs sl L n M pc' ls (vI z :: st)) : K x g cs sl L n M pc ls st := by
  intro H locs la hR hS hl
  obtain ⟨h1, h2⟩ := hd; subst h2
  exact lv_iconst hx.1 hx.2.1 h1 rfl (k H locs la hR hS hl)
theorem k_bipush (hx : Cx x g cc own nL R) {z : Int} (hd : At cc pc (.bipush z) 2 pc') (hz : (Int8.ofInt z).toInt32 = zI z) (k : K x g cs sl L n M pc' ls (vI z :: st)) : K x g cs sl L n M pc ls st := by
  intro H locs la hR hS hl
  obtain ⟨h1, h2⟩ := hd; subst h2
  exact lv_bipush hx.1 hx.2.1 h1 hz (k H locs la hR hS hl)
theorem k_sipush (hx : Cx x g cc own nL R) {z : Int} (hd : At cc pc (.sipush z) 3 pc') (hz : (Int16.ofInt z).toInt32 = zI z) (k : K x g cs sl L n M pc' ls (vI z :: st)) : K x g cs sl L n M pc ls st := by
  intro H locs la hR hS hl
  obtain ⟨h1, h2⟩ := hd; subst h2
  exact lv_sipush hx.1 hx.2.1 h1 hz (k H locs la hR hS hl)
theorem k_lconst (hx : Cx x g cc own nL R) {z : Fin 2} {v : Int64} (hd : At cc pc (.lconst z) 1 pc') (hv : Int64.ofNat (z : Nat) = v) (k : K x g cs sl L n M pc' ls (.long v :: st)) : K x g cs sl L n M pc ls st := by
  intro H locs la hR hS hl
  obtain ⟨h1, h2⟩ := hd; subst h2
  exact lv_lconst hx.1 hx.2.1 h1 hv (k H locs la hR hS hl)
theorem k_iload_n (hx : Cx x g cc own nL R) {k : Fin 4} {v : Int32} (hd : At cc pc (.iload_n k) 1 pc') (j : Nat) (hj : ls[j]? = some ((k : Nat), .int v)) (kk : K x g cs sl L n M pc' ls (.int v :: st)) : K x g cs sl L n M pc ls st := by
  intro H locs la hR hS hl
  obtain ⟨h1, h2⟩ := hd; subst h2
  exact lv_iload_n hx.1 hx.2.1 h1 rfl (lv_at hl j hj) (kk H locs la hR hS hl)
theorem k_iload (hx : Cx x g cc own nL R) {k : Nat} {v : Int32} (hd : At cc pc (.iload k) 2 pc') (j : Nat) (hj : ls[j]? = some (k, .int v)) (kk : K x g cs sl L n M pc' ls (.int v :: st)) : K x g cs sl L n M pc ls st := by
  intro H locs la hR hS hl
  obtain ⟨h1, h2⟩ := hd; subst h2
  exact lv_iload hx.1 hx.2.1 h1 (lv_at hl j hj) (kk H locs la hR hS hl)
theorem k_lload_n (hx : Cx x g cc own nL R) {k : Fin 4} {v : Int64} (hd : At cc pc (.lload_n k) 1 pc') (j : Nat) (hj : ls[j]? = some ((k : Nat), .long v)) (kk : K x g cs sl L n M pc' ls (.long v :: st)) : K x g cs sl L n M pc ls st := by
  intro H locs la hR hS hl
  obtain ⟨h1, h2⟩ := hd; subst h2
  exact lv_lload_n hx.1 hx.2.1 h1 rfl (lv_at hl j hj) (kk H locs la hR hS hl)
theorem k_lload (hx : Cx x g cc own nL R) {k : Nat} {v : Int64} (hd : At cc pc (.lload k) 2 pc') (j : Nat) (hj : ls[j]? = some (k, .long v)) (kk : K x g cs sl L n M pc' ls (.long v :: st)) : K x g cs sl L n M pc ls st := by
  intro H locs la hR hS hl
  obtain ⟨h1, h2⟩ := hd; subst h2
  exact lv_lload hx.1 hx.2.1 h1 (lv_at hl j hj) (kk H locs la hR hS hl)
theorem k_aload_n (hx : Cx x g cc own nL R) {k : Fin 4} {v : Nat} (hd : At cc pc (.aload_n k) 1 pc') (j : Nat) (hj : ls[j]? = some ((k : Nat), .ref v)) (kk : K x g cs sl L n M pc' ls (.ref v :: st)) : K x g cs sl L n M pc ls st := by
  intro H locs la hR hS hl
  obtain ⟨h1, h2⟩ := hd; subst h2
  exact lv_aload_n hx.1 hx.2.1 h1 rfl (lv_at hl j hj) (kk H locs la hR hS hl)
theorem k_aload (hx : Cx x g cc own nL R) {k : Nat} {v : Nat} (hd : At cc pc (.aload k) 2 pc') (j : Nat) (hj : ls[j]? = some (k, .ref v)) (kk : K x g cs sl L n M pc' ls (.ref v :: st)) : K x g cs sl L n M pc ls st := by
  intro H locs la hR hS hl
  obtain ⟨h1, h2⟩ := hd; subst h2
  exact lv_aload hx.1 hx.2.1 h1 (lv_at hl j hj) (kk H locs la hR hS hl)
theorem k_istore_n (hx : Cx x g cc own nL R) {k : Fin 4} {v : Int32} (hd : At cc pc (.istore_n k) 1 pc') {ls' : List (Nat × Value)} (hs : setL ls (k : Nat) (.int v) = ls') (hok : okL ls (k : Nat) = true) (hk : (k : Nat) < nL) (kk : K x g cs sl L n M pc' ls' st) : K x g cs sl L n M pc ls (.int v :: st) := by
  intro H locs la hR hS hl
  obtain ⟨h1, h2⟩ := hd; subst h2; subst hs
  exact lv_istore_n hx.1 hx.2.1 h1 rfl hl (by rw [hx.2.2.1]; exact hk) rfl (fun la' hl' => kk H locs la' hR hS (setL_has hok hl'))
theorem k_istore (hx : Cx x g cc own nL R) {k : Nat} {v : Int32} (hd : At cc pc (.istore k) 2 pc') {ls' : List (Nat × Value)} (hs : setL ls k (.int v) = ls') (hok : okL ls k = true) (hk : k < nL) (kk : K x g cs sl L n M pc' ls' st) : K x g cs sl L n M pc ls (.int v :: st) := by
  intro H locs la hR hS hl
  obtain ⟨h1, h2⟩ := hd; subst h2; subst hs
  exact lv_istore hx.1 hx.2.1 h1 hl (by rw [hx.2.2.1]; exact hk) rfl (fun la' hl' => kk H locs la' hR hS (setL_has hok hl'))
theorem k_astore_n (hx : Cx x g cc own nL R) {k : Fin 4} {v : Nat} (hd : At cc pc (.astore_n k) 1 pc') {ls' : List (Nat × Value)} (hs : setL ls (k : Nat) (.ref v) = ls') (hok : okL ls (k : Nat) = true) (hk : (k : Nat) < nL) (kk : K x g cs sl L n M pc' ls' st) : K x g cs sl L n M pc ls (.ref v :: st) := by
  intro H locs la hR hS hl
  obtain ⟨h1, h2⟩ := hd; subst h2; subst hs
  exact lv_astore_n hx.1 hx.2.1 h1 rfl hl (by rw [hx.2.2.1]; exact hk) rfl (fun la' hl' => kk H locs la' hR hS (setL_has hok hl'))
theorem k_astore (hx : Cx x g cc own nL R) {k : Nat} {v : Nat} (hd : At cc pc (.astore k) 2 pc') {ls' : List (Nat × Value)} (hs : setL ls k (.ref v) = ls') (hok : okL ls k = true) (hk : k < nL) (kk : K x g cs sl L n M pc' ls' st) : K x g cs sl L n M pc ls (.ref v :: st) := by
  intro H locs la hR hS hl
  obtain ⟨h1, h2⟩ := hd; subst h2; subst hs
  exact lv_astore hx.1 hx.2.1 h1 hl (by rw [hx.2.2.1]; exact hk) rfl (fun la' hl' => kk H locs la' hR hS (setL_has hok hl'))
theorem k_lstore_n (hx : Cx x g cc own nL R) {k : Fin 4} {v : Int64} (hd : At cc pc (.lstore_n k) 1 pc') {ls' : List (Nat × Value)} (hs : setL ls (k : Nat) (.long v) = ls') (hok : okL2 ls (k : Nat) = true) (hk : (k : Nat) + 1 < nL) (kk : K x g cs sl L n M pc' ls' st) : K x g cs sl L n M pc ls (.long v :: st) := by
  intro H locs la hR hS hl
  obtain ⟨h1, h2⟩ := hd; subst h2; subst hs
  exact lv_lstore_n hx.1 hx.2.1 h1 rfl hl (by rw [hx.2.2.1]; exact hk) rfl (fun la' hl' => kk H locs la' hR hS (setL_has2 hok hl'))
theorem k_lstore (hx : Cx x g cc own nL R) {k : Nat} {v : Int64} (hd : At cc pc (.lstore k) 2 pc') {ls' : List (Nat × Value)} (hs : setL ls k (.long v) = ls') (hok : okL2 ls k = true) (hk : k + 1 < nL) (kk : K x g cs sl L n M pc' ls' st) : K x g cs sl L n M pc ls (.long v :: st) := by
  intro H locs la hR hS hl
  obtain ⟨h1, h2⟩ := hd; subst h2; subst hs
  exact lv_lstore hx.1 hx.2.1 h1 hl (by rw [hx.2.2.1]; exact hk) rfl (fun la' hl' => kk H locs la' hR hS (setL_has2 hok hl'))
theorem k_iinc (hx : Cx x g cc own nL R) {k : Nat} {c a : Int} (hd : At cc pc (.iinc k c) 3 pc') (j : Nat) (hj : ls[j]? = some (k, vI a)) {ls' : List (Nat × Value)} (hs : setL ls k (vI (a + c)) = ls') (hok : okL ls k = true) (hk : k < nL) (kk : K x g cs sl L n M pc' ls' st) : K x g cs sl L n M pc ls st := by
  intro H locs la hR hS hl
  obtain ⟨h1, h2⟩ := hd; subst h2; subst hs
  exact lv_iinc hx.1 hx.2.1 h1 hl hj (zI_add a c) (by rw [hx.2.2.1]; exact hk) rfl (fun la' hl' => kk H locs la' hR hS (setL_has hok hl'))
theorem k_iadd (hx : Cx x g cc own nL R) {a b : Int} (hd : At cc pc .iadd 1 pc') (k : K x g cs sl L n M pc' ls (vI (a + b) :: st)) : K x g cs sl L n M pc ls (vI b :: vI a :: st) := by
  intro H locs la hR hS hl
  obtain ⟨h1, h2⟩ := hd; subst h2
  refine lv_iadd hx.1 hx.2.1 h1 ?_
  rw [zI_add]
  exact k H locs la hR hS hl
theorem k_isub (hx : Cx x g cc own nL R) {a b : Int} (hd : At cc pc .isub 1 pc') (k : K x g cs sl L n M pc' ls (vI (a - b) :: st)) : K x g cs sl L n M pc ls (vI b :: vI a :: st) := by
  intro H locs la hR hS hl
  obtain ⟨h1, h2⟩ := hd; subst h2
  refine lv_isub hx.1 hx.2.1 h1 ?_
  rw [zI_sub]
  exact k H locs la hR hS hl
theorem k_imul (hx : Cx x g cc own nL R) {a b : Int} (hd : At cc pc .imul 1 pc') (k : K x g cs sl L n M pc' ls (vI (a * b) :: st)) : K x g cs sl L n M pc ls (vI b :: vI a :: st) := by
  intro H locs la hR hS hl
  obtain ⟨h1, h2⟩ := hd; subst h2
  refine lv_imul hx.1 hx.2.1 h1 ?_
  rw [zI_mul]
  exact k H locs la hR hS hl
theorem k_irem (hx : Cx x g cc own nL R) {a b : Int} (hd : At cc pc .irem 1 pc') (h : (0 ≤ a ∧ a < 2147483648) ∧ (0 < b ∧ b < 2147483648)) (k : K x g cs sl L n M pc' ls (vI (a % b) :: st)) : K x g cs sl L n M pc ls (vI b :: vI a :: st) := by
  intro H locs la hR hS hl
  obtain ⟨h1, h2⟩ := hd; subst h2
  refine lv_irem hx.1 hx.2.1 h1 (fun q => ?_) ?_
  · rw [← zI_0, zI_eq (by omega)] at q
    omega
  · rw [zI_irem h.1.1 h.2.1 h.1.2 h.2.2]
    exact k H locs la hR hS hl
theorem k_idiv (hx : Cx x g cc own nL R) {a b : Int} (hd : At cc pc .idiv 1 pc') (h : (0 ≤ a ∧ a < 2147483648) ∧ (0 < b ∧ b < 2147483648)) (k : K x g cs sl L n M pc' ls (vI (a / b) :: st)) : K x g cs sl L n M pc ls (vI b :: vI a :: st) := by
  intro H locs la hR hS hl
  obtain ⟨h1, h2⟩ := hd; subst h2
  refine lv_idiv hx.1 hx.2.1 h1 (fun q => ?_) ?_
  · rw [← zI_0, zI_eq (by omega)] at q
    omega
  · rw [zI_idiv h.1.1 h.2.1 h.1.2 h.2.2]
    exact k H locs la hR hS hl
theorem k_iand (hx : Cx x g cc own nL R) {a b : Int32} {v : Int32} (hd : At cc pc .iand 1 pc') (hv : a &&& b = v) (k : K x g cs sl L n M pc' ls (.int v :: st)) : K x g cs sl L n M pc ls (.int b :: .int a :: st) := by
  intro H locs la hR hS hl
  obtain ⟨h1, h2⟩ := hd; subst h2; subst hv
  exact lv_iand hx.1 hx.2.1 h1 (k H locs la hR hS hl)
theorem k_ior (hx : Cx x g cc own nL R) {a b : Int32} {v : Int32} (hd : At cc pc .ior 1 pc') (hv : a ||| b = v) (k : K x g cs sl L n M pc' ls (.int v :: st)) : K x g cs sl L n M pc ls (.int b :: .int a :: st) := by
  intro H locs la hR hS hl
  obtain ⟨h1, h2⟩ := hd; subst h2; subst hv
  exact lv_ior hx.1 hx.2.1 h1 (k H locs la hR hS hl)
theorem k_ixor (hx : Cx x g cc own nL R) {a b : Int32} {v : Int32} (hd : At cc pc .ixor 1 pc') (hv : a ^^^ b = v) (k : K x g cs sl L n M pc' ls (.int v :: st)) : K x g cs sl L n M pc ls (.int b :: .int a :: st) := by
  intro H locs la hR hS hl
  obtain ⟨h1, h2⟩ := hd; subst h2; subst hv
  exact lv_ixor hx.1 hx.2.1 h1 (k H locs la hR hS hl)
theorem k_ishl (hx : Cx x g cc own nL R) {a b : Int32} {v : Int32} (hd : At cc pc .ishl 1 pc') (hv : a <<< (b &&& 31) = v) (k : K x g cs sl L n M pc' ls (.int v :: st)) : K x g cs sl L n M pc ls (.int b :: .int a :: st) := by
  intro H locs la hR hS hl
  obtain ⟨h1, h2⟩ := hd; subst h2; subst hv
  exact lv_ishl hx.1 hx.2.1 h1 (k H locs la hR hS hl)
theorem k_ishr (hx : Cx x g cc own nL R) {a b : Int32} {v : Int32} (hd : At cc pc .ishr 1 pc') (hv : a >>> (b &&& 31) = v) (k : K x g cs sl L n M pc' ls (.int v :: st)) : K x g cs sl L n M pc ls (.int b :: .int a :: st) := by
  intro H locs la hR hS hl
  obtain ⟨h1, h2⟩ := hd; subst h2; subst hv
  exact lv_ishr hx.1 hx.2.1 h1 (k H locs la hR hS hl)
theorem k_iushr (hx : Cx x g cc own nL R) {a b : Int32} {v : Int32} (hd : At cc pc .iushr 1 pc') (hv : (a.toUInt32 >>> (b.toUInt32 &&& Int32.toUInt32 31)).toInt32 = v) (k : K x g cs sl L n M pc' ls (.int v :: st)) : K x g cs sl L n M pc ls (.int b :: .int a :: st) := by
  intro H locs la hR hS hl
  obtain ⟨h1, h2⟩ := hd; subst h2
  exact lv_iushr hx.1 hx.2.1 h1 hv (k H locs la hR hS hl)
theorem k_land (hx : Cx x g cc own nL R) {a b : Int64} (hd : At cc pc .land 1 pc') (k : K x g cs sl L n M pc' ls (.long (a &&& b) :: st)) : K x g cs sl L n M pc ls (.long b :: .long a :: st) := by
  intro H locs la hR hS hl
  obtain ⟨h1, h2⟩ := hd; subst h2
  exact lv_land hx.1 hx.2.1 h1 (k H locs la hR hS hl)
theorem k_lor (hx : Cx x g cc own nL R) {a b : Int64} (hd : At cc pc .lor 1 pc') (k : K x g cs sl L n M pc' ls (.long (a ||| b) :: st)) : K x g cs sl L n M pc ls (.long b :: .long a :: st) := by
  intro H locs la hR hS hl
  obtain ⟨h1, h2⟩ := hd; subst h2
  exact lv_lor hx.1 hx.2.1 h1 (k H locs la hR hS hl)
theorem k_lshl (hx : Cx x g cc own nL R) {a : Int64} {b : Int32} (hd : At cc pc .lshl 1 pc') (k : K x g cs sl L n M pc' ls (.long (a <<< (b.toInt64 &&& 63)) :: st)) : K x g cs sl L n M pc ls (.int b :: .long a :: st) := by
  intro H locs la hR hS hl
  obtain ⟨h1, h2⟩ := hd; subst h2
  exact lv_lshl hx.1 hx.2.1 h1 rfl (k H locs la hR hS hl)
theorem k_lshr (hx : Cx x g cc own nL R) {a : Int64} {b : Int32} (hd : At cc pc .lshr 1 pc') (k : K x g cs sl L n M pc' ls (.long (a >>> (b.toInt64 &&& 63)) :: st)) : K x g cs sl L n M pc ls (.int b :: .long a :: st) := by
  intro H locs la hR hS hl
  obtain ⟨h1, h2⟩ := hd; subst h2
  exact lv_lshr hx.1 hx.2.1 h1 rfl (k H locs la hR hS hl)
theorem k_lushr (hx : Cx x g cc own nL R) {a : Int64} {b : Int32} (hd : At cc pc .lushr 1 pc') (k : K x g cs sl L n M pc' ls (.long (a.toUInt64 >>> (b.toInt64.toUInt64 &&& Int64.toUInt64 63)).toInt64 :: st)) : K x g cs sl L n M pc ls (.int b :: .long a :: st) := by
  intro H locs la hR hS hl
  obtain ⟨h1, h2⟩ := hd; subst h2
  exact lv_lushr hx.1 hx.2.1 h1 rfl (k H locs la hR hS hl)
theorem k_i2l (hx : Cx x g cc own nL R) {a : Int32} (hd : At cc pc .i2l 1 pc') (k : K x g cs sl L n M pc' ls (.long a.toInt64 :: st)) : K x g cs sl L n M pc ls (.int a :: st) := by
  intro H locs la hR hS hl
  obtain ⟨h1, h2⟩ := hd; subst h2
  exact lv_i2l hx.1 hx.2.1 h1 rfl (k H locs la hR hS hl)
theorem k_l2i (hx : Cx x g cc own nL R) {a : Int64} {v : Int32} (hd : At cc pc .l2i 1 pc') (hv : a.toInt32 = v) (k : K x g cs sl L n M pc' ls (.int v :: st)) : K x g cs sl L n M pc ls (.long a :: st) := by
  intro H locs la hR hS hl
  obtain ⟨h1, h2⟩ := hd; subst h2
  exact lv_l2i hx.1 hx.2.1 h1 hv (k H locs la hR hS hl)
theorem k_lcmp (hx : Cx x g cc own nL R) {a b : Int64} (hd : At cc pc .lcmp 1 pc') (k : K x g cs sl L n M pc' ls (.int (lg_cmp a b) :: st)) : K x g cs sl L n M pc ls (.long b :: .long a :: st) := by
  intro H locs la hR hS hl
  obtain ⟨h1, h2⟩ := hd; subst h2
  exact W.lcmp hx.1 hx.2.1 h1 (k H locs la hR hS hl)
theorem k_dup (hx : Cx x g cc own nL R) {v : Value} (hd : At cc pc .dup 1 pc') (hv : v.category = 1) (k : K x g cs sl L n M pc' ls (v :: v :: st)) : K x g cs sl L n M pc ls (v :: st) := by
  intro H locs la hR hS hl
  obtain ⟨h1, h2⟩ := hd; subst h2
  exact lv_dup hx.1 hx.2.1 h1 hv (k H locs la hR hS hl)
theorem k_pop (hx : Cx x g cc own nL R) {v : Value} (hd : At cc pc .pop 1 pc') (hv : v.category = 1) (k : K x g cs sl L n M pc' ls st) : K x g cs sl L n M pc ls (v :: st) := by
  intro H locs la hR hS hl
  obtain ⟨h1, h2⟩ := hd; subst h2
  exact lv_pop hx.1 hx.2.1 h1 hv (k H locs la hR hS hl)
theorem k_dup2 (hx : Cx x g cc own nL R) {v w : Value} (hd : At cc pc .dup2 1 pc') (hv : v.category = 1) (hw : w.category = 1) (k : K x g cs sl L n M pc' ls (v :: w :: v :: w :: st)) : K x g cs sl L n M pc ls (v :: w :: st) := by
  intro H locs la hR hS hl
  obtain ⟨h1, h2⟩ := hd; subst h2
  exact lv_dup2_11 hx.1 hx.2.1 h1 hv hw (k H locs la hR hS hl)
theorem k_goto (hx : Cx x g cc own nL R) (hd : Br cc pc .goto pc' tgt) (k : K x g cs sl L n M tgt ls st) : K x g cs sl L n M pc ls st := by
  intro H locs la hR hS hl
  obtain ⟨off, h1, h2, h3⟩ := hd
  exact lv_goto hx.1 hx.2.1 h1 h3 (k H locs la hR hS hl)
theorem k_ifeq (hx : Cx x g cc own nL R) {a : Int} (hd : Br cc pc (.ifCond .eq) pc' tgt) (h : -2147483648 ≤ a ∧ a < 2147483648) (kt : a = 0 → K x g cs sl L n M tgt ls st) (kf : ¬ a = 0 → K x g cs sl L n M pc' ls st) : K x g cs sl L n M pc ls (vI a :: st) := by
  intro H locs la hR hS hl
  obtain ⟨off, h1, h2, h3⟩ := hd; subst h2
  exact lv_if_eq hx.1 hx.2.1 h1 h3 (fun q => kt ((zI_eq ⟨h, by omega⟩).mp (by rw [zI_0]; exact q)) H locs la hR hS hl) (fun q => kf (fun z => q (by rw [z]; exact zI_0)) H locs la hR hS hl)
theorem k_ifne (hx : Cx x g cc own nL R) {a : Int} (hd : Br cc pc (.ifCond .ne) pc' tgt) (h : -2147483648 ≤ a ∧ a < 2147483648) (kt : ¬ a = 0 → K x g cs sl L n M tgt ls st) (kf : a = 0 → K x g cs sl L n M pc' ls st) : K x g cs sl L n M pc ls (vI a :: st) := by
  intro H locs la hR hS hl
  obtain ⟨off, h1, h2, h3⟩ := hd; subst h2
  exact lv_if_ne hx.1 hx.2.1 h1 h3 (fun q => kt (fun z => q (by rw [z]; exact zI_0)) H locs la hR hS hl) (fun q => kf ((zI_eq ⟨h, by omega⟩).mp (by rw [zI_0]; exact q)) H locs la hR hS hl)
theorem k_iflt (hx : Cx x g cc own nL R) {a : Int} (hd : Br cc pc (.ifCond .lt) pc' tgt) (h : -2147483648 ≤ a ∧ a < 2147483648) (kt : a < 0 → K x g cs sl L n M tgt ls st) (kf : ¬ a < 0 → K x g cs sl L n M pc' ls st) : K x g cs sl L n M pc ls (vI a :: st) := by
  intro H locs la hR hS hl
  obtain ⟨off, h1, h2, h3⟩ := hd; subst h2
  have e : zI a < 0 ↔ a < 0 := by rw [← zI_0]; exact zI_lt ⟨h, by omega⟩
  exact lv_if_lt hx.1 hx.2.1 h1 h3 (fun q => kt (e.mp q) H locs la hR hS hl) (fun q => kf (fun z => q (e.mpr z)) H locs la hR hS hl)
theorem k_ifge (hx : Cx x g cc own nL R) {a : Int} (hd : Br cc pc (.ifCond .ge) pc' tgt) (h : -2147483648 ≤ a ∧ a < 2147483648) (kt : 0 ≤ a → K x g cs sl L n M tgt ls st) (kf : ¬ 0 ≤ a → K x g cs sl L n M pc' ls st) : K x g cs sl L n M pc ls (vI a :: st) := by
  intro H locs la hR hS hl
  obtain ⟨off, h1, h2, h3⟩ := hd; subst h2
  have e : 0 ≤ zI a ↔ 0 ≤ a := by rw [← zI_0]; exact zI_le ⟨by omega, h⟩
  exact lv_if_ge hx.1 hx.2.1 h1 h3 (fun q => kt (e.mp q) H locs la hR hS hl) (fun q => kf (fun z => q (e.mpr z)) H locs la hR hS hl)
theorem k_ifle (hx : Cx x g cc own nL R) {a : Int} (hd : Br cc pc (.ifCond .le) pc' tgt) (h : -2147483648 ≤ a ∧ a < 2147483648) (kt : a ≤ 0 → K x g cs sl L n M tgt ls st) (kf : ¬ a ≤ 0 → K x g cs sl L n M pc' ls st) : K x g cs sl L n M pc ls (vI a :: st) := by
  intro H locs la hR hS hl
  obtain ⟨off, h1, h2, h3⟩ := hd; subst h2
  have e : zI a ≤ 0 ↔ a ≤ 0 := by rw [← zI_0]; exact zI_le ⟨h, by omega⟩
  exact lv_if_le hx.1 hx.2.1 h1 h3 (fun q => kt (e.mp q) H locs la hR hS hl) (fun q => kf (fun z => q (e.mpr z)) H locs la hR hS hl)
theorem k_icmp_eq (hx : Cx x g cc own nL R) {a b : Int} (hd : Br cc pc (.if_icmp .eq) pc' tgt) (h : (-2147483648 ≤ a ∧ a < 2147483648) ∧ (-2147483648 ≤ b ∧ b < 2147483648)) (kt : a = b → K x g cs sl L n M tgt ls st) (kf : ¬ a = b → K x g cs sl L n M pc' ls st) : K x g cs sl L n M pc ls (vI b :: vI a :: st) := by
  intro H locs la hR hS hl
  obtain ⟨off, h1, h2, h3⟩ := hd; subst h2
  exact lv_icmp_eq hx.1 hx.2.1 h1 h3 (fun q => kt ((zI_eq h).mp q) H locs la hR hS hl) (fun q => kf (fun z => q ((zI_eq h).mpr z)) H locs la hR hS hl)
theorem k_icmp_ne (hx : Cx x g cc own nL R) {a b : Int} (hd : Br cc pc (.if_icmp .ne) pc' tgt) (h : (-2147483648 ≤ a ∧ a < 2147483648) ∧ (-2147483648 ≤ b ∧ b < 2147483648)) (kt : ¬ a = b → K x g cs sl L n M tgt ls st) (kf : a = b → K x g cs sl L n M pc' ls st) : K x g cs sl L n M pc ls (vI b :: vI a :: st) := by
  intro H locs la hR hS hl
  obtain ⟨off, h1, h2, h3⟩ := hd; subst h2
  exact lv_icmp_ne hx.1 hx.2.1 h1 h3 (fun q => kt (fun z => q ((zI_eq h).mpr z)) H locs la hR hS hl) (fun q => kf ((zI_eq h).mp q) H locs la hR hS hl)
theorem k_icmp_lt (hx : Cx x g cc own nL R) {a b : Int} (hd : Br cc pc (.if_icmp .lt) pc' tgt) (h : (-2147483648 ≤ a ∧ a < 2147483648) ∧ (-2147483648 ≤ b ∧ b < 2147483648)) (kt : a < b → K x g cs sl L n M tgt ls st) (kf : ¬ a < b → K x g cs sl L n M pc' ls st) : K x g cs sl L n M pc ls (vI b :: vI a :: st) := by
  intro H locs la hR hS hl
  obtain ⟨off, h1, h2, h3⟩ := hd; subst h2
  exact lv_icmp_lt hx.1 hx.2.1 h1 h3 (fun q => kt ((zI_lt h).mp q) H locs la hR hS hl) (fun q => kf (fun z => q ((zI_lt h).mpr z)) H locs la hR hS hl)
theorem k_icmp_ge (hx : Cx x g cc own nL R) {a b : Int} (hd : Br cc pc (.if_icmp .ge) pc' tgt) (h : (-2147483648 ≤ a ∧ a < 2147483648) ∧ (-2147483648 ≤ b ∧ b < 2147483648)) (kt : b ≤ a → K x g cs sl L n M tgt ls st) (kf : ¬ b ≤ a → K x g cs sl L n M pc' ls st) : K x g cs sl L n M pc ls (vI b :: vI a :: st) := by
  intro H locs la hR hS hl
  obtain ⟨off, h1, h2, h3⟩ := hd; subst h2
  exact lv_icmp_ge hx.1 hx.2.1 h1 h3 (fun q => kt ((zI_le ⟨h.2, h.1⟩).mp q) H locs la hR hS hl) (fun q => kf (fun z => q ((zI_le ⟨h.2, h.1⟩).mpr z)) H locs la hR hS hl)
theorem k_icmp_gt (hx : Cx x g cc own nL R) {a b : Int} (hd : Br cc pc (.if_icmp .gt) pc' tgt) (h : (-2147483648 ≤ a ∧ a < 2147483648) ∧ (-2147483648 ≤ b ∧ b < 2147483648)) (kt : b < a → K x g cs sl L n M tgt ls st) (kf : ¬ b < a → K x g cs sl L n M pc' ls st) : K x g cs sl L n M pc ls (vI b :: vI a :: st) := by
  intro H locs la hR hS hl
  obtain ⟨off, h1, h2, h3⟩ := hd; subst h2
  exact lv_icmp_gt hx.1 hx.2.1 h1 h3 (fun q => kt ((zI_lt ⟨h.2, h.1⟩).mp q) H locs la hR hS hl) (fun q => kf (fun z => q ((zI_lt ⟨h.2, h.1⟩).mpr z)) H locs la hR hS hl)
theorem k_icmp_le (hx : Cx x g cc own nL R) {a b : Int} (hd : Br cc pc (.if_icmp .le) pc' tgt) (h : (-2147483648 ≤ a ∧ a < 2147483648) ∧ (-2147483648 ≤ b ∧ b < 2147483648)) (kt : a ≤ b → K x g cs sl L n M tgt ls st) (kf : ¬ a ≤ b → K x g cs sl L n M pc' ls st) : K x g cs sl L n M pc ls (vI b :: vI a :: st) := by
  intro H locs la hR hS hl
  obtain ⟨off, h1, h2, h3⟩ := hd; subst h2
  exact lv_icmp_le hx.1 hx.2.1 h1 h3 (fun q => kt ((zI_le h).mp q) H locs la hR hS hl) (fun q => kf (fun z => q ((zI_le h).mpr z)) H locs la hR hS hl)
theorem k_tsOut (hx : Cx x g cc own nL R) {dflt lo hi : Int} {offs : Array Int} {len : Nat} {a : Int} (hd : decode cc pc = .ok (.tableswitch dflt lo hi offs, len)) (ht : (pc : Int) + dflt = (tgt : Int)) (h : -2147483648 ≤ a ∧ a < 2147483648) (h2 : a < lo ∨ hi < a) (k : K x g cs sl L n M tgt ls st) : K x g cs sl L n M pc ls (vI a :: st) := by
  intro H locs la hR hS hl
  exact lv_tableOut hx.1 hx.2.1 hd (by rw [zI_int h]; exact h2) ht (k H locs la hR hS hl)
theorem k_tsIn (hx : Cx x g cc own nL R) {dflt lo hi off : Int} {offs : Array Int} {len : Nat} {a : Int} (hd : decode cc pc = .ok (.tableswitch dflt lo hi offs, len)) (h : -2147483648 ≤ a ∧ a < 2147483648) (h1 : ¬ a < lo) (h2 : ¬ hi < a) (ho : offs[(a - lo).toNat]? = some off) (ht : (pc : Int) + off = (tgt : Int)) (k : K x g cs sl L n M tgt ls st) : K x g cs sl L n M pc ls (vI a :: st) := by
  intro H locs la hR hS hl
  exact lv_tableIn hx.1 hx.2.1 hd (by rw [zI_int h]; exact h1) (by rw [zI_int h]; exact h2) (by rw [zI_int h]; exact ho) ht (k H locs la hR hS hl)
end ROWS

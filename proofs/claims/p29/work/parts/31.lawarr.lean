/-! the law's arrays and its small methods -/
abbrev IsA (g : GE) (i : Nat) : Prop := 120 ≤ i ∧ i < NN g
/-- the word w stands in the array at i -/
def Wa (M : Mem) (i : Nat) (w : List Int) : Prop := M i 0 = w.length ∧ (∀ z : Int, 1 ≤ z → z ≤ w.length → M i z = at0 w (z - 1)) ∧ Cr w
def OA (i : Nat) (M M' : Mem) : Prop := ∀ a, a ≠ i → M' a = M a
def OH (i : Nat) (M M' : Mem) : Prop := ∀ a, 120 ≤ a → a ≠ i → M' a = M a
theorem OA.rf {i : Nat} {M : Mem} : OA i M M := fun _ _ => rfl
theorem OA.tr {i : Nat} {M M' M'' : Mem} (h : OA i M M') (k : OA i M' M'') : OA i M M'' := fun a h1 => (k a h1).trans (h a h1)
theorem OH.rf {i : Nat} {M : Mem} : OH i M M := fun _ _ _ => rfl
theorem OH.tr {i : Nat} {M M' M'' : Mem} (h : OH i M M') (k : OH i M' M'') : OH i M M'' := fun a h0 h1 => (k a h0 h1).trans (h a h0 h1)
theorem OA.hi {i : Nat} {M M' : Mem} (h : OA i M M') : OH i M M' := fun a _ h1 => h a h1
theorem Wa.same {M M' : Mem} {i : Nat} {w : List Int} (h : Wa M i w) (e : M' i = M i) : Wa M' i w := by unfold Wa; rw [e]; exact h
theorem Wa.atn {M : Mem} {i : Nat} {w : List Int} (h : Wa M i w) {k : Nat} (hk : k < w.length) : M i ((k : Int) + 1) = at0 w k := by
  rw [h.2.1 _ (by omega) (by omega)]; congr 1; omega
theorem Wa.of {M : Mem} {i : Nat} {w : List Int} (h1 : M i 0 = w.length) (h2 : ∀ k : Nat, k < w.length → M i ((k : Int) + 1) = at0 w k) (h3 : Cr w) : Wa M i w := by
  refine ⟨h1, fun z a b => ?_, h3⟩
  have := h2 (z - 1).toNat (by omega)
  rwa [show (((z - 1).toNat : Nat) : Int) = z - 1 by omega, show z - 1 + 1 = z by omega] at this
theorem at0_z {w : List Int} (h : Cr w) {z : Int} (h0 : 0 ≤ z) (h1 : z < w.length) : 0 ≤ at0 w z ∧ at0 w z < 12 := at0_in h h0 h1
theorem Wa.nil {M : Mem} {i : Nat} : Wa (up M i 0 0) i [] := Wa.of up_s (fun k h => by simp at h) (fun c h => by cases h)
theorem Wa.add {M M' : Mem} {i : Nat} {w : List Int} {c : Int} (h : Wa M i w) (hc : 0 ≤ c ∧ c < 12) (e : M' = up (up M i 0 (w.length + 1)) i (w.length + 1) c) : Wa M' i (w ++ [c]) := by
  subst e
  refine Wa.of ?_ (fun k hk => ?_) (h.2.2.app (Cr.one hc))
  · rw [up_k (by omega), up_s, List.length_append]; simp
  · rw [List.length_append] at hk
    simp only [List.length_singleton] at hk
    by_cases hkl : k < w.length
    · rw [up_k (by omega), up_k (by omega), at0_app hkl]; exact h.atn hkl
    · have e : k = w.length := by omega
      subst e
      have := at0_appr (a := w) (b := [c]) (k := 0) (by simp)
      rw [Nat.add_zero] at this
      rw [up_s, this]; rfl
section LROWS
variable {x : Fx} {g : GE} {cc : ByteArray} {own : String} {nL : Nat} {R : Room} {cs sl : Nat} {M : Mem} {pc pc' index na : Nat} {ls : List (Nat × Value)} {st rest As : List Value} {μ : Mu}
theorem k_sv {post : Mem → Prop} (hx : Cx x g cc own nL R) (hlk : lkS own index μ na) (hd : At cc pc (.invokestatic index) 3 pc') (hC : Cv g (xL x) μ As M post) (hn : As.length = na) (hst : st = As.reverse ++ rest) (hcat : Nat.ble (rest.map fun v => v.category).sum 8 = true) (hroom : Nat.ble (μ.2.2.2.2.1 + 1) R.frames = true ∧ Nat.ble (8 + (μ.2.2.1 + 11) + μ.2.2.2.2.2) R.locals = true) (hcell : cs ≤ R.cells ∧ sl ≤ R.slots)
    (kk : ∀ (M' : Mem), post M' → K x g cs sl LAY (NN g) M' pc' ls rest) : K x g cs sl LAY (NN g) M pc ls st :=
  k_callS hx hlk hd hC hn hst hcat hroom hcell (fun r L' n' M' ⟨h1, h2, h3, h4⟩ => by subst h1; subst h2; subst h3; exact kk M' h4)
end LROWS
theorem Inv.hi {M M' : Mem} {σ : Sg} (h : Inv M σ) {i : Nat} (hi : 120 ≤ i) (o : OA i M M') : Inv M' σ := h.same (fun a ha => o a (by omega))

theorem c_L_cancel {g : GE} {l : Launch} {M : Mem} {a b : Int} (ha : 0 ≤ a ∧ a < 12) (hb : 0 ≤ b ∧ b < 12) : Cp g l μL_cancel [vI a, vI b] M (b2i (decide (a = op b))) := by
  refine Ci.of (by decide +kernel) rfl rfl (fun x hx hr => ?_)
  have hc := canc ha hb
  refine k_iload_n hx dL_cancel_0 0 rfl ?_
  refine k_iload_n hx dL_cancel_1 1 rfl ?_
  refine k_isub hx dL_cancel_2 ?_
  refine k_bipush hx dL_cancel_3 (by decide +kernel) ?_
  refine k_icmp_eq hx dL_cancel_5 (by omega) (fun h_5 => ?_) (fun h_5 => ?_)
  · refine k_iconst hx dL_cancel_16 ?_
    refine k_goto hx dL_cancel_17 ?_
    refine k_rz hx hr dL_cancel_21 (by first | exact Or.inl rfl | exact Or.inr rfl | exact b2i_or _) ?_
    exact ⟨by first | exact b2i_t (hc.mp (by omega)) | exact b2i_f (fun q => by have := hc.mpr q; omega), rfl⟩
  · refine k_iload_n hx dL_cancel_8 1 rfl ?_
    refine k_iload_n hx dL_cancel_9 0 rfl ?_
    refine k_isub hx dL_cancel_10 ?_
    refine k_bipush hx dL_cancel_11 (by decide +kernel) ?_
    refine k_icmp_ne hx dL_cancel_13 (by omega) (fun h_13 => ?_) (fun h_13 => ?_)
    · refine k_iconst hx dL_cancel_20 ?_
      refine k_rz hx hr dL_cancel_21 (by first | exact Or.inl rfl | exact Or.inr rfl | exact b2i_or _) ?_
      exact ⟨by first | exact b2i_t (hc.mp (by omega)) | exact b2i_f (fun q => by have := hc.mpr q; omega), rfl⟩
    · refine k_iconst hx dL_cancel_16 ?_
      refine k_goto hx dL_cancel_17 ?_
      refine k_rz hx hr dL_cancel_21 (by first | exact Or.inl rfl | exact Or.inr rfl | exact b2i_or _) ?_
      exact ⟨by first | exact b2i_t (hc.mp (by omega)) | exact b2i_f (fun q => by have := hc.mpr q; omega), rfl⟩
theorem c_L_otherSide {g : GE} {l : Launch} {M : Mem} {a : Int} (ha : 0 ≤ a ∧ a < 12) : Cp g l μL_otherSide [vI a] M (op a) := by
  refine Ci.of (by decide +kernel) rfl rfl (fun x hx hr => ?_)
  refine k_iload_n hx dL_otherSide_0 0 rfl ?_
  refine k_bipush hx dL_otherSide_1 (by decide +kernel) ?_
  refine k_icmp_ge hx dL_otherSide_3 (by omega) (fun h_3 => ?_) (fun h_3 => ?_)
  · refine k_iload_n hx dL_otherSide_13 0 rfl ?_
    refine k_bipush hx dL_otherSide_14 (by decide +kernel) ?_
    refine k_isub hx dL_otherSide_16 ?_
    refine k_ri hx hr dL_otherSide_17 ?_
    exact ⟨by unfold op; first | rw [if_pos (by omega)] | rw [if_neg (by omega)], rfl⟩
  · refine k_iload_n hx dL_otherSide_6 0 rfl ?_
    refine k_bipush hx dL_otherSide_7 (by decide +kernel) ?_
    refine k_iadd hx dL_otherSide_9 ?_
    refine k_goto hx dL_otherSide_10 ?_
    refine k_ri hx hr dL_otherSide_17 ?_
    exact ⟨by unfold op; first | rw [if_pos (by omega)] | rw [if_neg (by omega)], rfl⟩
theorem c_L_add {g : GE} {l : Launch} {M : Mem} {i : Nat} (hA : IsA g i) {w : List Int} (hw : Wa M i w) (hl : w.length ≤ 62) {c : Int} (hc : 0 ≤ c ∧ c < 12) : Cv g l μL_add [vR g i, vI c] M (fun M' => Wa M' i (w ++ [c]) ∧ OA i M M') := by
  refine Cv.of (by decide +kernel) rfl rfl (fun x hx hr => ?_)
  refine k_aload_n hx dL_add_0 0 rfl ?_
  refine k_iconst hx dL_add_1 ?_
  refine k_dup2 hx dL_add_2 rfl rfl ?_
  refine k_iald (v := w.length) hx dL_add_3 hA.2 (LAY_hi hA.1) (by omega) (by decide) (hw.1) ?_
  refine k_iconst hx dL_add_4 ?_
  refine k_iadd hx dL_add_5 ?_
  refine k_iastN hx dL_add_6 hA.2 (LAY_hi hA.1) (by omega) (by decide) (fun M_6 hM_6 => ?_)
  refine k_aload_n hx dL_add_7 0 rfl ?_
  refine k_aload_n hx dL_add_8 0 rfl ?_
  refine k_iconst hx dL_add_9 ?_
  refine k_iald (v := (w.length + 1)) hx dL_add_10 hA.2 (LAY_hi hA.1) (by omega) (by decide) (by rw [hM_6, up_s]) ?_
  refine k_iload_n hx dL_add_11 1 rfl ?_
  refine k_iastN hx dL_add_12 hA.2 (LAY_hi hA.1) (by omega) (by decide) (fun M_12 hM_12 => ?_)
  refine k_rv hx hr dL_add_13 ?_
  subst hM_6
  exact ⟨hw.add hc hM_12, fun a ha => by rw [hM_12, up_i ha, up_i ha]⟩
/-- a question: the answer; the state stays -/
abbrev QO (M : Mem) (σ : Sg) (e : Int) : Int → Mem → Prop := PO M (e, σ)
theorem q_of {g : GE} {l : Launch} {M : Mem} {σ : Sg} (hI : Inv M σ) {z : Int} (hz : 0 ≤ z ∧ z < 4) {k : Int} (hk : 0 ≤ k ∧ k < 9) : Ci g l μX5_ofRope [vR g 0, vI z, vI k] M (QO M σ (qOf σ.1 (rope σ.1 z) k)) :=
  Ci.imp (c_X5_ofRope hI (z := z) (by omega) (k := k) (by omega)) (fun y M' ⟨a, b, c⟩ => ⟨by rw [a]; unfold aQ qRope; rw [if_pos hz], b, c⟩)
theorem q_len {g : GE} {l : Launch} {M : Mem} {σ : Sg} (hI : Inv M σ) {z : Int} (hz : 0 ≤ z ∧ z < 4) : Ci g l μX5_ofRope [vR g 0, vI z, vI 0] M (QO M σ (rope σ.1 z).length) := q_of hI hz (k := 0) (by decide)
theorem q_crossing {g : GE} {l : Launch} {M : Mem} {σ : Sg} (hI : Inv M σ) {z : Int} (hz : 0 ≤ z ∧ z < 4) {k : Int} (hk : -1 ≤ k ∧ k < 1000) : Ci g l μX5_crossing [vR g 0, vI z, vI k] M (QO M σ (at0 (rope σ.1 z) k)) :=
  Ci.imp (c_X5_crossing hI (z := z) (by omega) (k := k) (by omega)) (fun y M' ⟨a, b, c⟩ => ⟨by rw [a]; unfold aQ qRope; rw [if_pos hz], b, c⟩)
theorem q_least {g : GE} {l : Launch} {M : Mem} {σ : Sg} (hI : Inv M σ) {z : Int} (hz : 0 ≤ z ∧ z < 4) {k : Int} (hk : -1 ≤ k ∧ k < 1000) : Ci g l μX5_least [vR g 0, vI z, vI k] M (QO M σ (at0 (lst (rope σ.1 z)) k)) :=
  Ci.imp (c_X5_least hI (z := z) (by omega) (k := k) (by omega)) (fun y M' ⟨a, b, c⟩ => ⟨by rw [a]; unfold aQ qRope; rw [if_pos hz], b, c⟩)
theorem q_winds {g : GE} {l : Launch} {M : Mem} {σ : Sg} (hI : Inv M σ) {z : Int} (hz : 0 ≤ z ∧ z < 4) {p : Int} (hp : 0 ≤ p ∧ p < 6) : Ci g l μX5_winds [vR g 0, vI z, vI p] M (QO M σ (1000 + wnd (rope σ.1 z) p)) :=
  Ci.imp (c_X5_winds hI (z := z) (by omega) (p := p) (by omega)) (fun y M' ⟨a, b, c⟩ => ⟨by rw [a]; unfold aQ; rw [if_pos ⟨hz, hp⟩], b, c⟩)
theorem q_falls {g : GE} {l : Launch} {M : Mem} {σ : Sg} (hI : Inv M σ) {z : Int} (hz : 0 ≤ z ∧ z < 4) : Ci g l μX5_falls [vR g 0, vI z, vI 0] M (QO M σ (b2i (decide (red (rope σ.1 z) = [])))) :=
  Ci.imp (c_X5_falls hI (z := z) (by omega) (S := 0) (by omega)) (fun y M' ⟨a, b, c⟩ => ⟨by rw [a]; unfold aQ; rw [if_pos ⟨hz, by omega⟩, wF_0], b, c⟩)
theorem q_count {g : GE} {l : Launch} {M : Mem} {σ : Sg} (hI : Inv M σ) {p : Int} (hp : 0 ≤ p ∧ p < 6) : Ci g l μX5_count [vR g 0, vI p] M (QO M σ (σ.1.1.getD p.toNat 0)) :=
  Ci.imp (c_X5_count hI (k := p) (by omega)) (fun y M' ⟨a, b, c⟩ => ⟨by rw [a]; unfold aQ qCount; rw [if_pos hp], b, c⟩)
theorem q_all {g : GE} {l : Launch} {M : Mem} {σ : Sg} (hI : Inv M σ) : Ci g l μX5_count [vR g 0, vI 6] M (QO M σ (allC σ.1)) :=
  Ci.imp (c_X5_count hI (k := 6) (by omega)) (fun y M' ⟨a, b, c⟩ => ⟨by rw [a]; unfold aQ qCount; rw [if_neg (by omega), if_pos rfl], b, c⟩)
theorem q_ifSwapped {g : GE} {l : Launch} {M : Mem} {σ : Sg} (hI : Inv M σ) {p b : Int} (hp : 0 ≤ p ∧ p < 5) (hb : 0 ≤ b ∧ b < 2) : Ci g l μX5_ifSwapped [vR g 0, vI p, vI b] M (QO M σ (csw σ.1 p b)) :=
  Ci.imp (c_X5_ifSwapped hI (p := p) (b := b) (by omega) (by omega)) (fun y M' ⟨a, b', c⟩ => ⟨by rw [a]; unfold aQ; rw [if_pos hp, if_pos hb], b', c⟩)

theorem c_L_read {g : GE} {l : Launch} {M : Mem} {σ : Sg} (hI : Inv M σ) {z : Int} (hz : 0 ≤ z ∧ z < 4) {i : Nat} (hA : IsA g i) (hl : (rope σ.1 z).length ≤ 62) : Cv g l μL_read [vR g 0, vI z, vR g i] M (fun M' => Wa M' i (rope σ.1 z) ∧ Inv M' σ ∧ OH i M M') := by
  refine Cv.of (by decide +kernel) rfl rfl (fun x hx hr => ?_)
  have hcr : Cr (rope σ.1 z) := (hI.1.rope hz).1.2.2
  have loop : ∀ (f : Nat), ∀ (k : Nat) (y : Int) (M' : Mem), y = k → k ≤ (rope σ.1 z).length → (rope σ.1 z).length - k < f → Wa M' i ((rope σ.1 z).take k) → Inv M' σ → OH i M M' → K x g 0 0 LAY (NN g) M' 6 [(0, vR g 0), (1, vI z), (2, vR g i), (3, vI y)] [] := by
    intro f
    induction f with
    | zero => intro k y M' hy hk hf hwa hI' ho; omega
    | succ f ih =>
      intro k y M' hy hk hf hwa hI' ho
      refine k_iload_n hx dL_read_6 3 rfl ?_
      refine k_aload_n hx dL_read_7 0 rfl ?_
      refine k_iload_n hx dL_read_8 1 rfl ?_
      refine k_iconst hx dL_read_9 ?_
      refine k_vi (rest := [vI y]) hx vL_8 dL_read_10 (q_len hI' hz) n_0 L_0 rfl rfl rfl ⟨rfl, rfl⟩ ⟨by decide, by decide⟩ (fun z_10 M_10 p_10 => ?_)
      obtain ⟨rfl, I_10, o_10⟩ := p_10
      have hwa2 := hwa.same (o_10 i hA.1)
      have I_10 : Inv M_10 σ := I_10
      refine k_icmp_ge hx dL_read_13 (by omega) (fun h_13 => ?_) (fun h_13 => ?_)
      · refine k_rv hx hr dL_read_32 ?_
        exact ⟨by rw [List.take_of_length_le (by omega)] at hwa2; exact hwa2, I_10, fun a h0 h1 => by rw [o_10 a h0]; exact ho a h0 h1⟩
      · refine k_aload_n hx dL_read_16 2 rfl ?_
        refine k_aload_n hx dL_read_17 0 rfl ?_
        refine k_iload_n hx dL_read_18 1 rfl ?_
        refine k_iload_n hx dL_read_19 3 rfl ?_
        refine k_vi (rest := [vR g i]) hx vL_14 dL_read_20 (q_crossing I_10 hz (k := y) (by omega)) n_0 L_0 rfl rfl rfl ⟨rfl, rfl⟩ ⟨by decide, by decide⟩ (fun z_20 M_20 p_20 => ?_)
        obtain ⟨rfl, I_20, o_20⟩ := p_20
        have hwa3 := hwa2.same (o_20 i hA.1)
        have I_20 : Inv M_20 σ := I_20
        have hcy := at0_z hcr (z := y) (by omega) (by omega)
        refine k_sv (rest := []) hx sL_17 dL_read_23 (c_L_add hA hwa3 (by rw [List.length_take]; omega) hcy) rfl rfl rfl ⟨rfl, rfl⟩ ⟨by decide, by decide⟩ (fun M_23 p_23 => ?_)
        obtain ⟨a1, a2⟩ := p_23
        rw [hy, take_at0 (by omega)] at a1
        refine k_iinc (ls' := [(0, vR g 0), (1, vI z), (2, vR g i), (3, vI (y + 1))]) hx dL_read_26 3 rfl rfl rfl (by decide) ?_
        refine k_goto hx dL_read_29 ?_
        exact ih (k + 1) (y + 1) M_23 (by omega) (by omega) (by omega) a1 (I_20.hi hA.1 a2) (fun a h0 h1 => by rw [a2 a h1, o_20 a h0, o_10 a h0]; exact ho a h0 h1)
  refine k_aload_n hx dL_read_0 2 rfl ?_
  refine k_iconst hx dL_read_1 ?_
  refine k_iconst hx dL_read_2 ?_
  refine k_iastN hx dL_read_3 hA.2 (LAY_hi hA.1) (by omega) (by decide) (fun M_3 hM_3 => ?_)
  refine k_iconst hx dL_read_4 ?_
  refine k_istore_n (ls' := [(0, vR g 0), (1, vI z), (2, vR g i), (3, vI 0)]) hx dL_read_5 rfl rfl (by decide) ?_
  exact loop ((rope σ.1 z).length + 1) 0 0 M_3 rfl (by omega) (by omega) (by rw [hM_3, List.take_zero]; exact Wa.nil) (hI.hi hA.1 (fun a ha => by rw [hM_3, up_i ha])) (fun a _ ha => by rw [hM_3, up_i ha])
theorem c_L_isWord {g : GE} {l : Launch} {M : Mem} {σ : Sg} (hI : Inv M σ) {z : Int} (hz : 0 ≤ z ∧ z < 4) {i : Nat} (hA : IsA g i) (hl : (rope σ.1 z).length ≤ 62) (hw : Wa M i (rope σ.1 z)) : Ci g l μL_isWord [vR g 0, vI z, vR g i] M (QO M σ 1) := by
  refine Ci.of (by decide +kernel) rfl rfl (fun x hx hr => ?_)
  have loop : ∀ (f : Nat), ∀ (k : Nat) (y : Int) (M' : Mem), y = k → k ≤ (rope σ.1 z).length → (rope σ.1 z).length - k < f → Inv M' σ → (∀ a, 120 ≤ a → M' a = M a) → K x g 0 0 LAY (NN g) M' 43 [(0, vR g 0), (1, vI z), (2, vR g i), (3, vI 1), (4, vI y)] [] := by
    intro f
    induction f with
    | zero => intro k y M' hy hk hf hI' ho; omega
    | succ f ih =>
      intro k y M' hy hk hf hI' ho
      have hw' := hw.same (ho i hA.1)
      refine k_iload hx dL_isWord_43 4 rfl ?_
      refine k_aload_n hx dL_isWord_45 2 rfl ?_
      refine k_iconst hx dL_isWord_46 ?_
      refine k_iald (v := ((rope σ.1 z).length)) hx dL_isWord_47 hA.2 (LAY_hi hA.1) (by omega) (by decide) (hw'.1) ?_
      refine k_icmp_ge hx dL_isWord_48 (by omega) (fun h_48 => ?_) (fun h_48 => ?_)
      · refine k_iload_n hx dL_isWord_83 3 rfl ?_
        refine k_rz hx hr dL_isWord_84 (by first | exact Or.inl rfl | exact Or.inr rfl | exact b2i_or _) ?_
        exact ⟨rfl, hI', ho⟩
      · refine k_iload_n hx dL_isWord_51 3 rfl ?_
        refine k_ifeq hx dL_isWord_52 (by omega) (fun h_52 => absurd h_52 (by omega)) (fun h_52 => ?_)
        refine k_aload_n hx dL_isWord_55 0 rfl ?_
        refine k_iload_n hx dL_isWord_56 1 rfl ?_
        refine k_iload hx dL_isWord_57 4 rfl ?_
        refine k_vi (rest := []) hx vL_14 dL_isWord_59 (q_crossing hI' hz (k := y) (by omega)) n_0 L_0 rfl rfl rfl ⟨rfl, rfl⟩ ⟨by decide, by decide⟩ (fun z_59 M_59 p_59 => ?_)
        obtain ⟨rfl, I_59, o_59⟩ := p_59
        have hw3 := hw'.same (o_59 i hA.1)
        have I_59 : Inv M_59 σ := I_59
        have hcy := at0_z hw.2.2 (z := y) (by omega) (by omega)
        refine k_aload_n hx dL_isWord_62 2 rfl ?_
        refine k_iconst hx dL_isWord_63 ?_
        refine k_iload hx dL_isWord_64 4 rfl ?_
        refine k_iadd hx dL_isWord_66 ?_
        refine k_iald (v := (at0 (rope σ.1 z) y)) hx dL_isWord_67 hA.2 (LAY_hi hA.1) (by omega) (by decide) (by rw [hw3.2.1 _ (by omega) (by omega)]; congr 1; omega) ?_
        refine k_icmp_ne hx dL_isWord_68 (by omega) (fun h_68 => absurd h_68 (by omega)) (fun h_68 => ?_)
        refine k_iconst hx dL_isWord_71 ?_
        refine k_goto hx dL_isWord_72 ?_
        refine k_istore_n (ls' := [(0, vR g 0), (1, vI z), (2, vR g i), (3, vI 1), (4, vI y)]) hx dL_isWord_76 rfl rfl (by decide) ?_
        refine k_iinc (ls' := [(0, vR g 0), (1, vI z), (2, vR g i), (3, vI 1), (4, vI (y + 1))]) hx dL_isWord_77 4 rfl rfl rfl (by decide) ?_
        refine k_goto hx dL_isWord_80 ?_
        exact ih (k + 1) (y + 1) M_59 (by omega) (by omega) (by omega) I_59 (fun a h0 => by rw [o_59 a h0]; exact ho a h0)
  refine k_aload_n hx dL_isWord_0 0 rfl ?_
  refine k_iload_n hx dL_isWord_1 1 rfl ?_
  refine k_iconst hx dL_isWord_2 ?_
  refine k_vi (rest := []) hx vL_8 dL_isWord_3 (q_len hI hz) n_0 L_0 rfl rfl rfl ⟨rfl, rfl⟩ ⟨by decide, by decide⟩ (fun z_3 M_3 p_3 => ?_)
  obtain ⟨rfl, I_3, o_3⟩ := p_3
  have hw2 := hw.same (o_3 i hA.1)
  have I_3 : Inv M_3 σ := I_3
  refine k_aload_n hx dL_isWord_6 2 rfl ?_
  refine k_iconst hx dL_isWord_7 ?_
  refine k_iald (v := ((rope σ.1 z).length)) hx dL_isWord_8 hA.2 (LAY_hi hA.1) (by omega) (by decide) (hw2.1) ?_
  refine k_icmp_ne hx dL_isWord_9 (by omega) (fun h_9 => absurd h_9 (by omega)) (fun h_9 => ?_)
  refine k_aload_n hx dL_isWord_12 0 rfl ?_
  refine k_iload_n hx dL_isWord_13 1 rfl ?_
  refine k_aload_n hx dL_isWord_14 2 rfl ?_
  refine k_iconst hx dL_isWord_15 ?_
  refine k_iald (v := ((rope σ.1 z).length)) hx dL_isWord_16 hA.2 (LAY_hi hA.1) (by omega) (by decide) (hw2.1) ?_
  refine k_vi (rest := []) hx vL_14 dL_isWord_17 (q_crossing I_3 hz (k := (rope σ.1 z).length) (by omega)) n_0 L_0 rfl rfl rfl ⟨rfl, rfl⟩ ⟨by decide, by decide⟩ (fun z_17 M_17 p_17 => ?_)
  obtain ⟨rfl, I_17, o_17⟩ := p_17
  have I_17 : Inv M_17 σ := I_17
  have e17 : at0 (rope σ.1 z) (rope σ.1 z).length = -1 := at0_out (by omega)
  rw [e17]
  refine k_iconst hx dL_isWord_20 ?_
  refine k_icmp_ne hx dL_isWord_21 (by omega) (fun h_21 => absurd h_21 (by omega)) (fun h_21 => ?_)
  refine k_aload_n hx dL_isWord_24 0 rfl ?_
  refine k_iload_n hx dL_isWord_25 1 rfl ?_
  refine k_iconst hx dL_isWord_26 ?_
  refine k_vi (rest := []) hx vL_14 dL_isWord_27 (q_crossing I_17 hz (k := -1) (by omega)) n_0 L_0 rfl rfl rfl ⟨rfl, rfl⟩ ⟨by decide, by decide⟩ (fun z_27 M_27 p_27 => ?_)
  obtain ⟨rfl, I_27, o_27⟩ := p_27
  have I_27 : Inv M_27 σ := I_27
  have e27 : at0 (rope σ.1 z) (-1) = -1 := at0_out (by omega)
  rw [e27]
  refine k_iconst hx dL_isWord_30 ?_
  refine k_icmp_ne hx dL_isWord_31 (by omega) (fun h_31 => absurd h_31 (by omega)) (fun h_31 => ?_)
  refine k_iconst hx dL_isWord_34 ?_
  refine k_goto hx dL_isWord_35 ?_
  refine k_istore_n (ls' := [(0, vR g 0), (1, vI z), (2, vR g i), (3, vI 1)]) hx dL_isWord_39 rfl rfl (by decide) ?_
  refine k_iconst hx dL_isWord_40 ?_
  refine k_istore (ls' := [(0, vR g 0), (1, vI z), (2, vR g i), (3, vI 1), (4, vI 0)]) hx dL_isWord_41 rfl rfl (by decide) ?_
  exact loop ((rope σ.1 z).length + 1) 0 0 M_27 rfl (by omega) (by omega) I_27 (fun a h0 => by rw [o_27 a h0, o_17 a h0]; exact o_3 a h0)

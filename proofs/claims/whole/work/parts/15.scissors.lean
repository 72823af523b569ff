/-! the scissors -/
def tri : Nat → Nat
  | 0 => 0
  | n + 1 => tri n + n
theorem tri_int (n : Nat) : (n : Int) * (n - 1) = 2 * (tri n : Int) := by
  induction n with
  | zero => simp [tri]
  | succ n ih =>
    have e : ((n + 1 : Nat) : Int) * (((n + 1 : Nat) : Int) - 1) = (n : Int) * (n - 1) + 2 * n := by
      rw [show ((n + 1 : Nat) : Int) - 1 = n by omega, show ((n + 1 : Nat) : Int) = n + 1 by omega, Int.add_mul, Int.mul_sub]; omega
    rw [e, ih, tri]; omega
theorem tri_mono {a b : Nat} (h : a ≤ b) : tri a ≤ tri b := by
  induction b with
  | zero => have : a = 0 := by omega
            subst this; exact Nat.le_refl _
  | succ b ih =>
    by_cases h2 : a = b + 1
    · subst h2; exact Nat.le_refl _
    · have := ih (by omega); rw [tri]; omega
theorem tri_121 : tri 121 = 7260 := by decide +kernel
theorem tri_in {a b : Nat} (h : a < b) (hb : b ≤ 120) : tri b + a < 7260 := by
  have h1 : tri (b + 1) = tri b + b := rfl
  have h2 := tri_mono (show b + 1 ≤ 121 by omega)
  rw [tri_121] at h2; omega
theorem tri_lt {a b b' : Nat} (h : a < b) (hb : b < b') : tri b + a < tri b' := by
  have h1 : tri (b + 1) = tri b + b := rfl
  have h2 := tri_mono (show b + 1 ≤ b' by omega)
  omega
theorem tri_le120 {b : Nat} (hb : b ≤ 120) : tri b ≤ 7140 := by
  have h2 := tri_mono hb
  have : tri 120 = 7140 := by decide +kernel
  omega

theorem c_X2_placeOf {g : GE} {l : Launch} {M : Mem} {a b : Nat} (hb : b ≤ 120) (ha : a ≤ 120) : Cp g l μX2_placeOf [vI a, vI b] M (tri b + a : Nat) := by
  refine Ci.of (by decide +kernel) rfl rfl (fun x hx hr => ?_)
  have h1 := tri_int b
  have h2 := tri_le120 hb
  refine k_iload_n hx dX2_placeOf_0 1 rfl ?_
  refine k_iload_n hx dX2_placeOf_1 1 rfl ?_
  refine k_iconst hx dX2_placeOf_2 ?_
  refine k_isub hx dX2_placeOf_3 ?_
  refine k_imul hx dX2_placeOf_4 ?_
  refine k_iconst hx dX2_placeOf_5 ?_
  refine k_idiv hx dX2_placeOf_6 (by rw [h1]; omega) ?_
  refine k_iload_n hx dX2_placeOf_7 0 rfl ?_
  refine k_iadd hx dX2_placeOf_8 ?_
  refine k_ri hx hr dX2_placeOf_9 ?_
  exact ⟨by rw [h1]; omega, rfl⟩
theorem xor12 : ∀ a : Fin 12, 0 ≤ (zI ((a : Nat) : Int) ^^^ zI 12).toInt := by decide +kernel
theorem c_floorMod {g : GE} {l : Launch} {M : Mem} {a : Int} (h : 0 ≤ a ∧ a < 12) : Cp g l μJ9_floorMod_7cf53 [vI a, vI 12] M a := by
  refine Ci.ofJ (by decide +kernel) rfl rfl (fun x hx hr => ?_)
  have hx12 : 0 ≤ (zI a ^^^ zI 12).toInt := by
    have := xor12 ⟨a.toNat, by omega⟩
    simpa [Int.max_eq_left h.1] using this
  have hrg := i32_rg (zI a ^^^ zI 12)
  refine k_iload_n hx dJ9_floorMod_7cf53_0 0 rfl ?_
  refine k_iload_n hx dJ9_floorMod_7cf53_1 1 rfl ?_
  refine k_irem hx dJ9_floorMod_7cf53_2 (by omega) ?_
  refine k_istore_n (ls' := [(0, vI a), (1, vI 12), (2, vI (a % 12))]) hx dJ9_floorMod_7cf53_3 rfl rfl (by decide) ?_
  refine k_iload_n hx dJ9_floorMod_7cf53_4 0 rfl ?_
  refine k_iload_n hx dJ9_floorMod_7cf53_5 1 rfl ?_
  refine k_ixor (v := zI ((zI a ^^^ zI 12).toInt)) hx dJ9_floorMod_7cf53_6 ((zI_of _).symm) ?_
  refine k_ifge hx dJ9_floorMod_7cf53_7 (by omega) (fun h_7 => ?_) (fun h_7 => absurd h_7 (by omega))
  refine k_iload_n hx dJ9_floorMod_7cf53_18 2 rfl ?_
  refine k_ri hx hr dJ9_floorMod_7cf53_19 ?_
  exact ⟨by omega, rfl⟩
theorem c_X2_staying {g : GE} {l : Launch} {M : Mem} {r : List Int} {a b : Nat} (hr : r.length ≤ 120) (ha : a ≤ r.length + 1) (hb : b ≤ r.length) (hs : a < b → M 110 (tri b + a : Nat) = (Mx (slc r a b) : Int)) : Cp g l μX2_staying [vR g 109, vI a, vI b] M (Mx (slc r a b)) := by
  refine Ci.of (by decide +kernel) rfl rfl (fun x hx hrx => ?_)
  by_cases hab : a < b
  · have h1 := tri_in hab (by omega)
    refine k_iload_n hx dX2_staying_0 1 rfl ?_
    refine k_iload_n hx dX2_staying_1 2 rfl ?_
    refine k_icmp_ge hx dX2_staying_2 (by omega) (fun h_2 => absurd h_2 (by omega)) (fun h_2 => ?_)
    refine k_aload_n hx dX2_staying_5 0 rfl ?_
    refine k_get (v := vR g 110) hx fX2_9 dX2_staying_6 n_109 L_109 rfl ?_
    refine k_iload_n hx dX2_staying_9 1 rfl ?_
    refine k_iload_n hx dX2_staying_10 2 rfl ?_
    refine k_sp (rest := [vR g 110]) (e := (tri b + a : Nat)) hx sX2_40 dX2_staying_11 (c_X2_placeOf (a := a) (b := b) (by omega) (by omega)) rfl rfl rfl ⟨rfl, rfl⟩ ⟨by decide, by decide⟩ ?_
    refine k_iald (v := (Mx (slc r a b) : Nat)) hx dX2_staying_14 n_110 L_110 (by omega) (by decide) (hs hab) ?_
    refine k_goto hx dX2_staying_15 ?_
    refine k_ri hx hrx dX2_staying_19 ?_
    exact ⟨rfl, rfl⟩
  · have e : slc r a b = [] := by unfold slc; rw [List.drop_eq_nil_of_le]; rw [List.length_take]; omega
    refine k_iload_n hx dX2_staying_0 1 rfl ?_
    refine k_iload_n hx dX2_staying_1 2 rfl ?_
    refine k_icmp_ge hx dX2_staying_2 (by omega) (fun h_2 => ?_) (fun h_2 => absurd h_2 (by omega))
    refine k_iconst hx dX2_staying_18 ?_
    refine k_ri hx hrx dX2_staying_19 ?_
    exact ⟨by rw [e]; rfl, rfl⟩
/-- q is the first place from m on that holds c (the length, if none) -/
def Nxe (r : List Int) (m : Nat) (c : Int) (q : Nat) : Prop := m ≤ q ∧ q ≤ r.length ∧ (∀ j, m ≤ j → j < q → at0 r j ≠ c) ∧ (q < r.length → at0 r q = c)
/-- the links of the place k -/
def Lk (M : Mem) (r : List Int) (k : Nat) : Prop := (∃ q : Nat, M 111 k = q ∧ Nxe r (k + 1) (op (at0 r k)) q) ∧ (∃ q : Nat, M 112 k = q ∧ Nxe r (k + 1) (at0 r k) q)
theorem Nxe.down {r : List Int} {m : Nat} {c : Int} {q : Nat} (h : Nxe r (m + 1) c q) (hm : at0 r m ≠ c) : Nxe r m c q :=
  ⟨by have := h.1; omega, h.2.1, fun j h1 h2 => by
    by_cases hj : j = m
    · subst hj; exact hm
    · exact h.2.2.1 j (by omega) h2, h.2.2.2⟩
def Off4 (M M' : Mem) : Prop := ∀ a, (a < 110 ∨ 114 ≤ a) → M' a = M a
theorem Off4.tr {M M' M'' : Mem} (h : Off4 M M') (k : Off4 M' M'') : Off4 M M'' := fun a h1 => (k a h1).trans (h a h1)
theorem off4_up {M : Mem} {i : Nat} {k z : Int} (h : 110 ≤ i ∧ i < 114) : Off4 M (up M i k z) := fun a ha => up_i (by omega)

theorem c_X2_linkPlaces {g : GE} {l : Launch} {M : Mem} {r : List Int} (hw : Wd M 114 r) (hl : r.length ≤ 120) : Cv g l μX2_linkPlaces [vR g 109, vR g 114, vI r.length] M (fun M' => (∀ k, k < r.length → Lk M' r k) ∧ ∀ a, a ≠ 111 → a ≠ 112 → a ≠ 113 → M' a = M a) := by
  refine Cv.of (by decide +kernel) rfl rfl (fun x hx hr => ?_)
  have loop2 : ∀ (f : Nat), ∀ (m : Nat) (z : Int) (M' : Mem), z = (m : Int) - 1 → m ≤ r.length → m < f → (∀ c : Nat, c < 12 → ∃ q : Nat, M' 113 c = q ∧ Nxe r m c q) → (∀ k, m ≤ k → k < r.length → Lk M' r k) → (∀ a, a ≠ 111 → a ≠ 112 → a ≠ 113 → M' a = M a) → K x g 0 0 LAY NN M' 25 [(0, vR g 109), (1, vR g 114), (2, vI r.length), (3, vI z)] [] := by
    intro f
    induction f with
    | zero => intro m z M' hz hm hf hn hk ho; omega
    | succ f ih =>
      intro m z M' hz hm hf hn hk ho
      refine k_iload_n hx dX2_linkPlaces_25 3 rfl ?_
      refine k_iflt hx dX2_linkPlaces_26 (by omega) (fun h_26 => ?_) (fun h_26 => ?_)
      · refine k_rv hx hr dX2_linkPlaces_84 ?_
        exact ⟨fun k h => hk k (by omega) h, ho⟩
      · obtain ⟨p, rfl⟩ : ∃ p, m = p + 1 := ⟨m - 1, by omega⟩
        have hzp : z = p := by omega
        have hw' : Wd M' 114 r := hw.same (ho 114 (by omega) (by omega) (by omega)) (ho 115 (by omega) (by omega) (by omega))
        have e1 : at0 r z = at0 r p := by rw [hzp]
        have c1 := op_cr hw.2.2 (k := p) (by omega)
        have c2 := op_rg c1
        obtain ⟨q1, hq1, hx1⟩ := hn (op (at0 r p)).toNat (by omega)
        obtain ⟨q2, hq2, hx2⟩ := hn (at0 r p).toNat (by omega)
        rw [show (((op (at0 r p)).toNat : Nat) : Int) = op (at0 r p) by omega] at hq1 hx1
        rw [show (((at0 r p).toNat : Nat) : Int) = at0 r p by omega] at hq2 hx2
        refine k_aload_n hx dX2_linkPlaces_29 1 rfl ?_
        refine k_iload_n hx dX2_linkPlaces_30 3 rfl ?_
        refine k_vp (rest := []) (e := (at0 r z)) hx vX2_49 dX2_linkPlaces_31 (c_X4_at isW_114 hw' (by omega) (z := z) (by omega)) n_114 L_114 rfl rfl rfl ⟨rfl, rfl⟩ ⟨by decide, by decide⟩ ?_
        rw [e1]
        refine k_bipush hx dX2_linkPlaces_34 (by decide +kernel) ?_
        refine k_sp (rest := []) (e := (at0 r p)) hx sX2_53 dX2_linkPlaces_36 (c_floorMod c1) rfl rfl rfl ⟨rfl, rfl⟩ ⟨by decide, by decide⟩ ?_
        refine k_istore (ls' := [(0, vR g 109), (1, vR g 114), (2, vI r.length), (3, vI z), (4, vI (at0 r p))]) hx dX2_linkPlaces_39 rfl rfl (by decide) ?_
        refine k_aload_n hx dX2_linkPlaces_41 0 rfl ?_
        refine k_get (v := vR g 111) hx fX2_15 dX2_linkPlaces_42 n_109 L_109 rfl ?_
        refine k_iload_n hx dX2_linkPlaces_45 3 rfl ?_
        refine k_aload_n hx dX2_linkPlaces_46 0 rfl ?_
        refine k_get (v := vR g 113) hx fX2_21 dX2_linkPlaces_47 n_109 L_109 rfl ?_
        refine k_iload hx dX2_linkPlaces_50 4 rfl ?_
        refine k_np (rest := [vR g 113, vI z, vR g 111]) (e := (op (at0 r p))) hx nX2_56 dX2_linkPlaces_52 (c_X5_opposite (z := (at0 r p)) (by omega)) rfl rfl rfl ⟨rfl, rfl⟩ ⟨by decide, by decide⟩ ?_
        refine k_iald (v := q1) hx dX2_linkPlaces_55 n_113 L_113 (by omega) (by decide) (hq1) ?_
        refine k_iastN hx dX2_linkPlaces_56 n_111 L_111 (by omega) (by decide) (fun M_56 hM_56 => ?_)
        refine k_aload_n hx dX2_linkPlaces_57 0 rfl ?_
        refine k_get (v := vR g 112) hx fX2_18 dX2_linkPlaces_58 n_109 L_109 rfl ?_
        refine k_iload_n hx dX2_linkPlaces_61 3 rfl ?_
        refine k_aload_n hx dX2_linkPlaces_62 0 rfl ?_
        refine k_get (v := vR g 113) hx fX2_21 dX2_linkPlaces_63 n_109 L_109 rfl ?_
        refine k_iload hx dX2_linkPlaces_66 4 rfl ?_
        refine k_iald (v := q2) hx dX2_linkPlaces_68 n_113 L_113 (by omega) (by decide) (by rw [hM_56, up_i (by omega)]; exact hq2) ?_
        refine k_iastN hx dX2_linkPlaces_69 n_112 L_112 (by omega) (by decide) (fun M_69 hM_69 => ?_)
        refine k_aload_n hx dX2_linkPlaces_70 0 rfl ?_
        refine k_get (v := vR g 113) hx fX2_21 dX2_linkPlaces_71 n_109 L_109 rfl ?_
        refine k_iload hx dX2_linkPlaces_74 4 rfl ?_
        refine k_iload_n hx dX2_linkPlaces_76 3 rfl ?_
        refine k_iastN hx dX2_linkPlaces_77 n_113 L_113 (by omega) (by decide) (fun M_77 hM_77 => ?_)
        refine k_iinc (ls' := [(0, vR g 109), (1, vR g 114), (2, vI r.length), (3, vI (z + (-1))), (4, vI (at0 r p))]) hx dX2_linkPlaces_78 3 rfl rfl rfl (by decide) ?_
        refine k_goto hx dX2_linkPlaces_81 ?_
        refine K.sub [0, 1, 2, 3] rfl ?_
        have hne : ∀ a, a ≠ 111 → a ≠ 112 → a ≠ 113 → M_77 a = M a := fun a h1 h2 h3 => by rw [hM_77, hM_69, hM_56, up_i h3, up_i h2, up_i h1]; exact ho a h1 h2 h3
        refine ih p (z + -1) M_77 (by omega) (by omega) (by omega) (fun c hc => ?_) (fun k h1 h2 => ?_) hne
        · obtain ⟨q, hq, hx⟩ := hn c hc
          by_cases hcp : (c : Int) = at0 r p
          · refine ⟨p, by rw [hM_77, hcp, up_s]; exact hzp, Nat.le_refl _, by omega, fun j h1 h2 => absurd h1 (by omega), fun _ => by rw [hcp]⟩
          · exact ⟨q, by rw [hM_77, up_k hcp, hM_69, up_i (by omega), hM_56, up_i (by omega)]; exact hq, hx.down (fun h => hcp h.symm)⟩
        · by_cases hkp : k = p
          · subst hkp
            exact ⟨⟨q1, by rw [hM_77, up_i (by omega), hM_69, up_i (by omega), hM_56, ← hzp, up_s], hx1⟩, ⟨q2, by rw [hM_77, up_i (by omega), hM_69, ← hzp, up_s], hx2⟩⟩
          · obtain ⟨⟨a1, b1, d1⟩, ⟨a2, b2, d2⟩⟩ := hk k (by omega) h2
            exact ⟨⟨a1, by rw [hM_77, up_i (by omega), hM_69, up_i (by omega), hM_56, up_k (by omega)]; exact b1, d1⟩, ⟨a2, by rw [hM_77, up_i (by omega), hM_69, up_k (by omega), hM_56, up_i (by omega)]; exact b2, d2⟩⟩
  have loop1 : ∀ (f : Nat), ∀ (k : Nat) (z : Int) (M' : Mem), z = k → k ≤ 12 → 12 - k < f → (∀ c : Nat, c < k → M' 113 c = r.length) → (∀ a, a ≠ 111 → a ≠ 112 → a ≠ 113 → M' a = M a) → K x g 0 0 LAY NN M' 2 [(0, vR g 109), (1, vR g 114), (2, vI r.length), (3, vI z)] [] := by
    intro f
    induction f with
    | zero => intro k z M' hz hk hf hn ho; omega
    | succ f ih =>
      intro k z M' hz hk hf hn ho
      refine k_iload_n hx dX2_linkPlaces_2 3 rfl ?_
      refine k_bipush hx dX2_linkPlaces_3 (by decide +kernel) ?_
      refine k_icmp_ge hx dX2_linkPlaces_5 (by omega) (fun h_5 => ?_) (fun h_5 => ?_)
      · refine k_iload_n hx dX2_linkPlaces_21 2 rfl ?_
        refine k_iconst hx dX2_linkPlaces_22 ?_
        refine k_isub hx dX2_linkPlaces_23 ?_
        refine k_istore_n (ls' := [(0, vR g 109), (1, vR g 114), (2, vI r.length), (3, vI (r.length - 1))]) hx dX2_linkPlaces_24 rfl rfl (by decide) ?_
        exact loop2 (r.length + 1) r.length _ M' rfl (by omega) (by omega) (fun c hc => ⟨r.length, hn c (by omega), Nat.le_refl _, Nat.le_refl _, fun j h1 h2 => absurd h1 (by omega), fun h => absurd h (by omega)⟩) (fun k h1 h2 => absurd h1 (by omega)) ho
      · refine k_aload_n hx dX2_linkPlaces_8 0 rfl ?_
        refine k_get (v := vR g 113) hx fX2_21 dX2_linkPlaces_9 n_109 L_109 rfl ?_
        refine k_iload_n hx dX2_linkPlaces_12 3 rfl ?_
        refine k_iload_n hx dX2_linkPlaces_13 2 rfl ?_
        refine k_iastN hx dX2_linkPlaces_14 n_113 L_113 (by omega) (by decide) (fun M_14 hM_14 => ?_)
        refine k_iinc (ls' := [(0, vR g 109), (1, vR g 114), (2, vI r.length), (3, vI (z + 1))]) hx dX2_linkPlaces_15 3 rfl rfl rfl (by decide) ?_
        refine k_goto hx dX2_linkPlaces_18 ?_
        refine ih (k + 1) (z + 1) M_14 (by omega) (by omega) (by omega) (fun c hc => ?_) (fun a h1 h2 h3 => by rw [hM_14, up_i h3]; exact ho a h1 h2 h3)
        rw [hM_14]
        by_cases hck : c = k
        · subst hck; rw [← hz, up_s]
        · rw [up_k (by omega)]; exact hn c (by omega)
  refine k_iconst hx dX2_linkPlaces_0 ?_
  refine k_istore_n (ls' := [(0, vR g 109), (1, vR g 114), (2, vI r.length), (3, vI 0)]) hx dX2_linkPlaces_1 rfl rfl (by decide) ?_
  exact loop1 13 0 0 M rfl (by omega) (by omega) (fun c hc => absurd hc (by omega)) (fun _ _ _ _ => rfl)
/-- the best of the first m places -/
def FM (t : List Int) (c : Int) (m : Nat) : Nat := (List.range m).foldl (mxS t c (fun k => 2 + Mx (t.take k) + Mx (t.drop (k + 1)))) (Mx t)
theorem FM_succ (t : List Int) (c : Int) (m : Nat) : FM t c (m + 1) = if at0 t m = op c then max (FM t c m) (2 + Mx (t.take m) + Mx (t.drop (m + 1))) else FM t c m := by
  unfold FM; rw [List.range_succ, List.foldl_append]; rfl
theorem FM_skip {t : List Int} {c : Int} {m : Nat} : ∀ (d : Nat), (∀ k, m ≤ k → k < m + d → at0 t k ≠ op c) → FM t c (m + d) = FM t c m
  | 0, _ => rfl
  | d + 1, h => by
    rw [show m + (d + 1) = (m + d) + 1 by omega, FM_succ, if_neg (h (m + d) (by omega) (by omega)), FM_skip d (fun k h1 h2 => h k h1 (by omega))]
theorem FM_mono (t : List Int) (c : Int) {m n : Nat} (h : m ≤ n) : FM t c m ≤ FM t c n := by
  induction n with
  | zero => have : m = 0 := by omega
            subst this; exact Nat.le_refl _
  | succ n ih =>
    by_cases h2 : m = n + 1
    · subst h2; exact Nat.le_refl _
    · have h3 := ih (by omega)
      rw [FM_succ]; split <;> omega
theorem FM_all (c : Int) (t : List Int) : FM t c t.length = Mx (c :: t) := (mx_cons c t).symm
theorem slc_cons {r : List Int} {a b : Nat} (h : a < b) (hb : b ≤ r.length) : slc r a b = at0 r a :: slc r (a + 1) b := by
  unfold slc
  rw [List.drop_eq_getElem_cons (by rw [List.length_take]; omega), at0_n (by omega)]
  simp
theorem slc_take {r : List Int} {a b k : Nat} (h : a + k ≤ b) : (slc r a b).take k = slc r a (a + k) := by
  unfold slc
  rw [List.take_drop, List.take_take, Nat.min_eq_left (by omega)]
theorem slc_drop {r : List Int} {a b k : Nat} : (slc r a b).drop k = slc r (a + k) b := by
  unfold slc
  rw [List.drop_drop]

theorem c_X2_mostStaying {g : GE} {l : Launch} {M : Mem} {r : List Int} (hcr : Cr r) (hl : r.length ≤ 120) {a b : Nat} (hab : a < b) (hb : b ≤ r.length) (hlk : ∀ k, k < r.length → Lk M r k) (hs : ∀ a' b', a' < b' → b' ≤ b → (b' < b ∨ a < a') → M 110 (tri b' + a' : Nat) = (Mx (slc r a' b') : Int)) : Cp g l μX2_mostStaying [vR g 109, vI a, vI b] M (Mx (slc r a b)) := by
  refine Ci.of (by decide +kernel) rfl rfl (fun x hx hr => ?_)
  obtain ⟨t, ht⟩ : ∃ t, t = slc r (a + 1) b := ⟨_, rfl⟩
  obtain ⟨c, hc⟩ : ∃ c, c = at0 r a := ⟨_, rfl⟩
  have htl : t.length = b - (a + 1) := by rw [ht]; exact slc_len hb
  have hfin : FM t c t.length = Mx (slc r a b) := by rw [FM_all, slc_cons hab hb, ht, hc]
  have hat : ∀ k, a < k → k < b → at0 t (k - a - 1 : Nat) = at0 r k := fun k h1 h2 => by
    rw [ht, slc_at hb (by omega)]; congr 2; omega
  have hmx : ∀ a' b', b' ≤ r.length → Mx (slc r a' b') ≤ 120 := fun a' b' h => by
    have h1 := mx_le _ (slc r a' b') (Nat.le_refl _); rw [slc_len h] at h1; omega
  have hcc := op_cr hcr (k := a) (by omega)
  rw [← hc] at hcc
  have hFb : ∀ m, m ≤ t.length → FM t c m ≤ 120 := fun m h => by
    have h1 := FM_mono t c h; rw [hfin] at h1; have := hmx a b hb; omega
  have loop : ∀ (f : Nat), ∀ (q : Nat) (y z : Int), z = q → a < q → q ≤ r.length → r.length - q < f → y = FM t c (min q b - a - 1) → (q < b → at0 r q = op c) → K x g 0 0 LAY NN M 17 [(0, vR g 109), (1, vI a), (2, vI b), (3, vI y), (4, vI z)] [] := by
    intro f
    induction f with
    | zero => intro q y z hz hq hqr hf hy hop; omega
    | succ f ih =>
      intro q y z hz hq hqr hf hy hop
      refine k_iload hx dX2_mostStaying_17 4 rfl ?_
      refine k_iload_n hx dX2_mostStaying_19 2 rfl ?_
      refine k_icmp_ge hx dX2_mostStaying_20 (by omega) (fun h_20 => ?_) (fun h_20 => ?_)
      · refine k_iload_n hx dX2_mostStaying_68 3 rfl ?_
        refine k_ri hx hr dX2_mostStaying_69 ?_
        exact ⟨by rw [hy, Nat.min_eq_right (by omega), ← hfin, htl]; congr 2, rfl⟩
      · subst hz
        have hqb : q < b := by omega
        have hoq := hop hqb
        have e1 : (a : Int) + 1 = ((a + 1 : Nat) : Int) := by omega
        have hg1 := hmx (a + 1) q (by omega)
        have hg2 := hmx (q + 1) b hb
        obtain ⟨q', hq', hx'⟩ := (hlk q (by omega)).2
        have hq'2 := hx'.2.1
        have hfb1 := hFb (q - a - 1) (by omega)
        have hstep : FM t c (q + 1 - a - 1) = max (FM t c (q - a - 1)) (2 + Mx (slc r (a + 1) q) + Mx (slc r (q + 1) b)) := by
          rw [show q + 1 - a - 1 = (q - a - 1) + 1 by omega, FM_succ, if_pos (by rw [hat q hq hqb]; exact hoq), ht, slc_take (by omega), slc_drop, show a + 1 + (q - a - 1) = q by omega, show a + 1 + (q - a - 1 + 1) = q + 1 by omega]
        rw [Nat.min_eq_left (by omega)] at hy
        refine k_iload_n hx dX2_mostStaying_23 3 rfl ?_
        refine k_iconst hx dX2_mostStaying_24 ?_
        refine k_aload_n hx dX2_mostStaying_25 0 rfl ?_
        refine k_iload_n hx dX2_mostStaying_26 1 rfl ?_
        refine k_iconst hx dX2_mostStaying_27 ?_
        refine k_iadd hx dX2_mostStaying_28 ?_
        refine k_iload hx dX2_mostStaying_29 4 rfl ?_
        rw [e1]
        refine k_vp (rest := [vI 2, vI y]) (e := (Mx (slc r (a + 1) q) : Nat)) hx vX2_46 dX2_mostStaying_31 (c_X2_staying (r := r) (a := a + 1) (b := q) hl (by omega) (by omega) (fun h => hs _ _ h (by omega) (by omega))) n_109 L_109 rfl rfl rfl ⟨rfl, rfl⟩ ⟨by decide, by decide⟩ ?_
        refine k_iadd hx dX2_mostStaying_34 ?_
        refine k_aload_n hx dX2_mostStaying_35 0 rfl ?_
        refine k_iload hx dX2_mostStaying_36 4 rfl ?_
        refine k_iconst hx dX2_mostStaying_38 ?_
        refine k_iadd hx dX2_mostStaying_39 ?_
        refine k_iload_n hx dX2_mostStaying_40 2 rfl ?_
        
        refine k_vp (rest := [vI (2 + (Mx (slc r (a + 1) q) : Nat)), vI y]) (e := (Mx (slc r (q + 1) b) : Nat)) hx vX2_46 dX2_mostStaying_41 (c_X2_staying (r := r) (a := q + 1) (b := b) hl (by omega) hb (fun h => hs _ _ h (by omega) (by omega))) n_109 L_109 rfl rfl rfl ⟨rfl, rfl⟩ ⟨by decide, by decide⟩ ?_
        refine k_iadd hx dX2_mostStaying_44 ?_
        refine k_sp (rest := []) (e := (max y ((2 + (Mx (slc r (a + 1) q) : Nat)) + (Mx (slc r (q + 1) b) : Nat)))) hx sX2_59 dX2_mostStaying_45 (c_max (a := y) (b := ((2 + (Mx (slc r (a + 1) q) : Nat)) + (Mx (slc r (q + 1) b) : Nat))) (by omega)) rfl rfl rfl ⟨rfl, rfl⟩ ⟨by decide, by decide⟩ ?_
        refine k_istore_n (ls' := [(0, vR g 109), (1, vI a), (2, vI b), (3, vI (max y ((2 + (Mx (slc r (a + 1) q) : Nat)) + (Mx (slc r (q + 1) b) : Nat)))), (4, vI (q : Nat))]) hx dX2_mostStaying_48 rfl rfl (by decide) ?_
        refine k_iload hx dX2_mostStaying_49 4 rfl ?_
        refine k_iconst hx dX2_mostStaying_51 ?_
        refine k_iadd hx dX2_mostStaying_52 ?_
        refine k_aload_n hx dX2_mostStaying_53 0 rfl ?_
        refine k_get (v := vR g 112) hx fX2_18 dX2_mostStaying_54 n_109 L_109 rfl ?_
        refine k_iload hx dX2_mostStaying_57 4 rfl ?_
        refine k_iald (v := q') hx dX2_mostStaying_59 n_112 L_112 (by omega) (by decide) (hq') ?_
        refine k_sp (rest := []) (e := (max ((q : Nat) + 1) q')) hx sX2_59 dX2_mostStaying_60 (c_max (a := ((q : Nat) + 1)) (b := q') (by omega)) rfl rfl rfl ⟨rfl, rfl⟩ ⟨by decide, by decide⟩ ?_
        refine k_istore (ls' := [(0, vR g 109), (1, vI a), (2, vI b), (3, vI (max y ((2 + (Mx (slc r (a + 1) q) : Nat)) + (Mx (slc r (q + 1) b) : Nat)))), (4, vI (max ((q : Nat) + 1) q'))]) hx dX2_mostStaying_63 rfl rfl (by decide) ?_
        refine k_goto hx dX2_mostStaying_65 ?_
        have hq'1 : q < q' := hx'.1
        have e5 : max ((q : Int) + 1) q' = q' := by omega
        rw [e5]
        have hsk : FM t c (min q' b - a - 1) = FM t c (q + 1 - a - 1) := by
          have h1 := FM_skip (t := t) (c := c) (m := q + 1 - a - 1) (min q' b - (q + 1)) (fun k h1 h2 => by
            have h3 := hat (k + a + 1) (by omega) (by omega)
            rw [show k + a + 1 - a - 1 = k by omega] at h3
            rw [h3, ← hoq]
            exact hx'.2.2.1 _ (by omega) (by omega))
          rwa [show q + 1 - a - 1 + (min q' b - (q + 1)) = min q' b - a - 1 by omega] at h1
        exact ih q' _ q' rfl (by omega) hx'.2.1 (by omega) (by rw [hsk, hstep, hy]; omega) (fun h => by rw [hx'.2.2.2 (by omega), hoq])
  refine k_aload_n hx dX2_mostStaying_0 0 rfl ?_
  refine k_iload_n hx dX2_mostStaying_1 1 rfl ?_
  refine k_iconst hx dX2_mostStaying_2 ?_
  refine k_iadd hx dX2_mostStaying_3 ?_
  refine k_iload_n hx dX2_mostStaying_4 2 rfl ?_
  have e1 : (a : Int) + 1 = ((a + 1 : Nat) : Int) := by omega
  rw [e1]
  refine k_vp (rest := []) (e := (Mx (slc r (a + 1) b) : Nat)) hx vX2_46 dX2_mostStaying_5 (c_X2_staying (r := r) (a := a + 1) (b := b) hl (by omega) hb (fun h => hs _ _ h (by omega) (by omega))) n_109 L_109 rfl rfl rfl ⟨rfl, rfl⟩ ⟨by decide, by decide⟩ ?_
  refine k_istore_n (ls' := [(0, vR g 109), (1, vI a), (2, vI b), (3, vI (Mx (slc r (a + 1) b) : Nat))]) hx dX2_mostStaying_8 rfl rfl (by decide) ?_
  obtain ⟨q0, hq0, hx0⟩ := (hlk a (by omega)).1
  have hm0 := hmx (a + 1) b hb
  refine k_aload_n hx dX2_mostStaying_9 0 rfl ?_
  refine k_get (v := vR g 111) hx fX2_15 dX2_mostStaying_10 n_109 L_109 rfl ?_
  refine k_iload_n hx dX2_mostStaying_13 1 rfl ?_
  refine k_iald (v := q0) hx dX2_mostStaying_14 n_111 L_111 (by omega) (by decide) (hq0) ?_
  refine k_istore (ls' := [(0, vR g 109), (1, vI a), (2, vI b), (3, vI (Mx (slc r (a + 1) b) : Nat)), (4, vI q0)]) hx dX2_mostStaying_15 rfl rfl (by decide) ?_
  have hq01 : a < q0 := hx0.1
  rw [← hc] at hx0
  have hsk : FM t c (min q0 b - a - 1) = FM t c 0 := by
    have h1 := FM_skip (t := t) (c := c) (m := 0) (min q0 b - (a + 1)) (fun k h1 h2 => by
      have h3 := hat (k + a + 1) (by omega) (by omega)
      rw [show k + a + 1 - a - 1 = k by omega] at h3
      rw [h3]
      exact hx0.2.2.1 _ (by omega) (by omega))
    rwa [show 0 + (min q0 b - (a + 1)) = min q0 b - a - 1 by omega] at h1
  have h00 : FM t c 0 = Mx (slc r (a + 1) b) := by rw [← ht]; rfl
  exact loop (r.length + 1) q0 _ q0 rfl hq01 hx0.2.1 (by omega) (by rw [hsk, h00]) (fun h => hx0.2.2.2 (by omega))
theorem c_X2_fewestCuts {g : GE} {l : Launch} {M : Mem} {r : List Int} (hw : Wd M 114 r) (hl : r.length ≤ 120) : Ci g l μX2_fewestCuts [vR g 109, vR g 114] M (fun z M' => z = (r.length : Int) - Mx r ∧ Off4 M M') := by
  refine Ci.of (by decide +kernel) rfl rfl (fun x hx hr => ?_)
  have hwl := hw.1
  have hmx : ∀ a' b', b' ≤ r.length → Mx (slc r a' b') ≤ 120 := fun a' b' h => by
    have h1 := mx_le _ (slc r a' b') (Nat.le_refl _); rw [slc_len h] at h1; omega
  have loop : ∀ (f : Nat), ∀ (e s : Nat) (z : Int) (M' : Mem), e ≤ r.length → s ≤ e → z = (s : Int) - 1 → (r.length - e) * 200 + s < f → (∀ k, k < r.length → Lk M' r k) → (∀ a' b', a' < b' → b' ≤ e → (b' < e ∨ s ≤ a') → M' 110 (tri b' + a' : Nat) = (Mx (slc r a' b') : Int)) → Off4 M M' → K x g 0 0 LAY NN M' 28 [(0, vR g 109), (1, vR g 114), (2, vI r.length), (3, vI e), (4, vI z)] [] := by
    intro f
    induction f with
    | zero => intro e s z M' he hse hz hf hk hs ho; omega
    | succ f ih =>
      intro e s z M' he hse hz hf hk hs ho
      refine k_iload hx dX2_fewestCuts_28 4 rfl ?_
      refine k_iflt hx dX2_fewestCuts_30 (by omega) (fun h_30 => ?_) (fun h_30 => ?_)
      · refine K.sub [0, 1, 2, 3] rfl ?_
        refine k_iinc (ls' := [(0, vR g 109), (1, vR g 114), (2, vI r.length), (3, vI (e + 1))]) hx dX2_fewestCuts_57 3 rfl rfl rfl (by decide) ?_
        refine k_goto hx dX2_fewestCuts_60 ?_
        refine k_iload_n hx dX2_fewestCuts_18 3 rfl ?_
        refine k_iload_n hx dX2_fewestCuts_19 2 rfl ?_
        refine k_icmp_gt hx dX2_fewestCuts_20 (by omega) (fun h_20 => ?_) (fun h_20 => ?_)
        · have hen : e = r.length := by omega
          subst hen
          have hm2 := hmx 0 r.length (Nat.le_refl _)
          refine k_iload_n hx dX2_fewestCuts_63 2 rfl ?_
          refine k_aload_n hx dX2_fewestCuts_64 0 rfl ?_
          refine k_iconst hx dX2_fewestCuts_65 ?_
          refine k_iload_n hx dX2_fewestCuts_66 2 rfl ?_
          refine k_vp (rest := [vI r.length]) (e := (Mx (slc r 0 r.length) : Nat)) hx vX2_46 dX2_fewestCuts_67 (c_X2_staying (r := r) (a := 0) (b := r.length) hl (by omega) (by omega) (fun h => hs _ _ h (by omega) (by omega))) n_109 L_109 rfl rfl rfl ⟨rfl, rfl⟩ ⟨by decide, by decide⟩ ?_
          refine k_isub hx dX2_fewestCuts_70 ?_
          refine k_ri hx hr dX2_fewestCuts_71 ?_
          exact ⟨by rw [slc_all], ho⟩
        · refine k_iload_n hx dX2_fewestCuts_23 3 rfl ?_
          refine k_iconst hx dX2_fewestCuts_24 ?_
          refine k_isub hx dX2_fewestCuts_25 ?_
          refine k_istore (ls' := [(0, vR g 109), (1, vR g 114), (2, vI r.length), (3, vI (e + 1)), (4, vI ((e + 1) - 1))]) hx dX2_fewestCuts_26 rfl rfl (by decide) ?_
          exact ih (e + 1) (e + 1) _ M' (by omega) (by omega) (by omega) (by omega) hk (fun a1 b1 h1 h2 h3 => hs a1 b1 h1 (by omega) (by omega)) ho
      · obtain ⟨s, rfl⟩ : ∃ p, s = p + 1 := ⟨s - 1, by omega⟩
        have hzs : z = s := by omega
        subst hzs
        have htb := tri_in (a := s) (b := e) (by omega) (by omega)
        have hm1 := hmx s e he
        refine k_aload_n hx dX2_fewestCuts_33 0 rfl ?_
        refine k_get (v := vR g 110) hx fX2_9 dX2_fewestCuts_34 n_109 L_109 rfl ?_
        refine k_iload hx dX2_fewestCuts_37 4 rfl ?_
        refine k_iload_n hx dX2_fewestCuts_39 3 rfl ?_
        refine k_sp (rest := [vR g 110]) (e := (tri e + s : Nat)) hx sX2_40 dX2_fewestCuts_40 (c_X2_placeOf (a := s) (b := e) (by omega) (by omega)) rfl rfl rfl ⟨rfl, rfl⟩ ⟨by decide, by decide⟩ ?_
        refine k_aload_n hx dX2_fewestCuts_43 0 rfl ?_
        refine k_iload hx dX2_fewestCuts_44 4 rfl ?_
        refine k_iload_n hx dX2_fewestCuts_46 3 rfl ?_
        refine k_vp (rest := [vI (tri e + s : Nat), vR g 110]) (e := (Mx (slc r s e) : Nat)) hx vX2_43 dX2_fewestCuts_47 (c_X2_mostStaying (r := r) hw.2.2 hl (a := s) (b := e) (by omega) he hk (fun a1 b1 h1 h2 h3 => hs a1 b1 h1 h2 (by omega))) n_109 L_109 rfl rfl rfl ⟨rfl, rfl⟩ ⟨by decide, by decide⟩ ?_
        refine k_iastN hx dX2_fewestCuts_50 n_110 L_110 (by omega) (by decide) (fun M_50 hM_50 => ?_)
        refine k_iinc (ls' := [(0, vR g 109), (1, vR g 114), (2, vI r.length), (3, vI e), (4, vI ((s : Nat) + (-1)))]) hx dX2_fewestCuts_51 4 rfl rfl rfl (by decide) ?_
        refine k_goto hx dX2_fewestCuts_54 ?_
        refine ih e s _ M_50 he (by omega) (by omega) (by omega) (fun k h => ?_) (fun a1 b1 h1 h2 h3 => ?_) (ho.tr (by rw [hM_50]; exact off4_up (by omega)))
        · obtain ⟨⟨q1, u1, v1⟩, ⟨q2, u2, v2⟩⟩ := hk k h
          exact ⟨⟨q1, by rw [hM_50, up_i (by omega)]; exact u1, v1⟩, ⟨q2, by rw [hM_50, up_i (by omega)]; exact u2, v2⟩⟩
        · rw [hM_50]
          by_cases hb1 : b1 = e
          · subst hb1
            by_cases ha1 : a1 = s
            · subst ha1; rw [up_s]
            · rw [up_k (by omega)]; exact hs a1 b1 h1 h2 (by omega)
          · have := tri_lt h1 (show b1 < e by omega)
            rw [up_k (by omega)]; exact hs a1 b1 h1 h2 (by omega)
  refine k_aload_n hx dX2_fewestCuts_0 1 rfl ?_
  refine k_get (v := vI r.length) hx fX2_24 dX2_fewestCuts_1 n_114 L_114 (congrArg vI (show M 114 1 = r.length from hwl)) ?_
  refine k_bipush hx dX2_fewestCuts_4 (by decide +kernel) ?_
  refine k_sp (rest := []) (e := (min r.length 120)) hx sX2_30 dX2_fewestCuts_6 (c_min (a := r.length) (b := 120) (by omega)) rfl rfl rfl ⟨rfl, rfl⟩ ⟨by decide, by decide⟩ ?_
  have hmn : min (r.length : Int) 120 = r.length := by omega
  rw [hmn]
  refine k_istore_n (ls' := [(0, vR g 109), (1, vR g 114), (2, vI r.length)]) hx dX2_fewestCuts_9 rfl rfl (by decide) ?_
  refine k_aload_n hx dX2_fewestCuts_10 0 rfl ?_
  refine k_aload_n hx dX2_fewestCuts_11 1 rfl ?_
  refine k_iload_n hx dX2_fewestCuts_12 2 rfl ?_
  refine k_vv (rest := []) hx vX2_36 dX2_fewestCuts_13 (c_X2_linkPlaces hw hl) n_109 L_109 rfl rfl rfl ⟨rfl, rfl⟩ ⟨by decide, by decide⟩ (fun M_13 p_13 => ?_)
  obtain ⟨q1, q2⟩ := p_13
  have ho1 : Off4 M M_13 := fun a ha => q2 a (by omega) (by omega) (by omega)
  refine k_iconst hx dX2_fewestCuts_16 ?_
  refine k_istore_n (ls' := [(0, vR g 109), (1, vR g 114), (2, vI r.length), (3, vI 1)]) hx dX2_fewestCuts_17 rfl rfl (by decide) ?_
  refine k_iload_n hx dX2_fewestCuts_18 3 rfl ?_
  refine k_iload_n hx dX2_fewestCuts_19 2 rfl ?_
  refine k_icmp_gt hx dX2_fewestCuts_20 (by omega) (fun h_20 => ?_) (fun h_20 => ?_)
  · refine k_iload_n hx dX2_fewestCuts_63 2 rfl ?_
    refine k_aload_n hx dX2_fewestCuts_64 0 rfl ?_
    refine k_iconst hx dX2_fewestCuts_65 ?_
    refine k_iload_n hx dX2_fewestCuts_66 2 rfl ?_
    refine k_vp (rest := [vI r.length]) (e := (Mx (slc r 0 r.length) : Nat)) hx vX2_46 dX2_fewestCuts_67 (c_X2_staying (r := r) (a := 0) (b := r.length) hl (by omega) (by omega) (fun h => absurd h (by omega))) n_109 L_109 rfl rfl rfl ⟨rfl, rfl⟩ ⟨by decide, by decide⟩ ?_
    refine k_isub hx dX2_fewestCuts_70 ?_
    refine k_ri hx hr dX2_fewestCuts_71 ?_
    exact ⟨by rw [slc_all], ho1⟩
  · refine k_iload_n hx dX2_fewestCuts_23 3 rfl ?_
    refine k_iconst hx dX2_fewestCuts_24 ?_
    refine k_isub hx dX2_fewestCuts_25 ?_
    refine k_istore (ls' := [(0, vR g 109), (1, vR g 114), (2, vI r.length), (3, vI 1), (4, vI (1 - 1))]) hx dX2_fewestCuts_26 rfl rfl (by decide) ?_
    exact loop (r.length * 200 + 1000) 1 1 0 M_13 (by omega) (by omega) (by omega) (by omega) q1 (fun a1 b1 h1 h2 h3 => absurd h1 (by omega)) ho1

/-! the reference: posts pulled out -/
theorem hfp_mono {f : Nat → Bool} {S k m : Nat} (h : hfp f S k = true) (hkm : k ≤ m) : hfp f S m = true := by
  obtain ⟨p, h1, h2⟩ := (hfp_iff k).mp h
  exact (hfp_iff m).mpr ⟨p, by omega, h2⟩
theorem mask_fin : ∀ S : Fin 64, ∀ p : Fin 6, bit ((S : Nat) : Int) ((p : Nat) : Int) = 1 → zI ((S : Nat) : Int) &&& ((zI 1 <<< (zI ((p : Nat) : Int) &&& 31)) ^^^ zI (-1)) = zI (((S : Nat) - 2 ^ (p : Nat) : Nat) : Int) := by decide +kernel
theorem mask_ok {S p : Nat} (hS : S < 64) (hp : p < 6) (h : bit S p = 1) : zI (S : Int) &&& ((zI 1 <<< (zI (p : Int) &&& 31)) ^^^ zI (-1)) = zI ((S - 2 ^ p : Nat) : Int) := mask_fin ⟨S, hS⟩ ⟨p, hp⟩ h
def bsm (S : Int) : Nat → Int
  | 0 => 0
  | k + 1 => bsm S k + bit S k
theorem bsm6 (S : Int) : bsm S 6 = bcn S := by
  show 0 + bit S ((0 : Nat) : Int) + bit S ((1 : Nat) : Int) + bit S ((2 : Nat) : Int) + bit S ((3 : Nat) : Int) + bit S ((4 : Nat) : Int) + bit S ((5 : Nat) : Int) = bcn S
  unfold bcn
  simp
theorem bsm_rg (S : Int) : ∀ k, 0 ≤ bsm S k ∧ bsm S k ≤ k
  | 0 => by rw [bsm]; omega
  | k + 1 => by
    have h1 := bsm_rg S k
    have h2 := bit_rg S k
    rw [bsm]; omega
def rB (v : List Int) : Nat → Int
  | 0 => -6
  | k + 1 => if mn v k = true then (if rB v k < 0 ∨ bcn k < bcn (rB v k) then (k : Int) else rB v k) else rB v k
theorem bcn_63 : ∀ k : Fin 63, bcn ((k : Nat) : Int) < bcn 63 := by decide +kernel
theorem rB_bF (v : List Int) : ∀ k, k ≤ 64 → (cF v k = 0 ∧ rB v k = -6 ∧ bF v k = 63) ∨ (0 < cF v k ∧ rB v k = bF v k)
  | 0, _ => Or.inl ⟨rfl, rfl, rfl⟩
  | k + 1, h => by
    have ih := rB_bF v k (by omega)
    rw [cF, rB, bF]
    by_cases hm : mn v k = true
    · rw [if_pos hm, if_pos hm]
      refine Or.inr ⟨by omega, ?_⟩
      rcases ih with ⟨h1, h2, h3⟩ | ⟨h1, h2⟩
      · rw [h2, h3, if_pos (by omega)]
        by_cases hk : k = 63
        · subst hk
          split <;> rfl
        · have := bcn_63 ⟨k, by omega⟩
          rw [if_pos ⟨hm, this⟩]
      · rw [h2]
        by_cases hb : bcn (k : Int) < bcn (bF v k : Nat)
        · rw [if_pos (Or.inr hb), if_pos ⟨hm, hb⟩]
        · rw [if_neg (fun q => q.elim (fun q => by omega) hb), if_neg (fun q => hb q.2)]
    · rw [if_neg hm, if_neg hm, if_neg (fun q => hm q.1)]
      exact ih
theorem cF_pos {v : List Int} {S : Nat} (h : mn v S = true) : ∀ k, S < k → 0 < cF v k
  | 0, hk => by omega
  | k + 1, hk => by
    rw [cF]
    by_cases hs : S = k
    · subst hs; rw [if_pos h]; omega
    · have := cF_pos h k (by omega)
      split <;> omega
theorem mn_ex {v : List Int} : ∀ (f S : Nat), S < f → S < 64 → fl v S = true → ∃ S', S' < 64 ∧ mn v S' = true
  | 0, S, h, _, _ => by omega
  | f + 1, S, h, h64, hf => by
    by_cases hh : hfp (fl v) S 6 = true
    · obtain ⟨p, hp, hb, hq⟩ := (hfp_iff 6).mp hh
      have h1 := bit_sub h64 hp hb
      have h2 : 0 < 2 ^ p := Nat.pow_pos (by decide)
      exact mn_ex f (S - 2 ^ p) (by omega) (by omega) hq
    · refine ⟨S, h64, ?_⟩
      unfold mn
      rw [hf, Bool.eq_false_iff.mpr hh]; rfl
theorem bit63 {p : Int} (h : 0 ≤ p ∧ p < 6) : bit ((63 : Nat) : Int) p = 1 := by
  rcases (show p = 0 ∨ p = 1 ∨ p = 2 ∨ p = 3 ∨ p = 4 ∨ p = 5 by omega) with rfl | rfl | rfl | rfl | rfl | rfl <;> decide +kernel
theorem fl63 {v : List Int} (hv : Cr v) : fl v 63 = true := by
  unfold fl wF
  refine decide_eq_true ?_
  have : v.filter (fun c => decide (bit ((63 : Nat) : Int) (pst c) = 0)) = [] := by
    refine List.filter_eq_nil_iff.mpr (fun c hc => ?_)
    rw [bit63 (pst_rg (hv c hc))]; decide
  rw [this]; rfl
theorem rB_end {v : List Int} (hv : Cr v) : rB v 64 = bF v 64 := by
  obtain ⟨S, h1, h2⟩ := mn_ex 64 63 (by decide) (by decide) (fl63 hv)
  have := cF_pos h2 64 h1
  rcases rB_bF v 64 (Nat.le_refl _) with h | h
  · omega
  · exact h.2
theorem rB_rg (v : List Int) {k : Nat} (h : k ≤ 64) : -6 ≤ rB v k ∧ rB v k < 64 := by
  have h1 := bF_lt v k h
  rcases rB_bF v k h with h2 | h2 <;> omega
theorem Wk.len {M : Mem} {w : List Int} (h : Wk M w) : M 120 8 = w.length := h.1

theorem c_X6_fallsBy {g : GE} {l : Launch} {M : Mem} {A : Ab} (hA : Fl M 121 0 A) {r : Int} (hro : 0 ≤ r ∧ r < 4) {S : Int} (hS : 0 ≤ S ∧ S < 64) : Ci g l μX6_fallsBy [vR g 120, vI r, vI S] M (fun y M' => y = b2i (decide (wF S (rope A r) = [])) ∧ OW M M') := by
  refine Ci.of (by decide +kernel) rfl rfl (fun x hx hr => ?_)
  have hrl := (hA.1.rope hro).2
  have hrc := (hA.1.rope hro).1
  have loop : ∀ (f : Nat), ∀ (k : Nat) (z : Int) (M' : Mem), z = k → k ≤ (rope A r).length → (rope A r).length - k < f → Wk M' (red (((rope A r).take k).filter (fun c => decide (bit S (pst c) = 0)))) → OW M M' → K x g 0 0 LAY NN M' 7 [(0, vR g 120), (1, vI r), (2, vI S), (3, vI z)] [] := by
    intro f
    induction f with
    | zero => intro k z M' hz hk hf hwk ho; omega
    | succ f ih =>
      intro k z M' hz hk hf hwk ho
      have hA' := hA.w ho
      refine k_iload_n hx dX6_fallsBy_7 3 rfl ?_
      refine k_aload_n hx dX6_fallsBy_8 0 rfl ?_
      refine k_iload_n hx dX6_fallsBy_9 1 rfl ?_
      refine k_vp (rest := [vI z]) (e := ((rope A r).length)) hx vX6_65 dX6_fallsBy_10 (c_X6_many hA' hro) n_120 L_120 rfl rfl rfl ⟨rfl, rfl⟩ ⟨by decide, by decide⟩ ?_
      refine k_icmp_ge hx dX6_fallsBy_13 (by omega) (fun h_13 => ?_) (fun h_13 => ?_)
      · have hkv : (rope A r).take k = rope A r := List.take_of_length_le (by omega)
        rw [hkv] at hwk
        have hwl : (wF S (rope A r)).length ≤ (rope A r).length := Nat.le_trans (red_len_le _) (List.length_filter_le _ _)
        refine k_aload_n hx dX6_fallsBy_48 0 rfl ?_
        refine k_get (v := vI ((wF S (rope A r)).length)) hx fX6_54 dX6_fallsBy_49 n_120 L_120 (congrArg vI (show M' 120 8 = ((wF S (rope A r)).length) from hwk.1)) ?_
        refine k_ifne hx dX6_fallsBy_52 (by omega) (fun h_52 => ?_) (fun h_52 => ?_)
        · refine k_iconst hx dX6_fallsBy_59 ?_
          refine k_rz hx hr dX6_fallsBy_60 (by first | exact Or.inl rfl | exact Or.inr rfl | exact b2i_or _) ?_
          exact ⟨b2i_f (fun q => h_52 (by rw [q]; rfl)), ho⟩
        · refine k_iconst hx dX6_fallsBy_55 ?_
          refine k_goto hx dX6_fallsBy_56 ?_
          refine k_rz hx hr dX6_fallsBy_60 (by first | exact Or.inl rfl | exact Or.inr rfl | exact b2i_or _) ?_
          exact ⟨b2i_t (List.length_eq_zero_iff.mp (by omega)), ho⟩
      · have e1 : at0 (rope A r) z = at0 (rope A r) k := by rw [hz]
        have c1 := op_cr hrc (k := k) (by omega)
        rw [← e1] at c1
        have c2 := pst_rg c1
        have hpm : at0 (rope A r) z % 6 = pst (at0 (rope A r) z) := by unfold pst; omega
        have hbr := bit_rg S (pst (at0 (rope A r) z))
        have hsn := filt_snoc (f := fun c => decide (bit S (pst c) = 0)) (v := rope A r) (k := k) (by omega)
        have hln : (red (((rope A r).take k).filter (fun c => decide (bit S (pst c) = 0)))).length ≤ k := by
          have h1 := red_len_le (((rope A r).take k).filter (fun c => decide (bit S (pst c) = 0))); have h2 := List.length_filter_le (fun c => decide (bit S (pst c) = 0)) ((rope A r).take k); rw [List.length_take] at h2; omega
        refine k_aload_n hx dX6_fallsBy_16 0 rfl ?_
        refine k_iload_n hx dX6_fallsBy_17 1 rfl ?_
        refine k_iload_n hx dX6_fallsBy_18 3 rfl ?_
        refine k_vp (rest := []) (e := (at0 (rope A r) z)) hx vX6_69 dX6_fallsBy_19 (c_X6_at hA' hro (k := z) (by omega)) n_120 L_120 rfl rfl rfl ⟨rfl, rfl⟩ ⟨by decide, by decide⟩ ?_
        refine k_istore (ls' := [(0, vR g 120), (1, vI r), (2, vI S), (3, vI z), (4, vI (at0 (rope A r) z))]) hx dX6_fallsBy_22 rfl rfl (by decide) ?_
        refine k_iload_n hx dX6_fallsBy_24 2 rfl ?_
        refine k_iload hx dX6_fallsBy_25 4 rfl ?_
        refine k_bipush hx dX6_fallsBy_27 (by decide +kernel) ?_
        refine k_irem hx dX6_fallsBy_29 (by omega) ?_
        refine k_ishr (v := zI ((zI S >>> (zI (pst (at0 (rope A r) z)) &&& 31)).toInt)) hx dX6_fallsBy_30 (by rw [hpm]; exact (zI_of _).symm) ?_
        refine k_iconst hx dX6_fallsBy_31 ?_
        refine k_iand (v := zI (bit S (pst (at0 (rope A r) z)))) hx dX6_fallsBy_32 (by rw [zI_of]; exact bit_ok hS c2) ?_
        refine k_ifne hx dX6_fallsBy_33 (by omega) (fun h_33 => ?_) (fun h_33 => ?_)
        · refine k_iinc (ls' := [(0, vR g 120), (1, vI r), (2, vI S), (3, vI (z + 1)), (4, vI (at0 (rope A r) z))]) hx dX6_fallsBy_42 3 rfl rfl rfl (by decide) ?_
          refine k_goto hx dX6_fallsBy_45 ?_
          refine K.sub [0, 1, 2, 3] rfl ?_
          rw [if_neg (by rw [← e1]; simpa using h_33), List.append_nil] at hsn
          exact ih (k + 1) (z + 1) M' (by omega) (by omega) (by omega) (by rw [hsn]; exact hwk) ho
        · refine k_aload_n hx dX6_fallsBy_36 0 rfl ?_
          refine k_iload hx dX6_fallsBy_37 4 rfl ?_
          refine k_vv (rest := []) hx vX6_76 dX6_fallsBy_39 (c_X6_push hwk (by omega) (c := at0 (rope A r) z) c1) n_120 L_120 rfl rfl rfl ⟨rfl, rfl⟩ ⟨by decide, by decide⟩ (fun M_39 p_39 => ?_)
          obtain ⟨q1, q2⟩ := p_39
          rw [if_pos (by rw [← e1]; simpa using h_33)] at hsn
          have q3 : Wk M_39 (red (((rope A r).take (k + 1)).filter (fun c => decide (bit S (pst c) = 0)))) := by rw [hsn, red_app, ← e1]; exact q1
          refine k_iinc (ls' := [(0, vR g 120), (1, vI r), (2, vI S), (3, vI (z + 1)), (4, vI (at0 (rope A r) z))]) hx dX6_fallsBy_42 3 rfl rfl rfl (by decide) ?_
          refine k_goto hx dX6_fallsBy_45 ?_
          refine K.sub [0, 1, 2, 3] rfl ?_
          exact ih (k + 1) (z + 1) M_39 (by omega) (by omega) (by omega) q3 (ho.tr q2)
  refine k_aload_n hx dX6_fallsBy_0 0 rfl ?_
  refine k_iconst hx dX6_fallsBy_1 ?_
  refine k_putI (kz := 8) hx fX6_54 dX6_fallsBy_2 n_120 L_120 rfl rfl (fun M_2 hM_2 => ?_)
  refine k_iconst hx dX6_fallsBy_5 ?_
  refine k_istore_n (ls' := [(0, vR g 120), (1, vI r), (2, vI S), (3, vI 0)]) hx dX6_fallsBy_6 rfl rfl (by decide) ?_
  exact loop ((rope A r).length + 1) 0 0 M_2 rfl (by omega) (by omega) (by rw [hM_2]; exact Wk.nil) (by rw [hM_2]; exact OW.len)
theorem c_X6_falls {g : GE} {l : Launch} {M : Mem} {σ : Sg} (hI : InvM M σ) {z : Int} (hzr : -2147483648 ≤ z ∧ z < 2147483648) {S : Int} (hSr : -2147483648 ≤ S ∧ S < 2147483648) : Ci g l μX6_falls [vR g 120, vI z, vI S] M (PM M (aQ σ (if (0 ≤ z ∧ z < 4) ∧ (0 ≤ S ∧ S < 64) then b2i (decide (wF S (rope σ.1 z) = [])) else -1))) := by
  refine Ci.of (by decide +kernel) rfl rfl (fun x hx hr => ?_)
  refine k_iload_n hx dX6_falls_0 1 rfl ?_
  refine k_sp (rest := []) (e := (b2i (decide (0 ≤ z ∧ z ≤ 3)))) hx sX6_102 dX6_falls_1 (c_X6_isRope (z := z) (by omega)) rfl rfl rfl ⟨rfl, rfl⟩ ⟨by decide, by decide⟩ ?_
  refine k_beq hx dX6_falls_4 (fun h_4 => ?_) (fun h_4 => ?_)
  · refine k_iconst hx dX6_falls_17 ?_
    refine k_ri hx hr dX6_falls_18 ?_
    exact ⟨by unfold aQ; rw [if_neg (by omega)], hI, fun _ _ => rfl⟩
  · refine k_iload_n hx dX6_falls_7 2 rfl ?_
    refine k_iconst hx dX6_falls_8 ?_
    refine k_bipush hx dX6_falls_9 (by decide +kernel) ?_
    refine k_sp (rest := []) (e := (b2i (decide (0 ≤ S ∧ S ≤ 63)))) hx sX6_61 dX6_falls_11 (c_X6_in (v := S) (a := 0) (b := 63) (by omega)) rfl rfl rfl ⟨rfl, rfl⟩ ⟨by decide, by decide⟩ ?_
    refine k_bne hx dX6_falls_14 (fun h_14 => ?_) (fun h_14 => ?_)
    · have hz4 : 0 ≤ z ∧ z < 4 := by omega
      have hS6 : 0 ≤ S ∧ S < 64 := by omega
      refine k_aload_n hx dX6_falls_19 0 rfl ?_
      refine k_iload_n hx dX6_falls_20 1 rfl ?_
      refine k_iload_n hx dX6_falls_21 2 rfl ?_
      refine k_vi (rest := []) hx vX6_167 dX6_falls_22 (c_X6_fallsBy hI.1 hz4 hS6) n_120 L_120 rfl rfl rfl ⟨rfl, rfl⟩ ⟨by decide, by decide⟩ (fun z_22 M_22 p_22 => ?_)
      obtain ⟨rfl, q2⟩ := p_22
      refine k_beq hx dX6_falls_25 (fun h_25 => ?_) (fun h_25 => ?_)
      · refine k_iconst hx dX6_falls_32 ?_
        refine k_ri hx hr dX6_falls_33 ?_
        exact ⟨by unfold aQ; rw [if_pos ⟨hz4, hS6⟩]; exact (b2i_f h_25), hI.q q2.m, q2.m.lo⟩
      · refine k_iconst hx dX6_falls_28 ?_
        refine k_goto hx dX6_falls_29 ?_
        refine k_ri hx hr dX6_falls_33 ?_
        exact ⟨by unfold aQ; rw [if_pos ⟨hz4, hS6⟩]; exact (b2i_t h_25), hI.q q2.m, q2.m.lo⟩
    · refine k_iconst hx dX6_falls_17 ?_
      refine k_ri hx hr dX6_falls_18 ?_
      exact ⟨by unfold aQ; rw [if_neg (by omega)], hI, fun _ _ => rfl⟩
theorem c_X6_size {g : GE} {l : Launch} {M : Mem} {S : Int} (hS : 0 ≤ S ∧ S < 64) : Cp g l μX6_size [vI S] M (bcn S) := by
  refine Ci.of (by decide +kernel) rfl rfl (fun x hx hr => ?_)
  have loop : ∀ (f : Nat), ∀ (k : Nat) (z y : Int), z = k → k ≤ 6 → 6 - k < f → y = bsm S k → K x g 0 0 LAY NN M 4 [(0, vI S), (1, vI y), (2, vI z)] [] := by
    intro f
    induction f with
    | zero => intro k z y hz hk hf hy; omega
    | succ f ih =>
      intro k z y hz hk hf hy
      have hb := bsm_rg S k
      have hbr := bit_rg S z
      refine k_iload_n hx dX6_size_4 2 rfl ?_
      refine k_bipush hx dX6_size_5 (by decide +kernel) ?_
      refine k_icmp_ge hx dX6_size_7 (by omega) (fun h_7 => ?_) (fun h_7 => ?_)
      · refine k_iload_n hx dX6_size_24 1 rfl ?_
        refine k_ri hx hr dX6_size_25 ?_
        exact ⟨by rw [hy, show k = 6 by omega, bsm6], rfl⟩
      · refine k_iload_n hx dX6_size_10 1 rfl ?_
        refine k_iload_n hx dX6_size_11 0 rfl ?_
        refine k_iload_n hx dX6_size_12 2 rfl ?_
        refine k_ishr (v := zI ((zI S >>> (zI z &&& 31)).toInt)) hx dX6_size_13 ((zI_of _).symm) ?_
        refine k_iconst hx dX6_size_14 ?_
        refine k_iand (v := zI (bit S z)) hx dX6_size_15 (by rw [zI_of]; exact bit_ok hS (by omega)) ?_
        refine k_iadd hx dX6_size_16 ?_
        refine k_istore_n (ls' := [(0, vI S), (1, vI (y + (bit S z))), (2, vI z)]) hx dX6_size_17 rfl rfl (by decide) ?_
        refine k_iinc (ls' := [(0, vI S), (1, vI (y + (bit S z))), (2, vI (z + 1))]) hx dX6_size_18 2 rfl rfl rfl (by decide) ?_
        refine k_goto hx dX6_size_21 ?_
        exact ih (k + 1) (z + 1) _ (by omega) (by omega) (by omega) (by rw [hy, hz]; rfl)
  refine k_iconst hx dX6_size_0 ?_
  refine k_istore_n (ls' := [(0, vI S), (1, vI 0)]) hx dX6_size_1 rfl rfl (by decide) ?_
  refine k_iconst hx dX6_size_2 ?_
  refine k_istore_n (ls' := [(0, vI S), (1, vI 0), (2, vI 0)]) hx dX6_size_3 rfl rfl (by decide) ?_
  exact loop 7 0 0 0 rfl (by omega) (by omega) rfl
theorem c_X6_isFelling {g : GE} {l : Launch} {M : Mem} {A : Ab} (hA : Fl M 121 0 A) {r : Int} (hro : 0 ≤ r ∧ r < 4) {S : Nat} (hS : S < 64) : Ci g l μX6_isFelling [vR g 120, vI r, vI S] M (fun y M' => y = b2i (mn (rope A r) S) ∧ OW M M') := by
  refine Ci.of (by decide +kernel) rfl rfl (fun x hx hr => ?_)
  obtain ⟨v, hv⟩ : ∃ v, v = rope A r := ⟨_, rfl⟩
  rw [← hv] at hr
  have loop : ∀ (f : Nat), ∀ (k : Nat) (z : Int) (al : Bool) (M' : Mem), z = k → k ≤ 6 → 6 - k < f → al = (fl v S && !hfp (fl v) S k) → OW M M' → K x g 0 0 LAY NN M' 10 [(0, vR g 120), (1, vI r), (2, vI S), (3, vI (b2i al)), (4, vI z)] [] := by
    intro f
    induction f with
    | zero => intro k z al M' hz hk hf hal ho; omega
    | succ f ih =>
      intro k z al M' hz hk hf hal ho
      have hA' := hA.w ho
      have hbr := bit_rg S z
      refine k_iload hx dX6_isFelling_10 4 rfl ?_
      refine k_bipush hx dX6_isFelling_12 (by decide +kernel) ?_
      refine k_icmp_ge hx dX6_isFelling_14 (by omega) (fun h_14 => ?_) (fun h_14 => ?_)
      · have hk6 : k = 6 := by omega
        have hfin : b2i al = b2i (mn v S) := by rw [hal, hk6]; rfl
        refine k_iload_n hx dX6_isFelling_58 3 rfl ?_
        refine k_rz hx hr dX6_isFelling_59 (by cases al; exact Or.inl rfl; exact Or.inr rfl) ?_
        exact ⟨hfin, ho⟩
      · refine k_iload_n hx dX6_isFelling_17 3 rfl ?_
        refine k_ceq hx dX6_isFelling_18 (fun h_18 => ?_) (fun h_18 => ?_)
        · have hfin : b2i al = b2i (mn v S) := by
            congr 1
            rw [h_18]
            symm
            unfold mn
            rw [h_18] at hal
            cases hfv : fl v S with
            | false => rfl
            | true =>
              rw [hfv] at hal
              cases hh : hfp (fl v) S k with
              | false => rw [hh] at hal; cases hal
              | true => rw [hfp_mono hh (show k ≤ 6 by omega)]; rfl
          refine k_iload_n hx dX6_isFelling_58 3 rfl ?_
          refine k_rz hx hr dX6_isFelling_59 (by cases al; exact Or.inl rfl; exact Or.inr rfl) ?_
          exact ⟨hfin, ho⟩
        · rw [h_18] at hal
          have hfv : fl v S = true := by
            cases h : fl v S with
            | false => rw [h] at hal; cases hal
            | true => rfl
          have hhk : hfp (fl v) S k = false := by
            cases h : hfp (fl v) S k with
            | false => rfl
            | true => rw [h, hfv] at hal; cases hal
          have hhs : hfp (fl v) S (k + 1) = (decide (bit S k = 1) && fl v (S - 2 ^ k)) := by rw [hfp, hhk]; rfl
          refine k_iload_n hx dX6_isFelling_21 2 rfl ?_
          refine k_iload hx dX6_isFelling_22 4 rfl ?_
          refine k_ishr (v := zI ((zI S >>> (zI z &&& 31)).toInt)) hx dX6_isFelling_24 ((zI_of _).symm) ?_
          refine k_iconst hx dX6_isFelling_25 ?_
          refine k_iand (v := zI (bit S z)) hx dX6_isFelling_26 (by rw [zI_of]; exact bit_ok (by omega) (by omega)) ?_
          refine k_ifeq hx dX6_isFelling_27 (by omega) (fun h_27 => ?_) (fun h_27 => ?_)
          · refine k_iconst hx dX6_isFelling_46 ?_
            refine k_goto hx dX6_isFelling_47 ?_
            refine k_istore_n (ls' := [(0, vR g 120), (1, vI r), (2, vI S), (3, vI 1), (4, vI z)]) hx dX6_isFelling_51 rfl rfl (by decide) ?_
            refine k_iinc (ls' := [(0, vR g 120), (1, vI r), (2, vI S), (3, vI 1), (4, vI (z + 1))]) hx dX6_isFelling_52 4 rfl rfl rfl (by decide) ?_
            refine k_goto hx dX6_isFelling_55 ?_
            refine ih (k + 1) (z + 1) true M' (by omega) (by omega) (by omega) ?_ ho
            rw [hfv, hhs]
            rw [decide_eq_false (show ¬ bit S k = 1 by rw [← hz]; omega)]; rfl
          · have hbk : bit S k = 1 := by rw [← hz]; omega
            refine k_aload_n hx dX6_isFelling_30 0 rfl ?_
            refine k_iload_n hx dX6_isFelling_31 1 rfl ?_
            refine k_iload_n hx dX6_isFelling_32 2 rfl ?_
            refine k_iconst hx dX6_isFelling_33 ?_
            refine k_iload hx dX6_isFelling_34 4 rfl ?_
            refine k_ishl (v := zI ((zI 1 <<< (zI k &&& 31)).toInt)) hx dX6_isFelling_36 (by rw [hz]; exact (zI_of _).symm) ?_
            refine k_iconst hx dX6_isFelling_37 ?_
            refine k_ixor (v := zI (((zI 1 <<< (zI k &&& 31)) ^^^ zI (-1)).toInt)) hx dX6_isFelling_38 (by rw [zI_of, zI_of]) ?_
            refine k_iand (v := zI (S - 2 ^ k : Nat)) hx dX6_isFelling_39 (by rw [zI_of]; exact mask_ok hS (by omega) hbk) ?_
            refine k_vi (rest := []) hx vX6_167 dX6_isFelling_40 (c_X6_fallsBy hA' hro (S := ((S - 2 ^ k : Nat) : Int)) ⟨Int.natCast_nonneg _, Int.ofNat_lt.mpr (Nat.lt_of_le_of_lt (Nat.sub_le _ _) hS)⟩) n_120 L_120 rfl rfl rfl ⟨rfl, rfl⟩ ⟨by decide, by decide⟩ (fun z_40 M_40 p_40 => ?_)
            obtain ⟨hz40, ho40⟩ := p_40
            rw [← hv] at hz40
            subst hz40
            show K x g 0 0 LAY NN M_40 43 _ [vI (b2i (fl v (S - 2 ^ k)))]
            refine k_cne hx dX6_isFelling_43 (fun h_43 => ?_) (fun h_43 => ?_)
            · refine k_iconst hx dX6_isFelling_50 ?_
              refine k_istore_n (ls' := [(0, vR g 120), (1, vI r), (2, vI S), (3, vI 0), (4, vI z)]) hx dX6_isFelling_51 rfl rfl (by decide) ?_
              refine k_iinc (ls' := [(0, vR g 120), (1, vI r), (2, vI S), (3, vI 0), (4, vI (z + 1))]) hx dX6_isFelling_52 4 rfl rfl rfl (by decide) ?_
              refine k_goto hx dX6_isFelling_55 ?_
              refine ih (k + 1) (z + 1) false M_40 (by omega) (by omega) (by omega) ?_ (ho.tr ho40)
              rw [hfv, hhs, hbk, h_43]; rfl
            · refine k_iconst hx dX6_isFelling_46 ?_
              refine k_goto hx dX6_isFelling_47 ?_
              refine k_istore_n (ls' := [(0, vR g 120), (1, vI r), (2, vI S), (3, vI 1), (4, vI z)]) hx dX6_isFelling_51 rfl rfl (by decide) ?_
              refine k_iinc (ls' := [(0, vR g 120), (1, vI r), (2, vI S), (3, vI 1), (4, vI (z + 1))]) hx dX6_isFelling_52 4 rfl rfl rfl (by decide) ?_
              refine k_goto hx dX6_isFelling_55 ?_
              refine ih (k + 1) (z + 1) true M_40 (by omega) (by omega) (by omega) ?_ (ho.tr ho40)
              rw [hfv, hhs]
              rw [h_43, Bool.and_false]; rfl
  refine k_aload_n hx dX6_isFelling_0 0 rfl ?_
  refine k_iload_n hx dX6_isFelling_1 1 rfl ?_
  refine k_iload_n hx dX6_isFelling_2 2 rfl ?_
  refine k_vi (rest := []) hx vX6_167 dX6_isFelling_3 (c_X6_fallsBy hA hro (S := (S : Int)) (by omega)) n_120 L_120 rfl rfl rfl ⟨rfl, rfl⟩ ⟨by decide, by decide⟩ (fun z_3 M_3 p_3 => ?_)
  obtain ⟨hz3, ho3⟩ := p_3
  rw [← hv] at hz3
  subst hz3
  show K x g 0 0 LAY NN M_3 6 _ [vI (b2i (fl v S))]
  refine k_istore_n (ls' := [(0, vR g 120), (1, vI r), (2, vI S), (3, vI (b2i (fl v S)))]) hx dX6_isFelling_6 rfl rfl (by decide) ?_
  refine k_iconst hx dX6_isFelling_7 ?_
  refine k_istore (ls' := [(0, vR g 120), (1, vI r), (2, vI S), (3, vI (b2i (fl v S))), (4, vI 0)]) hx dX6_isFelling_8 rfl rfl (by decide) ?_
  exact loop 7 0 0 (fl v S) M_3 rfl (by omega) (by omega) (by rw [hfp]; simp) ho3
theorem c_X6_felling {g : GE} {l : Launch} {M : Mem} {σ : Sg} (hI : InvM M σ) {z : Int} (hzr : -2147483648 ≤ z ∧ z < 2147483648) {w : Int} (hwr : -2147483648 ≤ w ∧ w < 2147483648) : Ci g l μX6_felling [vR g 120, vI z, vI w] M (PM M (aQ σ (fellA σ.1 z w))) := by
  refine Ci.of (by decide +kernel) rfl rfl (fun x hx hr => ?_)
  refine k_iload_n hx dX6_felling_0 1 rfl ?_
  refine k_sp (rest := []) (e := (b2i (decide (0 ≤ z ∧ z ≤ 3)))) hx sX6_102 dX6_felling_1 (c_X6_isRope (z := z) (by omega)) rfl rfl rfl ⟨rfl, rfl⟩ ⟨by decide, by decide⟩ ?_
  refine k_bne hx dX6_felling_4 (fun h_4 => ?_) (fun h_4 => ?_)
  · refine k_iload_n hx dX6_felling_9 2 rfl ?_
    refine k_iconst hx dX6_felling_10 ?_
    refine k_iconst hx dX6_felling_11 ?_
    refine k_sp (rest := []) (e := (b2i (decide (0 ≤ w ∧ w ≤ 1)))) hx sX6_61 dX6_felling_12 (c_X6_in (v := w) (a := 0) (b := 1) (by omega)) rfl rfl rfl ⟨rfl, rfl⟩ ⟨by decide, by decide⟩ ?_
    refine k_bne hx dX6_felling_15 (fun h_15 => ?_) (fun h_15 => ?_)
    · have hz4 : 0 ≤ z ∧ z < 4 := by omega
      have hw2 : 0 ≤ w ∧ w < 2 := by omega
      obtain ⟨v, hv⟩ : ∃ v, v = rope σ.1 z := ⟨_, rfl⟩
      have hvc : Cr v := by rw [hv]; exact (hI.1.1.rope hz4).1
      refine k_iconst hx dX6_felling_21 ?_
      refine k_istore_n (ls' := [(0, vR g 120), (1, vI z), (2, vI w), (3, vI 0)]) hx dX6_felling_22 rfl rfl (by decide) ?_
      refine k_bipush hx dX6_felling_23 (by decide +kernel) ?_
      refine k_istore (ls' := [(0, vR g 120), (1, vI z), (2, vI w), (3, vI 0), (4, vI (-6))]) hx dX6_felling_25 rfl rfl (by decide) ?_
      refine k_iconst hx dX6_felling_27 ?_
      refine k_istore (ls' := [(0, vR g 120), (1, vI z), (2, vI w), (3, vI 0), (4, vI (-6)), (5, vI 0)]) hx dX6_felling_28 rfl rfl (by decide) ?_
      have loop : ∀ (f : Nat) (k : Nat) (u y b : Int) (M' : Mem), u = k → k ≤ 64 → 64 - k < f → y = cF v k → b = rB v k → OW M M' → K x g 0 0 LAY NN M' 30 [(0, vR g 120), (1, vI z), (2, vI w), (3, vI y), (4, vI b), (5, vI u)] [] := by
        intro f
        induction f with
        | zero => intro k u y b M' hu hk hf hy hb ho; omega
        | succ f ih =>
          intro k u y b M' hu hk hf hy hb ho
          subst hu
          have hJ := hI.q ho.m
          have hcl := cF_le v k
          have hbg := rB_rg v hk
          have hcs : cF v (k + 1) = if mn v k = true then cF v k + 1 else cF v k := rfl
          have hbs : rB v (k + 1) = if mn v k = true then (if rB v k < 0 ∨ bcn k < bcn (rB v k) then (k : Int) else rB v k) else rB v k := rfl
          refine k_iload hx dX6_felling_30 5 rfl ?_
          refine k_bipush hx dX6_felling_32 (by decide +kernel) ?_
          refine k_icmp_ge hx dX6_felling_34 (by omega) (fun h_34 => ?_) (fun h_34 => ?_)
          · have hk64 : k = 64 := by omega
            subst hk64
            rw [rB_end hvc] at hb
            refine k_iload_n hx dX6_felling_83 2 rfl ?_
            refine k_ifne hx dX6_felling_84 (by omega) (fun h_84 => ?_) (fun h_84 => ?_)
            · refine k_iload hx dX6_felling_91 4 rfl ?_
              refine k_ri hx hr dX6_felling_93 ?_
              exact ⟨by unfold aQ fellA; rw [if_pos hz4, if_neg (by omega), if_neg h_84, ← hv]; exact hb, hJ, ho.m.lo⟩
            · refine k_iload_n hx dX6_felling_87 3 rfl ?_
              refine k_goto hx dX6_felling_88 ?_
              refine k_ri hx hr dX6_felling_93 ?_
              exact ⟨by unfold aQ fellA; rw [if_pos hz4, if_neg (by omega), if_pos h_84, ← hv]; exact hy, hJ, ho.m.lo⟩
          · refine k_aload_n hx dX6_felling_37 0 rfl ?_
            refine k_iload_n hx dX6_felling_38 1 rfl ?_
            refine k_iload hx dX6_felling_39 5 rfl ?_
            refine k_vi (rest := []) hx vX6_170 dX6_felling_41 (c_X6_isFelling hJ.1 hz4 (S := k) (by omega)) n_120 L_120 rfl rfl rfl ⟨rfl, rfl⟩ ⟨by decide, by decide⟩ (fun z_41 M_41 p_41 => ?_)
            obtain ⟨hz41, ho41⟩ := p_41
            rw [← hv] at hz41
            subst hz41
            refine k_ceq hx dX6_felling_44 (fun h_44 => ?_) (fun h_44 => ?_)
            · rw [h_44] at hcs hbs
              rw [if_neg (by decide)] at hcs hbs
              refine k_iinc (ls' := [(0, vR g 120), (1, vI z), (2, vI w), (3, vI y), (4, vI b), (5, vI (k + 1))]) hx dX6_felling_77 5 rfl rfl rfl (by decide) ?_
              refine k_goto hx dX6_felling_80 ?_
              exact ih (k + 1) _ _ _ M_41 (by omega) (by omega) (by omega) (by rw [hcs]; exact hy) (by rw [hbs]; exact hb) (ho.tr ho41)
            · rw [h_44] at hcs hbs
              rw [if_pos rfl] at hcs hbs
              refine k_iinc (ls' := [(0, vR g 120), (1, vI z), (2, vI w), (3, vI (y + 1)), (4, vI b), (5, vI k)]) hx dX6_felling_47 3 rfl rfl rfl (by decide) ?_
              refine k_iload hx dX6_felling_50 4 rfl ?_
              refine k_iflt hx dX6_felling_52 (by omega) (fun h_52 => ?_) (fun h_52 => ?_)
              · refine k_iload hx dX6_felling_68 5 rfl ?_
                refine k_goto hx dX6_felling_70 ?_
                refine k_istore (ls' := [(0, vR g 120), (1, vI z), (2, vI w), (3, vI (y + 1)), (4, vI k), (5, vI k)]) hx dX6_felling_75 rfl rfl (by decide) ?_
                refine k_iinc (ls' := [(0, vR g 120), (1, vI z), (2, vI w), (3, vI (y + 1)), (4, vI k), (5, vI (k + 1))]) hx dX6_felling_77 5 rfl rfl rfl (by decide) ?_
                refine k_goto hx dX6_felling_80 ?_
                rw [if_pos (by rw [← hb]; first | exact Or.inl h_52 | exact Or.inr (by omega))] at hbs
                exact ih (k + 1) _ _ _ M_41 (by omega) (by omega) (by omega) (by rw [hcs]; omega) hbs.symm (ho.tr ho41)
              · have hb1 := bcn_rg (k : Nat)
                have hb2 := bcn_rg b
                refine k_iload hx dX6_felling_55 5 rfl ?_
                refine k_sp (rest := []) (e := (bcn (k : Nat))) hx sX6_173 dX6_felling_57 (c_X6_size (S := (k : Int)) (by omega)) rfl rfl rfl ⟨rfl, rfl⟩ ⟨by decide, by decide⟩ ?_
                refine k_iload hx dX6_felling_60 4 rfl ?_
                refine k_sp (rest := [vI (bcn (k : Nat))]) (e := (bcn b)) hx sX6_173 dX6_felling_62 (c_X6_size (S := b) (by omega)) rfl rfl rfl ⟨rfl, rfl⟩ ⟨by decide, by decide⟩ ?_
                refine k_icmp_ge hx dX6_felling_65 (by omega) (fun h_65 => ?_) (fun h_65 => ?_)
                · refine k_iload hx dX6_felling_73 4 rfl ?_
                  refine k_istore (ls' := [(0, vR g 120), (1, vI z), (2, vI w), (3, vI (y + 1)), (4, vI b), (5, vI k)]) hx dX6_felling_75 rfl rfl (by decide) ?_
                  refine k_iinc (ls' := [(0, vR g 120), (1, vI z), (2, vI w), (3, vI (y + 1)), (4, vI b), (5, vI (k + 1))]) hx dX6_felling_77 5 rfl rfl rfl (by decide) ?_
                  refine k_goto hx dX6_felling_80 ?_
                  rw [if_neg (by rw [← hb]; omega)] at hbs
                  exact ih (k + 1) _ _ _ M_41 (by omega) (by omega) (by omega) (by rw [hcs]; omega) (by rw [hbs]; exact hb) (ho.tr ho41)
                · refine k_iload hx dX6_felling_68 5 rfl ?_
                  refine k_goto hx dX6_felling_70 ?_
                  refine k_istore (ls' := [(0, vR g 120), (1, vI z), (2, vI w), (3, vI (y + 1)), (4, vI k), (5, vI k)]) hx dX6_felling_75 rfl rfl (by decide) ?_
                  refine k_iinc (ls' := [(0, vR g 120), (1, vI z), (2, vI w), (3, vI (y + 1)), (4, vI k), (5, vI (k + 1))]) hx dX6_felling_77 5 rfl rfl rfl (by decide) ?_
                  refine k_goto hx dX6_felling_80 ?_
                  rw [if_pos (by rw [← hb]; first | exact Or.inl h_52 | exact Or.inr (by omega))] at hbs
                  exact ih (k + 1) _ _ _ M_41 (by omega) (by omega) (by omega) (by rw [hcs]; omega) hbs.symm (ho.tr ho41)
      exact loop 65 0 0 0 (-6) M rfl (by omega) (by omega) rfl rfl OW.rf
    · refine k_bipush hx dX6_felling_18 (by decide +kernel) ?_
      refine k_ri hx hr dX6_felling_20 ?_
      exact ⟨by unfold aQ fellA; rw [if_pos (by omega), if_pos (by omega)], hI, fun _ _ => rfl⟩
  · refine k_iconst hx dX6_felling_7 ?_
    refine k_ri hx hr dX6_felling_8 ?_
    exact ⟨by unfold aQ fellA; rw [if_neg (by omega)], hI, fun _ _ => rfl⟩

/-! sets of posts: their sizes, and by which a rope falls -/
section LDC
variable {x : Fx} {g : GE} {cc : ByteArray} {own : String} {nL : Nat} {R : Room} {cs sl : Nat} {L : Lay} {n : Nat} {M : Mem} {pc pc' : Nat} {ls : List (Nat × Value)} {st : List Value}
theorem k_ldcw (hx : Cx x g cc own nL R) {index : Nat} {v : Int} (hd : At cc pc (.ldc_w index) 3 pc') (hc : Cond.constant own index (zI v) ∈ TB) (kk : K x g cs sl L n M pc' ls (vI v :: st)) : K x g cs sl L n M pc ls st := by
  intro H locs la hR hS hl
  obtain ⟨hex, hcc, hnl, how, hts, hK, -⟩ := hx
  obtain ⟨hd1, hd2⟩ := hd
  subst hd2
  exact lv_ldcw hex hcc how (hts _ hc) hd1 (kk H locs la hR hS hl)
theorem k_lcmpI (hx : Cx x g cc own nL R) {a b : Int64} {v : Int} (hd : At cc pc .lcmp 1 pc') (hv : lg_cmp a b = zI v) (k : K x g cs sl L n M pc' ls (vI v :: st)) : K x g cs sl L n M pc ls (.long b :: .long a :: st) := k_lcmp hx hd (by rw [hv]; exact k)
end LDC
theorem q265 : Cond.constant RJ6 265 (zI 1431655765) ∈ TB := tb_of 491 (by decide +kernel) (by decide +kernel)
theorem q266 : Cond.constant RJ6 266 (zI 858993459) ∈ TB := tb_of 492 (by decide +kernel) (by decide +kernel)
theorem q267 : Cond.constant RJ6 267 (zI 252645135) ∈ TB := tb_of 493 (by decide +kernel) (by decide +kernel)
def ush (a k : Int) : Int32 := ((zI a).toUInt32 >>> ((zI k).toUInt32 &&& Int32.toUInt32 31)).toInt32
def bc1 (a : Int) : Int := a - (ush a 1 &&& zI 1431655765).toInt
def bc2 (a : Int) : Int := (zI a &&& zI 858993459).toInt + (ush a 2 &&& zI 858993459).toInt
def bc3 (a : Int) : Int := (zI (a + (ush a 4).toInt) &&& zI 252645135).toInt
def bc4 (a : Int) : Int := a + (ush a 8).toInt
def bc5 (a : Int) : Int := a + (ush a 16).toInt
def bc6 (a : Int) : Int := (zI a &&& zI 63).toInt
/-- how many posts a set has -/
def bcn (S : Int) : Int := bit S 0 + bit S 1 + bit S 2 + bit S 3 + bit S 4 + bit S 5
theorem bcn_fin : ∀ S : Fin 64, bc6 (bc5 (bc4 (bc3 (bc2 (bc1 ((S : Nat) : Int)))))) = bcn ((S : Nat) : Int) := by decide +kernel
theorem bcn_ok {S : Int} (h : 0 ≤ S ∧ S < 64) : bc6 (bc5 (bc4 (bc3 (bc2 (bc1 S))))) = bcn S := by
  have := bcn_fin ⟨S.toNat, by omega⟩
  simpa [Int.max_eq_left h.1] using this
theorem bcn_rg (S : Int) : 0 ≤ bcn S ∧ bcn S ≤ 6 := by
  have h0 := bit_rg S 0; have h1 := bit_rg S 1; have h2 := bit_rg S 2; have h3 := bit_rg S 3; have h4 := bit_rg S 4; have h5 := bit_rg S 5
  unfold bcn; omega

theorem c_bitCount {g : GE} {l : Launch} {M : Mem} {S : Int} (hS : 0 ≤ S ∧ S < 64) : Cp g l μJ6_bitCount_0f7a4 [vI S] M (bcn S) := by
  refine Ci.ofJ (by decide +kernel) rfl rfl (fun x hx hr => ?_)
  refine k_iload_n hx dJ6_bitCount_0f7a4_0 0 rfl ?_
  refine k_iload_n hx dJ6_bitCount_0f7a4_1 0 rfl ?_
  refine k_iconst hx dJ6_bitCount_0f7a4_2 ?_
  refine k_iushr (v := zI ((ush S 1).toInt)) hx dJ6_bitCount_0f7a4_3 ((zI_of _).symm) ?_
  refine k_ldcw (v := 1431655765) hx dJ6_bitCount_0f7a4_4 q265 ?_
  refine k_iand (v := zI ((ush S 1 &&& zI 1431655765).toInt)) hx dJ6_bitCount_0f7a4_7 (by rw [zI_of, zI_of]) ?_
  refine k_isub hx dJ6_bitCount_0f7a4_8 ?_
  refine k_istore_n (ls' := [(0, vI (bc1 S))]) hx dJ6_bitCount_0f7a4_9 rfl rfl (by decide) ?_
  refine k_iload_n hx dJ6_bitCount_0f7a4_10 0 rfl ?_
  refine k_ldcw (v := 858993459) hx dJ6_bitCount_0f7a4_11 q266 ?_
  refine k_iand (v := zI ((zI (bc1 S) &&& zI 858993459).toInt)) hx dJ6_bitCount_0f7a4_14 ((zI_of _).symm) ?_
  refine k_iload_n hx dJ6_bitCount_0f7a4_15 0 rfl ?_
  refine k_iconst hx dJ6_bitCount_0f7a4_16 ?_
  refine k_iushr (v := zI ((ush (bc1 S) 2).toInt)) hx dJ6_bitCount_0f7a4_17 ((zI_of _).symm) ?_
  refine k_ldcw (v := 858993459) hx dJ6_bitCount_0f7a4_18 q266 ?_
  refine k_iand (v := zI ((ush (bc1 S) 2 &&& zI 858993459).toInt)) hx dJ6_bitCount_0f7a4_21 (by rw [zI_of, zI_of]) ?_
  refine k_iadd hx dJ6_bitCount_0f7a4_22 ?_
  refine k_istore_n (ls' := [(0, vI (bc2 (bc1 S)))]) hx dJ6_bitCount_0f7a4_23 rfl rfl (by decide) ?_
  refine k_iload_n hx dJ6_bitCount_0f7a4_24 0 rfl ?_
  refine k_iload_n hx dJ6_bitCount_0f7a4_25 0 rfl ?_
  refine k_iconst hx dJ6_bitCount_0f7a4_26 ?_
  refine k_iushr (v := zI ((ush (bc2 (bc1 S)) 4).toInt)) hx dJ6_bitCount_0f7a4_27 ((zI_of _).symm) ?_
  refine k_iadd hx dJ6_bitCount_0f7a4_28 ?_
  refine k_ldcw (v := 252645135) hx dJ6_bitCount_0f7a4_29 q267 ?_
  refine k_iand (v := zI (bc3 (bc2 (bc1 S)))) hx dJ6_bitCount_0f7a4_32 ((zI_of _).symm) ?_
  refine k_istore_n (ls' := [(0, vI (bc3 (bc2 (bc1 S))))]) hx dJ6_bitCount_0f7a4_33 rfl rfl (by decide) ?_
  refine k_iload_n hx dJ6_bitCount_0f7a4_34 0 rfl ?_
  refine k_iload_n hx dJ6_bitCount_0f7a4_35 0 rfl ?_
  refine k_bipush hx dJ6_bitCount_0f7a4_36 (by decide +kernel) ?_
  refine k_iushr (v := zI ((ush (bc3 (bc2 (bc1 S))) 8).toInt)) hx dJ6_bitCount_0f7a4_38 ((zI_of _).symm) ?_
  refine k_iadd hx dJ6_bitCount_0f7a4_39 ?_
  refine k_istore_n (ls' := [(0, vI (bc4 (bc3 (bc2 (bc1 S)))))]) hx dJ6_bitCount_0f7a4_40 rfl rfl (by decide) ?_
  refine k_iload_n hx dJ6_bitCount_0f7a4_41 0 rfl ?_
  refine k_iload_n hx dJ6_bitCount_0f7a4_42 0 rfl ?_
  refine k_bipush hx dJ6_bitCount_0f7a4_43 (by decide +kernel) ?_
  refine k_iushr (v := zI ((ush (bc4 (bc3 (bc2 (bc1 S)))) 16).toInt)) hx dJ6_bitCount_0f7a4_45 ((zI_of _).symm) ?_
  refine k_iadd hx dJ6_bitCount_0f7a4_46 ?_
  refine k_istore_n (ls' := [(0, vI (bc5 (bc4 (bc3 (bc2 (bc1 S))))))]) hx dJ6_bitCount_0f7a4_47 rfl rfl (by decide) ?_
  refine k_iload_n hx dJ6_bitCount_0f7a4_48 0 rfl ?_
  refine k_bipush hx dJ6_bitCount_0f7a4_49 (by decide +kernel) ?_
  refine k_iand (v := zI (bc6 (bc5 (bc4 (bc3 (bc2 (bc1 S))))))) hx dJ6_bitCount_0f7a4_51 ((zI_of _).symm) ?_
  refine k_ri hx hr dJ6_bitCount_0f7a4_52 ?_
  exact ⟨bcn_ok hS, rfl⟩
/-- bits of a long -/
def lb (F : Int64) (q : Nat) : Bool := F.toBitVec.getLsbD q
theorem sh_fin : ∀ q : Fin 64, (((zI ((q : Nat) : Int)).toInt64 &&& 63).toBitVec.smod 64).toNat = (q : Nat) := by decide +kernel
theorem sh_ok {q : Nat} (h : q < 64) : (((zI (q : Int)).toInt64 &&& 63).toBitVec.smod 64).toNat = q := sh_fin ⟨q, h⟩
theorem lb_shr {F : Int64} {q : Nat} (h : q < 64) : (F >>> ((zI (q : Int)).toInt64 &&& 63)) &&& 1 = if lb F q = true then 1 else 0 := by
  apply Int64.toBitVec.inj
  apply BitVec.eq_of_getLsbD_eq
  intro i hi
  have e1 : (F >>> ((zI (q : Int)).toInt64 &&& 63)).toBitVec = F.toBitVec.sshiftRight q := by
    show BitVec.sshiftRight' F.toBitVec (((zI (q : Int)).toInt64 &&& 63).toBitVec.smod 64) = _
    unfold BitVec.sshiftRight'
    rw [sh_ok h]
  rw [Int64.toBitVec_and, BitVec.getLsbD_and, e1, BitVec.getLsbD_sshiftRight]
  have h1 : (1 : Int64).toBitVec = 1#64 := rfl
  rw [h1]
  by_cases hi0 : i = 0
  · subst hi0
    have : F.toBitVec.getLsbD q = lb F q := rfl
    by_cases hb : lb F q = true
    · rw [if_pos hb]; simp [h, this, hb]
    · rw [if_neg hb]
      have hb2 : F.toBitVec.getLsbD q = false := by rw [this]; simpa using hb
      simp [h]; simpa [BitVec.getLsbD_eq_getElem h] using hb2
  · have h2 : (1#64).getLsbD i = false := by simp [BitVec.getLsbD_one, hi0]
    rw [h2, Bool.and_false]
    split
    · rw [h1, h2]
    · simp
theorem lb_or {F : Int64} {s q : Nat} (hs : s < 64) (hq : q < 64) : lb (F ||| (1 <<< ((zI (s : Int)).toInt64 &&& 63))) q = (lb F q || decide (q = s)) := by
  unfold lb
  have e1 : ((1 : Int64) <<< ((zI (s : Int)).toInt64 &&& 63)).toBitVec = (1#64) <<< s := by
    show (1#64) <<< (((zI (s : Int)).toInt64 &&& 63).toBitVec.smod 64) = _
    rw [BitVec.shiftLeft_eq', sh_ok hs]
  rw [Int64.toBitVec_or, BitVec.getLsbD_or, e1, BitVec.getLsbD_shiftLeft]
  by_cases h : q = s
  · subst h; simp [hq]
  · by_cases h2 : q < s
    · simp [h, h2]
    · have : q - s ≠ 0 := by omega
      simp [h, h2, BitVec.getLsbD_one, this]
theorem lb_0 (q : Nat) : lb 0 q = false := by unfold lb; have : (0 : Int64).toBitVec = 0#64 := rfl
                                              rw [this]; simp
theorem shl_fin : ∀ p : Fin 6, zI 1 <<< (zI ((p : Nat) : Int) &&& 31) = zI (2 ^ (p : Nat)) := by decide +kernel
theorem lgc (b : Bool) : lg_cmp (if b = true then 1 else 0) 1 = zI (if b = true then 0 else -1) := by cases b <;> decide +kernel
theorem bit_sub_fin : ∀ S : Fin 64, ∀ p : Fin 6, bit ((S : Nat) : Int) ((p : Nat) : Int) = 1 → 2 ^ (p : Nat) ≤ (S : Nat) ∧ ∀ q : Fin 6, bit (((S : Nat) - 2 ^ (p : Nat) : Nat) : Int) ((q : Nat) : Int) = if p = q then 0 else bit ((S : Nat) : Int) ((q : Nat) : Int) := by decide +kernel
theorem bit_sub {S p : Nat} (hS : S < 64) (hp : p < 6) (h : bit S p = 1) : 2 ^ p ≤ S := (bit_sub_fin ⟨S, hS⟩ ⟨p, hp⟩ h).1
theorem bit_sub0 {S p q : Nat} (hS : S < 64) (hp : p < 6) (hq : q < 6) (h : bit S p = 1) (h2 : bit S q = 0) : bit ((S - 2 ^ p : Nat) : Int) q = 0 := by
  have := (bit_sub_fin ⟨S, hS⟩ ⟨p, hp⟩ h).2 ⟨q, hq⟩
  simp only at this
  rw [this]
  split
  · rfl
  · exact h2
theorem bit_ok2 {S p : Int} (hS : 0 ≤ S ∧ S < 64) (hp : 0 ≤ p ∧ p < 6) : zI ((zI S >>> (zI p &&& 31)).toInt) &&& zI 1 = zI (bit S p) := by rw [zI_of]; exact bit_ok hS hp
/-- a part with one post less for which f holds -/
def hfp (f : Nat → Bool) (S : Nat) : Nat → Bool
  | 0 => false
  | k + 1 => hfp f S k || (decide (bit S k = 1) && f (S - 2 ^ k))

theorem c_X5_holdsFallingPart {g : GE} {l : Launch} {M : Mem} {F : Int64} {S : Nat} {f : Nat → Bool} (hS : S < 64) (hF : ∀ q, q < S → lb F q = f q) : Cp g l μX5_holdsFallingPart [.long F, vI S] M (b2i (hfp f S 6)) := by
  refine Ci.of (by decide +kernel) rfl rfl (fun x hx hr => ?_)
  have loop : ∀ (e : Nat), ∀ (k : Nat) (z : Int), z = k → k ≤ 6 → 6 - k < e → hfp f S k = false → K x g 0 0 LAY NN M 2 [(0, .long F), (2, vI S), (3, vI z)] [] := by
    intro e
    induction e with
    | zero => intro k z hz hk hf hh; omega
    | succ e ih =>
      intro k z hz hk hf hh
      have join : ∀ y : Int, k < 6 → (y = if bit S k = 1 then 1 else 0) → K x g 0 0 LAY NN M 22 [(0, .long F), (2, vI S), (3, vI z)] [vI y] := by
        intro y hk6 hy
        have hhs : hfp f S (k + 1) = (decide (bit S k = 1) && f (S - 2 ^ k)) := by rw [hfp, hh]; simp
        refine k_istore (ls' := [(0, .long F), (2, vI S), (3, vI z), (4, vI y)]) hx dX5_holdsFallingPart_22 rfl rfl (by decide) ?_
        refine k_iload hx dX5_holdsFallingPart_24 3 rfl ?_
        refine k_ifeq hx dX5_holdsFallingPart_26 (by rw [hy]; split <;> omega) (fun h_26 => ?_) (fun h_26 => ?_)
        · refine k_iinc (ls' := [(0, .long F), (2, vI S), (3, vI (z + 1)), (4, vI y)]) hx dX5_holdsFallingPart_45 2 rfl rfl rfl (by decide) ?_
          refine k_goto hx dX5_holdsFallingPart_48 ?_
          refine K.sub [0, 1, 2] rfl ?_
          refine ih (k + 1) (z + 1) (by omega) (by omega) (by omega) ?_
          rw [hhs]
          first
          | (have hft : f (S - 2 ^ k) = false := by
               rw [← hF _ (by omega)]
               cases h : lb F (S - 2 ^ k) with
               | false => rfl
               | true => rw [h] at h_40; exact absurd rfl h_40
             simp [hft])
          | (have : ¬ bit S k = 1 := fun h => by rw [hy, if_pos h] at h_26; omega
             simp [this])
        · have hb1 : bit S k = 1 := by
            by_cases h : bit S k = 1
            · exact h
            · exact absurd (by rw [hy, if_neg h]) h_26
          have h2p := bit_sub hS hk6 hb1
          have hsh : zI 1 <<< (zI z &&& 31) = zI (2 ^ k : Nat) := by
            have := shl_fin ⟨k, hk6⟩
            rw [hz]; simpa using this
          have h2pos : 0 < 2 ^ k := Nat.pos_of_ne_zero (by simp)
          have e3 : (S : Int) - (2 ^ k : Nat) = ((S - 2 ^ k : Nat) : Int) := by omega
          refine k_lload_n hx dX5_holdsFallingPart_29 0 rfl ?_
          refine k_iload_n hx dX5_holdsFallingPart_30 1 rfl ?_
          refine k_iconst hx dX5_holdsFallingPart_31 ?_
          refine k_iload_n hx dX5_holdsFallingPart_32 2 rfl ?_
          refine k_ishl (v := zI (2 ^ k : Nat)) hx dX5_holdsFallingPart_33 (hsh) ?_
          refine k_isub hx dX5_holdsFallingPart_34 ?_
          rw [e3]
          refine k_lshr hx dX5_holdsFallingPart_35 ?_
          refine k_lconst (v := 1) hx dX5_holdsFallingPart_36 rfl ?_
          refine k_land hx dX5_holdsFallingPart_37 ?_
          rw [lb_shr (by omega)]
          refine k_lconst (v := 1) hx dX5_holdsFallingPart_38 rfl ?_
          refine k_lcmpI (v := (if lb F (S - 2 ^ k) = true then 0 else -1)) hx dX5_holdsFallingPart_39 (lgc _) ?_
          refine k_ifne hx dX5_holdsFallingPart_40 (by split <;> omega) (fun h_40 => ?_) (fun h_40 => ?_)
          · refine k_iinc (ls' := [(0, .long F), (2, vI S), (3, vI (z + 1)), (4, vI y)]) hx dX5_holdsFallingPart_45 2 rfl rfl rfl (by decide) ?_
            refine k_goto hx dX5_holdsFallingPart_48 ?_
            refine K.sub [0, 1, 2] rfl ?_
            refine ih (k + 1) (z + 1) (by omega) (by omega) (by omega) ?_
            rw [hhs]
            first
            | (have hft : f (S - 2 ^ k) = false := by
                 rw [← hF _ (by omega)]
                 cases h : lb F (S - 2 ^ k) with
                 | false => rfl
                 | true => rw [h] at h_40; exact absurd rfl h_40
               simp [hft])
            | (have : ¬ bit S k = 1 := fun h => by rw [hy, if_pos h] at h_26; omega
               simp [this])
          · refine k_iconst hx dX5_holdsFallingPart_43 ?_
            refine k_rz hx hr dX5_holdsFallingPart_44 (by first | exact Or.inl rfl | exact Or.inr rfl | exact b2i_or _) ?_
            refine ⟨?_, rfl⟩
            have hft : f (S - 2 ^ k) = true := by
              rw [← hF _ (by omega)]
              cases h : lb F (S - 2 ^ k) with
              | true => rfl
              | false => rw [h] at h_40; exact absurd h_40 (by decide)
            have : ∀ m, k + 1 ≤ m → hfp f S m = true := by
              intro m
              induction m with
              | zero => intro h; omega
              | succ m ihm =>
                intro h
                by_cases hm : m = k
                · subst hm; rw [hhs]; simp [hb1, hft]
                · rw [hfp, ihm (by omega)]; simp
            rw [this 6 (by omega)]; rfl
      refine k_iload_n hx dX5_holdsFallingPart_2 2 rfl ?_
      refine k_bipush hx dX5_holdsFallingPart_3 (by decide +kernel) ?_
      refine k_icmp_ge hx dX5_holdsFallingPart_5 (by omega) (fun h_5 => ?_) (fun h_5 => ?_)
      · refine k_iconst hx dX5_holdsFallingPart_51 ?_
        refine k_rz hx hr dX5_holdsFallingPart_52 (by first | exact Or.inl rfl | exact Or.inr rfl | exact b2i_or _) ?_
        exact ⟨by rw [show k = 6 by omega] at hh; rw [hh]; rfl, rfl⟩
      · have hbr := bit_rg S z
        have hbz : bit S z = bit S k := by rw [hz]
        refine k_iload_n hx dX5_holdsFallingPart_8 1 rfl ?_
        refine k_iload_n hx dX5_holdsFallingPart_9 2 rfl ?_
        refine k_ishr (v := zI ((zI S >>> (zI z &&& 31)).toInt)) hx dX5_holdsFallingPart_10 ((zI_of _).symm) ?_
        refine k_iconst hx dX5_holdsFallingPart_11 ?_
        refine k_iand (v := zI (bit S z)) hx dX5_holdsFallingPart_12 (bit_ok2 (by omega) (by omega)) ?_
        refine k_iconst hx dX5_holdsFallingPart_13 ?_
        refine k_icmp_ne hx dX5_holdsFallingPart_14 (by omega) (fun h_14 => ?_) (fun h_14 => ?_)
        · refine k_iconst hx dX5_holdsFallingPart_21 ?_
          exact join _ (by omega) (by rw [if_neg (by omega)])
        · refine k_iconst hx dX5_holdsFallingPart_17 ?_
          refine k_goto hx dX5_holdsFallingPart_18 ?_
          exact join _ (by omega) (by rw [if_pos (by omega)])
  refine k_iconst hx dX5_holdsFallingPart_0 ?_
  refine k_istore_n (ls' := [(0, .long F), (2, vI S), (3, vI 0)]) hx dX5_holdsFallingPart_1 rfl rfl (by decide) ?_
  exact loop 7 0 0 rfl (by omega) (by omega) rfl
def fl (v : List Int) (S : Nat) : Bool := decide (wF S v = [])
/-- a rope falls by a set, but by no smaller part of it -/
def mn (v : List Int) (S : Nat) : Bool := fl v S && !hfp (fl v) S 6
theorem hfp_iff {f : Nat → Bool} {S : Nat} : ∀ m, hfp f S m = true ↔ ∃ p, p < m ∧ bit S p = 1 ∧ f (S - 2 ^ p) = true
  | 0 => by simp [hfp]
  | m + 1 => by
    rw [hfp, Bool.or_eq_true, hfp_iff m, Bool.and_eq_true, decide_eq_true_eq]
    constructor
    · rintro (⟨p, h1, h2⟩ | h)
      · exact ⟨p, by omega, h2⟩
      · exact ⟨m, by omega, h⟩
    · rintro ⟨p, h1, h2⟩
      by_cases hp : p = m
      · subst hp; exact Or.inr h2
      · exact Or.inl ⟨p, by omega, h2⟩
theorem fl_mono {v : List Int} (hv : Cr v) {S : Nat} (hS : S < 64) (h : hfp (fl v) S 6 = true) : fl v S = true := by
  obtain ⟨p, hp, hb, hf⟩ := (hfp_iff 6).mp h
  unfold fl at hf ⊢
  have h1 := of_decide_eq_true hf
  refine decide_eq_true (wF_mono hv (fun q hq h0 => ?_) h1)
  have := bit_sub0 (q := q.toNat) hS hp (by omega) hb (by rw [show ((q.toNat : Nat) : Int) = q by omega]; exact h0)
  rwa [show ((q.toNat : Nat) : Int) = q by omega] at this
def cF (v : List Int) : Nat → Nat
  | 0 => 0
  | k + 1 => if mn v k = true then cF v k + 1 else cF v k
def bF (v : List Int) : Nat → Nat
  | 0 => 63
  | k + 1 => if mn v k = true ∧ bcn k < bcn (bF v k) then k else bF v k
theorem bF_lt (v : List Int) : ∀ k, k ≤ 64 → bF v k < 64
  | 0, _ => by simp [bF]
  | k + 1, h => by have := bF_lt v k (by omega); rw [bF]; split <;> omega
theorem cF_le (v : List Int) : ∀ k, cF v k ≤ k
  | 0 => Nat.le_refl _
  | k + 1 => by have := cF_le v k; rw [cF]; split <;> omega
abbrev rope (A : Ab) (z : Int) : List Int := A.2.getD z.toNat []
theorem isS1w {z : Int} (h : 0 ≤ z ∧ z < 4) : IsW (4 + 2 * z.toNat) 120 := by
  have := isS_1.w (k := z.toNat) (by omega)
  rwa [show 1 + 3 + 2 * z.toNat = 4 + 2 * z.toNat by omega] at this
theorem rope_at {z : Int} (h : 0 ≤ z ∧ z < 4) : ([some 4, some 6, some 8, some 10] : List (Option Nat)).getD z.toNat none = some (4 + 2 * z.toNat) := by
  have := ropes_at (s := 1) (k := z.toNat) (z := z) (by omega) (by omega)
  rwa [show 1 + 3 + 2 * z.toNat = 4 + 2 * z.toNat by omega] at this
theorem Sd.rope {M : Mem} {A : Ab} (h : Sd M 1 A) {z : Int} (hz : 0 ≤ z ∧ z < 4) : Wd M (4 + 2 * z.toNat) (rope A z) ∧ (rope A z).length ≤ 120 := by
  have h1 := h.2.2 z.toNat (by omega)
  rw [show 1 + 3 + 2 * z.toNat = 4 + 2 * z.toNat by omega] at h1
  exact ⟨h1, (h.1.2.2.2 z.toNat (by omega)).2⟩
def fellA (A : Ab) (z w : Int) : Int := if 0 ≤ z ∧ z < 4 then (if w < 0 ∨ 1 < w then -2 else if w = 0 then cF (rope A z) 64 else bF (rope A z) 64) else -1

theorem c_X5_felling {g : GE} {l : Launch} {M : Mem} {A : Ab} (hA : Sd M 1 A) {z w : Int} (hzr : -2147483648 ≤ z ∧ z < 2147483648) (hwr : -2147483648 ≤ w ∧ w < 2147483648) : Ci g l μX5_felling [vR g 0, vI z, vI w] M (fun y M' => y = fellA A z w ∧ Off 114 M M') := by
  refine Ci.of (by decide +kernel) rfl rfl (fun x hx hr => ?_)
  have hloop : 0 ≤ z ∧ z < 4 → ¬ (w < 0 ∨ 1 < w) → ∀ (f k : Nat) (F : Int64) (y u : Int) (M' : Mem), u = k → k ≤ 64 → 64 - k < f → (∀ q, q < 64 → lb F q = (decide (q < k) && fl (rope A z) q)) → y = cF (rope A z) k → Off 114 M M' → K x g 0 0 LAY NN M' 33 [(0, vR g 0), (1, vI z), (2, vI w), (3, .long F), (5, vI y), (6, vI (bF (rope A z) k)), (7, vI u)] [] := by
    intro hz hw
    obtain ⟨hv, hvl⟩ := hA.rope hz
    obtain ⟨v, hve⟩ : ∃ v, v = rope A z := ⟨_, rfl⟩
    rw [← hve] at hv hvl ⊢
    intro f
    induction f with
    | zero => intro k F y u M' _ _ hf; omega
    | succ f ih =>
      intro k F y u M' hu hk hf hF hy ho
      have hck := cF_le v k
      have hbk := bF_lt v k hk
      have hv' := hv.off ho (by omega) (by omega) (by omega)
      refine k_iload hx dX5_felling_33 6 rfl ?_
      refine k_bipush hx dX5_felling_35 (by decide +kernel) ?_
      refine k_icmp_ge hx dX5_felling_37 (by omega) (fun h_37 => ?_) (fun h_37 => ?_)
      · have hk64 : k = 64 := by omega
        subst hk64
        refine k_iload_n hx dX5_felling_115 2 rfl ?_
        refine k_ifne hx dX5_felling_116 (by omega) (fun h_116 => ?_) (fun h_116 => ?_)
        · refine k_iload hx dX5_felling_124 5 rfl ?_
          refine k_ri hx hr dX5_felling_126 ?_
          refine ⟨?_, ho⟩
          unfold fellA
          rw [if_pos hz, if_neg hw, ← hve, if_neg h_116]
        · refine k_iload hx dX5_felling_119 4 rfl ?_
          refine k_goto hx dX5_felling_121 ?_
          refine k_ri hx hr dX5_felling_126 ?_
          refine ⟨?_, ho⟩
          unfold fellA
          rw [if_pos hz, if_neg hw, ← hve, if_pos h_116]; exact hy
      · subst hu
        have hk64 : k < 64 := by omega
        have hbn := bF_lt v (k + 1) (by omega)
        have hcs : cF v (k + 1) = if mn v k = true then cF v k + 1 else cF v k := rfl
        have hbs : bF v (k + 1) = if mn v k = true ∧ bcn k < bcn (bF v k) then k else bF v k := rfl
        have hbit : ∀ b : Bool, fl v k = b → (∀ q, q < 64 → lb (if b = true then F ||| (1 <<< ((zI (k : Int)).toInt64 &&& 63)) else F) q = (decide (q < k + 1) && fl v q)) := by
          intro b hb q hq
          have h1 := hF q hq
          cases b with
          | true =>
            rw [if_pos rfl, lb_or hk64 hq, h1]
            by_cases hqk : q = k
            · subst hqk; simp [hb]
            · by_cases h2 : q < k
              · simp [h2, show q < k + 1 by omega, hqk]
              · simp [h2, show ¬ q < k + 1 by omega, hqk]
          | false =>
            rw [if_neg (by decide), h1]
            by_cases hqk : q = k
            · subst hqk; simp [hb]
            · by_cases h2 : q < k
              · simp [h2, show q < k + 1 by omega]
              · simp [h2, show ¬ q < k + 1 by omega]
        refine k_lload_n hx dX5_felling_40 3 rfl ?_
        refine k_iload hx dX5_felling_41 6 rfl ?_
        refine k_sp (rest := []) (e := (b2i (hfp (fl v) k 6))) hx sX5_181 dX5_felling_43 (c_X5_holdsFallingPart (F := F) (S := k) (f := fl v) hk64 (fun q h => by rw [hF q (by omega)]; simp [h])) rfl rfl rfl ⟨rfl, rfl⟩ ⟨by decide, by decide⟩ ?_
        refine k_ceq hx dX5_felling_46 (fun h_46 => ?_) (fun h_46 => ?_)
        · refine k_aload_n hx dX5_felling_59 0 rfl ?_
          refine k_aload_n hx dX5_felling_60 0 rfl ?_
          refine k_get (v := vR g 1) hx fX5_12 dX5_felling_61 n_0 L_0 rfl ?_
          refine k_get (v := vR g 3) hx fX5_75 dX5_felling_64 n_1 L_1 rfl ?_
          refine k_iload_n hx dX5_felling_67 1 rfl ?_
          refine k_aald (q := (4 + 2 * z.toNat)) hx dX5_felling_68 n_3 L_3 (by decide) (by simp only [List.length_cons, List.length_nil]; omega) (by decide) (rope_at hz) ?_
          refine k_iload hx dX5_felling_69 6 rfl ?_
          refine k_vi (rest := []) hx vX5_162 dX5_felling_71 (c_X5_fallsWithout (isS1w hz) hv' hvl (by omega) (S := (k : Int)) (by omega)) n_0 L_0 rfl rfl rfl ⟨rfl, rfl⟩ ⟨by decide, by decide⟩ (fun z_71 M_71 p_71 => ?_)
          obtain ⟨hz71, ho71⟩ := p_71
          subst hz71
          show K x g 0 0 LAY NN M_71 74 _ [vI (b2i (fl v k))]
          refine k_ceq hx dX5_felling_74 (fun h_74 => ?_) (fun h_74 => ?_)
          · refine k_iinc (ls' := [(0, vR g 0), (1, vI z), (2, vI w), (3, .long F), (5, vI y), (6, vI (bF v k : Nat)), (7, vI ((k : Nat) + 1))]) hx dX5_felling_109 6 rfl rfl rfl (by decide) ?_
            refine k_goto hx dX5_felling_112 ?_
            have hmn : mn v k = false := by unfold mn; rw [h_74]; rfl
            have hbe : bF v (k + 1) = bF v k := by rw [hbs, if_neg (by rw [hmn]; simp)]
            refine (show ((bF v k : Nat) : Int) = (bF v (k + 1) : Nat) by rw [hbe]) ▸ ih (k + 1) F _ _ M_71 (by omega) (by omega) (by omega) (hbit false h_74) (by rw [hcs, hmn]; exact hy) (ho.tr ho71)
          · refine k_lload_n hx dX5_felling_77 3 rfl ?_
            refine k_lconst (v := 1) hx dX5_felling_78 rfl ?_
            refine k_iload hx dX5_felling_79 6 rfl ?_
            refine k_lshl hx dX5_felling_81 ?_
            refine k_lor hx dX5_felling_82 ?_
            refine k_lstore_n (ls' := [(0, vR g 0), (1, vI z), (2, vI w), (3, .long (F ||| (1 <<< ((zI (k : Nat)).toInt64 &&& 63)))), (5, vI y), (6, vI (bF v k : Nat)), (7, vI (k : Nat))]) hx dX5_felling_83 rfl rfl (by decide) ?_
            have hmn : mn v k = true := by unfold mn; rw [h_46, h_74]; rfl
            refine k_iinc (ls' := [(0, vR g 0), (1, vI z), (2, vI w), (3, .long (F ||| (1 <<< ((zI (k : Nat)).toInt64 &&& 63)))), (5, vI (y + 1)), (6, vI (bF v k : Nat)), (7, vI (k : Nat))]) hx dX5_felling_84 4 rfl rfl rfl (by decide) ?_
            refine k_iload hx dX5_felling_87 6 rfl ?_
            refine k_sp (rest := []) (e := (bcn (k : Nat))) hx sX5_185 dX5_felling_89 (c_bitCount (S := (k : Int)) (by omega)) rfl rfl rfl ⟨rfl, rfl⟩ ⟨by decide, by decide⟩ ?_
            have hb1 := bcn_rg (k : Nat)
            have hb2 := bcn_rg (bF v k : Nat)
            refine k_iload hx dX5_felling_92 5 rfl ?_
            refine k_sp (rest := [vI (bcn (k : Nat))]) (e := (bcn (bF v k : Nat))) hx sX5_185 dX5_felling_94 (c_bitCount (S := ((bF v k : Nat) : Int)) (by omega)) rfl rfl rfl ⟨rfl, rfl⟩ ⟨by decide, by decide⟩ ?_
            refine k_icmp_ge hx dX5_felling_97 (by omega) (fun h_97 => ?_) (fun h_97 => ?_)
            · refine k_iload hx dX5_felling_105 5 rfl ?_
              refine k_istore (ls' := [(0, vR g 0), (1, vI z), (2, vI w), (3, .long (F ||| (1 <<< ((zI (k : Nat)).toInt64 &&& 63)))), (5, vI (y + 1)), (6, vI (bF v k : Nat)), (7, vI (k : Nat))]) hx dX5_felling_107 rfl rfl (by decide) ?_
              refine k_iinc (ls' := [(0, vR g 0), (1, vI z), (2, vI w), (3, .long (F ||| (1 <<< ((zI (k : Nat)).toInt64 &&& 63)))), (5, vI (y + 1)), (6, vI (bF v k : Nat)), (7, vI ((k : Nat) + 1))]) hx dX5_felling_109 6 rfl rfl rfl (by decide) ?_
              refine k_goto hx dX5_felling_112 ?_
              have hbe : bF v (k + 1) = bF v k := by rw [hbs, if_neg (fun q => by omega)]
              refine (show ((bF v k : Nat) : Int) = (bF v (k + 1) : Nat) by rw [hbe]) ▸ ih (k + 1) _ _ _ M_71 (by omega) (by omega) (by omega) (hbit true h_74) (by rw [hcs, hmn, hy]; simp) (ho.tr ho71)
            · refine k_iload hx dX5_felling_100 6 rfl ?_
              refine k_goto hx dX5_felling_102 ?_
              refine k_istore (ls' := [(0, vR g 0), (1, vI z), (2, vI w), (3, .long (F ||| (1 <<< ((zI (k : Nat)).toInt64 &&& 63)))), (5, vI (y + 1)), (6, vI (k : Nat)), (7, vI (k : Nat))]) hx dX5_felling_107 rfl rfl (by decide) ?_
              refine k_iinc (ls' := [(0, vR g 0), (1, vI z), (2, vI w), (3, .long (F ||| (1 <<< ((zI (k : Nat)).toInt64 &&& 63)))), (5, vI (y + 1)), (6, vI (k : Nat)), (7, vI ((k : Nat) + 1))]) hx dX5_felling_109 6 rfl rfl rfl (by decide) ?_
              refine k_goto hx dX5_felling_112 ?_
              have hbe : bF v (k + 1) = k := by rw [hbs, if_pos ⟨hmn, by omega⟩]
              refine (show (k : Int) = (bF v (k + 1) : Nat) by rw [hbe]) ▸ ih (k + 1) _ _ ((k : Int) + 1) M_71 (by omega) (by omega) (by omega) (hbit true h_74) (by rw [hcs, hmn, hy]; simp) (ho.tr ho71)
        · refine k_lload_n hx dX5_felling_49 3 rfl ?_
          refine k_lconst (v := 1) hx dX5_felling_50 rfl ?_
          refine k_iload hx dX5_felling_51 6 rfl ?_
          refine k_lshl hx dX5_felling_53 ?_
          refine k_lor hx dX5_felling_54 ?_
          have hfk := fl_mono hv.2.2 hk64 h_46
          have hmn : mn v k = false := by unfold mn; rw [h_46]; simp
          refine k_lstore_n (ls' := [(0, vR g 0), (1, vI z), (2, vI w), (3, .long (F ||| (1 <<< ((zI (k : Nat)).toInt64 &&& 63)))), (5, vI y), (6, vI (bF v k : Nat)), (7, vI (k : Nat))]) hx dX5_felling_55 rfl rfl (by decide) ?_
          refine k_goto hx dX5_felling_56 ?_
          refine k_iinc (ls' := [(0, vR g 0), (1, vI z), (2, vI w), (3, .long (F ||| (1 <<< ((zI (k : Nat)).toInt64 &&& 63)))), (5, vI y), (6, vI (bF v k : Nat)), (7, vI ((k : Nat) + 1))]) hx dX5_felling_109 6 rfl rfl rfl (by decide) ?_
          refine k_goto hx dX5_felling_112 ?_
          have hbe : bF v (k + 1) = bF v k := by rw [hbs, if_neg (by rw [hmn]; simp)]
          refine (show ((bF v k : Nat) : Int) = (bF v (k + 1) : Nat) by rw [hbe]) ▸ ih (k + 1) _ _ _ M' (by omega) (by omega) (by omega) (hbit true hfk) (by rw [hcs, hmn]; exact hy) ho
  refine k_iload_n hx dX5_felling_0 1 rfl ?_
  refine k_sp (rest := []) (e := (b2i (decide (0 ≤ z ∧ z < 4)))) hx sX5_72 dX5_felling_1 (c_X5_isRope (z := z) (by omega)) rfl rfl rfl ⟨rfl, rfl⟩ ⟨by decide, by decide⟩ ?_
  refine k_bne hx dX5_felling_4 (fun h_4 => ?_) (fun h_4 => ?_)
  · refine k_iload_n hx dX5_felling_9 2 rfl ?_
    refine k_iflt hx dX5_felling_10 (by omega) (fun h_10 => ?_) (fun h_10 => ?_)
    · refine k_bipush hx dX5_felling_18 (by decide +kernel) ?_
      refine k_ri hx hr dX5_felling_20 ?_
      exact ⟨by unfold fellA; rw [if_pos h_4, if_pos (by omega)], Off.rf⟩
    · refine k_iload_n hx dX5_felling_13 2 rfl ?_
      refine k_iconst hx dX5_felling_14 ?_
      refine k_icmp_le hx dX5_felling_15 (by omega) (fun h_15 => ?_) (fun h_15 => ?_)
      · refine k_lconst (v := 0) hx dX5_felling_21 rfl ?_
        refine k_lstore_n (ls' := [(0, vR g 0), (1, vI z), (2, vI w), (3, .long 0)]) hx dX5_felling_22 rfl rfl (by decide) ?_
        refine k_iconst hx dX5_felling_23 ?_
        refine k_istore (ls' := [(0, vR g 0), (1, vI z), (2, vI w), (3, .long 0), (5, vI 0)]) hx dX5_felling_24 rfl rfl (by decide) ?_
        refine k_bipush hx dX5_felling_26 (by decide +kernel) ?_
        refine k_istore (ls' := [(0, vR g 0), (1, vI z), (2, vI w), (3, .long 0), (5, vI 0), (6, vI 63)]) hx dX5_felling_28 rfl rfl (by decide) ?_
        refine k_iconst hx dX5_felling_30 ?_
        refine k_istore (ls' := [(0, vR g 0), (1, vI z), (2, vI w), (3, .long 0), (5, vI 0), (6, vI 63), (7, vI 0)]) hx dX5_felling_31 rfl rfl (by decide) ?_
        exact hloop h_4 (by omega) 65 0 0 0 0 M rfl (by omega) (by omega) (fun q _ => by rw [lb_0]; simp) rfl Off.rf
      · refine k_bipush hx dX5_felling_18 (by decide +kernel) ?_
        refine k_ri hx hr dX5_felling_20 ?_
        exact ⟨by unfold fellA; rw [if_pos h_4, if_pos (by omega)], Off.rf⟩
  · refine k_iconst hx dX5_felling_7 ?_
    refine k_ri hx hr dX5_felling_8 ?_
    exact ⟨by unfold fellA; rw [if_neg h_4], Off.rf⟩

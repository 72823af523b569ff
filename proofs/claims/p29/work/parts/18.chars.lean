/-! the pad: characters given as a number -/
def uN (v : Int64) : Nat := v.toBitVec.toNat
theorem uN_lt (v : Int64) : uN v < 2 ^ 64 := v.toBitVec.isLt
def lsr (v : Int64) (k : Int) : Int64 := (v.toUInt64 >>> ((zI k).toInt64.toUInt64 &&& Int64.toUInt64 63)).toInt64
theorem shu_fin : ∀ q : Fin 64, (((zI ((q : Nat) : Int)).toInt64.toUInt64 &&& Int64.toUInt64 63).toBitVec % 64).toNat = (q : Nat) := by decide +kernel
theorem uN_lsr (v : Int64) {k : Nat} (h : k < 64) : uN (lsr v k) = uN v / 2 ^ k := by
  have h1 := shu_fin ⟨k, h⟩
  simp only at h1
  show (v.toBitVec >>> (((zI (k : Int)).toInt64.toUInt64 &&& Int64.toUInt64 63).toBitVec % 64)).toNat = _
  rw [BitVec.ushiftRight_eq', h1, BitVec.toNat_ushiftRight, Nat.shiftRight_eq_div_pow]
  rfl
theorem uN_and (v : Int64) : uN (v &&& 255) = uN v % 256 := by
  show (v.toBitVec &&& 255#64).toNat = _
  rw [BitVec.toNat_and]
  have : (255#64).toNat = 2 ^ 8 - 1 := rfl
  rw [this, Nat.and_two_pow_sub_one_eq_mod]
  rfl
theorem l2i_and (v : Int64) : (v &&& 255).toInt32 = zI (uN v % 256 : Nat) := by
  have h := uN_and v
  have hlt : uN v % 256 < 256 := Nat.mod_lt _ (by decide)
  apply Int32.toBitVec.inj
  apply BitVec.eq_of_toNat_eq
  show ((v &&& 255).toBitVec.signExtend 32).toNat = (BitVec.ofInt 32 ((uN v % 256 : Nat) : Int)).toNat
  have e1 : (v &&& 255).toBitVec.signExtend 32 = (v &&& 255).toBitVec.setWidth 32 := BitVec.signExtend_eq_setWidth_of_le _ (by decide)
  rw [e1, BitVec.toNat_setWidth, BitVec.toNat_ofInt]
  have e2 : (v &&& 255).toBitVec.toNat = uN v % 256 := h
  rw [e2]
  omega
theorem lg0 (v : Int64) : (lg_cmp v 0).toInt = 0 ↔ uN v = 0 := by
  have e : v = 0 ↔ uN v = 0 := by
    constructor
    · intro h; rw [h]; rfl
    · intro h; exact Int64.toBitVec.inj (BitVec.eq_of_toNat_eq h)
  rw [← e]
  unfold lg_cmp
  by_cases h1 : v > 0
  · rw [if_pos h1]
    constructor
    · intro h; exact absurd h (by decide)
    · intro h; subst h; exact absurd h1 (by decide)
  · rw [if_neg h1]
    by_cases h2 : v = 0
    · rw [if_pos h2]; simp [h2]
    · rw [if_neg h2]
      constructor
      · intro h; exact absurd h (by decide)
      · intro h; exact absurd h h2
/-- how many characters a number holds: 0 if it holds none, or anything else -/
def chF : Nat → Nat → Nat → Nat
  | 0, k, _ => k
  | f + 1, k, r => if r = 0 then k else if 33 ≤ r % 256 ∧ r % 256 ≤ 126 then chF f (k + 1) (r / 256) else 0
def chIn (n : Nat) : Nat := chF 8 0 n
def chs (n m : Nat) : List Int := (List.range m).map (fun i => ((n / 256 ^ (m - 1 - i) % 256 : Nat) : Int))
theorem chF_le : ∀ (f k r : Nat), chF f k r ≤ k + f
  | 0, k, r => Nat.le_refl _
  | f + 1, k, r => by
    rw [chF]
    split
    · omega
    · split
      · have := chF_le f (k + 1) (r / 256); omega
      · omega
/-- the characters that were counted are characters -/
theorem chF_ok : ∀ (f k r : Nat), (chF f k r = 0 → k = 0 ∨ True) ∧ (0 < chF f k r → ∀ j, k + j < chF f k r → 33 ≤ r / 256 ^ j % 256 ∧ r / 256 ^ j % 256 ≤ 126)
  | 0, k, r => ⟨fun _ => Or.inr trivial, fun _ j h => by rw [chF] at h; omega⟩
  | f + 1, k, r => by
    refine ⟨fun _ => Or.inr trivial, fun hp j hj => ?_⟩
    rw [chF] at hp hj
    split at hj
    · omega
    · rename_i hr
      rw [if_neg hr] at hp
      split at hj
      · rename_i hc
        rw [if_pos hc] at hp
        cases j with
        | zero => simpa using hc
        | succ j =>
          have := (chF_ok f (k + 1) (r / 256)).2 hp j (by omega)
          rwa [Nat.div_div_eq_div_mul, show 256 * 256 ^ j = 256 ^ (j + 1) by rw [Nat.pow_succ, Nat.mul_comm]] at this
      · omega
theorem chs_len (n m : Nat) : (chs n m).length = m := by simp [chs]
theorem chs_mem {n m : Nat} (h : chIn n = m) (hm : 0 < m) : ∀ c ∈ chs n m, 33 ≤ c ∧ c ≤ 126 := by
  intro c hc
  obtain ⟨i, hi, rfl⟩ := List.mem_map.mp hc
  have hi2 := List.mem_range.mp hi
  have := (chF_ok 8 0 n).2 (by unfold chIn at h; omega) (m - 1 - i) (by unfold chIn at h; omega)
  omega

theorem OffP.up1 {M : Mem} : True := trivial
def Off104 (M M' : Mem) : Prop := ∀ a, a ≠ 104 → a ≠ 105 → M' a = M a
theorem getD_snoc {w : List Int} {c : Int} {k : Nat} : (w ++ [c]).getD k 0 = if k < w.length then w.getD k 0 else if k = w.length then c else 0 := by
  simp only [List.getD_eq_getElem?_getD]
  by_cases h : k < w.length
  · rw [if_pos h, List.getElem?_append_left h]
  · rw [if_neg h, List.getElem?_append_right (by omega)]
    by_cases h2 : k = w.length
    · rw [if_pos h2, h2]; simp
    · rw [if_neg h2, List.getElem?_eq_none (by simp; omega)]; rfl
theorem chs_take {n m i : Nat} (h : i < m) : (chs n m).take (i + 1) = (chs n m).take i ++ [((n / 256 ^ (m - 1 - i) % 256 : Nat) : Int)] := by
  have hl := chs_len n m
  rw [List.take_succ_eq_append_getElem (by omega)]
  congr 2
  simp [chs]

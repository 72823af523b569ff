/-! sets of posts: their sizes, and by which a rope falls -/
section LDC
variable {x : Fx} {g : GE} {cc : ByteArray} {own : String} {nL : Nat} {R : Room} {cs sl : Nat} {L : Lay} {n : Nat} {M : Mem} {pc pc' : Nat} {ls : List (Nat × Value)} {st : List Value}
theorem k_ldcw (hx : Cx x g cc own nL R) {index : Nat} {v : Int} (hd : At cc pc (.ldc_w index) 3 pc') (hc : Cond.constant own index (zI v) ∈ TB) (kk : K x g cs sl L n M pc' ls (vI v :: st)) : K x g cs sl L n M pc ls st := by
  intro H locs la hR hS hl
  obtain ⟨hex, hcc, hnl, how, hts, hK, -⟩ := hx
  obtain ⟨hd1, hd2⟩ := hd
  subst hd2
  exact lv_ldcw hex hcc how (hts _ hc) hd1 (kk H locs la hR hS hl)
theorem k_lcmpI (hx : Cx x g cc own nL R) {a b : Int64} {v : Int} (hd : At cc pc .lcmp 1 pc') (hv : lg_cmp a b = zI v) (k : K x g cs sl L n M pc' ls (vI v :: st)) : K x g cs sl L n M pc ls (.long b :: .long a :: st) := k_lcmp hx hd (by rw [hv]; exact k)
end LDC
def ush (a k : Int) : Int32 := ((zI a).toUInt32 >>> ((zI k).toUInt32 &&& Int32.toUInt32 31)).toInt32
def bc1 (a : Int) : Int := a - (ush a 1 &&& zI 1431655765).toInt
def bc2 (a : Int) : Int := (zI a &&& zI 858993459).toInt + (ush a 2 &&& zI 858993459).toInt
def bc3 (a : Int) : Int := (zI (a + (ush a 4).toInt) &&& zI 252645135).toInt
def bc4 (a : Int) : Int := a + (ush a 8).toInt
def bc5 (a : Int) : Int := a + (ush a 16).toInt
def bc6 (a : Int) : Int := (zI a &&& zI 63).toInt
/-- how many posts a set has -/
def bcn (S : Int) : Int := bit S 0 + bit S 1 + bit S 2 + bit S 3 + bit S 4 + bit S 5
theorem bcn_fin : ∀ S : Fin 64, bc6 (bc5 (bc4 (bc3 (bc2 (bc1 ((S : Nat) : Int)))))) = bcn ((S : Nat) : Int) := by decide +kernel
theorem bcn_ok {S : Int} (h : 0 ≤ S ∧ S < 64) : bc6 (bc5 (bc4 (bc3 (bc2 (bc1 S))))) = bcn S := by
  have := bcn_fin ⟨S.toNat, by omega⟩
  simpa [Int.max_eq_left h.1] using this
theorem bcn_rg (S : Int) : 0 ≤ bcn S ∧ bcn S ≤ 6 := by
  have h0 := bit_rg S 0; have h1 := bit_rg S 1; have h2 := bit_rg S 2; have h3 := bit_rg S 3; have h4 := bit_rg S 4; have h5 := bit_rg S 5
  unfold bcn; omega

/-- bits of a long -/
def lb (F : Int64) (q : Nat) : Bool := F.toBitVec.getLsbD q
theorem sh_fin : ∀ q : Fin 64, (((zI ((q : Nat) : Int)).toInt64 &&& 63).toBitVec.smod 64).toNat = (q : Nat) := by decide +kernel
theorem sh_ok {q : Nat} (h : q < 64) : (((zI (q : Int)).toInt64 &&& 63).toBitVec.smod 64).toNat = q := sh_fin ⟨q, h⟩
theorem lb_shr {F : Int64} {q : Nat} (h : q < 64) : (F >>> ((zI (q : Int)).toInt64 &&& 63)) &&& 1 = if lb F q = true then 1 else 0 := by
  apply Int64.toBitVec.inj
  apply BitVec.eq_of_getLsbD_eq
  intro i hi
  have e1 : (F >>> ((zI (q : Int)).toInt64 &&& 63)).toBitVec = F.toBitVec.sshiftRight q := by
    show BitVec.sshiftRight' F.toBitVec (((zI (q : Int)).toInt64 &&& 63).toBitVec.smod 64) = _
    unfold BitVec.sshiftRight'
    rw [sh_ok h]
  rw [Int64.toBitVec_and, BitVec.getLsbD_and, e1, BitVec.getLsbD_sshiftRight]
  have h1 : (1 : Int64).toBitVec = 1#64 := rfl
  rw [h1]
  by_cases hi0 : i = 0
  · subst hi0
    have : F.toBitVec.getLsbD q = lb F q := rfl
    by_cases hb : lb F q = true
    · rw [if_pos hb]; simp [h, this, hb]
    · rw [if_neg hb]
      have hb2 : F.toBitVec.getLsbD q = false := by rw [this]; simpa using hb
      simp [h]; simpa [BitVec.getLsbD_eq_getElem h] using hb2
  · have h2 : (1#64).getLsbD i = false := by simp [BitVec.getLsbD_one, hi0]
    rw [h2, Bool.and_false]
    split
    · rw [h1, h2]
    · simp
theorem lb_or {F : Int64} {s q : Nat} (hs : s < 64) (hq : q < 64) : lb (F ||| (1 <<< ((zI (s : Int)).toInt64 &&& 63))) q = (lb F q || decide (q = s)) := by
  unfold lb
  have e1 : ((1 : Int64) <<< ((zI (s : Int)).toInt64 &&& 63)).toBitVec = (1#64) <<< s := by
    show (1#64) <<< (((zI (s : Int)).toInt64 &&& 63).toBitVec.smod 64) = _
    rw [BitVec.shiftLeft_eq', sh_ok hs]
  rw [Int64.toBitVec_or, BitVec.getLsbD_or, e1, BitVec.getLsbD_shiftLeft]
  by_cases h : q = s
  · subst h; simp [hq]
  · by_cases h2 : q < s
    · simp [h, h2]
    · have : q - s ≠ 0 := by omega
      simp [h, h2, BitVec.getLsbD_one, this]
theorem lb_0 (q : Nat) : lb 0 q = false := by unfold lb; have : (0 : Int64).toBitVec = 0#64 := rfl
                                              rw [this]; simp
theorem shl_fin : ∀ p : Fin 6, zI 1 <<< (zI ((p : Nat) : Int) &&& 31) = zI (2 ^ (p : Nat)) := by decide +kernel
theorem lgc (b : Bool) : lg_cmp (if b = true then 1 else 0) 1 = zI (if b = true then 0 else -1) := by cases b <;> decide +kernel
theorem bit_sub_fin : ∀ S : Fin 64, ∀ p : Fin 6, bit ((S : Nat) : Int) ((p : Nat) : Int) = 1 → 2 ^ (p : Nat) ≤ (S : Nat) ∧ ∀ q : Fin 6, bit (((S : Nat) - 2 ^ (p : Nat) : Nat) : Int) ((q : Nat) : Int) = if p = q then 0 else bit ((S : Nat) : Int) ((q : Nat) : Int) := by decide +kernel
theorem bit_sub {S p : Nat} (hS : S < 64) (hp : p < 6) (h : bit S p = 1) : 2 ^ p ≤ S := (bit_sub_fin ⟨S, hS⟩ ⟨p, hp⟩ h).1
theorem bit_sub0 {S p q : Nat} (hS : S < 64) (hp : p < 6) (hq : q < 6) (h : bit S p = 1) (h2 : bit S q = 0) : bit ((S - 2 ^ p : Nat) : Int) q = 0 := by
  have := (bit_sub_fin ⟨S, hS⟩ ⟨p, hp⟩ h).2 ⟨q, hq⟩
  simp only at this
  rw [this]
  split
  · rfl
  · exact h2
theorem bit_ok2 {S p : Int} (hS : 0 ≤ S ∧ S < 64) (hp : 0 ≤ p ∧ p < 6) : zI ((zI S >>> (zI p &&& 31)).toInt) &&& zI 1 = zI (bit S p) := by rw [zI_of]; exact bit_ok hS hp
/-- a part with one post less for which f holds -/
def hfp (f : Nat → Bool) (S : Nat) : Nat → Bool
  | 0 => false
  | k + 1 => hfp f S k || (decide (bit S k = 1) && f (S - 2 ^ k))

def fl (v : List Int) (S : Nat) : Bool := decide (wF S v = [])
/-- a rope falls by a set, but by no smaller part of it -/
def mn (v : List Int) (S : Nat) : Bool := fl v S && !hfp (fl v) S 6
theorem hfp_iff {f : Nat → Bool} {S : Nat} : ∀ m, hfp f S m = true ↔ ∃ p, p < m ∧ bit S p = 1 ∧ f (S - 2 ^ p) = true
  | 0 => by simp [hfp]
  | m + 1 => by
    rw [hfp, Bool.or_eq_true, hfp_iff m, Bool.and_eq_true, decide_eq_true_eq]
    constructor
    · rintro (⟨p, h1, h2⟩ | h)
      · exact ⟨p, by omega, h2⟩
      · exact ⟨m, by omega, h⟩
    · rintro ⟨p, h1, h2⟩
      by_cases hp : p = m
      · subst hp; exact Or.inr h2
      · exact Or.inl ⟨p, by omega, h2⟩
theorem fl_mono {v : List Int} (hv : Cr v) {S : Nat} (hS : S < 64) (h : hfp (fl v) S 6 = true) : fl v S = true := by
  obtain ⟨p, hp, hb, hf⟩ := (hfp_iff 6).mp h
  unfold fl at hf ⊢
  have h1 := of_decide_eq_true hf
  refine decide_eq_true (wF_mono hv (fun q hq h0 => ?_) h1)
  have := bit_sub0 (q := q.toNat) hS hp (by omega) hb (by rw [show ((q.toNat : Nat) : Int) = q by omega]; exact h0)
  rwa [show ((q.toNat : Nat) : Int) = q by omega] at this
def cF (v : List Int) : Nat → Nat
  | 0 => 0
  | k + 1 => if mn v k = true then cF v k + 1 else cF v k
def bF (v : List Int) : Nat → Nat
  | 0 => 63
  | k + 1 => if mn v k = true ∧ bcn k < bcn (bF v k) then k else bF v k
theorem bF_lt (v : List Int) : ∀ k, k ≤ 64 → bF v k < 64
  | 0, _ => by simp [bF]
  | k + 1, h => by have := bF_lt v k (by omega); rw [bF]; split <;> omega
theorem cF_le (v : List Int) : ∀ k, cF v k ≤ k
  | 0 => Nat.le_refl _
  | k + 1 => by have := cF_le v k; rw [cF]; split <;> omega
abbrev rope (A : Ab) (z : Int) : List Int := A.2.getD z.toNat []
theorem isS1w {g : GE} {z : Int} (h : 0 ≤ z ∧ z < 4) : IsW g (4 + 2 * z.toNat) 120 := by
  have := (isS_1 (g := g)).w (k := z.toNat) (by omega)
  rwa [show 1 + 3 + 2 * z.toNat = 4 + 2 * z.toNat by omega] at this
theorem rope_at {z : Int} (h : 0 ≤ z ∧ z < 4) : ([some 4, some 6, some 8, some 10] : List (Option Nat)).getD z.toNat none = some (4 + 2 * z.toNat) := by
  have := ropes_at (s := 1) (k := z.toNat) (z := z) (by omega) (by omega)
  rwa [show 1 + 3 + 2 * z.toNat = 4 + 2 * z.toNat by omega] at this
theorem Sd.rope {M : Mem} {A : Ab} (h : Sd M 1 A) {z : Int} (hz : 0 ≤ z ∧ z < 4) : Wd M (4 + 2 * z.toNat) (rope A z) ∧ (rope A z).length ≤ 120 := by
  have h1 := h.2.2 z.toNat (by omega)
  rw [show 1 + 3 + 2 * z.toNat = 4 + 2 * z.toNat by omega] at h1
  exact ⟨h1, (h.1.2.2.2 z.toNat (by omega)).2⟩
def fellA (A : Ab) (z w : Int) : Int := if 0 ≤ z ∧ z < 4 then (if w < 0 ∨ 1 < w then -2 else if w = 0 then cF (rope A z) 64 else bF (rope A z) 64) else -1

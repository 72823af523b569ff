/-! the scissors -/
def tri : Nat → Nat
  | 0 => 0
  | n + 1 => tri n + n
theorem tri_int (n : Nat) : (n : Int) * (n - 1) = 2 * (tri n : Int) := by
  induction n with
  | zero => simp [tri]
  | succ n ih =>
    have e : ((n + 1 : Nat) : Int) * (((n + 1 : Nat) : Int) - 1) = (n : Int) * (n - 1) + 2 * n := by
      rw [show ((n + 1 : Nat) : Int) - 1 = n by omega, show ((n + 1 : Nat) : Int) = n + 1 by omega, Int.add_mul, Int.mul_sub]; omega
    rw [e, ih, tri]; omega
theorem tri_mono {a b : Nat} (h : a ≤ b) : tri a ≤ tri b := by
  induction b with
  | zero => have : a = 0 := by omega
            subst this; exact Nat.le_refl _
  | succ b ih =>
    by_cases h2 : a = b + 1
    · subst h2; exact Nat.le_refl _
    · have := ih (by omega); rw [tri]; omega
theorem tri_121 : tri 121 = 7260 := by decide +kernel
theorem tri_in {a b : Nat} (h : a < b) (hb : b ≤ 120) : tri b + a < 7260 := by
  have h1 : tri (b + 1) = tri b + b := rfl
  have h2 := tri_mono (show b + 1 ≤ 121 by omega)
  rw [tri_121] at h2; omega
theorem tri_lt {a b b' : Nat} (h : a < b) (hb : b < b') : tri b + a < tri b' := by
  have h1 : tri (b + 1) = tri b + b := rfl
  have h2 := tri_mono (show b + 1 ≤ b' by omega)
  omega
theorem tri_le120 {b : Nat} (hb : b ≤ 120) : tri b ≤ 7140 := by
  have h2 := tri_mono hb
  have : tri 120 = 7140 := by decide +kernel
  omega

theorem xor12 : ∀ a : Fin 12, 0 ≤ (zI ((a : Nat) : Int) ^^^ zI 12).toInt := by decide +kernel
/-- q is the first place from m on that holds c (the length, if none) -/
def Nxe (r : List Int) (m : Nat) (c : Int) (q : Nat) : Prop := m ≤ q ∧ q ≤ r.length ∧ (∀ j, m ≤ j → j < q → at0 r j ≠ c) ∧ (q < r.length → at0 r q = c)
/-- the links of the place k -/
def Lk (M : Mem) (r : List Int) (k : Nat) : Prop := (∃ q : Nat, M 111 k = q ∧ Nxe r (k + 1) (op (at0 r k)) q) ∧ (∃ q : Nat, M 112 k = q ∧ Nxe r (k + 1) (at0 r k) q)
theorem Nxe.down {r : List Int} {m : Nat} {c : Int} {q : Nat} (h : Nxe r (m + 1) c q) (hm : at0 r m ≠ c) : Nxe r m c q :=
  ⟨by have := h.1; omega, h.2.1, fun j h1 h2 => by
    by_cases hj : j = m
    · subst hj; exact hm
    · exact h.2.2.1 j (by omega) h2, h.2.2.2⟩
def Off4 (M M' : Mem) : Prop := ∀ a, (a < 110 ∨ 114 ≤ a) → M' a = M a
theorem Off4.tr {M M' M'' : Mem} (h : Off4 M M') (k : Off4 M' M'') : Off4 M M'' := fun a h1 => (k a h1).trans (h a h1)
theorem off4_up {M : Mem} {i : Nat} {k z : Int} (h : 110 ≤ i ∧ i < 114) : Off4 M (up M i k z) := fun a ha => up_i (by omega)

/-- the best of the first m places -/
def FM (t : List Int) (c : Int) (m : Nat) : Nat := (List.range m).foldl (mxS t c (fun k => 2 + Mx (t.take k) + Mx (t.drop (k + 1)))) (Mx t)
theorem FM_succ (t : List Int) (c : Int) (m : Nat) : FM t c (m + 1) = if at0 t m = op c then max (FM t c m) (2 + Mx (t.take m) + Mx (t.drop (m + 1))) else FM t c m := by
  unfold FM; rw [List.range_succ, List.foldl_append]; rfl
theorem FM_skip {t : List Int} {c : Int} {m : Nat} : ∀ (d : Nat), (∀ k, m ≤ k → k < m + d → at0 t k ≠ op c) → FM t c (m + d) = FM t c m
  | 0, _ => rfl
  | d + 1, h => by
    rw [show m + (d + 1) = (m + d) + 1 by omega, FM_succ, if_neg (h (m + d) (by omega) (by omega)), FM_skip d (fun k h1 h2 => h k h1 (by omega))]
theorem FM_mono (t : List Int) (c : Int) {m n : Nat} (h : m ≤ n) : FM t c m ≤ FM t c n := by
  induction n with
  | zero => have : m = 0 := by omega
            subst this; exact Nat.le_refl _
  | succ n ih =>
    by_cases h2 : m = n + 1
    · subst h2; exact Nat.le_refl _
    · have h3 := ih (by omega)
      rw [FM_succ]; split <;> omega
theorem FM_all (c : Int) (t : List Int) : FM t c t.length = Mx (c :: t) := (mx_cons c t).symm
theorem slc_cons {r : List Int} {a b : Nat} (h : a < b) (hb : b ≤ r.length) : slc r a b = at0 r a :: slc r (a + 1) b := by
  unfold slc
  rw [List.drop_eq_getElem_cons (by rw [List.length_take]; omega), at0_n (by omega)]
  simp
theorem slc_take {r : List Int} {a b k : Nat} (h : a + k ≤ b) : (slc r a b).take k = slc r a (a + k) := by
  unfold slc
  rw [List.take_drop, List.take_take, Nat.min_eq_left (by omega)]
theorem slc_drop {r : List Int} {a b k : Nat} : (slc r a b).drop k = slc r (a + k) b := by
  unfold slc
  rw [List.drop_drop]

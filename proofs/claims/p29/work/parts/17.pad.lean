/-! the pad: what is open, the fault -/
def crs (c : Int) : Int := if 97 ≤ c ∧ c ≤ 102 then c - 97 else if 65 ≤ c ∧ c ≤ 70 then c - 65 + 6 else -1
/-- what is open, the innermost first: sign, start, middle -/
def OpR (M : Mem) (os : List (Int × Int × Int)) : Prop := M 104 5 = os.length ∧ os.length ≤ 4 ∧ ∀ (j : Nat) (e : Int × Int × Int), os[j]? = some e → M 106 (os.length - 1 - j : Nat) = e.1 ∧ M 107 (os.length - 1 - j : Nat) = e.2.1 ∧ M 108 (os.length - 1 - j : Nat) = e.2.2
def OffP (M M' : Mem) : Prop := (∀ a, a ≠ 104 → a ≠ 106 → a ≠ 107 → a ≠ 108 → M' a = M a) ∧ ∀ k, k ≠ 5 → M' 104 k = M 104 k
theorem OffP.rf {M : Mem} : OffP M M := ⟨fun _ _ _ _ _ => rfl, fun _ _ => rfl⟩
theorem OffP.tr {M M' M'' : Mem} (h : OffP M M') (k : OffP M' M'') : OffP M M'' := ⟨fun a h1 h2 h3 h4 => (k.1 a h1 h2 h3 h4).trans (h.1 a h1 h2 h3 h4), fun j hj => (k.2 j hj).trans (h.2 j hj)⟩
theorem OpR.pop {M : Mem} {e : Int × Int × Int} {t : List (Int × Int × Int)} (h : OpR M (e :: t)) {z : Int} (hz : z = t.length) : OpR (up M 104 5 z) t := by
  obtain ⟨h1, h2, h3⟩ := h
  rw [List.length_cons] at h2
  refine ⟨by rw [up_s, hz], by omega, fun j d hj => ?_⟩
  have := h3 (j + 1) d (by rw [List.getElem?_cons_succ]; exact hj)
  have hj2 := (List.getElem?_eq_some_iff.mp hj).1
  rw [List.length_cons, show t.length + 1 - 1 - (j + 1) = t.length - 1 - j by omega] at this
  rw [up_i (by omega), up_i (by omega), up_i (by omega)]
  exact this

def inn : List (Int × Int × Int) → Int
  | [] => 0
  | e :: _ => e.1
/-- one character more: the stage and what is open behind it -/
def fcl (os : List (Int × Int × Int)) (c : Int) : Option (Int × List (Int × Int × Int)) := match os with
  | [] => none
  | e :: t => if c = 44 ∧ e.1 = 91 then some (0, (44, e.2.1, 0) :: t) else if (c = 41 ∧ e.1 = 40) ∨ (c = 93 ∧ e.1 = 44) then some (1, t) else none
def fst (sg : Int) (os : List (Int × Int × Int)) (c : Int) : Option (Int × List (Int × Int × Int)) :=
  if crs c ≠ -1 then some (1, os) else if c = 40 ∨ c = 91 then (if os.length < 4 then some (0, (c, 0, 0) :: os) else none) else if sg = 0 then none else if c = 39 then (if sg = 1 then some (2, os) else none) else if 50 ≤ c ∧ c ≤ 57 then (if sg = 3 then none else some (3, os)) else fcl os c
/-- what a step's answer says -/
def FP (M : Mem) (o : Option (Int × List (Int × Int × Int))) (z : Int) (M' : Mem) : Prop := OffP M M' ∧ match o with
  | none => z = -1
  | some q => z = q.1 ∧ OpR M' q.2

/-- the fault of a text, from the place n on -/
def fgo : List Int → Int → Int → List (Int × Int × Int) → Int
  | [], n, sg, os => if sg = 0 ∨ os ≠ [] then n else -6
  | c :: cs, n, sg, os => match fst sg os c with
    | none => n
    | some q => fgo cs (n + 1) q.1 q.2
def faultT (w : List Int) : Int := fgo w 0 0 []
/-- the pad holds the text w -/
def Pw (M : Mem) (w : List Int) : Prop := M 104 1 = w.length ∧ w.length ≤ 60 ∧ (∀ k : Nat, k < w.length → M 105 k = w.getD k 0) ∧ ∀ c ∈ w, 33 ≤ c ∧ c ≤ 126
theorem Pw.off {M M' : Mem} {w : List Int} (h : Pw M w) (ho : OffP M M') : Pw M' w := by
  unfold Pw; rw [ho.2 1 (by omega), ho.1 105 (by omega) (by omega) (by omega) (by omega)]; exact h
theorem fst_ok {sg : Int} {os : List (Int × Int × Int)} {c : Int} {q : Int × List (Int × Int × Int)} (hs : ∀ e ∈ os, e.1 = 40 ∨ e.1 = 91 ∨ e.1 = 44) (h : fst sg os c = some q) : (0 ≤ q.1 ∧ q.1 ≤ 3) ∧ ∀ e ∈ q.2, e.1 = 40 ∨ e.1 = 91 ∨ e.1 = 44 := by
  unfold fst at h
  split at h
  · cases h; exact ⟨by omega, hs⟩
  · split at h
    · rename_i hc
      split at h
      · cases h
        refine ⟨by omega, fun e he => ?_⟩
        rcases List.mem_cons.mp he with rfl | he
        · rcases hc with rfl | rfl
          · exact Or.inl rfl
          · exact Or.inr (Or.inl rfl)
        · exact hs e he
      · cases h
    · split at h
      · cases h
      · split at h
        · split at h
          · cases h; exact ⟨by omega, hs⟩
          · cases h
        · split at h
          · split at h
            · cases h
            · cases h; exact ⟨by omega, hs⟩
          · unfold fcl at h
            split at h
            · cases h
            · rename_i e t _
              split at h
              · cases h
                refine ⟨by omega, fun d hd => ?_⟩
                rcases List.mem_cons.mp hd with rfl | hd
                · exact Or.inr (Or.inr rfl)
                · exact hs d (List.mem_cons_of_mem _ hd)
              · split at h
                · cases h; exact ⟨by omega, fun d hd => hs d (List.mem_cons_of_mem _ hd)⟩
                · cases h

/-! the pad read as a word -/
abbrev Os : Type := List (Int × Int × Int)
def sgn (os : Os) : List Int := os.map (fun e => e.1)
/-- one character read -/
def rst (w : List Int) (b : Nat) (os : Os) (c : Int) : List Int × Nat × Os :=
  if crs c ≠ -1 then (w ++ [crs c], w.length, os)
  else if c = 40 ∨ c = 91 then (w, b, (c, w.length, w.length) :: os)
  else if c = 44 then (w, b, match os with | [] => [] | e :: t => (44, e.2.1, w.length) :: t)
  else if c = 39 then (turnF w b, b, os)
  else if 50 ≤ c ∧ c ≤ 57 then (w ++ rpt ((c - 48).toNat - 1) (w.drop b), b, os)
  else match os with
    | [] => (w, b, [])
    | e :: t => (if c = 41 then w else w ++ (trn (slc w e.2.1.toNat e.2.2.toNat) ++ trn (slc w e.2.2.toNat w.length)), e.2.1.toNat, t)
def rgo : List Int → List Int → Nat → Os → List Int
  | [], w, _, _ => w
  | c :: cs, w, b, os => rgo cs (rst w b os c).1 (rst w b os c).2.1 (rst w b os c).2.2
/-- the word of a text -/
def textW (t : List Int) : List Int := rgo t [] 0 []
def OkR (w : List Int) (b : Nat) (os : Os) : Prop := Cr w ∧ b ≤ w.length ∧ ∀ e ∈ os, 0 ≤ e.2.1 ∧ e.2.1 ≤ e.2.2 ∧ e.2.2 ≤ w.length
theorem crs_rg {c : Int} (h : crs c ≠ -1) : 0 ≤ crs c ∧ crs c < 12 := by
  unfold crs at h ⊢
  split
  · omega
  · rename_i h1
    rw [if_neg h1] at h
    split
    · omega
    · rename_i h2; rw [if_neg h2] at h; exact absurd rfl h
theorem rst_ok {w : List Int} {b : Nat} {os : Os} {c : Int} (h : OkR w b os) : OkR (rst w b os c).1 (rst w b os c).2.1 (rst w b os c).2.2 ∧ w.length ≤ (rst w b os c).1.length := by
  obtain ⟨h1, h2, h3⟩ := h
  unfold rst
  split
  · rename_i hc
    refine ⟨⟨h1.app (Cr.one (crs_rg hc)), by simp, fun e he => ?_⟩, by simp⟩
    have := h3 e he; simp only [List.length_append, List.length_cons, List.length_nil]; omega
  · split
    · refine ⟨⟨h1, h2, fun e he => ?_⟩, Nat.le_refl _⟩
      rcases List.mem_cons.mp he with rfl | he
      · simp
      · exact h3 e he
    · split
      · refine ⟨⟨h1, h2, ?_⟩, Nat.le_refl _⟩
        cases os with
        | nil => intro e he; cases he
        | cons e t =>
          intro d hd
          rcases List.mem_cons.mp hd with rfl | hd
          · have := h3 e List.mem_cons_self; simp only; omega
          · exact h3 d (List.mem_cons_of_mem _ hd)
      · split
        · have e1 := turnF_len h2
          refine ⟨⟨turnF_cr h1 b, by simp only [e1]; exact h2, fun e he => ?_⟩, by simp only [e1]; exact Nat.le_refl _⟩
          have := h3 e he; simp only [e1]; exact this
        · split
          · refine ⟨⟨h1.app (rpt_cr (h1.drop b) _), by simp only [List.length_append]; omega, fun e he => ?_⟩, by simp only [List.length_append]; omega⟩
            have := h3 e he; simp only [List.length_append]; omega
          · cases os with
            | nil => exact ⟨⟨h1, h2, fun e he => by cases he⟩, Nat.le_refl _⟩
            | cons e t =>
              have he := h3 e List.mem_cons_self
              simp only
              split
              · exact ⟨⟨h1, by omega, fun d hd => h3 d (List.mem_cons_of_mem _ hd)⟩, Nat.le_refl _⟩
              · refine ⟨⟨h1.app ((cr_trn (slc_cr h1 _ _)).app (cr_trn (slc_cr h1 _ _))), by simp only [List.length_append]; omega, fun d hd => ?_⟩, by simp only [List.length_append]; omega⟩
                have := h3 d (List.mem_cons_of_mem _ hd); simp only [List.length_append]; omega
theorem rgo_len : ∀ (cs w : List Int) (b : Nat) (os : Os), OkR w b os → w.length ≤ (rgo cs w b os).length
  | [], w, b, os, _ => Nat.le_refl _
  | c :: cs, w, b, os, h => by
    have h1 := rst_ok (c := c) h
    have h2 := rgo_len cs _ _ _ h1.1
    rw [rgo]; omega
theorem rgo_cr : ∀ (cs w : List Int) (b : Nat) (os : Os), OkR w b os → Cr (rgo cs w b os)
  | [], w, b, os, h => h.1
  | c :: cs, w, b, os, h => by rw [rgo]; exact rgo_cr cs _ _ _ (rst_ok h).1
theorem textW_cr (t : List Int) : Cr (textW t) := rgo_cr t [] 0 [] ⟨(fun c h => by cases h), Nat.le_refl _, (fun e h => by cases h)⟩
/-- what a step without a fault says of what is open -/
theorem fst_sg {sg : Int} {o0 os : Os} {c : Int} {q : Int × Os} {w : List Int} {b : Nat} (hs : sgn o0 = sgn os) (h : fst sg o0 c = some q) : sgn q.2 = sgn (rst w b os c).2.2 ∧ (crs c = -1 → ¬ (c = 40 ∨ c = 91) → c = 44 → os ≠ []) ∧ (crs c = -1 → (c = 40 ∨ c = 91) → os.length < 4) ∧ (crs c = -1 → ¬ (c = 40 ∨ c = 91) → c ≠ 44 → c ≠ 39 → ¬ (50 ≤ c ∧ c ≤ 57) → os ≠ [] ∧ (c = 41 ∨ c = 93)) := by
  have hl : o0.length = os.length := by have := congrArg List.length hs; simpa [sgn] using this
  unfold fst at h
  unfold rst
  split at h
  · rename_i hc
    cases h
    rw [if_pos hc]
    exact ⟨hs, fun h => absurd h hc, fun h => absurd h hc, fun h => absurd h hc⟩
  · rename_i hc
    rw [if_neg hc]
    split at h
    · rename_i h40
      rw [if_pos h40]
      split at h
      · rename_i h4
        cases h
        exact ⟨by simp only [sgn, List.map_cons] at hs ⊢; rw [hs], fun _ h => absurd h40 h, fun _ _ => by omega, fun _ h => absurd h40 h⟩
      · cases h
    · rename_i h40
      rw [if_neg h40]
      split at h
      · cases h
      · split at h
        · rename_i h39
          split at h
          · cases h
            rw [if_neg (by omega), if_pos h39]
            exact ⟨hs, fun _ _ h => by omega, fun _ h => absurd h h40, fun _ _ _ h => absurd h39 h⟩
          · cases h
        · rename_i h39
          split at h
          · rename_i hd
            split at h
            · cases h
            · cases h
              rw [if_neg (by omega), if_neg h39, if_pos hd]
              exact ⟨hs, fun _ _ h => by omega, fun _ h => absurd h h40, fun _ _ _ _ h => absurd hd h⟩
          · rename_i hd
            unfold fcl at h
            split at h
            · cases h
            · rename_i e0 t0
              cases os with
              | nil => simp at hl
              | cons e t =>
                simp only [sgn, List.map_cons] at hs
                injection hs with hs1 hs2
                split at h
                · rename_i h44
                  cases h
                  rw [if_pos h44.1]
                  exact ⟨by simp only [sgn, List.map_cons]; rw [hs2], (fun _ _ _ h => by cases h), fun _ h => absurd h h40, fun _ _ h => absurd h44.1 h⟩
                · split at h
                  · rename_i h44 h41
                    cases h
                    rw [if_neg (by omega), if_neg h39, if_neg hd]
                    exact ⟨hs2, (fun _ _ _ h => by cases h), fun _ h => absurd h h40, fun _ _ _ _ _ => ⟨(fun h => by cases h), by omega⟩⟩
                  · cases h

theorem slc_ap {w s : List Int} {a b : Nat} (h : b ≤ w.length) : slc (w ++ s) a b = slc w a b := by unfold slc; rw [List.take_append_of_le_length h]
def OffR (M M' : Mem) : Prop := (∀ a, a ≠ 104 → a ≠ 106 → a ≠ 107 → a ≠ 108 → a ≠ 114 → a ≠ 115 → M' a = M a) ∧ ∀ k, k ≠ 5 → M' 104 k = M 104 k
theorem OffR.tr {M M' M'' : Mem} (h : OffR M M') (k : OffR M' M'') : OffR M M'' := ⟨fun a h1 h2 h3 h4 h5 h6 => (k.1 a h1 h2 h3 h4 h5 h6).trans (h.1 a h1 h2 h3 h4 h5 h6), fun j hj => (k.2 j hj).trans (h.2 j hj)⟩
theorem OffP.r {M M' : Mem} (h : OffP M M') : OffR M M' := ⟨fun a h1 h2 h3 h4 _ _ => h.1 a h1 h2 h3 h4, h.2⟩
theorem Off.r {M M' : Mem} (h : Off 114 M M') : OffR M M' := ⟨fun a _ _ _ _ h5 h6 => h a h5 h6, fun k _ => by rw [h 104 (by omega) (by omega)]⟩
theorem OpR.off {M M' : Mem} {os : Os} (h : OpR M os) (ho : Off 114 M M') : OpR M' os := by
  unfold OpR; rw [ho 104 (by omega) (by omega), ho 106 (by omega) (by omega), ho 107 (by omega) (by omega), ho 108 (by omega) (by omega)]; exact h
theorem Wd.offP {M M' : Mem} {w : List Int} (h : Wd M 114 w) (ho : OffP M M') : Wd M' 114 w := h.same (ho.1 114 (by omega) (by omega) (by omega) (by omega)) (ho.1 115 (by omega) (by omega) (by omega) (by omega))
theorem Pw.offR {M M' : Mem} {w : List Int} (h : Pw M w) (ho : OffR M M') : Pw M' w := by
  unfold Pw; rw [ho.2 1 (by omega), ho.1 105 (by omega) (by omega) (by omega) (by omega) (by omega) (by omega)]; exact h

/-! the pad read as a word -/
abbrev Os : Type := List (Int × Int × Int)
def sgn (os : Os) : List Int := os.map (fun e => e.1)
/-- one character read -/
def rst (w : List Int) (b : Nat) (os : Os) (c : Int) : List Int × Nat × Os :=
  if crs c ≠ -1 then (w ++ [crs c], w.length, os)
  else if c = 40 ∨ c = 91 then (w, b, (c, w.length, w.length) :: os)
  else if c = 44 then (w, b, match os with | [] => [] | e :: t => (44, e.2.1, w.length) :: t)
  else if c = 39 then (turnF w b, b, os)
  else if 50 ≤ c ∧ c ≤ 57 then (w ++ rpt ((c - 48).toNat - 1) (w.drop b), b, os)
  else match os with
    | [] => (w, b, [])
    | e :: t => (if c = 41 then w else w ++ (trn (slc w e.2.1.toNat e.2.2.toNat) ++ trn (slc w e.2.2.toNat w.length)), e.2.1.toNat, t)
def rgo : List Int → List Int → Nat → Os → List Int
  | [], w, _, _ => w
  | c :: cs, w, b, os => rgo cs (rst w b os c).1 (rst w b os c).2.1 (rst w b os c).2.2
/-- the word of a text -/
def textW (t : List Int) : List Int := rgo t [] 0 []
def OkR (w : List Int) (b : Nat) (os : Os) : Prop := Cr w ∧ b ≤ w.length ∧ ∀ e ∈ os, 0 ≤ e.2.1 ∧ e.2.1 ≤ e.2.2 ∧ e.2.2 ≤ w.length
theorem crs_rg {c : Int} (h : crs c ≠ -1) : 0 ≤ crs c ∧ crs c < 12 := by
  unfold crs at h ⊢
  split
  · omega
  · rename_i h1
    rw [if_neg h1] at h
    split
    · omega
    · rename_i h2; rw [if_neg h2] at h; exact absurd rfl h
theorem rst_ok {w : List Int} {b : Nat} {os : Os} {c : Int} (h : OkR w b os) : OkR (rst w b os c).1 (rst w b os c).2.1 (rst w b os c).2.2 ∧ w.length ≤ (rst w b os c).1.length := by
  obtain ⟨h1, h2, h3⟩ := h
  unfold rst
  split
  · rename_i hc
    refine ⟨⟨h1.app (Cr.one (crs_rg hc)), by simp, fun e he => ?_⟩, by simp⟩
    have := h3 e he; simp only [List.length_append, List.length_cons, List.length_nil]; omega
  · split
    · refine ⟨⟨h1, h2, fun e he => ?_⟩, Nat.le_refl _⟩
      rcases List.mem_cons.mp he with rfl | he
      · simp
      · exact h3 e he
    · split
      · refine ⟨⟨h1, h2, ?_⟩, Nat.le_refl _⟩
        cases os with
        | nil => intro e he; cases he
        | cons e t =>
          intro d hd
          rcases List.mem_cons.mp hd with rfl | hd
          · have := h3 e List.mem_cons_self; simp only; omega
          · exact h3 d (List.mem_cons_of_mem _ hd)
      · split
        · have e1 := turnF_len h2
          refine ⟨⟨turnF_cr h1 b, by simp only [e1]; exact h2, fun e he => ?_⟩, by simp only [e1]; exact Nat.le_refl _⟩
          have := h3 e he; simp only [e1]; exact this
        · split
          · refine ⟨⟨h1.app (rpt_cr (h1.drop b) _), by simp only [List.length_append]; omega, fun e he => ?_⟩, by simp only [List.length_append]; omega⟩
            have := h3 e he; simp only [List.length_append]; omega
          · cases os with
            | nil => exact ⟨⟨h1, h2, fun e he => by cases he⟩, Nat.le_refl _⟩
            | cons e t =>
              have he := h3 e List.mem_cons_self
              simp only
              split
              · exact ⟨⟨h1, by omega, fun d hd => h3 d (List.mem_cons_of_mem _ hd)⟩, Nat.le_refl _⟩
              · refine ⟨⟨h1.app ((cr_trn (slc_cr h1 _ _)).app (cr_trn (slc_cr h1 _ _))), by simp only [List.length_append]; omega, fun d hd => ?_⟩, by simp only [List.length_append]; omega⟩
                have := h3 d (List.mem_cons_of_mem _ hd); simp only [List.length_append]; omega
theorem rgo_len : ∀ (cs w : List Int) (b : Nat) (os : Os), OkR w b os → w.length ≤ (rgo cs w b os).length
  | [], w, b, os, _ => Nat.le_refl _
  | c :: cs, w, b, os, h => by
    have h1 := rst_ok (c := c) h
    have h2 := rgo_len cs _ _ _ h1.1
    rw [rgo]; omega
theorem rgo_cr : ∀ (cs w : List Int) (b : Nat) (os : Os), OkR w b os → Cr (rgo cs w b os)
  | [], w, b, os, h => h.1
  | c :: cs, w, b, os, h => by rw [rgo]; exact rgo_cr cs _ _ _ (rst_ok h).1
theorem textW_cr (t : List Int) : Cr (textW t) := rgo_cr t [] 0 [] ⟨(fun c h => by cases h), Nat.le_refl _, (fun e h => by cases h)⟩
/-- what a step without a fault says of what is open -/
theorem fst_sg {sg : Int} {o0 os : Os} {c : Int} {q : Int × Os} {w : List Int} {b : Nat} (hs : sgn o0 = sgn os) (h : fst sg o0 c = some q) : sgn q.2 = sgn (rst w b os c).2.2 ∧ (crs c = -1 → ¬ (c = 40 ∨ c = 91) → c = 44 → os ≠ []) ∧ (crs c = -1 → (c = 40 ∨ c = 91) → os.length < 4) ∧ (crs c = -1 → ¬ (c = 40 ∨ c = 91) → c ≠ 44 → c ≠ 39 → ¬ (50 ≤ c ∧ c ≤ 57) → os ≠ [] ∧ (c = 41 ∨ c = 93)) := by
  have hl : o0.length = os.length := by have := congrArg List.length hs; simpa [sgn] using this
  unfold fst at h
  unfold rst
  split at h
  · rename_i hc
    cases h
    rw [if_pos hc]
    exact ⟨hs, fun h => absurd h hc, fun h => absurd h hc, fun h => absurd h hc⟩
  · rename_i hc
    rw [if_neg hc]
    split at h
    · rename_i h40
      rw [if_pos h40]
      split at h
      · rename_i h4
        cases h
        exact ⟨by simp only [sgn, List.map_cons] at hs ⊢; rw [hs], fun _ h => absurd h40 h, fun _ _ => by omega, fun _ h => absurd h40 h⟩
      · cases h
    · rename_i h40
      rw [if_neg h40]
      split at h
      · cases h
      · split at h
        · rename_i h39
          split at h
          · cases h
            rw [if_neg (by omega), if_pos h39]
            exact ⟨hs, fun _ _ h => by omega, fun _ h => absurd h h40, fun _ _ _ h => absurd h39 h⟩
          · cases h
        · rename_i h39
          split at h
          · rename_i hd
            split at h
            · cases h
            · cases h
              rw [if_neg (by omega), if_neg h39, if_pos hd]
              exact ⟨hs, fun _ _ h => by omega, fun _ h => absurd h h40, fun _ _ _ _ h => absurd hd h⟩
          · rename_i hd
            unfold fcl at h
            split at h
            · cases h
            · rename_i e0 t0
              cases os with
              | nil => simp at hl
              | cons e t =>
                simp only [sgn, List.map_cons] at hs
                injection hs with hs1 hs2
                split at h
                · rename_i h44
                  cases h
                  rw [if_pos h44.1]
                  exact ⟨by simp only [sgn, List.map_cons]; rw [hs2], (fun _ _ _ h => by cases h), fun _ h => absurd h h40, fun _ _ h => absurd h44.1 h⟩
                · split at h
                  · rename_i h44 h41
                    cases h
                    rw [if_neg (by omega), if_neg h39, if_neg hd]
                    exact ⟨hs2, (fun _ _ _ h => by cases h), fun _ h => absurd h h40, fun _ _ _ _ _ => ⟨(fun h => by cases h), by omega⟩⟩
                  · cases h

theorem slc_ap {w s : List Int} {a b : Nat} (h : b ≤ w.length) : slc (w ++ s) a b = slc w a b := by unfold slc; rw [List.take_append_of_le_length h]
theorem c_X0_addTurnedHalves {g : GE} {l : Launch} {M : Mem} {w : List Int} (hw : Wd M 114 w) (hc : w.length ≤ 480) {a m : Nat} (ham : a ≤ m) (hm : m ≤ w.length) : Ci g l μX0_addTurnedHalves [vR g 114, vI a, vI m] M (fun z M' => Off 114 M M' ∧ ((z = 1 ∧ w.length + (w.length - a) ≤ 480 ∧ Wd M' 114 (w ++ (trn (slc w a m) ++ trn (slc w m w.length)))) ∨ (z = 0 ∧ 480 < w.length + (w.length - a)))) := by
  refine Ci.of (by decide +kernel) rfl rfl (fun x hx hr => ?_)
  have hwl := hw.1
  have hs1 := slc_len (a := a) hm
  have hs2 := slc_len (v := w) (a := m) (Nat.le_refl _)
  refine k_aload_n hx dX0_addTurnedHalves_0 0 rfl ?_
  refine k_get (v := vI w.length) hx fX0_65 dX0_addTurnedHalves_1 n_114 L_114 (congrArg vI (show M 114 1 = w.length from hwl)) ?_
  refine k_istore_n (ls' := [(0, vR g 114), (1, vI a), (2, vI m), (3, vI w.length)]) hx dX0_addTurnedHalves_4 rfl rfl (by decide) ?_
  refine k_aload_n hx dX0_addTurnedHalves_5 0 rfl ?_
  refine k_aload_n hx dX0_addTurnedHalves_6 0 rfl ?_
  refine k_iload_n hx dX0_addTurnedHalves_7 1 rfl ?_
  refine k_iload_n hx dX0_addTurnedHalves_8 2 rfl ?_
  refine k_vi (rest := []) hx vX0_79 dX0_addTurnedHalves_9 (c_X4_addTurnedPart isW_114 hw hc isW_114 hw hc (fun h => absurd rfl h) (fun _ => rfl) (a := a) (b := m) ham hm) n_114 L_114 rfl rfl rfl ⟨rfl, rfl⟩ ⟨by decide, by decide⟩ (fun z_9 M_9 p_9 => ?_)
  obtain ⟨ho1, hq1⟩ := p_9
  rcases hq1 with ⟨rfl, hf1, hw1⟩ | ⟨rfl, hf1⟩
  rotate_left
  · refine k_ifeq hx dX0_addTurnedHalves_12 (by omega) (fun h_12 => ?_) (fun h_12 => absurd rfl h_12)
    refine k_iconst hx dX0_addTurnedHalves_29 ?_
    refine k_rz hx hr dX0_addTurnedHalves_30 (Or.inl rfl) ?_
    exact ⟨ho1, Or.inr ⟨rfl, by omega⟩⟩
  have hl1 : (w ++ trn (slc w a m)).length = w.length + (m - a) := by rw [List.length_append, trn_len, hs1]
  refine k_ifeq hx dX0_addTurnedHalves_12 (by omega) (fun h_12 => absurd h_12 (by omega)) (fun h_12 => ?_)
  refine k_aload_n hx dX0_addTurnedHalves_15 0 rfl ?_
  refine k_aload_n hx dX0_addTurnedHalves_16 0 rfl ?_
  refine k_iload_n hx dX0_addTurnedHalves_17 2 rfl ?_
  refine k_iload_n hx dX0_addTurnedHalves_18 3 rfl ?_
  refine k_vi (rest := []) hx vX0_79 dX0_addTurnedHalves_19 (c_X4_addTurnedPart isW_114 hw1 (by omega) isW_114 hw1 (by omega) (fun h => absurd rfl h) (fun _ => rfl) (a := m) (b := w.length) hm (by omega)) n_114 L_114 rfl rfl rfl ⟨rfl, rfl⟩ ⟨by decide, by decide⟩ (fun z_19 M_19 p_19 => ?_)
  obtain ⟨ho2, hq2⟩ := p_19
  rw [slc_ap (Nat.le_refl _)] at hq2
  refine k_ifeq hx dX0_addTurnedHalves_22 (by rcases hq2 with h | h <;> omega) (fun h_22 => ?_) (fun h_22 => ?_)
  · refine k_iconst hx dX0_addTurnedHalves_29 ?_
    refine k_rz hx hr dX0_addTurnedHalves_30 (by first | exact Or.inl rfl | exact Or.inr rfl | exact b2i_or _) ?_
    refine ⟨ho1.tr ho2, ?_⟩
    rcases hq2 with ⟨h1, h2, h3⟩ | ⟨h1, h2⟩
    · omega
    · exact Or.inr ⟨rfl, by omega⟩
  · refine k_iconst hx dX0_addTurnedHalves_25 ?_
    refine k_goto hx dX0_addTurnedHalves_26 ?_
    refine k_rz hx hr dX0_addTurnedHalves_30 (by first | exact Or.inl rfl | exact Or.inr rfl | exact b2i_or _) ?_
    refine ⟨ho1.tr ho2, ?_⟩
    rcases hq2 with ⟨h1, h2, h3⟩ | ⟨h1, h2⟩
    · exact Or.inl ⟨rfl, by omega, by rw [← List.append_assoc]; exact h3⟩
    · exact absurd h1 h_22
def OffR (M M' : Mem) : Prop := (∀ a, a ≠ 104 → a ≠ 106 → a ≠ 107 → a ≠ 108 → a ≠ 114 → a ≠ 115 → M' a = M a) ∧ ∀ k, k ≠ 5 → M' 104 k = M 104 k
theorem OffR.tr {M M' M'' : Mem} (h : OffR M M') (k : OffR M' M'') : OffR M M'' := ⟨fun a h1 h2 h3 h4 h5 h6 => (k.1 a h1 h2 h3 h4 h5 h6).trans (h.1 a h1 h2 h3 h4 h5 h6), fun j hj => (k.2 j hj).trans (h.2 j hj)⟩
theorem OffP.r {M M' : Mem} (h : OffP M M') : OffR M M' := ⟨fun a h1 h2 h3 h4 _ _ => h.1 a h1 h2 h3 h4, h.2⟩
theorem Off.r {M M' : Mem} (h : Off 114 M M') : OffR M M' := ⟨fun a _ _ _ _ h5 h6 => h a h5 h6, fun k _ => by rw [h 104 (by omega) (by omega)]⟩
theorem OpR.off {M M' : Mem} {os : Os} (h : OpR M os) (ho : Off 114 M M') : OpR M' os := by
  unfold OpR; rw [ho 104 (by omega) (by omega), ho 106 (by omega) (by omega), ho 107 (by omega) (by omega), ho 108 (by omega) (by omega)]; exact h
theorem Wd.offP {M M' : Mem} {w : List Int} (h : Wd M 114 w) (ho : OffP M M') : Wd M' 114 w := h.same (ho.1 114 (by omega) (by omega) (by omega) (by omega)) (ho.1 115 (by omega) (by omega) (by omega) (by omega))
theorem Pw.offR {M M' : Mem} {w : List Int} (h : Pw M w) (ho : OffR M M') : Pw M' w := by
  unfold Pw; rw [ho.2 1 (by omega), ho.1 105 (by omega) (by omega) (by omega) (by omega) (by omega) (by omega)]; exact h

theorem c_X0_readInto {g : GE} {l : Launch} {M : Mem} {t : List Int} (ht : Pw M t) (hft : faultT t = -6) : Ci g l μX0_readInto [vR g 104, vR g 114] M (fun z M' => OffR M M' ∧ ((z = 1 ∧ (textW t).length ≤ 480 ∧ Wd M' 114 (textW t)) ∨ (z = 0 ∧ 480 < (textW t).length))) := by
  refine Ci.of (by decide +kernel) rfl rfl (fun x hx hr => ?_)
  have loop : ∀ (f : Nat), ∀ (k : Nat) (sg z : Int) (w : List Int) (b : Nat) (o0 os : Os) (M' : Mem), z = k → k ≤ t.length → t.length - k < f → (0 ≤ sg ∧ sg ≤ 3) → (∀ e ∈ o0, e.1 = 40 ∨ e.1 = 91 ∨ e.1 = 44) → sgn o0 = sgn os → fgo (t.drop k) k sg o0 = -6 → rgo (t.drop k) w b os = textW t → OkR w b os → w.length ≤ 480 → Wd M' 114 w → OpR M' os → OffR M M' → K x g 0 0 LAY NN M' 13 [(0, vR g 104), (1, vR g 114), (2, vI b), (3, vI z)] [] := by
    intro f
    induction f with
    | zero => intro k sg z w b o0 os M' hz hk hf hsg hs hso hgo hrg hok hwc hw hop ho; omega
    | succ f ih =>
      intro k sg z w b o0 os M' hz hk hf hsg hs hso hgo hrg hok hwc hw hop ho
      have ht' := ht.offR ho
      have htl := ht'.1
      have ht60 := ht'.2.1
      have hwl := hw.1
      have h45 := hop.1
      have h44 := hop.2.1
      refine k_iload_n hx dX0_readInto_13 3 rfl ?_
      refine k_aload_n hx dX0_readInto_14 0 rfl ?_
      refine k_get (v := vI (M' 104 1)) hx fX0_15 dX0_readInto_15 n_104 L_104 rfl ?_
      refine k_icmp_ge hx dX0_readInto_18 (by omega) (fun h_18 => ?_) (fun h_18 => ?_)
      · refine k_iconst hx dX0_readInto_216 ?_
        refine k_rz hx hr dX0_readInto_217 (by first | exact Or.inl rfl | exact Or.inr rfl | exact b2i_or _) ?_
        have hdn : t.drop k = [] := List.drop_eq_nil_of_le (by omega)
        rw [hdn, rgo] at hrg
        subst hrg
        exact ⟨ho, Or.inl ⟨rfl, hwc, hw⟩⟩
      · have hkl : k < t.length := by omega
        obtain ⟨c, hcd⟩ : ∃ c, c = t.getD k 0 := ⟨_, rfl⟩
        have e1 : M' 105 z = c := by rw [hz, hcd]; exact ht'.2.2.1 k hkl
        have hcm : c ∈ t := by rw [hcd, List.getD_eq_getElem?_getD, List.getElem?_eq_getElem hkl]; exact List.getElem_mem hkl
        have hcr := ht'.2.2.2 _ hcm
        have hdr : t.drop k = c :: t.drop (k + 1) := by rw [List.drop_eq_getElem_cons hkl, hcd, List.getD_eq_getElem?_getD, List.getElem?_eq_getElem hkl]; rfl
        rw [hdr, fgo] at hgo
        rw [hdr, rgo] at hrg
        have hcr12 : -1 ≤ crs c ∧ crs c < 12 := by unfold crs; split; omega; split <;> omega
        obtain ⟨q, hq⟩ : ∃ q, fst sg o0 c = some q := by
          cases h : fst sg o0 c with
          | none => rw [h] at hgo; simp only at hgo; omega
          | some q => exact ⟨q, rfl⟩
        rw [hq] at hgo
        simp only at hgo
        have hok2 := fst_ok hs hq
        obtain ⟨hn1, hn2, hn3, hn4⟩ := fst_sg (w := w) (b := b) hso hq
        obtain ⟨hr1, hr2⟩ := rst_ok (c := c) hok
        have hfl := rgo_len (t.drop (k + 1)) _ _ _ hr1
        rw [hrg] at hfl
        have join : ∀ (y : Int) (b' : Int) (M'' : Mem), b' = ((rst w b os c).2.1 : Nat) → OffR M M'' → ((y = 1 ∧ (rst w b os c).1.length ≤ 480 ∧ Wd M'' 114 (rst w b os c).1 ∧ OpR M'' (rst w b os c).2.2) ∨ (y = 0 ∧ 480 < (rst w b os c).1.length)) → K x g 0 0 LAY NN M'' 203 [(0, vR g 104), (1, vR g 114), (2, vI b'), (3, vI z), (4, vI c), (5, vI y)] [] := by
          intro y b' M'' hb' ho'' hy
          subst hb'
          rcases hy with ⟨rfl, y1, y2, y3⟩ | ⟨rfl, y1⟩
          · refine k_iload hx dX0_readInto_203 5 rfl ?_
            refine k_ifne hx dX0_readInto_205 (by omega) (fun h_205 => ?_) (fun h_205 => absurd h_205 (by omega))
            refine k_iinc (ls' := [(0, vR g 104), (1, vR g 114), (2, vI ((rst w b os c).2.1 : Nat)), (3, vI (z + 1)), (4, vI c), (5, vI 1)]) hx dX0_readInto_210 3 rfl rfl rfl (by decide) ?_
            refine k_goto hx dX0_readInto_213 ?_
            refine K.sub [0, 1, 2, 3] rfl ?_
            exact ih (k + 1) q.1 (z + 1) _ _ q.2 _ M'' (by omega) (by omega) (by omega) hok2.1 hok2.2 hn1 hgo hrg hr1 y1 y2 y3 ho''
          · refine k_iload hx dX0_readInto_203 5 rfl ?_
            refine k_ifne hx dX0_readInto_205 (by omega) (fun h_205 => absurd h_205 (by omega)) (fun h_205 => ?_)
            refine k_iconst hx dX0_readInto_208 ?_
            refine k_rz hx hr dX0_readInto_209 (by first | exact Or.inl rfl | exact Or.inr rfl | exact b2i_or _) ?_
            exact ⟨ho'', Or.inr ⟨rfl, by omega⟩⟩
        refine k_aload_n hx dX0_readInto_21 0 rfl ?_
        refine k_get (v := vR g 105) hx fX0_9 dX0_readInto_22 n_104 L_104 rfl ?_
        refine k_iload_n hx dX0_readInto_25 3 rfl ?_
        refine k_iald (v := c) hx dX0_readInto_26 n_105 L_105 (by omega) (by decide) (e1) ?_
        refine k_istore (ls' := [(0, vR g 104), (1, vR g 114), (2, vI b), (3, vI z), (4, vI c)]) hx dX0_readInto_27 rfl rfl (by decide) ?_
        refine k_iconst hx dX0_readInto_29 ?_
        refine k_istore (ls' := [(0, vR g 104), (1, vR g 114), (2, vI b), (3, vI z), (4, vI c), (5, vI 1)]) hx dX0_readInto_30 rfl rfl (by decide) ?_
        refine k_iload hx dX0_readInto_32 4 rfl ?_
        refine k_sp (rest := []) (e := (crs c)) hx sX0_37 dX0_readInto_34 (c_X0_crossingOf (c := c) (by omega)) rfl rfl rfl ⟨rfl, rfl⟩ ⟨by decide, by decide⟩ ?_
        refine k_iconst hx dX0_readInto_37 ?_
        refine k_icmp_eq hx dX0_readInto_38 (by omega) (fun h_38 => ?_) (fun h_38 => ?_)
        · refine k_iload hx dX0_readInto_60 4 rfl ?_
          refine k_bipush hx dX0_readInto_62 (by decide +kernel) ?_
          refine k_icmp_eq hx dX0_readInto_64 (by omega) (fun h_64 => ?_) (fun h_64 => ?_)
          · refine k_aload_n hx dX0_readInto_74 0 rfl ?_
            refine k_iload hx dX0_readInto_75 4 rfl ?_
            refine k_aload_n hx dX0_readInto_77 1 rfl ?_
            have hcp : c = 40 ∨ c = 91 := by omega
            have hre : rst w b os c = (w, b, (c, (w.length : Int), (w.length : Int)) :: os) := by unfold rst; rw [if_neg (by omega), if_pos hcp]
            rw [hre] at join
            refine k_get (v := vI w.length) hx fX0_65 dX0_readInto_78 n_114 L_114 (congrArg vI (show M' 114 1 = w.length from hwl)) ?_
            refine k_vi (rest := []) hx vX0_41 dX0_readInto_81 (c_X0_open hop (hn3 (by omega) hcp) (s := c) (a := w.length)) n_104 L_104 rfl rfl rfl ⟨rfl, rfl⟩ ⟨by decide, by decide⟩ (fun z_81 M_81 p_81 => ?_)
            obtain ⟨rfl, q1, q2⟩ := p_81
            refine k_istore (ls' := [(0, vR g 104), (1, vR g 114), (2, vI b), (3, vI z), (4, vI c), (5, vI 1)]) hx dX0_readInto_84 rfl rfl (by decide) ?_
            refine k_goto hx dX0_readInto_86 ?_
            refine K.sub [0, 1, 2, 3, 4, 5] rfl ?_
            exact join 1 _ M_81 rfl (ho.tr q2.r) (Or.inl ⟨rfl, hwc, hw.offP q2, q1⟩)
          · refine k_iload hx dX0_readInto_67 4 rfl ?_
            refine k_bipush hx dX0_readInto_69 (by decide +kernel) ?_
            refine k_icmp_ne hx dX0_readInto_71 (by omega) (fun h_71 => ?_) (fun h_71 => ?_)
            · refine k_iload hx dX0_readInto_89 4 rfl ?_
              refine k_bipush hx dX0_readInto_91 (by decide +kernel) ?_
              refine k_icmp_ne hx dX0_readInto_93 (by omega) (fun h_93 => ?_) (fun h_93 => ?_)
              · refine k_iload hx dX0_readInto_107 4 rfl ?_
                refine k_bipush hx dX0_readInto_109 (by decide +kernel) ?_
                refine k_icmp_ne hx dX0_readInto_111 (by omega) (fun h_111 => ?_) (fun h_111 => ?_)
                · refine k_iload hx dX0_readInto_122 4 rfl ?_
                  refine k_sp (rest := []) (e := (b2i (decide (50 ≤ c ∧ c ≤ 57)))) hx sX0_45 dX0_readInto_124 (c_X0_isTimes (c := c) (by omega)) rfl rfl rfl ⟨rfl, rfl⟩ ⟨by decide, by decide⟩ ?_
                  refine k_beq hx dX0_readInto_127 (fun h_127 => ?_) (fun h_127 => ?_)
                  · refine k_aload_n hx dX0_readInto_145 0 rfl ?_
                    obtain ⟨hne, hcc⟩ := hn4 (by omega) (by omega) h_93 h_111 h_127
                    obtain ⟨e, tt, hos⟩ : ∃ e tt, os = e :: tt := by cases os with | nil => exact absurd rfl hne | cons e tt => exact ⟨e, tt, rfl⟩
                    subst hos
                    have he := hok.2.2 e List.mem_cons_self
                    have hre : rst w b (e :: tt) c = (if c = 41 then w else w ++ (trn (slc w e.2.1.toNat e.2.2.toNat) ++ trn (slc w e.2.2.toNat w.length)), e.2.1.toNat, tt) := by unfold rst; rw [if_neg (by omega), if_neg (by omega), if_neg h_93, if_neg h_111, if_neg h_127]
                    rw [hre] at join
                    rw [List.length_cons] at h45 h44
                    have h6 := hop.2.2 0 e rfl
                    rw [List.length_cons, show tt.length + 1 - 1 - 0 = tt.length by omega] at h6
                    have hpop := hop.pop (z := (tt.length : Int)) rfl
                    refine k_get (v := vI (tt.length + 1)) hx fX0_28 dX0_readInto_146 n_104 L_104 (congrArg vI (show M' 104 5 = (tt.length + 1) from by rw [h45]; rfl)) ?_
                    refine k_ifle hx dX0_readInto_149 (by omega) (fun h_149 => absurd h_149 (by omega)) (fun h_149 => ?_)
                    refine k_aload_n hx dX0_readInto_152 0 rfl ?_
                    refine k_dup hx dX0_readInto_153 rfl ?_
                    refine k_get (v := vI (tt.length + 1)) hx fX0_28 dX0_readInto_154 n_104 L_104 (congrArg vI (show M' 104 5 = (tt.length + 1) from by rw [h45]; rfl)) ?_
                    refine k_iconst hx dX0_readInto_157 ?_
                    refine k_isub hx dX0_readInto_158 ?_
                    rw [show (tt.length : Int) + 1 - 1 = tt.length by omega]
                    refine k_putI (kz := 5) hx fX0_28 dX0_readInto_159 n_104 L_104 rfl rfl (fun M_159 hM_159 => ?_)
                    rw [← hM_159] at hpop
                    have hw9 : Wd M_159 114 w := by rw [hM_159]; exact hw.same (up_i (by omega)) (up_i (by omega))
                    have ho9 : OffR M M_159 := ho.tr (by rw [hM_159]; exact ⟨fun a h1 _ _ _ _ _ => up_i h1, fun j hj => up_k hj⟩)
                    have hst : e.2.1 = ((e.2.1.toNat : Nat) : Int) := by omega
                    have hmd : e.2.2 = ((e.2.2.toNat : Nat) : Int) := by omega
                    refine k_aload_n hx dX0_readInto_162 0 rfl ?_
                    refine k_get (v := vR g 107) hx fX0_22 dX0_readInto_163 n_104 L_104 rfl ?_
                    refine k_aload_n hx dX0_readInto_166 0 rfl ?_
                    refine k_get (v := vI tt.length) hx fX0_28 dX0_readInto_167 n_104 L_104 (congrArg vI (show M_159 104 5 = tt.length from by rw [hM_159, up_s])) ?_
                    refine k_iald (v := (e.2.1.toNat : Nat)) hx dX0_readInto_170 n_107 L_107 (by omega) (by decide) (by rw [hM_159, up_i (by omega), h6.2.1]; exact hst) ?_
                    refine k_istore_n (ls' := [(0, vR g 104), (1, vR g 114), (2, vI (e.2.1.toNat : Nat)), (3, vI z), (4, vI c), (5, vI 1)]) hx dX0_readInto_171 rfl rfl (by decide) ?_
                    refine k_iload hx dX0_readInto_172 4 rfl ?_
                    refine k_bipush hx dX0_readInto_174 (by decide +kernel) ?_
                    refine k_icmp_eq hx dX0_readInto_176 (by omega) (fun h_176 => ?_) (fun h_176 => ?_)
                    · refine k_iconst hx dX0_readInto_196 ?_
                      refine k_goto hx dX0_readInto_197 ?_
                      refine k_istore (ls' := [(0, vR g 104), (1, vR g 114), (2, vI (e.2.1.toNat : Nat)), (3, vI z), (4, vI c), (5, vI 1)]) hx dX0_readInto_201 rfl rfl (by decide) ?_
                      refine K.sub [0, 1, 2, 3, 4, 5] rfl ?_
                      rw [if_pos h_176] at join
                      exact join 1 _ M_159 rfl ho9 (Or.inl ⟨rfl, hwc, hw9, hpop⟩)
                    · refine k_aload_n hx dX0_readInto_179 1 rfl ?_
                      refine k_iload_n hx dX0_readInto_180 2 rfl ?_
                      refine k_aload_n hx dX0_readInto_181 0 rfl ?_
                      refine k_get (v := vR g 108) hx fX0_25 dX0_readInto_182 n_104 L_104 rfl ?_
                      refine k_aload_n hx dX0_readInto_185 0 rfl ?_
                      refine k_get (v := vI tt.length) hx fX0_28 dX0_readInto_186 n_104 L_104 (congrArg vI (show M_159 104 5 = tt.length from by rw [hM_159, up_s])) ?_
                      refine k_iald (v := (e.2.2.toNat : Nat)) hx dX0_readInto_189 n_108 L_108 (by omega) (by decide) (by rw [hM_159, up_i (by omega), h6.2.2]; exact hmd) ?_
                      refine k_si (rest := []) hx sX0_75 dX0_readInto_190 (c_X0_addTurnedHalves hw9 hwc (a := e.2.1.toNat) (m := e.2.2.toNat) (by omega) (by omega)) rfl rfl rfl ⟨rfl, rfl⟩ ⟨by decide, by decide⟩ (fun z_190 M_190 p_190 => ?_)
                      obtain ⟨q1, q2⟩ := p_190
                      have hl9 : (w ++ (trn (slc w e.2.1.toNat e.2.2.toNat) ++ trn (slc w e.2.2.toNat w.length))).length = w.length + (w.length - e.2.1.toNat) := by
                        rw [List.length_append, List.length_append, trn_len, trn_len, slc_len (by omega), slc_len (Nat.le_refl _)]; omega
                      rw [if_neg (by omega)] at join
                      refine k_ifeq hx dX0_readInto_193 (by rcases q2 with h | h <;> omega) (fun h_193 => ?_) (fun h_193 => ?_)
                      · refine k_iconst hx dX0_readInto_200 ?_
                        refine k_istore (ls' := [(0, vR g 104), (1, vR g 114), (2, vI (e.2.1.toNat : Nat)), (3, vI z), (4, vI c), (5, vI 0)]) hx dX0_readInto_201 rfl rfl (by decide) ?_
                        refine K.sub [0, 1, 2, 3, 4, 5] rfl ?_
                        rcases q2 with ⟨h1, h2, h3⟩ | ⟨h1, h2⟩
                        · first
                          | exact absurd h_193 (by omega)
                          | exact join 1 _ M_190 rfl (ho9.tr q1.r) (Or.inl ⟨rfl, by simp only; omega, h3, hpop.off q1⟩)
                        · first
                          | exact absurd h1 h_193
                          | exact join 0 _ M_190 rfl (ho9.tr q1.r) (Or.inr ⟨rfl, by simp only; omega⟩)
                      · refine k_iconst hx dX0_readInto_196 ?_
                        refine k_goto hx dX0_readInto_197 ?_
                        refine k_istore (ls' := [(0, vR g 104), (1, vR g 114), (2, vI (e.2.1.toNat : Nat)), (3, vI z), (4, vI c), (5, vI 1)]) hx dX0_readInto_201 rfl rfl (by decide) ?_
                        refine K.sub [0, 1, 2, 3, 4, 5] rfl ?_
                        rcases q2 with ⟨h1, h2, h3⟩ | ⟨h1, h2⟩
                        · first
                          | exact absurd h_193 (by omega)
                          | exact join 1 _ M_190 rfl (ho9.tr q1.r) (Or.inl ⟨rfl, by simp only; omega, h3, hpop.off q1⟩)
                        · first
                          | exact absurd h1 h_193
                          | exact join 0 _ M_190 rfl (ho9.tr q1.r) (Or.inr ⟨rfl, by simp only; omega⟩)
                  · have hre : rst w b os c = (w ++ rpt ((c - 48).toNat - 1) (w.drop b), b, os) := by unfold rst; rw [if_neg (by omega), if_neg (by omega), if_neg h_93, if_neg h_111, if_pos h_127]
                    rw [hre] at join
                    have hrl : (w ++ rpt ((c - 48).toNat - 1) (w.drop b)).length = w.length + ((c - 48).toNat - 1) * (w.length - b) := by rw [List.length_append, rpt_len, List.length_drop]
                    refine k_aload_n hx dX0_readInto_130 1 rfl ?_
                    refine k_iload_n hx dX0_readInto_131 2 rfl ?_
                    refine k_iload hx dX0_readInto_132 4 rfl ?_
                    refine k_bipush hx dX0_readInto_134 (by decide +kernel) ?_
                    refine k_isub hx dX0_readInto_136 ?_
                    have e48 : c - 48 = (((c - 48).toNat : Nat) : Int) := by omega
                    rw [e48]
                    refine k_vi (rest := []) hx vX0_72 dX0_readInto_137 (c_X4_repeatFrom isW_114 hw hwc (a := b) (t := (c - 48).toNat) hok.2.1 (by omega)) n_114 L_114 rfl rfl rfl ⟨rfl, rfl⟩ ⟨by decide, by decide⟩ (fun z_137 M_137 p_137 => ?_)
                    obtain ⟨q1, q2⟩ := p_137
                    refine k_istore (ls' := [(0, vR g 104), (1, vR g 114), (2, vI b), (3, vI z), (4, vI c), (5, vI z_137)]) hx dX0_readInto_140 rfl rfl (by decide) ?_
                    refine k_goto hx dX0_readInto_142 ?_
                    refine K.sub [0, 1, 2, 3, 4, 5] rfl ?_
                    rcases q2 with ⟨h1, h2, h3⟩ | ⟨h1, h2⟩
                    · exact join _ _ M_137 rfl (ho.tr q1.r) (Or.inl ⟨h1, by simp only; omega, h3, hop.off q1⟩)
                    · exact join _ _ M_137 rfl (ho.tr q1.r) (Or.inr ⟨h1, by simp only; omega⟩)
                · refine k_aload_n hx dX0_readInto_114 1 rfl ?_
                  refine k_iload_n hx dX0_readInto_115 2 rfl ?_
                  have hre : rst w b os c = (turnF w b, b, os) := by unfold rst; rw [if_neg (by omega), if_neg (by omega), if_neg h_93, if_pos h_111]
                  rw [hre] at join
                  have htl2 := turnF_len hok.2.1
                  refine k_vv (rest := []) hx vX0_69 dX0_readInto_116 (c_X4_turnFrom isW_114 hw hwc (a := b) hok.2.1) n_114 L_114 rfl rfl rfl ⟨rfl, rfl⟩ ⟨by decide, by decide⟩ (fun M_116 p_116 => ?_)
                  obtain ⟨q1, q2⟩ := p_116
                  refine k_goto hx dX0_readInto_119 ?_
                  refine K.sub [0, 1, 2, 3, 4, 5] rfl ?_
                  exact join 1 _ M_116 rfl (ho.tr q2.r) (Or.inl ⟨rfl, by simp only; omega, q1, hop.off q2⟩)
              · refine k_aload_n hx dX0_readInto_96 0 rfl ?_
                refine k_aload_n hx dX0_readInto_97 1 rfl ?_
                have hne := hn2 (by omega) (by omega) h_93
                obtain ⟨e, tt, hos⟩ : ∃ e tt, os = e :: tt := by cases os with | nil => exact absurd rfl hne | cons e tt => exact ⟨e, tt, rfl⟩
                subst hos
                have hre : rst w b (e :: tt) c = (w, b, (44, e.2.1, (w.length : Int)) :: tt) := by unfold rst; rw [if_neg (by omega), if_neg (by omega), if_pos h_93]
                rw [hre] at join
                refine k_get (v := vI w.length) hx fX0_65 dX0_readInto_98 n_114 L_114 (congrArg vI (show M' 114 1 = w.length from hwl)) ?_
                refine k_vv (rest := []) hx vX0_56 dX0_readInto_101 (c_X0_passComma hop (m := w.length)) n_104 L_104 rfl rfl rfl ⟨rfl, rfl⟩ ⟨by decide, by decide⟩ (fun M_101 p_101 => ?_)
                obtain ⟨q1, q2⟩ := p_101
                refine k_goto hx dX0_readInto_104 ?_
                refine K.sub [0, 1, 2, 3, 4, 5] rfl ?_
                exact join 1 _ M_101 rfl (ho.tr q2.r) (Or.inl ⟨rfl, hwc, hw.offP q2, q1⟩)
            · refine k_aload_n hx dX0_readInto_74 0 rfl ?_
              refine k_iload hx dX0_readInto_75 4 rfl ?_
              refine k_aload_n hx dX0_readInto_77 1 rfl ?_
              have hcp : c = 40 ∨ c = 91 := by omega
              have hre : rst w b os c = (w, b, (c, (w.length : Int), (w.length : Int)) :: os) := by unfold rst; rw [if_neg (by omega), if_pos hcp]
              rw [hre] at join
              refine k_get (v := vI w.length) hx fX0_65 dX0_readInto_78 n_114 L_114 (congrArg vI (show M' 114 1 = w.length from hwl)) ?_
              refine k_vi (rest := []) hx vX0_41 dX0_readInto_81 (c_X0_open hop (hn3 (by omega) hcp) (s := c) (a := w.length)) n_104 L_104 rfl rfl rfl ⟨rfl, rfl⟩ ⟨by decide, by decide⟩ (fun z_81 M_81 p_81 => ?_)
              obtain ⟨rfl, q1, q2⟩ := p_81
              refine k_istore (ls' := [(0, vR g 104), (1, vR g 114), (2, vI b), (3, vI z), (4, vI c), (5, vI 1)]) hx dX0_readInto_84 rfl rfl (by decide) ?_
              refine k_goto hx dX0_readInto_86 ?_
              refine K.sub [0, 1, 2, 3, 4, 5] rfl ?_
              exact join 1 _ M_81 rfl (ho.tr q2.r) (Or.inl ⟨rfl, hwc, hw.offP q2, q1⟩)
        · refine k_aload_n hx dX0_readInto_41 1 rfl ?_
          have hre : rst w b os c = (w ++ [crs c], w.length, os) := by unfold rst; rw [if_pos h_38]
          rw [hre] at join
          refine k_get (v := vI w.length) hx fX0_65 dX0_readInto_42 n_114 L_114 (congrArg vI (show M' 114 1 = w.length from hwl)) ?_
          refine k_istore_n (ls' := [(0, vR g 104), (1, vR g 114), (2, vI w.length), (3, vI z), (4, vI c), (5, vI 1)]) hx dX0_readInto_45 rfl rfl (by decide) ?_
          refine k_aload_n hx dX0_readInto_46 1 rfl ?_
          refine k_iload hx dX0_readInto_47 4 rfl ?_
          refine k_sp (rest := [vR g 114]) (e := (crs c)) hx sX0_37 dX0_readInto_49 (c_X0_crossingOf (c := c) (by omega)) rfl rfl rfl ⟨rfl, rfl⟩ ⟨by decide, by decide⟩ ?_
          by_cases hfull : w.length < 480
          rotate_left
          · refine k_vi (rest := []) hx vX0_66 dX0_readInto_52 (c_X4_addF isW_114 hw hwc (by omega) (c := crs c)) n_114 L_114 rfl rfl rfl ⟨rfl, rfl⟩ ⟨by decide, by decide⟩ (fun z_52 M_52 p_52 => ?_)
            obtain ⟨rfl, rfl⟩ := p_52
            refine k_istore (ls' := [(0, vR g 104), (1, vR g 114), (2, vI w.length), (3, vI z), (4, vI c), (5, vI 0)]) hx dX0_readInto_55 rfl rfl (by decide) ?_
            refine k_goto hx dX0_readInto_57 ?_
            exact join 0 _ _ rfl ho (Or.inr ⟨rfl, by simp; omega⟩)
          refine k_vi (rest := []) hx vX0_66 dX0_readInto_52 (c_X4_add isW_114 hw hwc hfull (c := crs c) (crs_rg h_38)) n_114 L_114 rfl rfl rfl ⟨rfl, rfl⟩ ⟨by decide, by decide⟩ (fun z_52 M_52 p_52 => ?_)
          obtain ⟨rfl, q1, q2, q3⟩ := p_52
          refine k_istore (ls' := [(0, vR g 104), (1, vR g 114), (2, vI w.length), (3, vI z), (4, vI c), (5, vI 1)]) hx dX0_readInto_55 rfl rfl (by decide) ?_
          refine k_goto hx dX0_readInto_57 ?_
          refine K.sub [0, 1, 2, 3, 4, 5] rfl ?_
          exact join 1 _ M_52 rfl (ho.tr q2.r) (Or.inl ⟨rfl, by simp; omega, q1, hop.off q2⟩)
  refine k_aload_n hx dX0_readInto_0 1 rfl ?_
  refine k_vv (rest := []) hx vX0_60 dX0_readInto_1 (c_X4_clear isW_114) n_114 L_114 rfl rfl rfl ⟨rfl, rfl⟩ ⟨by decide, by decide⟩ (fun M_1 p_1 => ?_)
  refine k_aload_n hx dX0_readInto_4 0 rfl ?_
  refine k_iconst hx dX0_readInto_5 ?_
  refine k_putI (kz := 5) hx fX0_28 dX0_readInto_6 n_104 L_104 rfl rfl (fun M_6 hM_6 => ?_)
  refine k_iconst hx dX0_readInto_9 ?_
  refine k_istore_n (ls' := [(0, vR g 104), (1, vR g 114), (2, vI 0)]) hx dX0_readInto_10 rfl rfl (by decide) ?_
  refine k_iconst hx dX0_readInto_11 ?_
  refine k_istore_n (ls' := [(0, vR g 104), (1, vR g 114), (2, vI 0), (3, vI 0)]) hx dX0_readInto_12 rfl rfl (by decide) ?_
  have hoR : OffR M M_6 := ⟨fun a h1 _ _ _ h5 _ => by rw [hM_6, up_i h1, p_1, up_i h5], fun j hj => by rw [hM_6, up_k hj, p_1, up_i (by omega)]⟩
  exact loop (t.length + 1) 0 0 0 [] 0 [] [] M_6 rfl (by omega) (by omega) (by omega) (fun e he => by cases he) rfl hft rfl ⟨(fun c h => by cases h), Nat.le_refl _, (fun e h => by cases h)⟩ (by simp) (by subst p_1; rw [hM_6]; exact Wd.nil.same (up_i (by omega)) (up_i (by omega))) ⟨by rw [hM_6, up_s]; rfl, by simp, fun j e hj => by simp at hj⟩ hoR

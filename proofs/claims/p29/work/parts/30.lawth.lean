/-! the law: words once more -/
theorem red_fixN : ∀ (n : Nat) (s : List Int), s.length = n → Rd s → red s = s := by
  intro n
  induction n with
  | zero => intro s hs _; rw [List.length_eq_zero_iff.mp hs]; rfl
  | succ n ih =>
    intro s hs h
    rcases List.eq_nil_or_concat s with rfl | ⟨t, c, rfl⟩
    · simp at hs
    · rw [List.concat_eq_append] at h hs ⊢
      have ht : red t = t := ih t (by simpa using hs) h.pre
      rw [red_app, ht]
      show psh t c = t ++ [c]
      unfold psh
      rw [if_neg (fun q => ?_)]
      rcases List.eq_nil_or_concat t with rfl | ⟨u, d, rfl⟩
      · simp at q
      · rw [List.concat_eq_append] at q h
        have e : d = op c := by simpa using q
        exact h u d c [] (by simp) e
theorem red_fix {s : List Int} (h : Rd s) : red s = s := red_fixN _ s rfl h
theorem red_red_app (x y : List Int) : red (red x ++ y) = red (x ++ y) := by rw [red_app, red_app, red_fix (rd_red x)]
theorem red_red (x : List Int) : red (red x) = red x := red_fix (rd_red x)
/-- a pair is taken out behind k - 1 -/
def cutP (w : List Int) (k : Nat) : List Int := w.take (k - 1) ++ w.drop (k + 1)
theorem pl_split {w : List Int} {k : Nat} (h1 : 1 ≤ k) (h2 : k < w.length) : w = w.take (k - 1) ++ at0 w (k - 1 : Nat) :: at0 w k :: w.drop (k + 1) := by
  have e1 : w.drop (k - 1) = at0 w (k - 1 : Nat) :: at0 w k :: w.drop (k + 1) := by
    rw [List.drop_eq_getElem_cons (show k - 1 < w.length by omega), at0_n (show k - 1 < w.length by omega), show k - 1 + 1 = k by omega, List.drop_eq_getElem_cons h2, at0_n h2]
  rw [← e1, List.take_append_drop]
theorem pl_go {T U : List Int} {c d : Int} {k : Nat} (hk : T.length + 1 = k) (h : c = op d) : act ((T ++ U).take (if 1 < k then k - 1 else 1)) ((T ++ U).drop (if 1 < k then k - 1 else 1)) = act ((T ++ c :: d :: U).take k) ((T ++ c :: d :: U).drop k) := by
  have e1 : T ++ c :: d :: U = (T ++ [c]) ++ (d :: U) := by simp
  have e2 : psh (T ++ [c]) d = T := by unfold psh; rw [if_pos (by simp [h]), List.dropLast_concat]
  have hl : (T ++ [c]).length = k := by rw [List.length_append]; exact hk
  have e3 : act (T ++ [c]) (d :: U) = act T U := by show act (psh (T ++ [c]) d) U = _; rw [e2]
  rw [e1, List.take_left' hl, List.drop_left' hl, e3]
  by_cases h1 : 1 < k
  · rw [if_pos h1, List.take_left' (by omega), List.drop_left' (by omega)]
  · rw [if_neg h1]
    have hT : T = [] := List.length_eq_zero_iff.mp (by omega)
    subst hT
    cases U with
    | nil => rfl
    | cons x V => rfl
theorem pl_cut {w : List Int} {k : Nat} (h1 : 1 ≤ k) (h2 : k < w.length) (h : at0 w (k - 1 : Nat) = op (at0 w k)) : act ((cutP w k).take (if 1 < k then k - 1 else 1)) ((cutP w k).drop (if 1 < k then k - 1 else 1)) = act (w.take k) (w.drop k) := by
  have := pl_go (T := w.take (k - 1)) (U := w.drop (k + 1)) (k := k) (by rw [List.length_take]; omega) h
  rw [← pl_split h1 h2] at this
  exact this
theorem pl_skip {w : List Int} {k : Nat} (h1 : 1 ≤ k) (h2 : k < w.length) (h : ¬ at0 w (k - 1 : Nat) = op (at0 w k)) : act (w.take (k + 1)) (w.drop (k + 1)) = act (w.take k) (w.drop k) := by
  have e2 : psh (w.take k) (at0 w k) = w.take (k + 1) := by
    have hl : (w.take k).length = k := by rw [List.length_take]; omega
    unfold psh
    rw [if_neg (fun q => ?_), List.take_succ_eq_append_getElem h2, at0_n h2]
    rw [getLast_at (by omega), hl, show ((k : Int) - 1) = ((k - 1 : Nat) : Int) by omega, at0_take (by omega) (by omega)] at q
    exact h (Option.some.inj q)
  rw [List.drop_eq_getElem_cons h2, ← at0_n h2]
  show _ = act (psh (w.take k) (at0 w k)) _
  rw [e2]
theorem cutP_len {w : List Int} {k : Nat} (h1 : 1 ≤ k) (h2 : k < w.length) : (cutP w k).length = w.length - 2 := by
  unfold cutP; rw [List.length_append, List.length_take, List.length_drop]; omega
theorem cutP_at {w : List Int} {k j : Nat} (h1 : 1 ≤ k) (h2 : k < w.length) (hj : j < w.length - 2) : at0 (cutP w k) j = if j < k - 1 then at0 w j else at0 w (j + 2 : Nat) := by
  have hl : (w.take (k - 1)).length = k - 1 := by rw [List.length_take]; omega
  unfold cutP
  by_cases h : j < k - 1
  · rw [if_pos h, at0_app (by omega), at0_take h (by omega)]
  · rw [if_neg h, show j = (w.take (k - 1)).length + (j - (k - 1)) by omega, at0_appr (by rw [List.length_drop]; omega), at0_drop (by omega)]
    congr 1; omega
theorem cutP_cr {w : List Int} (h : Cr w) (k : Nat) : Cr (cutP w k) := (h.take _).app (h.drop _)
theorem canc {a b : Int} (ha : 0 ≤ a ∧ a < 12) (hb : 0 ≤ b ∧ b < 12) : (a - b = 6 ∨ b - a = 6) ↔ a = op b := by unfold op; omega
theorem mod6 {c : Int} (h : 0 ≤ c ∧ c < 12) : c % 6 = pst c := by unfold pst; omega
theorem lexLt_trans : ∀ (u v w : List Int), lexLt u v = true → lexLt v w = true → lexLt u w = true
  | [], v, w, h, _ => by simp [lexLt] at h
  | x :: xs, [], w, h, _ => by simp [lexLt] at h
  | x :: xs, y :: ys, [], _, k => by simp [lexLt] at k
  | x :: xs, y :: ys, z :: zs, h, k => by
    unfold lexLt at h k ⊢
    by_cases a : x = y
    · rw [if_pos a] at h; subst a
      by_cases b : x = z
      · rw [if_pos b] at k ⊢; exact lexLt_trans xs ys zs h k
      · rw [if_neg b] at k ⊢; exact k
    · rw [if_neg a] at h
      have h := of_decide_eq_true h
      by_cases b : y = z
      · subst b; rw [if_neg a]; exact decide_eq_true h
      · rw [if_neg b] at k
        have k := of_decide_eq_true k
        rw [if_neg (by omega)]; exact decide_eq_true (by omega)
theorem lsF_min (w : List Int) : ∀ k j, j < k → lexLt (rot w j) (rot w (lsF w k)) = false
  | 0, j, h => by omega
  | k + 1, j, h => by
    rw [lsF]
    by_cases hb : lexLt (rot w k) (rot w (lsF w k)) = true
    · rw [if_pos hb]
      by_cases hj : j = k
      · subst hj; exact lexLt_self _
      · have ih := lsF_min w k j (by omega)
        cases hq : lexLt (rot w j) (rot w k)
        · rfl
        · rw [lexLt_trans _ _ _ hq hb] at ih; cases ih
    · rw [if_neg hb]
      by_cases hj : j = k
      · subst hj; exact Bool.eq_false_iff.mpr hb
      · exact lsF_min w k j (by omega)
theorem least_min {w : List Int} {j : Nat} (h : j < w.length) : lexLt (rot w j) (least w) = false := lsF_min w w.length j h
theorem per_mod {w : List Int} {p : Nat} (hp : 0 < p) (h : Per w p) : ∀ (f k : Nat), k < f → k < w.length → at0 w k = at0 w (k % p : Nat)
  | 0, k, hf, _ => by omega
  | f + 1, k, hf, hk => by
    by_cases hkp : k < p
    · rw [Nat.mod_eq_of_lt hkp]
    · rw [h k hk (by omega), per_mod hp h f (k - p) (by omega) (by omega), Nat.mod_eq_sub_mod (by omega : p ≤ k)]
/-- the word comes to itself when it goes round by r -/
abbrev Sh (w : List Int) (r : Nat) : Prop := ∀ i, i < w.length → at0 w i = at0 w ((r + i) % w.length : Nat)
theorem sh_all {w : List Int} {r : Nat} (hn : 0 < w.length) (h : Sh w r) (i : Nat) : at0 w (i % w.length : Nat) = at0 w ((i + r) % w.length : Nat) := by
  rw [h (i % w.length) (Nat.mod_lt _ hn), Nat.add_mod_mod, Nat.add_comm r i]
theorem sh_of {w : List Int} {r : Nat} (h : ∀ i : Nat, at0 w (i % w.length : Nat) = at0 w ((i + r) % w.length : Nat)) : Sh w r := fun i hi => by
  have := h i
  rwa [Nat.mod_eq_of_lt hi, Nat.add_comm i r] at this
theorem sh_0 (w : List Int) : Sh w 0 := fun i hi => by rw [Nat.zero_add, Nat.mod_eq_of_lt hi]
theorem sh_n (w : List Int) : Sh w w.length := fun i hi => by rw [Nat.add_mod_left, Nat.mod_eq_of_lt hi]
theorem sh_add {w : List Int} {a b : Nat} (hn : 0 < w.length) (ha : Sh w a) (hb : Sh w b) : Sh w (a + b) := sh_of fun i => by
  rw [sh_all hn ha i, sh_all hn hb (i + a), Nat.add_assoc]
theorem sh_sub {w : List Int} {a b : Nat} (hn : 0 < w.length) (ha : Sh w a) (hab : Sh w (a + b)) : Sh w b := sh_of fun i => by
  rw [sh_all hn hab i, sh_all hn ha (i + b), show i + (a + b) = i + b + a by omega]
theorem sh_mul {w : List Int} {p : Nat} (hn : 0 < w.length) (hp : Sh w p) : ∀ q, Sh w (p * q)
  | 0 => sh_0 w
  | q + 1 => by rw [Nat.mul_succ]; exact sh_add hn (sh_mul hn hp q) hp
theorem sh_mod {w : List Int} {p j : Nat} (hn : 0 < w.length) (hp : Sh w p) (hj : Sh w j) : Sh w (j % p) :=
  sh_sub hn (sh_mul hn hp (j / p)) (by rw [Nat.div_add_mod]; exact hj)
theorem per_sh {w : List Int} {p : Nat} (hp : 0 < p) (hpn : p ≤ w.length) (hd : w.length % p = 0) : Sh w p ↔ Per w p := by
  refine ⟨fun h k hk hpk => ?_, fun h i hi => ?_⟩
  · have := h (k - p) (by omega)
    rw [show p + (k - p) = k by omega, Nat.mod_eq_of_lt hk] at this
    exact this.symm
  · by_cases h1 : p + i < w.length
    · rw [Nat.mod_eq_of_lt h1, h (p + i) h1 (by omega), show p + i - p = i by omega]
    · rw [Nat.mod_eq_sub_mod (by omega), Nat.mod_eq_of_lt (by omega), per_mod hp h _ i (Nat.lt_succ_self _) hi, per_mod hp h _ (p + i - w.length) (Nat.lt_succ_self _) (by omega)]
      obtain ⟨q, hq⟩ := Nat.dvd_of_mod_eq_zero hd
      have h2 : ((p + i - w.length) + p * q) % p = (p + i - w.length) % p := Nat.add_mul_mod_self_left _ _ _
      rw [← h2, ← hq, show p + i - w.length + w.length = p + i by omega, Nat.add_mod_left]
theorem pwF_spec {w : List Int} : ∀ (f p0 : Nat), 0 < p0 → p0 ≤ w.length → w.length < f + p0 → ∃ p, p0 ≤ p ∧ p ≤ w.length ∧ w.length % p = 0 ∧ Per w p ∧ (∀ q, p0 ≤ q → q < p → ¬ (w.length % q = 0 ∧ Per w q)) ∧ pwF w f p0 = w.length / p
  | 0, p0, _, h1, h2 => by omega
  | f + 1, p0, h0, h1, h2 => by
    by_cases hc : w.length % p0 = 0 ∧ Per w p0
    · exact ⟨p0, Nat.le_refl _, h1, hc.1, hc.2, fun q a b => by omega, by rw [pwF, if_neg (by omega), if_pos hc]⟩
    · have hne : p0 ≠ w.length := fun q => hc ⟨by rw [q]; exact Nat.mod_self _, fun k hk hpk => by omega⟩
      obtain ⟨p, a1, a2, a3, a4, a5, a6⟩ := pwF_spec (w := w) f (p0 + 1) (by omega) (by omega) (by omega)
      refine ⟨p, by omega, a2, a3, a4, fun q b1 b2 => ?_, by rw [pwF, if_neg (by omega), if_neg hc]; exact a6⟩
      by_cases hq : q = p0
      · rw [hq]; exact hc
      · exact a5 q (by omega) b2
theorem power_min {w : List Int} (hn : 0 < w.length) : ∃ p, 0 < p ∧ p ≤ w.length ∧ w.length % p = 0 ∧ power w = w.length / p ∧ ∀ r, Sh w r ↔ r % p = 0 := by
  obtain ⟨p, a1, a2, a3, a4, a5, a6⟩ := pwF_spec (w := w) (w.length + 1) 1 (by decide) hn (by omega)
  have hp : Sh w p := (per_sh (by omega) a2 a3).mpr a4
  have key : ∀ (f s : Nat), s < f → 0 < s → s < p → ¬ Sh w s := by
    intro f
    induction f with
    | zero => intro s h; omega
    | succ f ih =>
      intro s hf h0 hs hS
      have hm := sh_mod hn hS (sh_n w)
      have hlt := Nat.mod_lt w.length h0
      by_cases hz : w.length % s = 0
      · exact a5 s h0 hs ⟨hz, (per_sh h0 (by omega) hz).mp hS⟩
      · exact ih (w.length % s) (by omega) (by omega) (by omega) hm
  refine ⟨p, by omega, a2, a3, a6, fun r => ⟨fun h => ?_, fun h => ?_⟩⟩
  · have hm := sh_mod hn hp h
    have hlt := Nat.mod_lt r (show 0 < p by omega)
    by_cases hz : r % p = 0
    · exact hz
    · exact absurd hm (key _ _ (Nat.lt_succ_self _) (by omega) hlt)
  · have := sh_mul hn hp (r / p)
    have e := Nat.div_add_mod r p
    rw [h, Nat.add_zero] at e
    rwa [e] at this
/-- how often, of the rounds below r -/
def shc (w : List Int) : Nat → Nat
  | 0 => if w.length = 0 then 0 else 1
  | r + 1 => shc w r + (if 0 < r ∧ Sh w r then 1 else 0)
theorem shc_le (w : List Int) : ∀ r, shc w r ≤ r + 1
  | 0 => by unfold shc; split <;> omega
  | r + 1 => by have := shc_le w r; rw [shc]; split <;> omega
theorem shc_power (w : List Int) : shc w w.length = power w := by
  by_cases hn : 0 < w.length
  · obtain ⟨p, b1, b2, b3, b4, b5⟩ := power_min hn
    have key : ∀ r, ∃ q s, r + 1 = p * q + s ∧ 1 ≤ s ∧ s ≤ p ∧ shc w (r + 1) = q + 1 := by
      intro r
      induction r with
      | zero => exact ⟨0, 1, by omega, by omega, by omega, by rw [shc, shc, if_neg (by omega), if_neg (by omega)]⟩
      | succ r ih =>
        obtain ⟨q, s, e, s1, s2, ec⟩ := ih
        rw [shc, ec]
        by_cases hs : s = p
        · have hm : (r + 1) % p = 0 := by rw [e, hs, Nat.mul_add_mod, Nat.mod_self]
          exact ⟨q + 1, 1, by rw [Nat.mul_succ]; omega, by omega, by omega, by rw [if_pos ⟨by omega, (b5 _).mpr hm⟩]⟩
        · have hm : ¬ (r + 1) % p = 0 := by rw [e, Nat.mul_add_mod, Nat.mod_eq_of_lt (by omega)]; omega
          exact ⟨q, s + 1, by omega, by omega, by omega, by rw [if_neg (fun z => hm ((b5 _).mp z.2))]⟩
    obtain ⟨q, s, e, s1, s2, ec⟩ := key (w.length - 1)
    rw [Nat.sub_add_cancel hn] at e ec
    have hs : s = p := by
      rw [e, Nat.mul_add_mod] at b3
      by_cases h : s = p
      · exact h
      · rw [Nat.mod_eq_of_lt (by omega)] at b3; omega
    rw [ec, b4, e, hs, ← Nat.mul_succ, Nat.mul_div_cancel_left _ b1]
  · have h0 : w.length = 0 := by omega
    unfold power
    rw [h0, shc, if_pos h0, pwF, if_pos (by omega)]
theorem wF_0 (w : List Int) : wF 0 w = red w := by
  unfold wF
  congr 1
  refine List.filter_eq_self.mpr (fun c _ => ?_)
  refine decide_eq_true ?_
  unfold bit
  rw [Int.zero_ediv]; rfl
theorem swF_take {p b : Int} {v : List Int} {k : Nat} (h : k < v.length) : swF p b (v.take (k + 1)) = red (swF p b (v.take k) ++ swp p b (at0 v k)) := by
  unfold swF
  rw [red_red_app, List.take_succ_eq_append_getElem h, List.flatMap_append, at0_n h]
  simp
theorem rope_setR {A : Ab} (hA : OkA A) {r z : Int} (hr : 0 ≤ r ∧ r < 4) (hz : 0 ≤ z ∧ z < 4) {w : List Int} : rope (setR A r w) z = if z = r then w else rope A z := by
  have h4 := hA.2.1
  show (A.2.set r.toNat w).getD z.toNat [] = _
  rw [getD_set (by omega)]
  by_cases h : z = r
  · rw [if_pos h, if_pos (by omega)]
  · rw [if_neg h, if_neg (by omega)]
theorem fp_step {w : List Int} {k : Nat} (h : k < w.length) : fpF w (w.length + 1 - k) k = if k + 1 < w.length ∧ at0 w k = op (at0 w (k + 1 : Nat)) then (k : Int) else fpF w (w.length + 1 - (k + 1)) (k + 1) := by
  rw [show w.length + 1 - k = (w.length - k) + 1 by omega, fpF, show w.length + 1 - (k + 1) = w.length - k by omega]
  by_cases h1 : k + 1 < w.length
  · rw [if_pos h1]
    by_cases h2 : at0 w k = op (at0 w (k + 1 : Nat))
    · rw [if_pos h2, if_pos ⟨h1, h2⟩]
    · rw [if_neg h2, if_neg (fun q => h2 q.2)]
  · rw [if_neg h1, if_neg (fun q => h1 q.1), show w.length - k = 0 + 1 by omega, fpF, if_neg (by omega)]
theorem fp_rg (w : List Int) : ∀ (f k : Nat), fpF w f k = -6 ∨ (0 ≤ fpF w f k ∧ fpF w f k < w.length)
  | 0, k => Or.inl rfl
  | f + 1, k => by
    rw [fpF]
    split
    · split
      · right; omega
      · exact fp_rg w f (k + 1)
    · exact Or.inl rfl

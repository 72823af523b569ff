/-! words, purely: pulled words, their turned ones, filters; the most crossings that can stay -/
def Rd (s : List Int) : Prop := ∀ (t : List Int) (c d : Int) (u : List Int), s = t ++ c :: d :: u → c ≠ op d
theorem Rd.nil : Rd [] := fun t c d u h => by simp at h
theorem Rd.pre {s t : List Int} (h : Rd (s ++ t)) : Rd s := fun a c d u e => h a c d (u ++ t) (by rw [e]; simp)
theorem Rd.snoc {s : List Int} {c : Int} (h : Rd s) (hc : s.getLast? ≠ some (op c)) : Rd (s ++ [c]) := by
  intro t a d u e
  rcases List.eq_nil_or_concat u with rfl | ⟨u', x, rfl⟩
  · have e2 : s ++ [c] = (t ++ [a]) ++ [d] := by rw [e]; simp
    have h1 := List.append_inj' e2 rfl
    have hd : c = d := by simpa using h1.2
    subst hd
    intro q
    apply hc
    rw [h1.1, List.getLast?_append, q]; simp
  · have e2 : s ++ [c] = (t ++ a :: d :: u') ++ [x] := by rw [e]; simp
    have h1 := List.append_inj' e2 rfl
    exact h t a d u' h1.1
theorem rd_psh {s : List Int} (h : Rd s) (c : Int) : Rd (psh s c) := by
  unfold psh
  split
  · rename_i hl
    rcases List.eq_nil_or_concat s with rfl | ⟨s', x, rfl⟩
    · exact Rd.nil
    · rw [List.concat_eq_append] at h ⊢
      rw [List.dropLast_concat]
      exact h.pre
  · rename_i hl
    exact h.snoc hl
def act (s w : List Int) : List Int := w.foldl psh s
theorem act_app (s a b : List Int) : act s (a ++ b) = act (act s a) b := by unfold act; rw [List.foldl_append]
theorem rd_act {s : List Int} (h : Rd s) : ∀ w : List Int, Rd (act s w)
  | [] => h
  | c :: w => rd_act (rd_psh h c) w
theorem red_act (w : List Int) : red w = act [] w := rfl
theorem rd_red (w : List Int) : Rd (red w) := rd_act Rd.nil w
theorem cr_act {s : List Int} (h : Cr s) : ∀ w : List Int, Cr w → Cr (act s w)
  | [], _ => h
  | c :: w, hw => cr_act (cr_psh h (hw c List.mem_cons_self)) w (fun d hd => hw d (List.mem_cons_of_mem _ hd))
theorem psh_psh {s : List Int} {c : Int} (h : Rd s) (hc : 0 ≤ c ∧ c < 12) : psh (psh s c) (op c) = s := by
  by_cases hl : s.getLast? = some (op c)
  · have e1 : psh s c = s.dropLast := by unfold psh; rw [if_pos hl]
    rw [e1]
    rcases List.eq_nil_or_concat s with rfl | ⟨s', x, rfl⟩
    · simp at hl
    · rw [List.concat_eq_append] at h hl ⊢
      rw [List.dropLast_concat]
      have hx : x = op c := by simpa using hl
      subst hx
      unfold psh
      rw [if_neg]
      rw [op_op hc]
      intro q
      rcases List.eq_nil_or_concat s' with rfl | ⟨s2, y, rfl⟩
      · simp at q
      · rw [List.concat_eq_append] at h q
        have hy : y = c := by simpa using q
        subst hy
        exact h s2 y (op y) [] (by simp) (op_op hc).symm
  · have e1 : psh s c = s ++ [c] := by unfold psh; rw [if_neg hl]
    rw [e1]
    unfold psh
    rw [if_pos (by rw [op_op hc]; simp), List.dropLast_concat]
theorem trn_snoc (w : List Int) (c : Int) : trn (w ++ [c]) = op c :: trn w := by simp [trn]
theorem trn_cons (w : List Int) (c : Int) : trn (c :: w) = trn w ++ [op c] := by simp [trn]
theorem trn_app (a b : List Int) : trn (a ++ b) = trn b ++ trn a := by simp [trn]
theorem trn_trn {w : List Int} (h : Cr w) : trn (trn w) = w := by
  induction w with
  | nil => rfl
  | cons c w ih => rw [trn_cons, trn_snoc, op_op (h c List.mem_cons_self), ih (fun d hd => h d (List.mem_cons_of_mem _ hd))]
theorem act_trn {w : List Int} (hw : Cr w) : ∀ {s : List Int}, Rd s → act (act s w) (trn w) = s := by
  induction w with
  | nil => intro s _; rfl
  | cons c w ih =>
    intro s hs
    have hc := hw c List.mem_cons_self
    rw [trn_cons, act_app]
    have h1 : act s (c :: w) = act (psh s c) w := rfl
    rw [h1, ih (fun d hd => hw d (List.mem_cons_of_mem _ hd)) (rd_psh hs c)]
    exact psh_psh hs hc
theorem red_trn_nil {a b : List Int} (hb : Cr b) : red (a ++ trn b) = [] ↔ red a = red b := by
  rw [red_act, act_app, ← red_act]
  constructor
  · intro h
    have h2 := act_trn (cr_trn hb) (rd_red a)
    rw [h, trn_trn hb] at h2
    exact h2.symm
  · intro h
    rw [h]
    exact act_trn hb Rd.nil
/-- a filter that doesn't part a crossing from its opposite -/
theorem red_filter {f : Int → Bool} (hf : ∀ c, 0 ≤ c ∧ c < 12 → f (op c) = f c) : ∀ (w s : List Int), Cr w → Cr s → Rd s → act (red (s.filter f)) (w.filter f) = red ((act s w).filter f)
  | [], s, _, _, _ => rfl
  | c :: w, s, hw, hs, hr => by
    have hc := hw c List.mem_cons_self
    have hw' : Cr w := fun d hd => hw d (List.mem_cons_of_mem _ hd)
    have key : act (red (s.filter f)) ([c].filter f) = red ((psh s c).filter f) := by
      by_cases hl : s.getLast? = some (op c)
      · have e1 : psh s c = s.dropLast := by unfold psh; rw [if_pos hl]
        rw [e1]
        rcases List.eq_nil_or_concat s with rfl | ⟨s', x, rfl⟩
        · simp at hl
        · rw [List.concat_eq_append] at hl ⊢
          rw [List.dropLast_concat]
          have hx : x = op c := by simpa using hl
          subst hx
          rw [List.filter_append]
          cases hfc : f c with
          | false =>
            have h1 : [c].filter f = [] := by simp [hfc]
            have h2 : [op c].filter f = [] := by simp [hf c hc, hfc]
            rw [h1, h2, List.append_nil]; rfl
          | true =>
            have h1 : [c].filter f = [c] := by simp [hfc]
            have h2 : [op c].filter f = [op c] := by simp [hf c hc, hfc]
            rw [h1, h2]
            have h3 : red (s'.filter f ++ [op c]) = psh (red (s'.filter f)) (op c) := by unfold red; rw [List.foldl_append]; rfl
            rw [h3]
            show psh (psh (red (s'.filter f)) (op c)) c = _
            have h4 := psh_psh (c := op c) (rd_red (s'.filter f)) (op_rg hc)
            rwa [op_op hc] at h4
      · have e1 : psh s c = s ++ [c] := by unfold psh; rw [if_neg hl]
        rw [e1, List.filter_append]
        unfold red
        rw [List.foldl_append]; rfl
    have e2 : (c :: w).filter f = [c].filter f ++ w.filter f := by rw [← List.filter_append]; rfl
    rw [e2, act_app, key]
    exact red_filter hf w (psh s c) hw' (cr_psh hs hc) (rd_psh hr c)
theorem red_filter_nil {f : Int → Bool} (hf : ∀ c, 0 ≤ c ∧ c < 12 → f (op c) = f c) {w : List Int} (hw : Cr w) (h : red w = []) : red (w.filter f) = [] := by
  have h1 := red_filter hf w [] hw (fun c hc => by cases hc) Rd.nil
  rw [← red_act, h] at h1
  exact h1
theorem pst_op {c : Int} (h : 0 ≤ c ∧ c < 12) : pst (op c) = pst c := by unfold pst op; split <;> split <;> omega
/-- a rope that falls by a set falls by every larger one -/
theorem wF_mono {S S' : Int} {v : List Int} (hv : Cr v) (hsub : ∀ p : Int, 0 ≤ p ∧ p < 6 → bit S' p = 0 → bit S p = 0) (h : wF S v = []) : wF S' v = [] := by
  unfold wF at h ⊢
  have e : v.filter (fun c => decide (bit S' (pst c) = 0)) = (v.filter (fun c => decide (bit S (pst c) = 0))).filter (fun c => decide (bit S' (pst c) = 0)) := by
    rw [List.filter_filter]
    apply List.filter_congr
    intro c hc
    by_cases h1 : bit S' (pst c) = 0
    · simp [h1, hsub _ (pst_rg (hv c hc)) h1]
    · simp [h1]
  rw [e]
  exact red_filter_nil (fun c hc => by rw [pst_op hc]) (fun c hc => hv c (List.mem_filter.mp hc).1) h
/-! the most crossings that can stay -/
def mxS (t : List Int) (c : Int) (g : Nat → Nat) (m k : Nat) : Nat := if at0 t k = op c then max m (g k) else m
def mst : Nat → List Int → Nat
  | 0, _ => 0
  | _ + 1, [] => 0
  | f + 1, c :: t => (List.range t.length).foldl (mxS t c (fun k => 2 + mst f (t.take k) + mst f (t.drop (k + 1)))) (mst f t)
theorem foldl_max {t : List Int} {c : Int} {g : Nat → Nat} (l : List Nat) : ∀ m0 : Nat, (m0 ≤ l.foldl (mxS t c g) m0) ∧ (∀ k ∈ l, at0 t k = op c → g k ≤ l.foldl (mxS t c g) m0) ∧ (l.foldl (mxS t c g) m0 = m0 ∨ ∃ k ∈ l, at0 t k = op c ∧ l.foldl (mxS t c g) m0 = g k) := by
  induction l with
  | nil => intro m0; exact ⟨Nat.le_refl _, (fun k hk => by cases hk), Or.inl rfl⟩
  | cons a l ih =>
    intro m0
    rw [List.foldl_cons]
    by_cases hq : at0 t a = op c
    · have e : mxS t c g m0 a = max m0 (g a) := if_pos hq
      rw [e]
      obtain ⟨h1, h2, h3⟩ := ih (max m0 (g a))
      refine ⟨by omega, fun k hk hqk => ?_, ?_⟩
      · rcases List.mem_cons.mp hk with rfl | hk
        · omega
        · exact h2 k hk hqk
      · rcases h3 with h3 | ⟨k, hk, hqk, h3⟩
        · by_cases hm : m0 ≤ g a
          · exact Or.inr ⟨a, List.mem_cons_self, hq, by rw [h3]; omega⟩
          · exact Or.inl (by rw [h3]; omega)
        · exact Or.inr ⟨k, List.mem_cons_of_mem _ hk, hqk, h3⟩
    · have e : mxS t c g m0 a = m0 := if_neg hq
      rw [e]
      obtain ⟨h1, h2, h3⟩ := ih m0
      refine ⟨h1, fun k hk hqk => ?_, ?_⟩
      · rcases List.mem_cons.mp hk with rfl | hk
        · exact absurd hqk hq
        · exact h2 k hk hqk
      · rcases h3 with h3 | ⟨k, hk, hqk, h3⟩
        · exact Or.inl h3
        · exact Or.inr ⟨k, List.mem_cons_of_mem _ hk, hqk, h3⟩
theorem mst_fuel : ∀ (f f' : Nat) (w : List Int), w.length ≤ f → w.length ≤ f' → mst f w = mst f' w
  | 0, 0, _, _, _ => rfl
  | 0, f' + 1, w, h, _ => by have : w = [] := List.length_eq_zero_iff.mp (by omega); subst this; rfl
  | f + 1, 0, w, _, h => by have : w = [] := List.length_eq_zero_iff.mp (by omega); subst this; rfl
  | f + 1, f' + 1, [], _, _ => rfl
  | f + 1, f' + 1, c :: t, h, h' => by
    rw [List.length_cons] at h h'
    unfold mst
    rw [mst_fuel f f' t (by omega) (by omega)]
    have e : (fun k => 2 + mst f (t.take k) + mst f (t.drop (k + 1))) = (fun k => 2 + mst f' (t.take k) + mst f' (t.drop (k + 1))) := funext fun k => by
      rw [mst_fuel f f' (t.take k) (by rw [List.length_take]; omega) (by rw [List.length_take]; omega), mst_fuel f f' (t.drop (k + 1)) (by rw [List.length_drop]; omega) (by rw [List.length_drop]; omega)]
    rw [e]
def Mx (w : List Int) : Nat := mst w.length w
theorem mx_nil : Mx [] = 0 := rfl
theorem mx_cons (c : Int) (t : List Int) : Mx (c :: t) = (List.range t.length).foldl (mxS t c (fun k => 2 + Mx (t.take k) + Mx (t.drop (k + 1)))) (Mx t) := by
  have h : Mx (c :: t) = (List.range t.length).foldl (mxS t c (fun k => 2 + mst t.length (t.take k) + mst t.length (t.drop (k + 1)))) (mst t.length t) := rfl
  rw [h]
  have e : (fun k => 2 + mst t.length (t.take k) + mst t.length (t.drop (k + 1))) = (fun k => 2 + Mx (t.take k) + Mx (t.drop (k + 1))) := funext fun k => by
    unfold Mx
    rw [mst_fuel t.length _ (t.take k) (by rw [List.length_take]; omega) (Nat.le_refl _), mst_fuel t.length _ (t.drop (k + 1)) (by rw [List.length_drop]; omega) (Nat.le_refl _)]
  rw [e]
  rfl
theorem mx_tail (c : Int) (t : List Int) : Mx t ≤ Mx (c :: t) := by rw [mx_cons]; exact (foldl_max _ _).1
theorem mx_pair (c : Int) (p q : List Int) : 2 + Mx p + Mx q ≤ Mx (c :: (p ++ op c :: q)) := by
  rw [mx_cons]
  have h := (foldl_max (t := p ++ op c :: q) (c := c) (g := fun k => 2 + Mx ((p ++ op c :: q).take k) + Mx ((p ++ op c :: q).drop (k + 1))) (List.range (p ++ op c :: q).length) (Mx (p ++ op c :: q))).2.1 p.length (by simp) (by rw [at0_n (by simp)]; simp)
  simpa using h
theorem mx_cases (c : Int) (t : List Int) : Mx (c :: t) = Mx t ∨ ∃ p q, t = p ++ op c :: q ∧ Mx (c :: t) = 2 + Mx p + Mx q := by
  rw [mx_cons]
  rcases (foldl_max (t := t) (c := c) (g := fun k => 2 + Mx (t.take k) + Mx (t.drop (k + 1))) (List.range t.length) (Mx t)).2.2 with h | ⟨k, hk, hq, h⟩
  · exact Or.inl h
  · have hk2 : k < t.length := List.mem_range.mp hk
    refine Or.inr ⟨t.take k, t.drop (k + 1), ?_, h⟩
    rw [← hq, at0_n hk2, ← List.drop_eq_getElem_cons hk2, List.take_append_drop]
theorem mx_app : ∀ (n : Nat) (a b : List Int), a.length ≤ n → Mx a + Mx b ≤ Mx (a ++ b)
  | 0, a, b, h => by have : a = [] := List.length_eq_zero_iff.mp (by omega); subst this; simp [mx_nil]
  | n + 1, [], b, _ => by simp [mx_nil]
  | n + 1, c :: t, b, h => by
    rw [List.length_cons] at h
    rcases mx_cases c t with e | ⟨p, q, rfl, e⟩
    · have h1 := mx_app n t b (by omega)
      have h2 := mx_tail c (t ++ b)
      rw [List.cons_append]; omega
    · rw [List.length_append, List.length_cons] at h
      have h1 := mx_app n q b (by omega)
      have h2 := mx_pair c p (q ++ b)
      rw [e, List.cons_append, List.append_assoc, List.cons_append]; omega
theorem mx_ap (a b : List Int) : Mx a + Mx b ≤ Mx (a ++ b) := mx_app _ a b (Nat.le_refl _)
/-- one crossing more, anywhere -/
theorem mx_ins : ∀ (n : Nat) (a b : List Int) (x : Int), a.length + b.length ≤ n → Mx (a ++ b) ≤ Mx (a ++ x :: b)
  | _, [], b, x, _ => mx_tail x b
  | 0, c :: t, b, x, h => by simp at h
  | n + 1, c :: t, b, x, h => by
    rw [List.length_cons] at h
    rw [List.cons_append, List.cons_append]
    rcases mx_cases c (t ++ b) with e | ⟨p, q, e1, e⟩
    · have h1 := mx_ins n t b x (by omega)
      have h2 := mx_tail c (t ++ x :: b)
      omega
    · rcases List.append_eq_append_iff.mp e1 with ⟨a', h1, h2⟩ | ⟨c', h1, h2⟩
      · -- p = t ++ a', b = a' ++ op c :: q
        subst h1; subst h2
        have h3 := mx_ins n t a' x (by simp at h; omega)
        have h4 := mx_pair c (t ++ x :: a') q
        have h5 : t ++ x :: (a' ++ op c :: q) = (t ++ x :: a') ++ op c :: q := by simp
        rw [h5]; omega
      · cases c' with
        | nil =>
          rw [List.append_nil] at h1
          rw [List.nil_append] at h2
          subst h1; subst h2
          have h3 := mx_ins n t [] x (by simp at h; simp; omega)
          rw [List.append_nil] at h3
          have h4 := mx_pair c (t ++ [x]) q
          have h5 : t ++ x :: op c :: q = (t ++ [x]) ++ op c :: q := by simp
          rw [h5]; omega
        | cons y c' =>
          rw [List.cons_append] at h2
          injection h2 with h6 h7
          subst h6; subst h1; subst h7
          have h3 := mx_ins n c' b x (by simp at h; omega)
          have h4 := mx_pair c p (c' ++ x :: b)
          have h5 : p ++ op c :: c' ++ x :: b = p ++ op c :: (c' ++ x :: b) := by simp
          rw [h5]; omega
theorem mx_in (a b : List Int) (x : Int) : Mx (a ++ b) ≤ Mx (a ++ x :: b) := mx_ins _ a b x (Nat.le_refl _)
theorem mx_ap3 (a b c : List Int) : Mx a + Mx b + Mx c ≤ Mx (a ++ b ++ c) := by have := mx_ap a b; have := mx_ap (a ++ b) c; omega
/-- the first crossingoes behind -/
theorem mx_r1 {c : Int} (hc : 0 ≤ c ∧ c < 12) (t : List Int) : Mx (c :: t) ≤ Mx (t ++ [c]) := by
  rcases mx_cases c t with e | ⟨p, q, rfl, e⟩
  · have := mx_in t [] c; rw [List.append_nil] at this; omega
  · have h1 := mx_pair (op c) q []
    rw [op_op hc, mx_nil] at h1
    have h2 := mx_ap p (op c :: (q ++ [c]))
    have h3 : p ++ op c :: q ++ [c] = p ++ op c :: (q ++ [c]) := by simp
    rw [h3]; omega
theorem mx_r2 {c : Int} (hc : 0 ≤ c ∧ c < 12) : ∀ (n : Nat) (t : List Int), t.length ≤ n → Cr t → Mx (t ++ [c]) ≤ Mx (c :: t)
  | _, [], _, _ => Nat.le_refl _
  | 0, d :: t, h, _ => by simp at h
  | n + 1, d :: t, h, ht => by
    rw [List.length_cons] at h
    have hd := ht d List.mem_cons_self
    have ht' : Cr t := fun x hx => ht x (List.mem_cons_of_mem _ hx)
    rw [List.cons_append]
    rcases mx_cases d (t ++ [c]) with e | ⟨p, q, e1, e⟩
    · have h1 := mx_r2 hc n t (by omega) ht'
      have h2 := mx_in [c] t d
      have h3 : [c] ++ t = c :: t := rfl
      have h4 : [c] ++ d :: t = c :: d :: t := rfl
      rw [h3, h4] at h2
      omega
    · rcases List.eq_nil_or_concat q with rfl | ⟨q', x, rfl⟩
      · have h1 := List.append_inj' e1 rfl
        have h2 : c = op d := by simpa using h1.2
        have h3 := h1.1
        subst h3
        have h4 := mx_pair c [] t
        rw [h2, op_op hd] at h4
        rw [mx_nil] at e
        rw [List.nil_append, mx_nil, ← h2] at h4
        omega
      · rw [List.concat_eq_append] at e1 e
        have e2 : t ++ [c] = (p ++ op d :: q') ++ [x] := by rw [e1]; simp
        have h1 := List.append_inj' e2 rfl
        have h2 : c = x := by simpa using h1.2
        subst h2
        have h3 := h1.1
        subst h3
        rw [List.length_append, List.length_cons] at h
        have h4 := mx_r2 hc n q' (by omega) (fun y hy => ht' y (by simp [hy]))
        have h5 := mx_pair d p q'
        rcases mx_cases c q' with e3 | ⟨p3, q3, rfl, e3⟩
        · have h6 := mx_tail c (d :: (p ++ op d :: q'))
          omega
        · have h6 := mx_pair c (d :: (p ++ op d :: p3)) q3
          have h7 := mx_pair d p p3
          have h8 : d :: (p ++ op d :: (p3 ++ op c :: q3)) = (d :: (p ++ op d :: p3)) ++ op c :: q3 := by simp
          rw [h8]; omega
/-- a pair that cancels -/
theorem mx_pr1 {a : Int} (ha : 0 ≤ a ∧ a < 12) : ∀ (n : Nat) (u v : List Int), u.length + v.length ≤ n → Mx (u ++ v) + 2 ≤ Mx (u ++ a :: op a :: v)
  | _, [], v, _ => by have := mx_pair a [] v; rw [mx_nil, List.nil_append] at this; rw [List.nil_append, List.nil_append]; omega
  | 0, c :: u, v, h => by simp at h
  | n + 1, c :: u, v, h => by
    rw [List.length_cons] at h
    rw [List.cons_append, List.cons_append]
    rcases mx_cases c (u ++ v) with e | ⟨p, q, e1, e⟩
    · have h1 := mx_pr1 ha n u v (by omega)
      have h2 := mx_tail c (u ++ a :: op a :: v)
      omega
    · rcases List.append_eq_append_iff.mp e1 with ⟨a', h1, h2⟩ | ⟨c', h1, h2⟩
      · subst h1; subst h2
        have h3 := mx_pr1 ha n u a' (by simp at h; omega)
        have h4 := mx_pair c (u ++ a :: op a :: a') q
        have h5 : u ++ a :: op a :: (a' ++ op c :: q) = (u ++ a :: op a :: a') ++ op c :: q := by simp
        rw [h5]; omega
      · cases c' with
        | nil =>
          rw [List.append_nil] at h1
          rw [List.nil_append] at h2
          subst h1; subst h2
          have h3 := mx_pr1 ha n u [] (by simp at h; simp; omega)
          rw [List.append_nil] at h3
          have h4 := mx_pair c (u ++ [a, op a]) q
          have h5 : u ++ a :: op a :: op c :: q = (u ++ [a, op a]) ++ op c :: q := by simp
          rw [h5]; omega
        | cons y c' =>
          rw [List.cons_append] at h2
          injection h2 with h6 h7
          subst h6; subst h1; subst h7
          have h3 := mx_pr1 ha n c' v (by simp at h; omega)
          have h4 := mx_pair c p (c' ++ a :: op a :: v)
          have h5 : p ++ op c :: c' ++ a :: op a :: v = p ++ op c :: (c' ++ a :: op a :: v) := by simp
          rw [h5]; omega
theorem mx_c2 {c : Int} (hc : 0 ≤ c ∧ c < 12) (t : List Int) : Mx (c :: t) ≤ Mx t + 2 := by
  rcases mx_cases c t with e | ⟨p, q, rfl, e⟩
  · omega
  · have h1 := mx_ap p q
    have h2 := mx_in p q (op c)
    omega
theorem op_inj {a b : Int} (ha : 0 ≤ a ∧ a < 12) (hb : 0 ≤ b ∧ b < 12) (h : op a = op b) : a = b := by rw [← op_op ha, h, op_op hb]
theorem mx_pr2 {a : Int} (ha : 0 ≤ a ∧ a < 12) : ∀ (n : Nat) (u v : List Int), u.length + v.length ≤ n → Cr u → Cr v → Mx (u ++ a :: op a :: v) ≤ Mx (u ++ v) + 2
  | _, [], v, _, _, hv => by
    rw [List.nil_append, List.nil_append]
    have hA := op_rg ha
    rcases mx_cases a (op a :: v) with e | ⟨p, q, e1, e⟩
    · have := mx_c2 hA v; omega
    · cases p with
      | nil => rw [List.nil_append] at e1; injection e1 with h1 h2; subst h2; rw [mx_nil] at e; omega
      | cons y p =>
        rw [List.cons_append] at e1
        injection e1 with h1 h2
        subst h1; subst h2
        have h3 := mx_r1 hA p
        have h4 := mx_ap (p ++ [op a]) q
        have h5 : p ++ op a :: q = p ++ [op a] ++ q := by simp
        rw [← h5] at h4; omega
  | 0, c :: u, v, h, _, _ => by simp at h
  | n + 1, c :: u, v, h, hu, hv => by
    rw [List.length_cons] at h
    have hA := op_rg ha
    have hc := hu c List.mem_cons_self
    have hu' : Cr u := fun x hx => hu x (List.mem_cons_of_mem _ hx)
    rw [List.cons_append, List.cons_append]
    rcases mx_cases c (u ++ a :: op a :: v) with e | ⟨p, q, e1, e⟩
    · have h1 := mx_pr2 ha n u v (by omega) hu' hv
      have h2 := mx_tail c (u ++ v)
      omega
    · rcases List.append_eq_append_iff.mp e1 with ⟨a', h1, h2⟩ | ⟨c', h1, h2⟩
      · -- p = u ++ a', a :: op a :: v = a' ++ op c :: q
        cases a' with
        | nil =>
          rw [List.nil_append] at h2
          rw [List.append_nil] at h1
          injection h2 with h3 h4
          subst h1; subst h4
          -- op c = a, c = op a
          have hca : c = op a := by rw [h3, op_op hc]
          have h5 : Mx p + Mx (op a :: v) ≤ Mx (op a :: (p ++ v)) := by
            rcases mx_cases (op a) v with e3 | ⟨p2, q2, rfl, e3⟩
            · have := mx_ap p v; have := mx_tail (op a) (p ++ v); omega
            · rw [op_op ha] at e3 ⊢
              have h6 := mx_pair (op a) (p ++ p2) q2
              rw [op_op ha] at h6
              have h7 := mx_ap p p2
              have h8 : p ++ (p2 ++ a :: q2) = p ++ p2 ++ a :: q2 := by simp
              rw [h8]; omega
          rw [hca] at e ⊢; omega
        | cons y a' =>
          rw [List.cons_append] at h2
          injection h2 with h3 h4
          subst h3
          cases a' with
          | nil =>
            rw [List.nil_append] at h4
            injection h4 with h5 h6
            subst h6
            have hca : a = c := op_inj ha hc h5
            subst hca
            subst h1
            have h7 := mx_r2 ha _ u (Nat.le_refl _) hu'
            have h8 := mx_ap (a :: u) v
            rw [List.cons_append] at h8
            omega
          | cons y2 a' =>
            rw [List.cons_append] at h4
            injection h4 with h5 h6
            subst h5; subst h6; subst h1
            have h7 := mx_pr2 ha n u a' (by simp at h; omega) hu' (fun x hx => hv x (by simp [hx]))
            have h8 := mx_pair c (u ++ a') q
            have h9 : u ++ (a' ++ op c :: q) = u ++ a' ++ op c :: q := by simp
            rw [h9]; omega
      · cases c' with
        | nil =>
          rw [List.append_nil] at h1
          rw [List.nil_append] at h2
          injection h2 with h3 h4
          subst h1; subst h4
          have hca : c = op a := by rw [← h3, op_op hc]
          have h5 : Mx u + Mx (op a :: v) ≤ Mx (op a :: (u ++ v)) := by
            rcases mx_cases (op a) v with e3 | ⟨p2, q2, rfl, e3⟩
            · have := mx_ap u v; have := mx_tail (op a) (u ++ v); omega
            · rw [op_op ha] at e3 ⊢
              have h6 := mx_pair (op a) (u ++ p2) q2
              rw [op_op ha] at h6
              have h7 := mx_ap u p2
              have h8 : u ++ (p2 ++ a :: q2) = u ++ p2 ++ a :: q2 := by simp
              rw [h8]; omega
          rw [hca] at e ⊢; omega
        | cons y c' =>
          rw [List.cons_append] at h2
          injection h2 with h3 h4
          subst h3; subst h1; subst h4
          have h5 := mx_pr2 ha n c' v (by simp at h; omega) (fun x hx => hu' x (by simp [hx])) hv
          have h6 := mx_pair c p (c' ++ v)
          have h7 : p ++ op c :: c' ++ v = p ++ op c :: (c' ++ v) := by simp
          rw [h7]; omega
/-- as many are to be cut of a word as of it pulled -/
theorem mx_red : ∀ (w s : List Int), Cr w → Cr s → ((s ++ w).length : Int) - Mx (s ++ w) = ((act s w).length : Int) - Mx (act s w)
  | [], s, _, _ => by rw [List.append_nil]; rfl
  | c :: w, s, hw, hs => by
    have hc := hw c List.mem_cons_self
    have hw' : Cr w := fun d hd => hw d (List.mem_cons_of_mem _ hd)
    have ih := mx_red w (psh s c) hw' (cr_psh hs hc)
    have e0 : act s (c :: w) = act (psh s c) w := rfl
    rw [e0, ← ih]
    by_cases hl : s.getLast? = some (op c)
    · have e1 : psh s c = s.dropLast := by unfold psh; rw [if_pos hl]
      rw [e1]
      rcases List.eq_nil_or_concat s with rfl | ⟨s', x, rfl⟩
      · simp at hl
      · rw [List.concat_eq_append] at hl hs ⊢
        rw [List.dropLast_concat]
        have hx : x = op c := by simpa using hl
        subst hx
        have hs' : Cr s' := fun d hd => hs d (by simp [hd])
        have h1 := mx_pr1 (op_rg hc) _ s' w (Nat.le_refl _)
        have h2 := mx_pr2 (op_rg hc) _ s' w (Nat.le_refl _) hs' hw'
        rw [op_op hc] at h1 h2
        have h3 : s' ++ [op c] ++ c :: w = s' ++ op c :: c :: w := by simp
        have h4 : (s' ++ op c :: c :: w).length = (s' ++ w).length + 2 := by simp; omega
        rw [h3]; omega
    · have e1 : psh s c = s ++ [c] := by unfold psh; rw [if_neg hl]
      rw [e1]
      have h3 : s ++ c :: w = s ++ [c] ++ w := by simp
      rw [h3]
theorem mx_cut {w : List Int} (hw : Cr w) : (w.length : Int) - Mx w = ((red w).length : Int) - Mx (red w) := mx_red w [] hw (fun c hc => by cases hc)
theorem mx_le : ∀ (n : Nat) (w : List Int), w.length ≤ n → Mx w ≤ w.length
  | _, [], _ => Nat.le_refl _
  | 0, c :: t, h => by simp at h
  | n + 1, c :: t, h => by
    rw [List.length_cons] at h ⊢
    rcases mx_cases c t with e | ⟨p, q, rfl, e⟩
    · have := mx_le n t (by omega); omega
    · rw [List.length_append, List.length_cons] at h ⊢
      have := mx_le n p (by omega); have := mx_le n q (by omega); omega

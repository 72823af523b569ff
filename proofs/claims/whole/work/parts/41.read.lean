/-! the reference: the pad read -/
theorem rst_pos {w : List Int} {b : Nat} {os : Os} {c : Int} (h : OkR w b os) : (rst w b os c).2.1 ≤ w.length ∧ ∀ e ∈ (rst w b os c).2.2, e.2.2 ≤ w.length := by
  obtain ⟨h1, h2, h3⟩ := h
  unfold rst
  split
  · exact ⟨Nat.le_refl _, fun e he => (h3 e he).2.2⟩
  · split
    · refine ⟨h2, fun e he => ?_⟩
      rcases List.mem_cons.mp he with rfl | he
      · exact Int.le_refl _
      · exact (h3 e he).2.2
    · split
      · refine ⟨h2, ?_⟩
        cases os with
        | nil => intro e he; cases he
        | cons e t =>
          intro d hd
          rcases List.mem_cons.mp hd with rfl | hd
          · exact Int.le_refl _
          · exact (h3 d (List.mem_cons_of_mem _ hd)).2.2
      · split
        · exact ⟨h2, fun e he => (h3 e he).2.2⟩
        · split
          · exact ⟨h2, fun e he => (h3 e he).2.2⟩
          · cases os with
            | nil => exact ⟨h2, fun e he => by cases he⟩
            | cons e t =>
              have he := h3 e List.mem_cons_self
              exact ⟨by show e.2.1.toNat ≤ _; omega, fun d hd => (h3 d (List.mem_cons_of_mem _ hd)).2.2⟩
theorem fcl_c {e : Int × Int × Int} {t : Os} {c : Int} : fcl (e :: t) c = if c = 44 ∧ e.1 = 91 then some (0, (44, e.2.1, 0) :: t) else if (c = 41 ∧ e.1 = 40) ∨ (c = 93 ∧ e.1 = 44) then some (1, t) else none := rfl
theorem fst_none0 {sg : Int} {o0 : Os} {c : Int} (hnl : crs c = -1) (hop : ¬ ((c = 40 ∨ c = 91) ∧ o0.length < 4)) (h0 : sg = 0) : fst sg o0 c = none := by
  unfold fst
  rw [if_neg (fun h => h hnl)]
  by_cases h : c = 40 ∨ c = 91
  · rw [if_pos h, if_neg (fun q => hop ⟨h, q⟩)]
  · rw [if_neg h, if_pos h0]
theorem fst_none {sg : Int} {o0 : Os} {c : Int} (hnl : crs c = -1) (hop : ¬ ((c = 40 ∨ c = 91) ∧ o0.length < 4)) (h0 : 0 ≤ sg ∧ sg ≤ 3) (h39 : ¬ (c = 39 ∧ sg = 1)) (hti : ¬ ((50 ≤ c ∧ c ≤ 57) ∧ sg < 3)) (h44 : ¬ (c = 44 ∧ inn o0 = 91)) (hcl : ¬ ((c = 41 ∧ inn o0 = 40) ∨ (c = 93 ∧ inn o0 = 44))) : fst sg o0 c = none := by
  by_cases hz : sg = 0
  · exact fst_none0 hnl hop hz
  unfold fst
  rw [if_neg (fun h => h hnl)]
  by_cases h : c = 40 ∨ c = 91
  · rw [if_pos h, if_neg (fun q => hop ⟨h, q⟩)]
  · rw [if_neg h, if_neg hz]
    by_cases h1 : c = 39
    · rw [if_pos h1, if_neg (fun q => h39 ⟨h1, q⟩)]
    · rw [if_neg h1]
      by_cases h2 : 50 ≤ c ∧ c ≤ 57
      · rw [if_pos h2, if_pos (by omega)]
      · rw [if_neg h2]
        cases o0 with
        | nil => rfl
        | cons e t => simp only [inn] at h44 hcl; rw [fcl_c, if_neg h44, if_neg hcl]
theorem inn_sgn {a b : Os} (h : sgn a = sgn b) : inn a = inn b := by
  cases a with
  | nil => cases b with
    | nil => rfl
    | cons e t => cases h
  | cons d s => cases b with
    | nil => cases h
    | cons e t => exact (List.cons.inj h).1
theorem len_sgn {a b : Os} (h : sgn a = sgn b) : a.length = b.length := by
  have := congrArg List.length h
  unfold sgn at this
  simpa using this
/-- told (cut at 1000) against the word of the text -/
def RR (v : List Int) (bv : Nat) (ov : Os) (w : List Int) (b : Nat) (os : Os) : Prop := (v = w ∧ bv = b ∧ ov = os ∧ w.length ≤ 120) ∨ (120 < v.length ∧ 120 < w.length)
def RS (t cs : List Int) (k : Int) (sg : Int) (o0 : Os) (v : List Int) (bv : Nat) (ov : Os) : Prop := fgo cs k sg o0 = faultT t ∧ sgn o0 = sgn ov ∧ (∀ e ∈ o0, e.1 = 40 ∨ e.1 = 91 ∨ e.1 = 44) ∧ OkR v bv ov ∧ v.length ≤ 1000 ∧ ∃ (w : List Int) (b : Nat) (os : Os), rgo cs w b os = textW t ∧ OkR w b os ∧ RR v bv ov w b os
theorem RS.nil (t : List Int) : RS t t 0 0 [] [] 0 [] := by
  have h : OkR [] 0 [] := ⟨(fun c h => by cases h), Nat.le_refl _, (fun e he => by cases he)⟩
  exact ⟨rfl, rfl, (fun e he => by cases he), h, by decide, [], 0, [], rfl, h, Or.inl ⟨rfl, rfl, rfl, by decide⟩⟩
theorem RS.step {t cs : List Int} {c k k' sg : Int} {o0 o1 : Os} {v w' : List Int} {bv b' : Nat} {ov o' : Os} {s1 : Int} (h : RS t (c :: cs) k sg o0 v bv ov) (hk' : k' = k + 1) (hf : fst sg o0 c = some (s1, o1)) (hr : rst v bv ov c = (w', b', o')) : RS t cs k' s1 o1 (w'.take 1000) b' o' := by
  subst hk'
  obtain ⟨h1, h2, h3, h4, h5, w, b, os, g1, g2, g3⟩ := h
  have hk := rst_ok (c := c) h4
  have hp := rst_pos (c := c) h4
  have hs := (fst_sg (w := v) (b := bv) h2 hf).1
  have ho := fst_ok h3 hf
  rw [hr] at hk hp hs
  simp only at hk hp hs
  obtain ⟨⟨k1, k2, k3⟩, k4⟩ := hk
  have hl : (w'.take 1000).length = min 1000 w'.length := List.length_take
  have hk2 := rst_ok (c := c) g2
  refine ⟨?_, hs, ho.2, ⟨k1.take _, by omega, fun e he => ?_⟩, by omega, (rst w b os c).1, (rst w b os c).2.1, (rst w b os c).2.2, g1, hk2.1, ?_⟩
  · rw [← h1]
    show _ = fgo (c :: cs) k sg o0
    rw [fgo, hf]
  · have e1 := k3 e he
    have e2 := hp.2 e he
    omega
  · rcases g3 with ⟨rfl, rfl, rfl, g4⟩ | ⟨g4, g5⟩
    · rw [hr]
      by_cases hw : w'.length ≤ 120
      · rw [List.take_of_length_le (by omega)]; exact Or.inl ⟨rfl, rfl, rfl, hw⟩
      · refine Or.inr ⟨by omega, ?_⟩
        show 120 < w'.length
        omega
    · exact Or.inr ⟨by omega, by omega⟩
theorem RS.fault {t cs : List Int} {c k sg : Int} {o0 : Os} {v : List Int} {bv : Nat} {ov : Os} (h : RS t (c :: cs) k sg o0 v bv ov) (hf : fst sg o0 c = none) : k = faultT t := by
  have h1 := h.1
  rw [fgo, hf] at h1
  exact h1
theorem RS.done {t : List Int} {k sg : Int} {o0 : Os} {v : List Int} {bv : Nat} {ov : Os} (h : RS t [] k sg o0 v bv ov) : (v = textW t ∧ v.length ≤ 120) ∨ (120 < v.length ∧ 120 < (textW t).length) := by
  obtain ⟨h1, h2, h3, h4, h5, w, b, os, g1, g2, g3⟩ := h
  have g1 : w = textW t := g1
  subst g1
  rcases g3 with ⟨rfl, -, -, g4⟩ | g4
  · exact Or.inl ⟨rfl, g4⟩
  · exact Or.inr g4
/-- brackets that stand yet -/
def OpM (M : Mem) (os : Os) : Prop := os.length ≤ 4 ∧ ∀ (j : Nat) (e : Int × Int × Int), os[j]? = some e → M 130 (os.length - 1 - j : Nat) = e.1 ∧ M 131 (os.length - 1 - j : Nat) = e.2.1 ∧ (e.1 = 44 → M 132 (os.length - 1 - j : Nat) = e.2.2)
theorem OpM.eq {M M' : Mem} {os : Os} (h : OpM M os) (e0 : M' 130 = M 130) (e1 : M' 131 = M 131) (e2 : M' 132 = M 132) : OpM M' os := by
  unfold OpM; rw [e0, e1, e2]; exact h
theorem OpM.opn {M M' : Mem} {os : Os} (h : OpM M os) (hl : os.length < 4) {c n m : Int} (hc : c ≠ 44) (e0 : M' 130 = up M 130 os.length c 130) (e1 : M' 131 = up M 131 os.length n 131) (e2 : M' 132 = M 132) : OpM M' ((c, n, m) :: os) := by
  refine ⟨by simp only [List.length_cons]; omega, fun j e hj => ?_⟩
  rw [e0, e1, e2]
  simp only [List.length_cons]
  cases j with
  | zero =>
    rw [List.getElem?_cons_zero] at hj
    cases hj
    rw [show os.length + 1 - 1 - 0 = os.length by omega, up_s, up_s]
    exact ⟨rfl, rfl, fun q => absurd q hc⟩
  | succ j =>
    rw [List.getElem?_cons_succ] at hj
    have hjl := (List.getElem?_eq_some_iff.mp hj).1
    rw [show os.length + 1 - 1 - (j + 1) = os.length - 1 - j by omega, up_k (by omega), up_k (by omega)]
    exact h.2 j e hj
theorem OpM.comma {M M' : Mem} {e : Int × Int × Int} {tl : Os} (h : OpM M (e :: tl)) {n : Int} (e0 : M' 130 = up M 130 tl.length 44 130) (e1 : M' 131 = M 131) (e2 : M' 132 = up M 132 tl.length n 132) : OpM M' ((44, e.2.1, n) :: tl) := by
  refine ⟨h.1, fun j d hj => ?_⟩
  rw [e0, e1, e2]
  have h0 := h.2 0 e rfl
  simp only [List.length_cons] at h0 ⊢
  cases j with
  | zero =>
    rw [List.getElem?_cons_zero] at hj
    cases hj
    rw [show tl.length + 1 - 1 - 0 = tl.length by omega] at h0 ⊢
    rw [up_s, up_s]
    exact ⟨rfl, h0.2.1, fun _ => rfl⟩
  | succ j =>
    rw [List.getElem?_cons_succ] at hj
    have hjl := (List.getElem?_eq_some_iff.mp hj).1
    have h1 := h.2 (j + 1) d (by rw [List.getElem?_cons_succ]; exact hj)
    simp only [List.length_cons] at h1
    rw [show tl.length + 1 - 1 - (j + 1) = tl.length - 1 - j by omega] at h1 ⊢
    rw [up_k (by omega), up_k (by omega)]
    exact h1
theorem OpM.close {M : Mem} {e : Int × Int × Int} {tl : Os} (h : OpM M (e :: tl)) : OpM M tl ∧ M 130 tl.length = e.1 ∧ M 131 tl.length = e.2.1 ∧ (e.1 = 44 → M 132 tl.length = e.2.2) := by
  have h4 := h.1
  simp only [List.length_cons] at h4
  refine ⟨⟨by omega, fun j d hj => ?_⟩, ?_⟩
  · have hjl := (List.getElem?_eq_some_iff.mp hj).1
    have h1 := h.2 (j + 1) d (by rw [List.getElem?_cons_succ]; exact hj)
    simp only [List.length_cons] at h1
    rwa [show tl.length + 1 - 1 - (j + 1) = tl.length - 1 - j by omega] at h1
  · have h0 := h.2 0 e rfl
    simp only [List.length_cons] at h0
    rwa [show tl.length + 1 - 1 - 0 = tl.length by omega] at h0
def OR (M M' : Mem) : Prop := (∀ a, a ≠ 120 → (a < 129 ∨ 133 ≤ a) → M' a = M a) ∧ ∀ k, k ≠ 14 → k ≠ 15 → M' 120 k = M 120 k
theorem OR.tr {M M' M'' : Mem} (h : OR M M') (k : OR M' M'') : OR M M'' := ⟨fun a h1 h2 => (k.1 a h1 h2).trans (h.1 a h1 h2), fun j h1 h2 => (k.2 j h1 h2).trans (h.2 j h1 h2)⟩
theorem OT.r {M M' : Mem} (h : OT M M') : OR M M' := ⟨fun a h1 h2 => h.1 a h1 (by omega), h.2⟩
theorem OR.op {M M' : Mem} (h : ∀ a, (a < 130 ∨ 133 ≤ a) → M' a = M a) : OR M M' := ⟨fun a _ h2 => h a (by omega), fun k _ _ => by rw [h 120 (by decide)]⟩
theorem OR.q {M M' : Mem} (h : OR M M') : OQ M M' := ⟨fun a h1 h2 => h.1 a h1 (by omega), fun k _ _ _ h4 h5 => h.2 k h4 h5⟩
theorem Td.eq {M M' : Mem} {v : List Int} (h : Td M v) (h1 : M' 120 = M 120) (h2 : M' 129 = M 129) : Td M' v := by
  unfold Td Ar; rw [h1, h2]; exact h
theorem OpM.t {M M' : Mem} {os : Os} (h : OpM M os) (o : OT M M') : OpM M' os := h.eq (o.1 130 (by decide) (by decide)) (o.1 131 (by decide) (by decide)) (o.1 132 (by decide) (by decide))

theorem c_X6_read {g : GE} {l : Launch} {M : Mem} {t : List Int} (ht : Pm M t) : Ci g l μX6_read [vR g 120] M (fun z M' => z = faultT t ∧ OR M M' ∧ (faultT t = -6 → ∃ v, Td M' v ∧ ((v = textW t ∧ v.length ≤ 120) ∨ (120 < v.length ∧ 120 < (textW t).length)))) := by
  refine Ci.of (by decide +kernel) rfl rfl (fun x hx hr => ?_)
  obtain ⟨ht1, ht2, ht3, ht4⟩ := ht
  have loop : ∀ (f : Nat), ∀ (k : Nat) (z dp ba sg : Int) (M' : Mem) (cs : List Int) (o0 : Os) (v : List Int) (bv : Nat) (ov : Os), z = k → t.drop k = cs → k + cs.length = t.length → cs.length < f → dp = ov.length → ba = bv → 0 ≤ sg ∧ sg ≤ 3 → RS t cs k sg o0 v bv ov → Td M' v → OpM M' ov → OR M M' → K x g 0 0 LAY NN M' 19 [(0, vR g 120), (1, vI dp), (2, vI ba), (3, vI sg), (4, vI z)] [] := by
    intro f
    induction f with
    | zero => intro k z dp ba sg M' cs o0 v bv ov hz hcs hcl0 hf hdp hba hsg hrs hd hop ho; omega
    | succ f ih =>
      intro k z dp ba sg M' cs o0 v bv ov hz hcs hcl0 hf hdp hba hsg hrs hd hop ho
      subst hz; subst hdp; subst hba
      have hov4 := hop.1
      have hok := hrs.2.2.2.1
      have hvl := hrs.2.2.2.2.1
      have hio := inn_sgn hrs.2.1
      have hlo := len_sgn hrs.2.1
      have hbl := hok.2.1
      refine k_iload hx dX6_read_19 4 rfl ?_
      refine k_aload_n hx dX6_read_21 0 rfl ?_
      refine k_get (v := vI t.length) hx fX6_134 dX6_read_22 n_120 L_120 (congrArg vI (show M' 120 6 = t.length from by rw [ho.2 6 (by decide) (by decide)]; exact ht1)) ?_
      refine k_icmp_ge hx dX6_read_25 (by omega) (fun h_25 => ?_) (fun h_25 => ?_)
      · refine k_iload_n hx dX6_read_359 3 rfl ?_
        refine k_ifeq hx dX6_read_360 (by omega) (fun h_360 => ?_) (fun h_360 => ?_)
        · refine k_aload_n hx dX6_read_367 0 rfl ?_
          refine k_get (v := vI t.length) hx fX6_134 dX6_read_368 n_120 L_120 (congrArg vI (show M' 120 6 = t.length from by rw [ho.2 6 (by decide) (by decide)]; exact ht1)) ?_
          refine k_goto hx dX6_read_371 ?_
          refine k_ri hx hr dX6_read_376 ?_
          have hk : k = t.length := by omega
          have hc0 : cs = [] := List.length_eq_zero_iff.mp (by omega)
          subst hc0
          have hfe := hrs.1
          rw [fgo] at hfe
          rw [if_pos (by first | exact Or.inl h_360 | exact Or.inr (fun q => by rw [q] at hlo; simp only [List.length_nil] at hlo; omega))] at hfe
          exact ⟨by omega, ho, fun q => by omega⟩
        · refine k_iload_n hx dX6_read_363 1 rfl ?_
          refine k_ifle hx dX6_read_364 (by omega) (fun h_364 => ?_) (fun h_364 => ?_)
          · refine k_bipush hx dX6_read_374 (by decide +kernel) ?_
            refine k_ri hx hr dX6_read_376 ?_
            have hk : k = t.length := by omega
            have hc0 : cs = [] := List.length_eq_zero_iff.mp (by omega)
            subst hc0
            have hfe := hrs.1
            rw [fgo] at hfe
            rw [if_neg (fun q => q.elim h_360 (fun q => q (List.length_eq_zero_iff.mp (by omega))))] at hfe
            exact ⟨by omega, ho, fun _ => ⟨v, hd, hrs.done⟩⟩
          · refine k_aload_n hx dX6_read_367 0 rfl ?_
            refine k_get (v := vI t.length) hx fX6_134 dX6_read_368 n_120 L_120 (congrArg vI (show M' 120 6 = t.length from by rw [ho.2 6 (by decide) (by decide)]; exact ht1)) ?_
            refine k_goto hx dX6_read_371 ?_
            refine k_ri hx hr dX6_read_376 ?_
            have hk : k = t.length := by omega
            have hc0 : cs = [] := List.length_eq_zero_iff.mp (by omega)
            subst hc0
            have hfe := hrs.1
            rw [fgo] at hfe
            rw [if_pos (by first | exact Or.inl h_360 | exact Or.inr (fun q => by rw [q] at hlo; simp only [List.length_nil] at hlo; omega))] at hfe
            exact ⟨by omega, ho, fun q => by omega⟩
      · obtain ⟨c, cs, rfl⟩ : ∃ c ds, cs = c :: ds := by
          cases cs with
          | nil => simp only [List.length_nil] at hcl0; omega
          | cons c ds => exact ⟨c, ds, rfl⟩
        simp only [List.length_cons] at hf hcl0
        have hcg : t[k]? = some c := by
          have h := List.getElem?_drop (xs := t) (i := k) (j := 0)
          rw [hcs] at h
          exact h.symm
        have hcb := ht4 c (List.mem_of_getElem? hcg)
        have hcM : M' 125 k = c := by
          rw [ho.1 125 (by decide) (by decide), ht3 k (by omega), List.getD_eq_getElem?_getD, hcg]; rfl
        have rest : ∀ kd : Int, kd = inn ov → K x g 0 0 LAY NN M' 75 [(0, vR g 120), (1, vI ov.length), (2, vI bv), (3, vI sg), (4, vI k), (5, vI c), (6, vI (b2i (decide (97 ≤ c ∧ c ≤ 102)))), (7, vI (b2i (decide (65 ≤ c ∧ c ≤ 70))))] [vI kd] := by
          intro kd hkd
          have hkr : 0 ≤ kd ∧ kd < 100 := by
            rw [hkd, ← hio]
            cases o0 with
            | nil => exact ⟨Int.le_refl 0, by decide⟩
            | cons e tl => have := hrs.2.2.1 e List.mem_cons_self; simp only [inn]; omega
          have s87 : (97 ≤ c ∧ c ≤ 102) ∨ (65 ≤ c ∧ c ≤ 70) → K x g 0 0 LAY NN M' 87 [(0, vR g 120), (1, vI ov.length), (2, vI bv), (3, vI sg), (4, vI k), (5, vI c), (6, vI (b2i (decide (97 ≤ c ∧ c ≤ 102)))), (7, vI (b2i (decide (65 ≤ c ∧ c ≤ 70)))), (8, vI kd)] [] := by
            intro hlt
            refine k_aload_n hx dX6_read_87 0 rfl ?_
            refine k_get (v := vI v.length) hx fX6_120 dX6_read_88 n_120 L_120 (congrArg vI (show M' 120 14 = v.length from hd.1)) ?_
            refine k_istore_n (ls' := [(0, vR g 120), (1, vI ov.length), (2, vI v.length), (3, vI sg), (4, vI k), (5, vI c), (6, vI (b2i (decide (97 ≤ c ∧ c ≤ 102)))), (7, vI (b2i (decide (65 ≤ c ∧ c ≤ 70)))), (8, vI kd)]) hx dX6_read_91 rfl rfl (by decide) ?_
            refine k_aload_n hx dX6_read_92 0 rfl ?_
            refine k_iload hx dX6_read_93 6 rfl ?_
            refine k_beq hx dX6_read_95 (fun h_95 => ?_) (fun h_95 => ?_)
            · have hcr : crs c = c - 65 + 6 := by unfold crs; rw [if_neg (by omega), if_pos (by omega)]
              have hne : crs c ≠ -1 := by omega
              refine k_iload hx dX6_read_106 5 rfl ?_
              refine k_bipush hx dX6_read_108 (by decide +kernel) ?_
              refine k_isub hx dX6_read_110 ?_
              refine k_bipush hx dX6_read_111 (by decide +kernel) ?_
              refine k_iadd hx dX6_read_113 ?_
              rw [← hcr]
              refine k_vv (rest := []) hx vX6_127 dX6_read_114 (c_X6_tell hd (crs_rg hne)) n_120 L_120 rfl rfl rfl ⟨rfl, rfl⟩ ⟨by decide, by decide⟩ (fun M_114 p_114 => ?_)
              refine k_iconst hx dX6_read_117 ?_
              refine k_istore_n (ls' := [(0, vR g 120), (1, vI ov.length), (2, vI v.length), (3, vI 1), (4, vI k), (5, vI c), (6, vI (b2i (decide (97 ≤ c ∧ c ≤ 102)))), (7, vI (b2i (decide (65 ≤ c ∧ c ≤ 70)))), (8, vI kd)]) hx dX6_read_118 rfl rfl (by decide) ?_
              refine k_goto hx dX6_read_119 ?_
              refine k_iinc (ls' := [(0, vR g 120), (1, vI ov.length), (2, vI v.length), (3, vI 1), (4, vI (k + 1)), (5, vI c), (6, vI (b2i (decide (97 ≤ c ∧ c ≤ 102)))), (7, vI (b2i (decide (65 ≤ c ∧ c ≤ 70)))), (8, vI kd)]) hx dX6_read_353 4 rfl rfl rfl (by decide) ?_
              refine k_goto hx dX6_read_356 ?_
              refine K.sub [0, 1, 2, 3, 4] rfl ?_
              have hf : fst sg o0 c = some (1, o0) := by unfold fst; rw [if_pos hne]
              have hrr : rst v bv ov c = (v ++ [crs c], v.length, ov) := by unfold rst; rw [if_pos hne]
              have hst := hrs.step (k' := ((k + 1 : Nat) : Int)) (by omega) hf hrr
              exact ih (k + 1) _ _ _ 1 M_114 cs o0 _ _ _ (by omega) (by rw [← List.drop_drop, hcs]; rfl) (by omega) (by omega) (rfl) (rfl) (by omega) hst (p_114.1) (hop.t p_114.2) (ho.tr p_114.2.r)
            · have hcr : crs c = c - 97 := by unfold crs; rw [if_pos (by omega)]
              have hne : crs c ≠ -1 := by omega
              refine k_iload hx dX6_read_98 5 rfl ?_
              refine k_bipush hx dX6_read_100 (by decide +kernel) ?_
              refine k_isub hx dX6_read_102 ?_
              refine k_goto hx dX6_read_103 ?_
              rw [← hcr]
              refine k_vv (rest := []) hx vX6_127 dX6_read_114 (c_X6_tell hd (crs_rg hne)) n_120 L_120 rfl rfl rfl ⟨rfl, rfl⟩ ⟨by decide, by decide⟩ (fun M_114 p_114 => ?_)
              refine k_iconst hx dX6_read_117 ?_
              refine k_istore_n (ls' := [(0, vR g 120), (1, vI ov.length), (2, vI v.length), (3, vI 1), (4, vI k), (5, vI c), (6, vI (b2i (decide (97 ≤ c ∧ c ≤ 102)))), (7, vI (b2i (decide (65 ≤ c ∧ c ≤ 70)))), (8, vI kd)]) hx dX6_read_118 rfl rfl (by decide) ?_
              refine k_goto hx dX6_read_119 ?_
              refine k_iinc (ls' := [(0, vR g 120), (1, vI ov.length), (2, vI v.length), (3, vI 1), (4, vI (k + 1)), (5, vI c), (6, vI (b2i (decide (97 ≤ c ∧ c ≤ 102)))), (7, vI (b2i (decide (65 ≤ c ∧ c ≤ 70)))), (8, vI kd)]) hx dX6_read_353 4 rfl rfl rfl (by decide) ?_
              refine k_goto hx dX6_read_356 ?_
              refine K.sub [0, 1, 2, 3, 4] rfl ?_
              have hf : fst sg o0 c = some (1, o0) := by unfold fst; rw [if_pos hne]
              have hrr : rst v bv ov c = (v ++ [crs c], v.length, ov) := by unfold rst; rw [if_pos hne]
              have hst := hrs.step (k' := ((k + 1 : Nat) : Int)) (by omega) hf hrr
              exact ih (k + 1) _ _ _ 1 M_114 cs o0 _ _ _ (by omega) (by rw [← List.drop_drop, hcs]; rfl) (by omega) (by omega) (rfl) (rfl) (by omega) hst (p_114.1) (hop.t p_114.2) (ho.tr p_114.2.r)
          have s350 : crs c = -1 → ¬ ((c = 40 ∨ c = 91) ∧ ov.length < 4) → ¬ (c = 39 ∧ sg = 1) → ¬ ((50 ≤ c ∧ c ≤ 57) ∧ sg < 3) → ¬ (c = 44 ∧ kd = 91) → ¬ ((c = 41 ∧ kd = 40) ∨ (c = 93 ∧ kd = 44)) → K x g 0 0 LAY NN M' 350 [(0, vR g 120), (1, vI ov.length), (2, vI bv), (3, vI sg), (4, vI k), (5, vI c), (6, vI (b2i (decide (97 ≤ c ∧ c ≤ 102)))), (7, vI (b2i (decide (65 ≤ c ∧ c ≤ 70)))), (8, vI kd)] [] := by
            intro hnl g1 g2 g3 g4 g5
            refine k_iload hx dX6_read_350 4 rfl ?_
            refine k_ri hx hr dX6_read_352 ?_
            have hft := hrs.fault (fst_none hnl (by omega) hsg (by omega) (by omega) (by omega) (by omega))
            exact ⟨hft, ho, fun q => by omega⟩
          have s297 : crs c = -1 → ¬ (c = 40 ∨ c = 91) → sg ≠ 0 → ((c = 41 ∧ kd = 40) ∨ (c = 93 ∧ kd = 44)) → K x g 0 0 LAY NN M' 297 [(0, vR g 120), (1, vI ov.length), (2, vI bv), (3, vI sg), (4, vI k), (5, vI c), (6, vI (b2i (decide (97 ≤ c ∧ c ≤ 102)))), (7, vI (b2i (decide (65 ≤ c ∧ c ≤ 70)))), (8, vI kd)] [] := by
            intro hnl g1 g2 g3
            obtain ⟨e, tl, hov⟩ : ∃ e tl, ov = e :: tl := by
              cases ov with
              | nil => exact absurd hkd (by simp only [inn]; omega)
              | cons e tl => exact ⟨e, tl, rfl⟩
            obtain ⟨e0, t0, hoo⟩ : ∃ e tl, o0 = e :: tl := by
              cases o0 with
              | nil => exact absurd hkd (by rw [← hio]; simp only [inn]; omega)
              | cons e tl => exact ⟨e, tl, rfl⟩
            have htl : (ov.length : Int) - 1 = tl.length := by rw [hov, List.length_cons]; omega
            have htl2 : (ov.length : Int) + (-1) = tl.length := by rw [hov, List.length_cons]; omega
            have he : e.1 = kd := by rw [hkd, hov]; rfl
            have he0 : e0.1 = kd := by rw [hkd, ← hio, hoo]; rfl
            have hee := hok.2.2 e (by rw [hov]; exact List.mem_cons_self)
            have hcl := (hov ▸ hop : OpM M' (e :: tl)).close
            refine k_iinc (ls' := [(0, vR g 120), (1, vI (ov.length + (-1))), (2, vI bv), (3, vI sg), (4, vI k), (5, vI c), (6, vI (b2i (decide (97 ≤ c ∧ c ≤ 102)))), (7, vI (b2i (decide (65 ≤ c ∧ c ≤ 70)))), (8, vI kd)]) hx dX6_read_297 1 rfl rfl rfl (by decide) ?_
            refine k_aload_n hx dX6_read_300 0 rfl ?_
            refine k_get (v := vR g 131) hx fX6_41 dX6_read_301 n_120 L_120 rfl ?_
            refine k_iload_n hx dX6_read_304 1 rfl ?_
            refine k_iald (v := (e.2.1.toNat : Nat)) hx dX6_read_305 n_131 L_131 (by omega) (by decide) (by rw [htl2, hcl.2.2.1]; omega) ?_
            refine k_istore_n (ls' := [(0, vR g 120), (1, vI (ov.length + (-1))), (2, vI (e.2.1.toNat : Nat)), (3, vI sg), (4, vI k), (5, vI c), (6, vI (b2i (decide (97 ≤ c ∧ c ≤ 102)))), (7, vI (b2i (decide (65 ≤ c ∧ c ≤ 70)))), (8, vI kd)]) hx dX6_read_306 rfl rfl (by decide) ?_
            refine k_iload hx dX6_read_307 8 rfl ?_
            refine k_bipush hx dX6_read_309 (by decide +kernel) ?_
            refine k_icmp_ne hx dX6_read_311 (by omega) (fun h_311 => ?_) (fun h_311 => ?_)
            · refine k_iconst hx dX6_read_345 ?_
              refine k_istore_n (ls' := [(0, vR g 120), (1, vI (ov.length + (-1))), (2, vI (e.2.1.toNat : Nat)), (3, vI 1), (4, vI k), (5, vI c), (6, vI (b2i (decide (97 ≤ c ∧ c ≤ 102)))), (7, vI (b2i (decide (65 ≤ c ∧ c ≤ 70)))), (8, vI kd)]) hx dX6_read_346 rfl rfl (by decide) ?_
              refine k_goto hx dX6_read_347 ?_
              refine k_iinc (ls' := [(0, vR g 120), (1, vI (ov.length + (-1))), (2, vI (e.2.1.toNat : Nat)), (3, vI 1), (4, vI (k + 1)), (5, vI c), (6, vI (b2i (decide (97 ≤ c ∧ c ≤ 102)))), (7, vI (b2i (decide (65 ≤ c ∧ c ≤ 70)))), (8, vI kd)]) hx dX6_read_353 4 rfl rfl rfl (by decide) ?_
              refine k_goto hx dX6_read_356 ?_
              refine K.sub [0, 1, 2, 3, 4] rfl ?_
              have hf : fst sg o0 c = some (1, t0) := by unfold fst; rw [if_neg (fun h => h hnl), if_neg (by omega), if_neg (by omega), if_neg (by omega), if_neg (by omega), hoo, fcl_c, if_neg (by omega), if_pos (by omega)]
              have hrr : rst v bv ov c = (v, e.2.1.toNat, tl) := by unfold rst; rw [if_neg (fun h => h hnl), if_neg (by omega), if_neg (by omega), if_neg (by omega), if_neg (by omega), hov]; simp only; rw [if_pos (by omega)]
              have hst := hrs.step (k' := ((k + 1 : Nat) : Int)) (by omega) hf hrr
              rw [List.take_of_length_le hvl] at hst
              exact ih (k + 1) _ _ _ 1 M' cs t0 _ _ _ (by omega) (by rw [← List.drop_drop, hcs]; rfl) (by omega) (by omega) (htl2) (rfl) (by omega) hst (hd) (hcl.1) (ho)
            · have h44 := hcl.2.2.2 (by omega)
              refine k_aload_n hx dX6_read_314 0 rfl ?_
              refine k_get (v := vI v.length) hx fX6_120 dX6_read_315 n_120 L_120 (congrArg vI (show M' 120 14 = v.length from hd.1)) ?_
              refine k_istore (ls' := [(0, vR g 120), (1, vI (ov.length + (-1))), (2, vI (e.2.1.toNat : Nat)), (3, vI sg), (4, vI k), (5, vI c), (6, vI (b2i (decide (97 ≤ c ∧ c ≤ 102)))), (7, vI (b2i (decide (65 ≤ c ∧ c ≤ 70)))), (8, vI kd), (9, vI v.length)]) hx dX6_read_318 rfl rfl (by decide) ?_
              refine k_aload_n hx dX6_read_320 0 rfl ?_
              refine k_iload_n hx dX6_read_321 2 rfl ?_
              refine k_aload_n hx dX6_read_322 0 rfl ?_
              refine k_get (v := vR g 132) hx fX6_44 dX6_read_323 n_120 L_120 rfl ?_
              refine k_iload_n hx dX6_read_326 1 rfl ?_
              refine k_iald (v := (e.2.2.toNat : Nat)) hx dX6_read_327 n_132 L_132 (by omega) (by decide) (by rw [htl2, h44]; omega) ?_
              refine k_iconst hx dX6_read_328 ?_
              refine k_vv (rest := []) hx vX6_130 dX6_read_329 (c_X6_tellAgain hd (a := e.2.1.toNat) (b := e.2.2.toNat) (by omega) (by omega) (t := true)) n_120 L_120 rfl rfl rfl ⟨rfl, rfl⟩ ⟨by decide, by decide⟩ (fun M_329 p_329 => ?_)
              have hd2 : Td M_329 (ext v (trn (slc v e.2.1.toNat e.2.2.toNat))) := p_329.1
              have hel := ext_len v (trn (slc v e.2.1.toNat e.2.2.toNat))
              refine k_aload_n hx dX6_read_332 0 rfl ?_
              refine k_aload_n hx dX6_read_333 0 rfl ?_
              refine k_get (v := vR g 132) hx fX6_44 dX6_read_334 n_120 L_120 rfl ?_
              refine k_iload_n hx dX6_read_337 1 rfl ?_
              refine k_iald (v := (e.2.2.toNat : Nat)) hx dX6_read_338 n_132 L_132 (by omega) (by decide) (by rw [htl2, p_329.2.1 132 (by decide) (by decide), h44]; omega) ?_
              refine k_iload hx dX6_read_339 9 rfl ?_
              refine k_iconst hx dX6_read_341 ?_
              refine k_vv (rest := []) hx vX6_130 dX6_read_342 (c_X6_tellAgain hd2 (a := e.2.2.toNat) (b := v.length) (by omega) (by omega) (t := true)) n_120 L_120 rfl rfl rfl ⟨rfl, rfl⟩ ⟨by decide, by decide⟩ (fun M_342 p_342 => ?_)
              have hfin : Td M_342 (ext v (trn (slc v e.2.1.toNat e.2.2.toNat) ++ trn (slc v e.2.2.toNat v.length))) := by
                have h := p_342.1
                rw [ext_slc hvl (Nat.le_refl _), ext_ext] at h
                exact h
              refine k_iconst hx dX6_read_345 ?_
              refine k_istore_n (ls' := [(0, vR g 120), (1, vI (ov.length + (-1))), (2, vI (e.2.1.toNat : Nat)), (3, vI 1), (4, vI k), (5, vI c), (6, vI (b2i (decide (97 ≤ c ∧ c ≤ 102)))), (7, vI (b2i (decide (65 ≤ c ∧ c ≤ 70)))), (8, vI kd), (9, vI v.length)]) hx dX6_read_346 rfl rfl (by decide) ?_
              refine k_goto hx dX6_read_347 ?_
              refine k_iinc (ls' := [(0, vR g 120), (1, vI (ov.length + (-1))), (2, vI (e.2.1.toNat : Nat)), (3, vI 1), (4, vI (k + 1)), (5, vI c), (6, vI (b2i (decide (97 ≤ c ∧ c ≤ 102)))), (7, vI (b2i (decide (65 ≤ c ∧ c ≤ 70)))), (8, vI kd), (9, vI v.length)]) hx dX6_read_353 4 rfl rfl rfl (by decide) ?_
              refine k_goto hx dX6_read_356 ?_
              refine K.sub [0, 1, 2, 3, 4] rfl ?_
              have hf : fst sg o0 c = some (1, t0) := by unfold fst; rw [if_neg (fun h => h hnl), if_neg (by omega), if_neg (by omega), if_neg (by omega), if_neg (by omega), hoo, fcl_c, if_neg (by omega), if_pos (by omega)]
              have hrr : rst v bv ov c = (v ++ (trn (slc v e.2.1.toNat e.2.2.toNat) ++ trn (slc v e.2.2.toNat v.length)), e.2.1.toNat, tl) := by unfold rst; rw [if_neg (fun h => h hnl), if_neg (by omega), if_neg (by omega), if_neg (by omega), if_neg (by omega), hov]; simp only; rw [if_neg (by omega)]
              have hst := hrs.step (k' := ((k + 1 : Nat) : Int)) (by omega) hf hrr
              exact ih (k + 1) _ _ _ 1 M_342 cs t0 _ _ _ (by omega) (by rw [← List.drop_drop, hcs]; rfl) (by omega) (by omega) (htl2) (rfl) (by omega) hst (hfin) ((hcl.1.t p_329.2).t p_342.2) ((ho.tr p_329.2.r).tr p_342.2.r)
          have s269 : crs c = -1 → ¬ (c = 40 ∨ c = 91) → sg ≠ 0 → ¬ (c = 39 ∧ sg = 1) → ¬ ((50 ≤ c ∧ c ≤ 57) ∧ sg < 3) → ¬ (c = 44 ∧ kd = 91) → K x g 0 0 LAY NN M' 269 [(0, vR g 120), (1, vI ov.length), (2, vI bv), (3, vI sg), (4, vI k), (5, vI c), (6, vI (b2i (decide (97 ≤ c ∧ c ≤ 102)))), (7, vI (b2i (decide (65 ≤ c ∧ c ≤ 70)))), (8, vI kd)] [] := by
            intro hnl g1 g2 g3 g4 g5
            refine k_iload hx dX6_read_269 5 rfl ?_
            refine k_bipush hx dX6_read_271 (by decide +kernel) ?_
            refine k_icmp_ne hx dX6_read_273 (by omega) (fun h_273 => ?_) (fun h_273 => ?_)
            · refine k_iload hx dX6_read_283 5 rfl ?_
              refine k_bipush hx dX6_read_285 (by decide +kernel) ?_
              refine k_icmp_ne hx dX6_read_287 (by omega) (fun h_287 => ?_) (fun h_287 => ?_)
              · exact s350 hnl (by omega) g3 g4 g5 (by omega)
              · refine k_iload hx dX6_read_290 8 rfl ?_
                refine k_bipush hx dX6_read_292 (by decide +kernel) ?_
                refine k_icmp_ne hx dX6_read_294 (by omega) (fun h_294 => ?_) (fun h_294 => ?_)
                · exact s350 hnl (by omega) g3 g4 g5 (by omega)
                · exact s297 hnl g1 g2 (by omega)
            · refine k_iload hx dX6_read_276 8 rfl ?_
              refine k_bipush hx dX6_read_278 (by decide +kernel) ?_
              refine k_icmp_eq hx dX6_read_280 (by omega) (fun h_280 => ?_) (fun h_280 => ?_)
              · exact s297 hnl g1 g2 (by omega)
              · refine k_iload hx dX6_read_283 5 rfl ?_
                refine k_bipush hx dX6_read_285 (by decide +kernel) ?_
                refine k_icmp_ne hx dX6_read_287 (by omega) (fun h_287 => ?_) (fun h_287 => ?_)
                · exact s350 hnl (by omega) g3 g4 g5 (by omega)
                · refine k_iload hx dX6_read_290 8 rfl ?_
                  refine k_bipush hx dX6_read_292 (by decide +kernel) ?_
                  refine k_icmp_ne hx dX6_read_294 (by omega) (fun h_294 => ?_) (fun h_294 => ?_)
                  · exact s350 hnl (by omega) g3 g4 g5 (by omega)
                  · exact s297 hnl g1 g2 (by omega)
          have s228 : crs c = -1 → ¬ (c = 40 ∨ c = 91) → sg ≠ 0 → ¬ (c = 39 ∧ sg = 1) → ¬ ((50 ≤ c ∧ c ≤ 57) ∧ sg < 3) → K x g 0 0 LAY NN M' 228 [(0, vR g 120), (1, vI ov.length), (2, vI bv), (3, vI sg), (4, vI k), (5, vI c), (6, vI (b2i (decide (97 ≤ c ∧ c ≤ 102)))), (7, vI (b2i (decide (65 ≤ c ∧ c ≤ 70)))), (8, vI kd)] [] := by
            intro hnl g1 g2 g3 g4
            refine k_iload hx dX6_read_228 5 rfl ?_
            refine k_bipush hx dX6_read_230 (by decide +kernel) ?_
            refine k_icmp_ne hx dX6_read_232 (by omega) (fun h_232 => ?_) (fun h_232 => ?_)
            · exact s269 hnl g1 g2 g3 g4 (by omega)
            · refine k_iload hx dX6_read_235 8 rfl ?_
              refine k_bipush hx dX6_read_237 (by decide +kernel) ?_
              refine k_icmp_ne hx dX6_read_239 (by omega) (fun h_239 => ?_) (fun h_239 => ?_)
              · exact s269 hnl g1 g2 g3 g4 (by omega)
              · obtain ⟨e, tl, hov⟩ : ∃ e tl, ov = e :: tl := by
                  cases ov with
                  | nil => exact absurd hkd (by simp only [inn]; omega)
                  | cons e tl => exact ⟨e, tl, rfl⟩
                obtain ⟨e0, t0, hoo⟩ : ∃ e tl, o0 = e :: tl := by
                  cases o0 with
                  | nil => exact absurd hkd (by rw [← hio]; simp only [inn]; omega)
                  | cons e tl => exact ⟨e, tl, rfl⟩
                have htl : (ov.length : Int) - 1 = tl.length := by rw [hov, List.length_cons]; omega
                have htl2 : (ov.length : Int) + (-1) = tl.length := by rw [hov, List.length_cons]; omega
                have he : e.1 = kd := by rw [hkd, hov]; rfl
                have he0 : e0.1 = kd := by rw [hkd, ← hio, hoo]; rfl
                have hee := hok.2.2 e (by rw [hov]; exact List.mem_cons_self)
                have hcl := (hov ▸ hop : OpM M' (e :: tl)).close
                refine k_aload_n hx dX6_read_242 0 rfl ?_
                refine k_get (v := vR g 130) hx fX6_38 dX6_read_243 n_120 L_120 rfl ?_
                refine k_iload_n hx dX6_read_246 1 rfl ?_
                refine k_iconst hx dX6_read_247 ?_
                refine k_isub hx dX6_read_248 ?_
                refine k_bipush hx dX6_read_249 (by decide +kernel) ?_
                refine k_iastN hx dX6_read_251 n_130 L_130 (by omega) (by decide) (fun M_251 hM_251 => ?_)
                refine k_aload_n hx dX6_read_252 0 rfl ?_
                refine k_get (v := vR g 132) hx fX6_44 dX6_read_253 n_120 L_120 rfl ?_
                refine k_iload_n hx dX6_read_256 1 rfl ?_
                refine k_iconst hx dX6_read_257 ?_
                refine k_isub hx dX6_read_258 ?_
                refine k_aload_n hx dX6_read_259 0 rfl ?_
                refine k_get (v := vI v.length) hx fX6_120 dX6_read_260 n_120 L_120 (congrArg vI (show M_251 120 14 = v.length from by rw [hM_251, up_i (by decide)]; exact hd.1)) ?_
                refine k_iastN hx dX6_read_263 n_132 L_132 (by omega) (by decide) (fun M_263 hM_263 => ?_)
                refine k_iconst hx dX6_read_264 ?_
                refine k_istore_n (ls' := [(0, vR g 120), (1, vI ov.length), (2, vI bv), (3, vI 0), (4, vI k), (5, vI c), (6, vI (b2i (decide (97 ≤ c ∧ c ≤ 102)))), (7, vI (b2i (decide (65 ≤ c ∧ c ≤ 70)))), (8, vI kd)]) hx dX6_read_265 rfl rfl (by decide) ?_
                refine k_goto hx dX6_read_266 ?_
                refine k_iinc (ls' := [(0, vR g 120), (1, vI ov.length), (2, vI bv), (3, vI 0), (4, vI (k + 1)), (5, vI c), (6, vI (b2i (decide (97 ≤ c ∧ c ≤ 102)))), (7, vI (b2i (decide (65 ≤ c ∧ c ≤ 70)))), (8, vI kd)]) hx dX6_read_353 4 rfl rfl rfl (by decide) ?_
                refine k_goto hx dX6_read_356 ?_
                refine K.sub [0, 1, 2, 3, 4] rfl ?_
                have hf : fst sg o0 c = some (0, ((44, e0.2.1, 0) :: t0)) := by unfold fst; rw [if_neg (fun h => h hnl), if_neg (by omega), if_neg (by omega), if_neg (by omega), if_neg (by omega), hoo, fcl_c, if_pos (by omega)]
                have hrr : rst v bv ov c = (v, bv, ((44, e.2.1, (v.length : Int)) :: tl)) := by unfold rst; rw [if_neg (fun h => h hnl), if_neg (by omega), if_pos (by omega), hov]
                have hst := hrs.step (k' := ((k + 1 : Nat) : Int)) (by omega) hf hrr
                rw [List.take_of_length_le hvl] at hst
                exact ih (k + 1) _ _ _ 0 M_263 cs ((44, e0.2.1, 0) :: t0) _ _ _ (by omega) (by rw [← List.drop_drop, hcs]; rfl) (by omega) (by omega) (by rw [hov, List.length_cons, List.length_cons]) (rfl) (by omega) hst (hd.eq (by rw [hM_263, up_i (by decide), hM_251, up_i (by decide)]) (by rw [hM_263, up_i (by decide), hM_251, up_i (by decide)])) ((hov ▸ hop : OpM M' (e :: tl)).comma (by rw [hM_263, up_i (by decide), hM_251, htl]) (by rw [hM_263, up_i (by decide), hM_251, up_i (by decide)]) (by rw [hM_263, hM_251, htl]; funext q; by_cases hq : q = tl.length; rw [hq, up_s, up_s]; rw [up_k hq, up_k hq, up_i (by decide)])) (ho.tr (OR.op (fun a ha => by rw [hM_263, up_i (by omega), hM_251, up_i (by omega)])))
          have s196 : crs c = -1 → ¬ (c = 40 ∨ c = 91) → sg ≠ 0 → ¬ (c = 39 ∧ sg = 1) → K x g 0 0 LAY NN M' 196 [(0, vR g 120), (1, vI ov.length), (2, vI bv), (3, vI sg), (4, vI k), (5, vI c), (6, vI (b2i (decide (97 ≤ c ∧ c ≤ 102)))), (7, vI (b2i (decide (65 ≤ c ∧ c ≤ 70)))), (8, vI kd)] [] := by
            intro hnl g1 g2 g3
            refine k_iload hx dX6_read_196 5 rfl ?_
            refine k_bipush hx dX6_read_198 (by decide +kernel) ?_
            refine k_bipush hx dX6_read_200 (by decide +kernel) ?_
            refine k_sp (rest := []) (e := (b2i (decide (50 ≤ c ∧ c ≤ 57)))) hx sX6_61 dX6_read_202 (c_X6_in (v := c) (a := 50) (b := 57) (by omega)) rfl rfl rfl ⟨rfl, rfl⟩ ⟨by decide, by decide⟩ ?_
            refine k_beq hx dX6_read_205 (fun h_205 => ?_) (fun h_205 => ?_)
            · exact s228 hnl g1 g2 g3 (by omega)
            · refine k_iload_n hx dX6_read_208 3 rfl ?_
              refine k_iconst hx dX6_read_209 ?_
              refine k_icmp_ge hx dX6_read_210 (by omega) (fun h_210 => ?_) (fun h_210 => ?_)
              · exact s228 hnl g1 g2 g3 (by omega)
              · refine k_aload_n hx dX6_read_213 0 rfl ?_
                refine k_iload_n hx dX6_read_214 2 rfl ?_
                refine k_iload hx dX6_read_215 5 rfl ?_
                refine k_bipush hx dX6_read_217 (by decide +kernel) ?_
                refine k_isub hx dX6_read_219 ?_
                obtain ⟨n, hn⟩ : ∃ n : Nat, c - 48 = n := ⟨(c - 48).toNat, by omega⟩
                rw [hn]
                refine k_vv (rest := []) hx vX6_140 dX6_read_220 (c_X6_repeat hd (a := bv) (t := n) hok.2.1 (by omega)) n_120 L_120 rfl rfl rfl ⟨rfl, rfl⟩ ⟨by decide, by decide⟩ (fun M_220 p_220 => ?_)
                refine k_iconst hx dX6_read_223 ?_
                refine k_istore_n (ls' := [(0, vR g 120), (1, vI ov.length), (2, vI bv), (3, vI 3), (4, vI k), (5, vI c), (6, vI (b2i (decide (97 ≤ c ∧ c ≤ 102)))), (7, vI (b2i (decide (65 ≤ c ∧ c ≤ 70)))), (8, vI kd)]) hx dX6_read_224 rfl rfl (by decide) ?_
                refine k_goto hx dX6_read_225 ?_
                refine k_iinc (ls' := [(0, vR g 120), (1, vI ov.length), (2, vI bv), (3, vI 3), (4, vI (k + 1)), (5, vI c), (6, vI (b2i (decide (97 ≤ c ∧ c ≤ 102)))), (7, vI (b2i (decide (65 ≤ c ∧ c ≤ 70)))), (8, vI kd)]) hx dX6_read_353 4 rfl rfl rfl (by decide) ?_
                refine k_goto hx dX6_read_356 ?_
                refine K.sub [0, 1, 2, 3, 4] rfl ?_
                have hf : fst sg o0 c = some (3, o0) := by unfold fst; rw [if_neg (fun h => h hnl), if_neg (by omega), if_neg (by omega), if_neg (by omega), if_pos (by omega), if_neg (by omega)]
                have hrr : rst v bv ov c = (v ++ rpt ((c - 48).toNat - 1) (v.drop bv), bv, ov) := by unfold rst; rw [if_neg (fun h => h hnl), if_neg (by omega), if_neg (by omega), if_neg (by omega), if_pos (by omega)]
                have hst := hrs.step (k' := ((k + 1 : Nat) : Int)) (by omega) hf hrr
                exact ih (k + 1) _ _ _ 3 M_220 cs o0 _ _ _ (by omega) (by rw [← List.drop_drop, hcs]; rfl) (by omega) (by omega) (rfl) (rfl) (by omega) hst (by rw [hn]; exact p_220.1) (hop.t p_220.2) (ho.tr p_220.2.r)
          have s174 : crs c = -1 → ¬ (c = 40 ∨ c = 91) → sg ≠ 0 → K x g 0 0 LAY NN M' 174 [(0, vR g 120), (1, vI ov.length), (2, vI bv), (3, vI sg), (4, vI k), (5, vI c), (6, vI (b2i (decide (97 ≤ c ∧ c ≤ 102)))), (7, vI (b2i (decide (65 ≤ c ∧ c ≤ 70)))), (8, vI kd)] [] := by
            intro hnl g1 g2
            refine k_iload hx dX6_read_174 5 rfl ?_
            refine k_bipush hx dX6_read_176 (by decide +kernel) ?_
            refine k_icmp_ne hx dX6_read_178 (by omega) (fun h_178 => ?_) (fun h_178 => ?_)
            · exact s196 hnl g1 g2 (by omega)
            · refine k_iload_n hx dX6_read_181 3 rfl ?_
              refine k_iconst hx dX6_read_182 ?_
              refine k_icmp_ne hx dX6_read_183 (by omega) (fun h_183 => ?_) (fun h_183 => ?_)
              · exact s196 hnl g1 g2 (by omega)
              · refine k_aload_n hx dX6_read_186 0 rfl ?_
                refine k_iload_n hx dX6_read_187 2 rfl ?_
                refine k_vv (rest := []) hx vX6_137 dX6_read_188 (c_X6_turnTold hd hok.2.1) n_120 L_120 rfl rfl rfl ⟨rfl, rfl⟩ ⟨by decide, by decide⟩ (fun M_188 p_188 => ?_)
                refine k_iconst hx dX6_read_191 ?_
                refine k_istore_n (ls' := [(0, vR g 120), (1, vI ov.length), (2, vI bv), (3, vI 2), (4, vI k), (5, vI c), (6, vI (b2i (decide (97 ≤ c ∧ c ≤ 102)))), (7, vI (b2i (decide (65 ≤ c ∧ c ≤ 70)))), (8, vI kd)]) hx dX6_read_192 rfl rfl (by decide) ?_
                refine k_goto hx dX6_read_193 ?_
                refine k_iinc (ls' := [(0, vR g 120), (1, vI ov.length), (2, vI bv), (3, vI 2), (4, vI (k + 1)), (5, vI c), (6, vI (b2i (decide (97 ≤ c ∧ c ≤ 102)))), (7, vI (b2i (decide (65 ≤ c ∧ c ≤ 70)))), (8, vI kd)]) hx dX6_read_353 4 rfl rfl rfl (by decide) ?_
                refine k_goto hx dX6_read_356 ?_
                refine K.sub [0, 1, 2, 3, 4] rfl ?_
                have hf : fst sg o0 c = some (2, o0) := by unfold fst; rw [if_neg (fun h => h hnl), if_neg (by omega), if_neg (by omega), if_pos (by omega), if_pos (by omega)]
                have hrr : rst v bv ov c = (turnF v bv, bv, ov) := by unfold rst; rw [if_neg (fun h => h hnl), if_neg (by omega), if_neg (by omega), if_pos (by omega)]
                have hst := hrs.step (k' := ((k + 1 : Nat) : Int)) (by omega) hf hrr
                rw [List.take_of_length_le (by rw [turnF_len hok.2.1]; exact hvl)] at hst
                exact ih (k + 1) _ _ _ 2 M_188 cs o0 _ _ _ (by omega) (by rw [← List.drop_drop, hcs]; rfl) (by omega) (by omega) (rfl) (rfl) (by omega) hst (p_188.1) (hop.t p_188.2) (ho.tr p_188.2.r)
          have sBr : crs c = -1 → ¬ ((c = 40 ∨ c = 91) ∧ ov.length < 4) → (c = 40 ∨ c = 91) → K x g 0 0 LAY NN M' 174 [(0, vR g 120), (1, vI ov.length), (2, vI bv), (3, vI sg), (4, vI k), (5, vI c), (6, vI (b2i (decide (97 ≤ c ∧ c ≤ 102)))), (7, vI (b2i (decide (65 ≤ c ∧ c ≤ 70)))), (8, vI kd)] [] := by
            intro hnl g1 g2
            refine k_iload hx dX6_read_174 5 rfl ?_
            refine k_bipush hx dX6_read_176 (by decide +kernel) ?_
            refine k_icmp_ne hx dX6_read_178 (by omega) (fun h_178 => ?_) (fun h_178 => ?_)
            · refine k_iload hx dX6_read_196 5 rfl ?_
              refine k_bipush hx dX6_read_198 (by decide +kernel) ?_
              refine k_bipush hx dX6_read_200 (by decide +kernel) ?_
              refine k_sp (rest := []) (e := (b2i (decide (50 ≤ c ∧ c ≤ 57)))) hx sX6_61 dX6_read_202 (c_X6_in (v := c) (a := 50) (b := 57) (by omega)) rfl rfl rfl ⟨rfl, rfl⟩ ⟨by decide, by decide⟩ ?_
              refine k_beq hx dX6_read_205 (fun h_205 => ?_) (fun h_205 => ?_)
              · refine k_iload hx dX6_read_228 5 rfl ?_
                refine k_bipush hx dX6_read_230 (by decide +kernel) ?_
                refine k_icmp_ne hx dX6_read_232 (by omega) (fun h_232 => ?_) (fun h_232 => ?_)
                · refine k_iload hx dX6_read_269 5 rfl ?_
                  refine k_bipush hx dX6_read_271 (by decide +kernel) ?_
                  refine k_icmp_ne hx dX6_read_273 (by omega) (fun h_273 => ?_) (fun h_273 => ?_)
                  · refine k_iload hx dX6_read_283 5 rfl ?_
                    refine k_bipush hx dX6_read_285 (by decide +kernel) ?_
                    refine k_icmp_ne hx dX6_read_287 (by omega) (fun h_287 => ?_) (fun h_287 => ?_)
                    · exact s350 hnl g1 (by omega) (by omega) (by omega) (by omega)
                    · exfalso; omega
                  · exfalso; omega
                · exfalso; omega
              · exfalso; omega
            · exfalso; omega
          have s167 : crs c = -1 → ¬ ((c = 40 ∨ c = 91) ∧ ov.length < 4) → K x g 0 0 LAY NN M' 167 [(0, vR g 120), (1, vI ov.length), (2, vI bv), (3, vI sg), (4, vI k), (5, vI c), (6, vI (b2i (decide (97 ≤ c ∧ c ≤ 102)))), (7, vI (b2i (decide (65 ≤ c ∧ c ≤ 70)))), (8, vI kd)] [] := by
            intro hnl g1
            refine k_iload_n hx dX6_read_167 3 rfl ?_
            refine k_ifne hx dX6_read_168 (by omega) (fun h_168 => ?_) (fun h_168 => ?_)
            · by_cases g2 : c = 40 ∨ c = 91
              · exact sBr hnl g1 g2
              · exact s174 hnl g2 h_168
            · refine k_iload hx dX6_read_171 4 rfl ?_
              refine k_ri hx hr dX6_read_173 ?_
              have hft := hrs.fault (fst_none0 hnl (by omega) (by omega))
              exact ⟨hft, ho, fun q => by omega⟩
          have s136 : crs c = -1 → (c = 40 ∨ c = 91) → K x g 0 0 LAY NN M' 136 [(0, vR g 120), (1, vI ov.length), (2, vI bv), (3, vI sg), (4, vI k), (5, vI c), (6, vI (b2i (decide (97 ≤ c ∧ c ≤ 102)))), (7, vI (b2i (decide (65 ≤ c ∧ c ≤ 70)))), (8, vI kd)] [] := by
            intro hnl g1
            refine k_iload_n hx dX6_read_136 1 rfl ?_
            refine k_iconst hx dX6_read_137 ?_
            refine k_icmp_ge hx dX6_read_138 (by omega) (fun h_138 => ?_) (fun h_138 => ?_)
            · exact s167 hnl (by omega)
            · refine k_aload_n hx dX6_read_141 0 rfl ?_
              refine k_get (v := vR g 130) hx fX6_38 dX6_read_142 n_120 L_120 rfl ?_
              refine k_iload_n hx dX6_read_145 1 rfl ?_
              refine k_iload hx dX6_read_146 5 rfl ?_
              refine k_iastN hx dX6_read_148 n_130 L_130 (by omega) (by decide) (fun M_148 hM_148 => ?_)
              refine k_aload_n hx dX6_read_149 0 rfl ?_
              refine k_get (v := vR g 131) hx fX6_41 dX6_read_150 n_120 L_120 rfl ?_
              refine k_iload_n hx dX6_read_153 1 rfl ?_
              refine k_aload_n hx dX6_read_154 0 rfl ?_
              refine k_get (v := vI v.length) hx fX6_120 dX6_read_155 n_120 L_120 (congrArg vI (show M_148 120 14 = v.length from by rw [hM_148, up_i (by decide)]; exact hd.1)) ?_
              refine k_iastN hx dX6_read_158 n_131 L_131 (by omega) (by decide) (fun M_158 hM_158 => ?_)
              refine k_iinc (ls' := [(0, vR g 120), (1, vI (ov.length + 1)), (2, vI bv), (3, vI sg), (4, vI k), (5, vI c), (6, vI (b2i (decide (97 ≤ c ∧ c ≤ 102)))), (7, vI (b2i (decide (65 ≤ c ∧ c ≤ 70)))), (8, vI kd)]) hx dX6_read_159 1 rfl rfl rfl (by decide) ?_
              refine k_iconst hx dX6_read_162 ?_
              refine k_istore_n (ls' := [(0, vR g 120), (1, vI (ov.length + 1)), (2, vI bv), (3, vI 0), (4, vI k), (5, vI c), (6, vI (b2i (decide (97 ≤ c ∧ c ≤ 102)))), (7, vI (b2i (decide (65 ≤ c ∧ c ≤ 70)))), (8, vI kd)]) hx dX6_read_163 rfl rfl (by decide) ?_
              refine k_goto hx dX6_read_164 ?_
              refine k_iinc (ls' := [(0, vR g 120), (1, vI (ov.length + 1)), (2, vI bv), (3, vI 0), (4, vI (k + 1)), (5, vI c), (6, vI (b2i (decide (97 ≤ c ∧ c ≤ 102)))), (7, vI (b2i (decide (65 ≤ c ∧ c ≤ 70)))), (8, vI kd)]) hx dX6_read_353 4 rfl rfl rfl (by decide) ?_
              refine k_goto hx dX6_read_356 ?_
              refine K.sub [0, 1, 2, 3, 4] rfl ?_
              have hf : fst sg o0 c = some (0, ((c, 0, 0) :: o0)) := by unfold fst; rw [if_neg (fun h => h hnl), if_pos (by omega), if_pos (by omega)]
              have hrr : rst v bv ov c = (v, bv, ((c, (v.length : Int), (v.length : Int)) :: ov)) := by unfold rst; rw [if_neg (fun h => h hnl), if_pos (by omega)]
              have hst := hrs.step (k' := ((k + 1 : Nat) : Int)) (by omega) hf hrr
              rw [List.take_of_length_le hvl] at hst
              exact ih (k + 1) _ _ _ 0 M_158 cs ((c, 0, 0) :: o0) _ _ _ (by omega) (by rw [← List.drop_drop, hcs]; rfl) (by omega) (by omega) (by rw [List.length_cons]; omega) (rfl) (by omega) hst (hd.eq (by rw [hM_158, up_i (by decide), hM_148, up_i (by decide)]) (by rw [hM_158, up_i (by decide), hM_148, up_i (by decide)])) (hop.opn (by omega) (by omega) (by rw [hM_158, up_i (by decide), hM_148]) (by rw [hM_158, hM_148]; funext q; by_cases hq : q = ov.length; rw [hq, up_s, up_s]; rw [up_k hq, up_k hq, up_i (by decide)]) (by rw [hM_158, up_i (by decide), hM_148, up_i (by decide)])) (ho.tr (OR.op (fun a ha => by rw [hM_158, up_i (by omega), hM_148, up_i (by omega)])))
          refine k_istore (ls' := [(0, vR g 120), (1, vI ov.length), (2, vI bv), (3, vI sg), (4, vI k), (5, vI c), (6, vI (b2i (decide (97 ≤ c ∧ c ≤ 102)))), (7, vI (b2i (decide (65 ≤ c ∧ c ≤ 70)))), (8, vI kd)]) hx dX6_read_75 rfl rfl (by decide) ?_
          refine k_iload hx dX6_read_77 6 rfl ?_
          refine k_bne hx dX6_read_79 (fun h_79 => ?_) (fun h_79 => ?_)
          · exact s87 (by omega)
          · refine k_iload hx dX6_read_82 7 rfl ?_
            refine k_beq hx dX6_read_84 (fun h_84 => ?_) (fun h_84 => ?_)
            · have hnl : crs c = -1 := by unfold crs; rw [if_neg (by omega), if_neg (by omega)]
              refine k_iload hx dX6_read_122 5 rfl ?_
              refine k_bipush hx dX6_read_124 (by decide +kernel) ?_
              refine k_icmp_eq hx dX6_read_126 (by omega) (fun h_126 => ?_) (fun h_126 => ?_)
              · exact s136 hnl (by omega)
              · refine k_iload hx dX6_read_129 5 rfl ?_
                refine k_bipush hx dX6_read_131 (by decide +kernel) ?_
                refine k_icmp_ne hx dX6_read_133 (by omega) (fun h_133 => ?_) (fun h_133 => ?_)
                · exact s167 hnl (by omega)
                · exact s136 hnl (by omega)
            · exact s87 (by omega)
        refine k_aload_n hx dX6_read_28 0 rfl ?_
        refine k_get (v := vR g 125) hx fX6_23 dX6_read_29 n_120 L_120 rfl ?_
        refine k_iload hx dX6_read_32 4 rfl ?_
        refine k_iald (v := c) hx dX6_read_34 n_125 L_125 (by omega) (by decide) (hcM) ?_
        refine k_istore (ls' := [(0, vR g 120), (1, vI ov.length), (2, vI bv), (3, vI sg), (4, vI k), (5, vI c)]) hx dX6_read_35 rfl rfl (by decide) ?_
        refine k_iload hx dX6_read_37 5 rfl ?_
        refine k_bipush hx dX6_read_39 (by decide +kernel) ?_
        refine k_bipush hx dX6_read_41 (by decide +kernel) ?_
        refine k_sp (rest := []) (e := (b2i (decide (97 ≤ c ∧ c ≤ 102)))) hx sX6_61 dX6_read_43 (c_X6_in (v := c) (a := 97) (b := 102) (by omega)) rfl rfl rfl ⟨rfl, rfl⟩ ⟨by decide, by decide⟩ ?_
        refine k_istore (ls' := [(0, vR g 120), (1, vI ov.length), (2, vI bv), (3, vI sg), (4, vI k), (5, vI c), (6, vI (b2i (decide (97 ≤ c ∧ c ≤ 102))))]) hx dX6_read_46 rfl rfl (by decide) ?_
        refine k_iload hx dX6_read_48 5 rfl ?_
        refine k_bipush hx dX6_read_50 (by decide +kernel) ?_
        refine k_bipush hx dX6_read_52 (by decide +kernel) ?_
        refine k_sp (rest := []) (e := (b2i (decide (65 ≤ c ∧ c ≤ 70)))) hx sX6_61 dX6_read_54 (c_X6_in (v := c) (a := 65) (b := 70) (by omega)) rfl rfl rfl ⟨rfl, rfl⟩ ⟨by decide, by decide⟩ ?_
        refine k_istore (ls' := [(0, vR g 120), (1, vI ov.length), (2, vI bv), (3, vI sg), (4, vI k), (5, vI c), (6, vI (b2i (decide (97 ≤ c ∧ c ≤ 102)))), (7, vI (b2i (decide (65 ≤ c ∧ c ≤ 70))))]) hx dX6_read_57 rfl rfl (by decide) ?_
        refine k_iload_n hx dX6_read_59 1 rfl ?_
        refine k_ifne hx dX6_read_60 (by omega) (fun h_60 => ?_) (fun h_60 => ?_)
        · refine k_aload_n hx dX6_read_67 0 rfl ?_
          refine k_get (v := vR g 130) hx fX6_38 dX6_read_68 n_120 L_120 rfl ?_
          refine k_iload_n hx dX6_read_71 1 rfl ?_
          refine k_iconst hx dX6_read_72 ?_
          refine k_isub hx dX6_read_73 ?_
          refine k_iald (v := (inn ov)) hx dX6_read_74 n_130 L_130 (by omega) (by decide) (by
            cases ov with
            | nil => exact absurd rfl h_60
            | cons e tl => have h := hop.2 0 e rfl; simp only [List.length_cons] at h; rw [show tl.length + 1 - 1 - 0 = tl.length by omega] at h; rw [List.length_cons, show ((tl.length + 1 : Nat) : Int) - 1 = tl.length by omega]; exact h.1) ?_
          exact rest _ rfl
        · refine k_iconst hx dX6_read_63 ?_
          refine k_goto hx dX6_read_64 ?_
          exact rest 0 (by rw [show ov = [] from List.length_eq_zero_iff.mp (by omega)]; rfl)
  refine k_aload_n hx dX6_read_0 0 rfl ?_
  refine k_iconst hx dX6_read_1 ?_
  refine k_putI (kz := 14) hx fX6_120 dX6_read_2 n_120 L_120 rfl rfl (fun M_2 hM_2 => ?_)
  refine k_aload_n hx dX6_read_5 0 rfl ?_
  refine k_iconst hx dX6_read_6 ?_
  refine k_putZ (kz := 15) hx fX6_123 dX6_read_7 n_120 L_120 rfl rfl (by first | exact Or.inl rfl | exact Or.inr rfl) (fun M_7 hM_7 => ?_)
  refine k_iconst hx dX6_read_10 ?_
  refine k_istore_n (ls' := [(0, vR g 120), (1, vI 0)]) hx dX6_read_11 rfl rfl (by decide) ?_
  refine k_iconst hx dX6_read_12 ?_
  refine k_istore_n (ls' := [(0, vR g 120), (1, vI 0), (2, vI 0)]) hx dX6_read_13 rfl rfl (by decide) ?_
  refine k_iconst hx dX6_read_14 ?_
  refine k_istore_n (ls' := [(0, vR g 120), (1, vI 0), (2, vI 0), (3, vI 0)]) hx dX6_read_15 rfl rfl (by decide) ?_
  refine k_iconst hx dX6_read_16 ?_
  refine k_istore (ls' := [(0, vR g 120), (1, vI 0), (2, vI 0), (3, vI 0), (4, vI 0)]) hx dX6_read_17 rfl rfl (by decide) ?_
  exact loop (t.length + 1) 0 0 0 0 0 M_7 t [] [] 0 [] rfl rfl (by omega) (by omega) rfl rfl (by omega) (RS.nil t) ⟨by rw [hM_7, up_k (by decide), hM_2, up_s]; rfl, by rw [hM_7, up_s]; rfl, (fun z z0 z1 => by simp only [List.length_nil] at z1; omega), (fun c h => by cases h), by decide⟩ ⟨by decide, fun j e h => by simp at h⟩ ⟨fun a h1 _ => by rw [hM_7, up_i h1, hM_2, up_i h1], fun k h1 h2 => by rw [hM_7, up_k h2, hM_2, up_k h1]⟩

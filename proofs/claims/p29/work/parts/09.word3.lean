/-! the class's word: turned in place, pulled, tightened, least start -/
theorem Wd.of {M : Mem} {i : Nat} {u : List Int} (h1 : M i 1 = u.length) (h2 : ∀ k : Nat, k < u.length → M (i + 1) k = at0 u k) (h3 : Cr u) : Wd M i u := by
  refine ⟨h1, fun k c h => ?_, h3⟩
  have hk := (List.getElem?_eq_some_iff.mp h).1
  rw [h2 k hk, at0_n hk]
  exact (List.getElem?_eq_some_iff.mp h).2
theorem Wd.atn {M : Mem} {i : Nat} {w : List Int} (h : Wd M i w) {k : Nat} (hk : k < w.length) : M (i + 1) (k : Int) = at0 w k := h.lt (by omega) (by omega)
theorem ext_at0 {u v : List Int} (h1 : u.length = v.length) (h2 : ∀ k : Nat, k < u.length → at0 u k = at0 v k) : u = v := by
  refine List.ext_getElem h1 (fun k hk hk2 => ?_)
  have := h2 k hk
  rwa [at0_n hk, at0_n hk2] at this
theorem at0_take {w : List Int} {m k : Nat} (h : k < m) (hk : k < w.length) : at0 (w.take m) k = at0 w k := by
  rw [at0_n (by rw [List.length_take]; omega), at0_n hk]; simp
theorem at0_drop {w : List Int} {m k : Nat} (hk : m + k < w.length) : at0 (w.drop m) k = at0 w (m + k : Nat) := by
  rw [at0_n (by rw [List.length_drop]; omega), at0_n hk]; simp
theorem at0_appr {a b : List Int} {k : Nat} (h : k < b.length) : at0 (a ++ b) (a.length + k : Nat) = at0 b k := by
  rw [at0_n h, at0_n (by rw [List.length_append]; omega), List.getElem_append_right (by omega)]; simp
/-- turned from a on, s steps done -/
def tf (w : List Int) (a s q : Nat) : Int := if q < a ∨ (a + s ≤ q ∧ q + s + 1 ≤ w.length) then at0 w q else op (at0 w (a + w.length - 1 - q : Nat))
def turnF (w : List Int) (a : Nat) : List Int := w.take a ++ trn (w.drop a)
theorem turnF_len {w : List Int} {a : Nat} (h : a ≤ w.length) : (turnF w a).length = w.length := by
  unfold turnF; rw [List.length_append, trn_len, List.length_take, List.length_drop]; omega
theorem turnF_at {w : List Int} {a k : Nat} (ha : a ≤ w.length) (hk : k < w.length) : at0 (turnF w a) k = if k < a then at0 w k else op (at0 w (a + w.length - 1 - k : Nat)) := by
  have hl : (w.take a).length = a := by rw [List.length_take]; omega
  by_cases h : k < a
  · rw [if_pos h]; unfold turnF; rw [at0_app (by omega), at0_take h hk]
  · rw [if_neg h]
    unfold turnF
    have e : k = (w.take a).length + (k - a) := by omega
    have hd : (w.drop a).length = w.length - a := by rw [List.length_drop]
    rw [e, at0_appr (by rw [trn_len]; omega), trn_at (by omega), at0_drop (by omega), ← e]
    congr 2
    omega
theorem turnF_cr {w : List Int} (h : Cr w) (a : Nat) : Cr (turnF w a) := (h.take a).app (cr_trn (h.drop a))
theorem op_cr {w : List Int} (h : Cr w) {k : Nat} (hk : k < w.length) : 0 ≤ at0 w k ∧ at0 w k < 12 := h _ (at0_mem hk)

theorem c_X4_turnFrom {g : GE} {l : Launch} {M : Mem} {i cap : Nat} {w : List Int} (hW : IsW g i cap) (hw : Wd M i w) (hc : w.length ≤ cap) {a : Nat} (ha : a ≤ w.length) : Cv g l μX4_turnFrom [vR g i, vI a] M (fun M' => Wd M' i (turnF w a) ∧ Off i M M') := by
  refine Cv.of (by decide +kernel) rfl rfl (fun x hx hr => ?_)
  have hl := hw.1; have h480 := hW.2.2.2.2
  have loop : ∀ (f : Nat), ∀ (s : Nat) (y z : Int) (M' : Mem), y = a + s → z = w.length - 1 - s → w.length - s < f → 2 * s ≤ w.length - a → (∀ q : Nat, q < w.length → M' (i + 1) q = tf w a s q) → M' i 1 = w.length → Off i M M' → K x g 0 0 LAY (NN g) M' 13 [(0, vR g i), (1, vI a), (2, vI y), (3, vI z)] [] := by
    intro f
    induction f with
    | zero => intro s y z M' hy hz hf h2 hq hL ho; omega
    | succ f ih =>
      intro s y z M' hy hz hf h2 hq hL ho
      refine k_iload_n hx dX4_turnFrom_13 2 rfl ?_
      refine k_iload_n hx dX4_turnFrom_14 3 rfl ?_
      refine k_icmp_ge hx dX4_turnFrom_15 (by omega) (fun h_15 => ?_) (fun h_15 => ?_)
      · refine k_iload_n hx dX4_turnFrom_61 2 rfl ?_
        refine k_iload_n hx dX4_turnFrom_62 3 rfl ?_
        refine k_icmp_ne hx dX4_turnFrom_63 (by omega) (fun h_63 => ?_) (fun h_63 => ?_)
        · refine k_rv hx hr dX4_turnFrom_81 ?_
          refine ⟨Wd.of (by rw [turnF_len ha]; exact hL) (fun q hqn => ?_) (turnF_cr hw.2.2 a), ho⟩
          rw [turnF_len ha] at hqn
          rw [hq q hqn, turnF_at ha hqn]
          unfold tf
          by_cases q1 : q < a
          · rw [if_pos (Or.inl q1), if_pos q1]
          · rw [if_neg (by omega), if_neg q1]
        · have e1 : M' (i + 1) y = at0 w (a + s : Nat) := by
            rw [show y = ((a + s : Nat) : Int) by omega]; have := hq (a + s) (by omega); unfold tf at this; rwa [if_pos (by omega)] at this
          have c1 := op_cr hw.2.2 (k := a + s) (by omega)
          refine k_aload_n hx dX4_turnFrom_66 0 rfl ?_
          refine k_get (v := vR g (i + 1)) hx fX4_15 dX4_turnFrom_67 hW.2.2.1 hW.1 rfl ?_
          refine k_iload_n hx dX4_turnFrom_70 2 rfl ?_
          refine k_aload_n hx dX4_turnFrom_71 0 rfl ?_
          refine k_get (v := vR g (i + 1)) hx fX4_15 dX4_turnFrom_72 hW.2.2.1 hW.1 rfl ?_
          refine k_iload_n hx dX4_turnFrom_75 2 rfl ?_
          refine k_iald (v := (at0 w (a + s : Nat))) hx dX4_turnFrom_76 hW.2.2.2.1 hW.2.1 (by omega) (by have := hW.2.2.2.2; omega) (e1) ?_
          refine k_np (rest := [vI y, vR g (i + 1)]) (e := (op (at0 w (a + s : Nat)))) hx nX4_25 dX4_turnFrom_77 (c_X5_opposite (z := (at0 w (a + s : Nat))) (by omega)) rfl rfl rfl ⟨rfl, rfl⟩ ⟨by decide, by decide⟩ ?_
          refine k_iastN hx dX4_turnFrom_80 hW.2.2.2.1 hW.2.1 (by omega) (by have := hW.2.2.2.2; omega) (fun M_80 hM_80 => ?_)
          refine k_rv hx hr dX4_turnFrom_81 ?_
          subst hM_80
          refine ⟨Wd.of (by rw [turnF_len ha, up_i (by omega)]; exact hL) (fun q hqn => ?_) (turnF_cr hw.2.2 a), ho.tr off_up1⟩
          rw [turnF_len ha] at hqn
          rw [turnF_at ha hqn]
          by_cases q2 : q = a + s
          · subst q2
            rw [show ((a + s : Nat) : Int) = y by omega, up_s, if_neg (by omega)]; congr 3; omega
          · rw [up_k (by omega), hq q hqn]
            unfold tf
            by_cases q1 : q < a
            · rw [if_pos (Or.inl q1), if_pos q1]
            · rw [if_neg (by omega), if_neg q1]
      · have e1 : M' (i + 1) y = at0 w (a + s : Nat) := by
          rw [show y = ((a + s : Nat) : Int) by omega]; have := hq (a + s) (by omega); unfold tf at this; rwa [if_pos (by omega)] at this
        have e2 : M' (i + 1) z = at0 w (w.length - 1 - s : Nat) := by
          rw [show z = ((w.length - 1 - s : Nat) : Int) by omega]; have := hq (w.length - 1 - s) (by omega); unfold tf at this; rwa [if_pos (by omega)] at this
        have c1 := op_cr hw.2.2 (k := a + s) (by omega)
        have c2 := op_cr hw.2.2 (k := w.length - 1 - s) (by omega)
        refine k_aload_n hx dX4_turnFrom_18 0 rfl ?_
        refine k_get (v := vR g (i + 1)) hx fX4_15 dX4_turnFrom_19 hW.2.2.1 hW.1 rfl ?_
        refine k_iload_n hx dX4_turnFrom_22 2 rfl ?_
        refine k_iald (v := (at0 w (a + s : Nat))) hx dX4_turnFrom_23 hW.2.2.2.1 hW.2.1 (by omega) (by have := hW.2.2.2.2; omega) (e1) ?_
        refine k_istore (ls' := [(0, vR g i), (1, vI a), (2, vI y), (3, vI z), (4, vI (at0 w (a + s : Nat)))]) hx dX4_turnFrom_24 rfl rfl (by decide) ?_
        refine k_aload_n hx dX4_turnFrom_26 0 rfl ?_
        refine k_get (v := vR g (i + 1)) hx fX4_15 dX4_turnFrom_27 hW.2.2.1 hW.1 rfl ?_
        refine k_iload_n hx dX4_turnFrom_30 2 rfl ?_
        refine k_aload_n hx dX4_turnFrom_31 0 rfl ?_
        refine k_get (v := vR g (i + 1)) hx fX4_15 dX4_turnFrom_32 hW.2.2.1 hW.1 rfl ?_
        refine k_iload_n hx dX4_turnFrom_35 3 rfl ?_
        refine k_iald (v := (at0 w (w.length - 1 - s : Nat))) hx dX4_turnFrom_36 hW.2.2.2.1 hW.2.1 (by omega) (by have := hW.2.2.2.2; omega) (e2) ?_
        refine k_np (rest := [vI y, vR g (i + 1)]) (e := (op (at0 w (w.length - 1 - s : Nat)))) hx nX4_25 dX4_turnFrom_37 (c_X5_opposite (z := (at0 w (w.length - 1 - s : Nat))) (by omega)) rfl rfl rfl ⟨rfl, rfl⟩ ⟨by decide, by decide⟩ ?_
        refine k_iastN hx dX4_turnFrom_40 hW.2.2.2.1 hW.2.1 (by omega) (by have := hW.2.2.2.2; omega) (fun M_40 hM_40 => ?_)
        refine k_aload_n hx dX4_turnFrom_41 0 rfl ?_
        refine k_get (v := vR g (i + 1)) hx fX4_15 dX4_turnFrom_42 hW.2.2.1 hW.1 rfl ?_
        refine k_iload_n hx dX4_turnFrom_45 3 rfl ?_
        refine k_iload hx dX4_turnFrom_46 4 rfl ?_
        refine k_np (rest := [vI z, vR g (i + 1)]) (e := (op (at0 w (a + s : Nat)))) hx nX4_25 dX4_turnFrom_48 (c_X5_opposite (z := (at0 w (a + s : Nat))) (by omega)) rfl rfl rfl ⟨rfl, rfl⟩ ⟨by decide, by decide⟩ ?_
        refine k_iastN hx dX4_turnFrom_51 hW.2.2.2.1 hW.2.1 (by omega) (by have := hW.2.2.2.2; omega) (fun M_51 hM_51 => ?_)
        refine k_iinc (ls' := [(0, vR g i), (1, vI a), (2, vI (y + 1)), (3, vI z), (4, vI (at0 w (a + s : Nat)))]) hx dX4_turnFrom_52 2 rfl rfl rfl (by decide) ?_
        refine k_iinc (ls' := [(0, vR g i), (1, vI a), (2, vI (y + 1)), (3, vI (z + (-1))), (4, vI (at0 w (a + s : Nat)))]) hx dX4_turnFrom_55 3 rfl rfl rfl (by decide) ?_
        refine k_goto hx dX4_turnFrom_58 ?_
        refine K.sub [0, 1, 2, 3] rfl ?_
        refine ih (s + 1) (y + 1) (z + -1) M_51 (by omega) (by omega) (by omega) (by omega) (fun q hqn => ?_) (by rw [hM_51, hM_40, up_i (by omega), up_i (by omega)]; exact hL) (ho.tr (by rw [hM_51, hM_40]; exact off_up1.tr off_up1))
        rw [hM_51, hM_40]
        by_cases q1 : q = a + s
        · subst q1
          rw [up_k (by omega), show ((a + s : Nat) : Int) = y by omega, up_s]
          unfold tf; rw [if_neg (by omega)]; congr 3; omega
        · by_cases q2 : q = w.length - 1 - s
          · subst q2
            rw [show ((w.length - 1 - s : Nat) : Int) = z by omega, up_s]
            unfold tf; rw [if_neg (by omega)]; congr 3; omega
          · rw [up_k (by omega), up_k (by omega), hq q hqn]
            unfold tf
            by_cases q3 : q < a ∨ (a + s ≤ q ∧ q + s + 1 ≤ w.length)
            · rw [if_pos q3, if_pos (by omega)]
            · rw [if_neg q3, if_neg (by omega)]
  refine k_iload_n hx dX4_turnFrom_0 1 rfl ?_
  refine k_iconst hx dX4_turnFrom_1 ?_
  refine k_sp (rest := []) (e := (max a 0)) hx sX4_9 dX4_turnFrom_2 (c_max (a := a) (b := 0) (by omega)) rfl rfl rfl ⟨rfl, rfl⟩ ⟨by decide, by decide⟩ ?_
  
  have hmx : max (a : Int) 0 = a := by omega
  rw [hmx]
  refine k_istore_n (ls' := [(0, vR g i), (1, vI a), (2, vI a)]) hx dX4_turnFrom_5 rfl rfl (by decide) ?_
  refine k_aload_n hx dX4_turnFrom_6 0 rfl ?_
  refine k_get (v := vI w.length) hx fX4_21 dX4_turnFrom_7 hW.2.2.1 hW.1 (congrArg vI (show M i 1 = w.length from hl)) ?_
  refine k_iconst hx dX4_turnFrom_10 ?_
  refine k_isub hx dX4_turnFrom_11 ?_
  refine k_istore_n (ls' := [(0, vR g i), (1, vI a), (2, vI a), (3, vI (w.length - 1))]) hx dX4_turnFrom_12 rfl rfl (by decide) ?_
  exact loop (w.length + 1) 0 _ _ M (by omega) (by omega) (by omega) (by omega) (fun q hqn => by unfold tf; rw [hw.atn hqn]; by_cases h : q < a ∨ (a + 0 ≤ q ∧ q + 0 + 1 ≤ w.length); rw [if_pos h]; exact absurd (by omega) h) hl Off.rf
theorem red_snoc {w : List Int} {k : Nat} (h : k < w.length) : red (w.take (k + 1)) = psh (red (w.take k)) (at0 w k) := by
  rw [← take_at0 h]; unfold red; rw [List.foldl_append]; rfl
theorem red_len_le (w : List Int) : (red w).length ≤ w.length := by
  have key : ∀ k, k ≤ w.length → (red (w.take k)).length ≤ k := by
    intro k
    induction k with
    | zero => intro _; simp [red]
    | succ k ih =>
      intro h
      rw [red_snoc (by omega)]
      have h1 := ih (by omega)
      have h2 := psh_len (w := red (w.take k)) (c := at0 w k)
      omega
  have := key w.length (Nat.le_refl _)
  rwa [List.take_length] at this
theorem red_tk_le {w : List Int} {k : Nat} (h : k ≤ w.length) : (red (w.take k)).length ≤ k := by
  have := red_len_le (w.take k); rw [List.length_take] at this; omega

theorem c_X4_cancelPairs {g : GE} {l : Launch} {M : Mem} {i cap : Nat} {w : List Int} (hW : IsW g i cap) (hw : Wd M i w) (hc : w.length ≤ cap) : Ci g l μX4_cancelPairs [vR g i] M (fun z M' => z = (w.length - (red w).length) / 2 ∧ Wd M' i (red w) ∧ Off i M M') := by
  refine Ci.of (by decide +kernel) rfl rfl (fun x hx hr => ?_)
  have hl := hw.1; have h480 := hW.2.2.2.2; have hrl := red_len_le w
  have loop : ∀ (f : Nat), ∀ (k : Nat) (z : Int) (M' : Mem), z = k → k ≤ w.length → w.length - k < f → Wd M' i (red (w.take k)) → (∀ q : Nat, k ≤ q → q < w.length → M' (i + 1) q = at0 w q) → Off i M M' → K x g 0 0 LAY (NN g) M' 12 [(0, vR g i), (1, vI w.length), (2, vI z)] [] := by
    intro f
    induction f with
    | zero => intro k z M' hz hk hf hwd hq ho; omega
    | succ f ih =>
      intro k z M' hz hk hf hwd hq ho
      refine k_iload_n hx dX4_cancelPairs_12 2 rfl ?_
      refine k_iload_n hx dX4_cancelPairs_13 1 rfl ?_
      refine k_icmp_ge hx dX4_cancelPairs_14 (by omega) (fun h_14 => ?_) (fun h_14 => ?_)
      · have hkw : k = w.length := by omega
        subst hkw
        rw [List.take_length] at hwd
        refine k_iload_n hx dX4_cancelPairs_34 1 rfl ?_
        refine k_aload_n hx dX4_cancelPairs_35 0 rfl ?_
        refine k_get (v := vI ((red w).length)) hx fX4_21 dX4_cancelPairs_36 hW.2.2.1 hW.1 (congrArg vI (show M' i 1 = ((red w).length) from hwd.1)) ?_
        refine k_isub hx dX4_cancelPairs_39 ?_
        refine k_iconst hx dX4_cancelPairs_40 ?_
        refine k_idiv hx dX4_cancelPairs_41 (by omega) ?_
        refine k_ri hx hr dX4_cancelPairs_42 ?_
        exact ⟨rfl, hwd, ho⟩
      · have e1 : M' (i + 1) z = at0 w k := by rw [hz]; exact hq k (by omega) (by omega)
        have c1 := op_cr hw.2.2 (k := k) (by omega)
        have hrk := red_tk_le hk
        refine k_aload_n hx dX4_cancelPairs_17 0 rfl ?_
        refine k_aload_n hx dX4_cancelPairs_18 0 rfl ?_
        refine k_get (v := vR g (i + 1)) hx fX4_15 dX4_cancelPairs_19 hW.2.2.1 hW.1 rfl ?_
        refine k_iload_n hx dX4_cancelPairs_22 2 rfl ?_
        refine k_iald (v := (at0 w k)) hx dX4_cancelPairs_23 hW.2.2.2.1 hW.2.1 (by omega) (by have := hW.2.2.2.2; omega) (e1) ?_
        refine k_vi (rest := []) hx vX4_44 dX4_cancelPairs_24 (c_X4_addPulled hW hwd (by omega) (by omega) (c := at0 w k) c1) hW.2.2.1 hW.1 rfl rfl rfl ⟨rfl, rfl⟩ ⟨by decide, by decide⟩ (fun z_24 M_24 p_24 => ?_)
        obtain ⟨rfl, p1, p2, p3⟩ := p_24
        rw [← red_snoc (by omega)] at p1
        refine k_pop hx dX4_cancelPairs_27 rfl ?_
        refine k_iinc (ls' := [(0, vR g i), (1, vI w.length), (2, vI (z + 1))]) hx dX4_cancelPairs_28 2 rfl rfl rfl (by decide) ?_
        refine k_goto hx dX4_cancelPairs_31 ?_
        exact ih (k + 1) (z + 1) M_24 (by omega) (by omega) (by omega) p1 (fun q h1 h2 => by rw [p3 q (by omega)]; exact hq q (by omega) h2) (ho.tr p2)
  refine k_aload_n hx dX4_cancelPairs_0 0 rfl ?_
  refine k_get (v := vI w.length) hx fX4_21 dX4_cancelPairs_1 hW.2.2.1 hW.1 (congrArg vI (show M i 1 = w.length from hl)) ?_
  refine k_istore_n (ls' := [(0, vR g i), (1, vI w.length)]) hx dX4_cancelPairs_4 rfl rfl (by decide) ?_
  refine k_aload_n hx dX4_cancelPairs_5 0 rfl ?_
  refine k_iconst hx dX4_cancelPairs_6 ?_
  refine k_putI (kz := 1) hx fX4_21 dX4_cancelPairs_7 hW.2.2.1 hW.1 rfl rfl (fun M_7 hM_7 => ?_)
  refine k_iconst hx dX4_cancelPairs_10 ?_
  refine k_istore_n (ls' := [(0, vR g i), (1, vI w.length), (2, vI 0)]) hx dX4_cancelPairs_11 rfl rfl (by decide) ?_
  exact loop (w.length + 1) 0 0 M_7 rfl (by omega) (by omega) (by subst hM_7; exact Wd.nil) (fun q _ h2 => by rw [hM_7, up_i (by omega)]; exact hw.atn h2) (by rw [hM_7]; exact off_up)
def strip : Nat → List Int → List Int
  | 0, w => w
  | f + 1, w => if 2 ≤ w.length ∧ at0 w 0 = op (at0 w (w.length - 1 : Nat)) then strip f (slc w 1 (w.length - 1)) else w
def tight (w : List Int) : List Int := strip w.length w
theorem strip_stop {w : List Int} (h : ¬ (2 ≤ w.length ∧ at0 w 0 = op (at0 w (w.length - 1 : Nat)))) (f : Nat) : strip f w = w := by
  cases f with
  | zero => rfl
  | succ f => unfold strip; rw [if_neg h]
theorem strip_go {w : List Int} {f f' : Nat} (hf : f = f' + 1) (h : 2 ≤ w.length ∧ at0 w 0 = op (at0 w (w.length - 1 : Nat))) : strip f w = strip f' (slc w 1 (w.length - 1)) := by
  subst hf; rw [strip, if_pos h]
theorem slc_slc {r : List Int} {s n : Nat} (hn : n = r.length) (h : 2 * s + 2 ≤ n) : slc (slc r s (n - s)) 1 ((slc r s (n - s)).length - 1) = slc r (s + 1) (n - (s + 1)) := by
  have h1 : (slc r s (n - s)).length = n - s - s := slc_len (by omega)
  refine ext_at0 ?_ (fun k hk => ?_)
  · rw [slc_len (by omega), h1, slc_len (by omega)]; omega
  · rw [slc_len (by omega), h1] at hk
    rw [slc_at (by omega) (by omega), slc_at (by omega) (by omega), slc_at (by omega) (by omega)]
    congr 2
    omega
theorem strip_len : ∀ (f : Nat) (w : List Int), (strip f w).length ≤ w.length
  | 0, w => Nat.le_refl _
  | f + 1, w => by
    unfold strip
    split
    · rename_i h
      have := strip_len f (slc w 1 (w.length - 1))
      rw [slc_len (by omega)] at this
      omega
    · exact Nat.le_refl _
theorem strip_cr : ∀ (f : Nat) {w : List Int}, Cr w → Cr (strip f w)
  | 0, _, h => h
  | f + 1, w, h => by
    unfold strip
    split
    · exact strip_cr f (slc_cr h _ _)
    · exact h
theorem red_cr {w : List Int} (h : Cr w) : Cr (red w) := by
  have key : ∀ k, k ≤ w.length → Cr (red (w.take k)) := by
    intro k
    induction k with
    | zero => intro _ c hc; simp [red] at hc
    | succ k ih => intro hk; rw [red_snoc (by omega)]; exact cr_psh (ih (by omega)) (op_cr h (by omega))
  have := key w.length (Nat.le_refl _)
  rwa [List.take_length] at this
theorem tight_cr {w : List Int} (h : Cr w) : Cr (tight w) := strip_cr _ h
theorem tight_len (w : List Int) : (tight w).length ≤ w.length := strip_len _ _

set_option maxRecDepth 20000 in
theorem c_X4_tighten {g : GE} {l : Launch} {M : Mem} {i cap : Nat} {w : List Int} (hW : IsW g i cap) (hw : Wd M i w) (hc : w.length ≤ cap) : Cv g l μX4_tighten [vR g i] M (fun M' => Wd M' i (tight (red w)) ∧ Off i M M') := by
  refine Cv.of (by decide +kernel) rfl rfl (fun x hx hr => ?_)
  have hl := hw.1; have h480 := hW.2.2.2.2; have hrl := red_len_le w
  obtain ⟨r, hr0⟩ : ∃ r, r = red w := ⟨_, rfl⟩
  rw [← hr0] at hrl
  have loop2 : ∀ (f : Nat), ∀ (s k : Nat) (y z u : Int) (M' : Mem), y = s → z = r.length - 1 - s → u = s + k → 2 * s + k ≤ r.length → tight r = slc r s (r.length - s) → r.length - k < f → Wd M' i ((slc r s (r.length - s)).take k) → (∀ q : Nat, s + k ≤ q → q < r.length → M' (i + 1) q = at0 r q) → Cr r → Off i M M' → K x g 0 0 LAY (NN g) M' 53 [(0, vR g i), (1, vI y), (2, vI z), (3, vI u)] [] := by
    intro f
    induction f with
    | zero => intro s k y z u M' hy hz hu hsk htt hf hwd hq hcr ho; omega
    | succ f ih =>
      intro s k y z u M' hy hz hu hsk htt hf hwd hq hcr ho
      have hsl : (slc r s (r.length - s)).length = r.length - s - s := slc_len (by omega)
      refine k_iload_n hx dX4_tighten_53 3 rfl ?_
      refine k_iload_n hx dX4_tighten_54 2 rfl ?_
      refine k_icmp_gt hx dX4_tighten_55 (by omega) (fun h_55 => ?_) (fun h_55 => ?_)
      · refine k_rv hx hr dX4_tighten_75 ?_
        exact ⟨by rw [← hr0, htt]; rwa [List.take_of_length_le (by omega)] at hwd, ho⟩
      · have e1 : M' (i + 1) u = at0 (slc r s (r.length - s)) k := by
          rw [hu, show (s : Int) + k = ((s + k : Nat) : Int) by omega, hq _ (by omega) (by omega), slc_at (by omega) (by omega)]
        have c1 := op_cr (slc_cr hcr s (r.length - s)) (k := k) (by omega)
        refine k_aload_n hx dX4_tighten_58 0 rfl ?_
        refine k_aload_n hx dX4_tighten_59 0 rfl ?_
        refine k_get (v := vR g (i + 1)) hx fX4_15 dX4_tighten_60 hW.2.2.1 hW.1 rfl ?_
        refine k_iload_n hx dX4_tighten_63 3 rfl ?_
        refine k_iald (v := (at0 (slc r s (r.length - s)) k)) hx dX4_tighten_64 hW.2.2.2.1 hW.2.1 (by omega) (by have := hW.2.2.2.2; omega) (e1) ?_
        refine k_vi (rest := []) hx vX4_29 dX4_tighten_65 (c_X4_add hW hwd (by rw [List.length_take]; omega) (by rw [List.length_take]; omega) (c := at0 (slc r s (r.length - s)) k) c1) hW.2.2.1 hW.1 rfl rfl rfl ⟨rfl, rfl⟩ ⟨by decide, by decide⟩ (fun z_65 M_65 p_65 => ?_)
        obtain ⟨rfl, p1, p2, p3⟩ := p_65
        rw [take_at0 (by omega)] at p1
        rw [List.length_take] at p3
        refine k_pop hx dX4_tighten_68 rfl ?_
        refine k_iinc (ls' := [(0, vR g i), (1, vI y), (2, vI z), (3, vI (u + 1))]) hx dX4_tighten_69 3 rfl rfl rfl (by decide) ?_
        refine k_goto hx dX4_tighten_72 ?_
        exact ih s (k + 1) y z (u + 1) M_65 hy hz (by omega) (by omega) htt (by omega) p1 (fun q h1 h2 => by rw [p3 q (by omega)]; exact hq q (by omega) h2) hcr (ho.tr p2)
  have loop1 : ∀ (f : Nat), ∀ (s : Nat) (y z : Int) (M' : Mem), y = s → z = r.length - 1 - s → 2 * s ≤ r.length → r.length - s < f → strip (r.length - s) (slc r s (r.length - s)) = tight r → Wd M' i r → Off i M M' → K x g 0 0 LAY (NN g) M' 14 [(0, vR g i), (1, vI y), (2, vI z)] [] := by
    intro f
    induction f with
    | zero => intro s y z M' hy hz hs hf hst hwd ho; omega
    | succ f ih =>
      intro s y z M' hy hz hs hf hst hwd ho
      have hsl : (slc r s (r.length - s)).length = r.length - s - s := slc_len (by omega)
      refine k_iload_n hx dX4_tighten_14 1 rfl ?_
      refine k_iload_n hx dX4_tighten_15 2 rfl ?_
      refine k_icmp_ge hx dX4_tighten_16 (by omega) (fun h_16 => ?_) (fun h_16 => ?_)
      · have htt : tight r = slc r s (r.length - s) := by
          rw [← hst]; exact strip_stop (fun q => by omega) _
        refine k_aload_n hx dX4_tighten_46 0 rfl ?_
        refine k_iconst hx dX4_tighten_47 ?_
        refine k_putI (kz := 1) hx fX4_21 dX4_tighten_48 hW.2.2.1 hW.1 rfl rfl (fun M_48 hM_48 => ?_)
        refine k_iload_n hx dX4_tighten_51 1 rfl ?_
        refine k_istore_n (ls' := [(0, vR g i), (1, vI y), (2, vI z), (3, vI y)]) hx dX4_tighten_52 rfl rfl (by decide) ?_
        exact loop2 (r.length + 1) s 0 y z y M_48 hy hz (by omega) (by omega) htt (by omega) (by subst hM_48; rw [List.take_zero]; exact Wd.nil) (fun q h1 h2 => by rw [hM_48, up_i (by omega)]; exact hwd.atn h2) hwd.2.2 (ho.tr (by rw [hM_48]; exact off_up))
      · have e1 : M' (i + 1) y = at0 r s := by rw [hy]; exact hwd.atn (by omega)
        have e2 : M' (i + 1) z = at0 r (r.length - 1 - s : Nat) := by rw [hz, show (r.length : Int) - 1 - s = ((r.length - 1 - s : Nat) : Int) by omega]; exact hwd.atn (by omega)
        have c1 := op_cr hwd.2.2 (k := s) (by omega)
        have c2 := op_cr hwd.2.2 (k := r.length - 1 - s) (by omega)
        have c3 := op_rg c2
        have f1 : at0 (slc r s (r.length - s)) 0 = at0 r s := by
          have h1 := slc_at (v := r) (a := s) (b := r.length - s) (k := 0) (by omega) (by omega)
          simpa using h1
        have f2 : at0 (slc r s (r.length - s)) ((slc r s (r.length - s)).length - 1 : Nat) = at0 r (r.length - 1 - s : Nat) := by
          have h1 := slc_at (v := r) (a := s) (b := r.length - s) (k := r.length - s - s - 1) (by omega) (by omega)
          rw [hsl, h1]; congr 2; omega
        refine k_aload_n hx dX4_tighten_19 0 rfl ?_
        refine k_get (v := vR g (i + 1)) hx fX4_15 dX4_tighten_20 hW.2.2.1 hW.1 rfl ?_
        refine k_iload_n hx dX4_tighten_23 1 rfl ?_
        refine k_iald (v := (at0 r s)) hx dX4_tighten_24 hW.2.2.2.1 hW.2.1 (by omega) (by have := hW.2.2.2.2; omega) (e1) ?_
        refine k_aload_n hx dX4_tighten_25 0 rfl ?_
        refine k_get (v := vR g (i + 1)) hx fX4_15 dX4_tighten_26 hW.2.2.1 hW.1 rfl ?_
        refine k_iload_n hx dX4_tighten_29 2 rfl ?_
        refine k_iald (v := (at0 r (r.length - 1 - s : Nat))) hx dX4_tighten_30 hW.2.2.2.1 hW.2.1 (by omega) (by have := hW.2.2.2.2; omega) (e2) ?_
        refine k_np (rest := [vI (at0 r s)]) (e := (op (at0 r (r.length - 1 - s : Nat)))) hx nX4_25 dX4_tighten_31 (c_X5_opposite (z := (at0 r (r.length - 1 - s : Nat))) (by omega)) rfl rfl rfl ⟨rfl, rfl⟩ ⟨by decide, by decide⟩ ?_
        refine k_icmp_ne hx dX4_tighten_34 (by omega) (fun h_34 => ?_) (fun h_34 => ?_)
        · have htt : tight r = slc r s (r.length - s) := by
            rw [← hst]; exact strip_stop (fun q => h_34 (by rw [← f1, ← f2]; exact q.2)) _
          refine k_aload_n hx dX4_tighten_46 0 rfl ?_
          refine k_iconst hx dX4_tighten_47 ?_
          refine k_putI (kz := 1) hx fX4_21 dX4_tighten_48 hW.2.2.1 hW.1 rfl rfl (fun M_48 hM_48 => ?_)
          refine k_iload_n hx dX4_tighten_51 1 rfl ?_
          refine k_istore_n (ls' := [(0, vR g i), (1, vI y), (2, vI z), (3, vI y)]) hx dX4_tighten_52 rfl rfl (by decide) ?_
          exact loop2 (r.length + 1) s 0 y z y M_48 hy hz (by omega) (by omega) htt (by omega) (by subst hM_48; rw [List.take_zero]; exact Wd.nil) (fun q h1 h2 => by rw [hM_48, up_i (by omega)]; exact hwd.atn h2) hwd.2.2 (ho.tr (by rw [hM_48]; exact off_up))
        · refine k_iinc (ls' := [(0, vR g i), (1, vI (y + 1)), (2, vI z)]) hx dX4_tighten_37 1 rfl rfl rfl (by decide) ?_
          refine k_iinc (ls' := [(0, vR g i), (1, vI (y + 1)), (2, vI (z + (-1)))]) hx dX4_tighten_40 2 rfl rfl rfl (by decide) ?_
          refine k_goto hx dX4_tighten_43 ?_
          refine ih (s + 1) (y + 1) (z + -1) M' (by omega) (by omega) (by omega) (by omega) ?_ hwd ho
          have e := strip_go (w := slc r s (r.length - s)) (f := r.length - s) (f' := r.length - (s + 1)) (by omega) ⟨by omega, by rw [f1, f2]; exact h_34⟩
          rw [← hst, e, slc_slc rfl (by omega)]
  refine k_aload_n hx dX4_tighten_0 0 rfl ?_
  refine k_vi (rest := []) hx vX4_47 dX4_tighten_1 (c_X4_cancelPairs hW hw hc) hW.2.2.1 hW.1 rfl rfl rfl ⟨rfl, rfl⟩ ⟨by decide, by decide⟩ (fun z_1 M_1 p_1 => ?_)
  obtain ⟨-, p1, p2⟩ := p_1
  rw [← hr0] at p1
  refine k_pop hx dX4_tighten_4 rfl ?_
  refine k_iconst hx dX4_tighten_5 ?_
  refine k_istore_n (ls' := [(0, vR g i), (1, vI 0)]) hx dX4_tighten_6 rfl rfl (by decide) ?_
  refine k_aload_n hx dX4_tighten_7 0 rfl ?_
  refine k_get (v := vI r.length) hx fX4_21 dX4_tighten_8 hW.2.2.1 hW.1 (congrArg vI (show M_1 i 1 = r.length from p1.1)) ?_
  refine k_iconst hx dX4_tighten_11 ?_
  refine k_isub hx dX4_tighten_12 ?_
  refine k_istore_n (ls' := [(0, vR g i), (1, vI 0), (2, vI (r.length - 1))]) hx dX4_tighten_13 rfl rfl (by decide) ?_
  exact loop1 (r.length + 1) 0 0 _ M_1 rfl (by omega) (by omega) (by omega) (by rw [Nat.sub_zero, slc_all]; rfl) p1 p2

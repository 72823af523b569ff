/-! the law's words: pulled, turned, copied, changed -/
theorem swp_a {p c : Int} (hp : 0 ≤ p ∧ p < 5) (h : pst c = p) : swp p 0 c = [p, p + 1 + (c - pst c), p + 6] := by
  unfold swp
  rw [if_pos (by omega)]
  simp only [if_true]
  rw [show p + 0 = p by omega, show p + 1 - 0 = p + 1 by omega]
  unfold op
  rw [if_pos (by omega)]
theorem swp_b {p c : Int} (h : pst c = p + 1) : swp p 0 c = [p + (c - pst c)] := by
  unfold swp
  rw [if_neg (by omega), if_pos (by omega), show p + 0 = p by omega]
theorem swp_c {p b c : Int} (h1 : ¬ pst c = p) (h2 : ¬ pst c = p + 1) (hb : b = 0 ∨ b = 1) : swp p b c = [c] := by
  unfold swp
  rw [if_neg (by omega), if_neg (by omega)]
theorem swp_d {p c : Int} (h : pst c = p) : swp p 1 c = [p + 1 + (c - pst c)] := by
  unfold swp
  rw [if_neg (by omega), if_pos (by omega)]
theorem swp_e {p c : Int} (hp : 0 ≤ p ∧ p < 5) (h : pst c = p + 1) : swp p 1 c = [p + 7, p + (c - pst c), p + 1] := by
  have e1 : op (p + 1) = p + 7 := by unfold op; omega
  have e2 : op (p + 7) = p + 1 := by unfold op; omega
  unfold swp
  rw [if_pos (by omega), if_neg (by decide), e1, e2, show p + 1 - 1 = p by omega]

theorem c_L_pull {g : GE} {l : Launch} {M : Mem} {i : Nat} (hA : IsA g i) {w : List Int} (hw : Wa M i w) (hl : w.length ≤ 62) : Cv g l μL_pull [vR g i] M (fun M' => Wa M' i (red w) ∧ OA i M M') := by
  refine Cv.of (by decide +kernel) rfl rfl (fun x hx hr => ?_)
  have loop : ∀ (f : Nat), ∀ (w' : List Int) (k : Nat) (y : Int) (M' : Mem), y = k → 1 ≤ k → k ≤ w'.length + 1 → 2 * w'.length + 1 - k < f → w'.length ≤ w.length → Wa M' i w' → act (w'.take k) (w'.drop k) = red w → OA i M M' → K x g 0 0 LAY (NN g) M' 2 [(0, vR g i), (1, vI y)] [] := by
    intro f
    induction f with
    | zero => intro w' k y M' hy hk1 hk2 hf hle hwa hact ho; omega
    | succ f ih =>
      intro w' k y M' hy hk1 hk2 hf hle hwa hact ho
      refine k_iload_n hx dL_pull_2 1 rfl ?_
      refine k_aload_n hx dL_pull_3 0 rfl ?_
      refine k_iconst hx dL_pull_4 ?_
      refine k_iald (v := w'.length) hx dL_pull_5 hA.2 (LAY_hi hA.1) (by omega) (by decide) (hwa.1) ?_
      refine k_icmp_ge hx dL_pull_6 (by omega) (fun h_6 => ?_) (fun h_6 => ?_)
      · refine k_rv hx hr dL_pull_77 ?_
        have e : w' = red w := by rw [← hact, List.take_of_length_le (by omega), List.drop_eq_nil_of_le (by omega)]; rfl
        rw [← e]
        exact ⟨hwa, ho⟩
      · have c1 := at0_z hwa.2.2 (z := y - 1) (by omega) (by omega)
        have c2 := at0_z hwa.2.2 (z := y) (by omega) (by omega)
        have e1 : at0 w' (y - 1) = at0 w' (k - 1 : Nat) := by congr 1; omega
        have e2 : at0 w' y = at0 w' k := by rw [hy]
        refine k_aload_n hx dL_pull_9 0 rfl ?_
        refine k_iload_n hx dL_pull_10 1 rfl ?_
        refine k_iald (v := (at0 w' (y - 1))) hx dL_pull_11 hA.2 (LAY_hi hA.1) (by omega) (by decide) (by rw [hwa.2.1 _ (by omega) (by omega)]) ?_
        refine k_aload_n hx dL_pull_12 0 rfl ?_
        refine k_iload_n hx dL_pull_13 1 rfl ?_
        refine k_iconst hx dL_pull_14 ?_
        refine k_iadd hx dL_pull_15 ?_
        refine k_iald (v := (at0 w' y)) hx dL_pull_16 hA.2 (LAY_hi hA.1) (by omega) (by decide) (by rw [hwa.2.1 _ (by omega) (by omega)]; congr 1; omega) ?_
        refine k_sp (rest := []) (e := (b2i (decide ((at0 w' (y - 1)) = op (at0 w' y))))) hx sL_23 dL_pull_17 (c_L_cancel (a := (at0 w' (y - 1))) (b := (at0 w' y)) (by omega) (by omega)) rfl rfl rfl ⟨rfl, rfl⟩ ⟨by decide, by decide⟩ ?_
        refine k_beq hx dL_pull_20 (fun h_20 => ?_) (fun h_20 => ?_)
        · refine k_iinc (ls' := [(0, vR g i), (1, vI (y + 1))]) hx dL_pull_71 1 rfl rfl rfl (by decide) ?_
          refine k_goto hx dL_pull_74 ?_
          exact ih w' (k + 1) (y + 1) M' (by omega) (by omega) (by omega) (by omega) hle hwa (by rw [← hact]; exact pl_skip (by omega) (by omega) (by rw [← e1, ← e2]; exact h_20)) ho
        · refine k_iload_n hx dL_pull_23 1 rfl ?_
          refine k_istore_n (ls' := [(0, vR g i), (1, vI y), (2, vI y)]) hx dL_pull_24 rfl rfl (by decide) ?_
          have hcc : at0 w' (k - 1 : Nat) = op (at0 w' k) := by rw [← e1, ← e2]; exact h_20
          have inner : ∀ (f2 : Nat), ∀ (j : Int) (M'' : Mem), y ≤ j → j ≤ w'.length - 1 → (w'.length : Int) - j < f2 → M'' i 0 = w'.length → (∀ z : Int, 1 ≤ z → z ≤ w'.length → M'' i z = if z < j then at0 (cutP w' k) (z - 1) else at0 w' (z - 1)) → OA i M' M'' → K x g 0 0 LAY (NN g) M'' 25 [(0, vR g i), (1, vI y), (2, vI j)] [] := by
            intro f2
            induction f2 with
            | zero => intro j M'' hj1 hj2 hf2 hn hz ho2; omega
            | succ f2 ih2 =>
              intro j M'' hj1 hj2 hf2 hn hz ho2
              refine k_iload_n hx dL_pull_25 2 rfl ?_
              refine k_iconst hx dL_pull_26 ?_
              refine k_iadd hx dL_pull_27 ?_
              refine k_aload_n hx dL_pull_28 0 rfl ?_
              refine k_iconst hx dL_pull_29 ?_
              refine k_iald (v := w'.length) hx dL_pull_30 hA.2 (LAY_hi hA.1) (by omega) (by decide) (hn) ?_
              refine k_icmp_gt hx dL_pull_31 (by omega) (fun h_31 => ?_) (fun h_31 => ?_)
              · refine k_aload_n hx dL_pull_48 0 rfl ?_
                refine k_iconst hx dL_pull_49 ?_
                refine k_dup2 hx dL_pull_50 rfl rfl ?_
                refine k_iald (v := w'.length) hx dL_pull_51 hA.2 (LAY_hi hA.1) (by omega) (by decide) (hn) ?_
                refine k_iconst hx dL_pull_52 ?_
                refine k_isub hx dL_pull_53 ?_
                refine k_iastN hx dL_pull_54 hA.2 (LAY_hi hA.1) (by omega) (by decide) (fun M_54 hM_54 => ?_)
                have hcl := cutP_len (w := w') (k := k) (by omega) (by omega)
                have hcw : Wa M_54 i (cutP w' k) := by
                  refine Wa.of (by rw [hM_54, up_s]; omega) (fun q hq => ?_) (cutP_cr hwa.2.2 k)
                  rw [hM_54, up_k (by omega), hz _ (by omega) (by omega), if_pos (by omega)]
                  congr 1; omega
                have hco : OA i M' M_54 := fun a ha => by rw [hM_54, up_i ha]; exact ho2 a ha
                refine k_iload_n hx dL_pull_55 1 rfl ?_
                refine k_iconst hx dL_pull_56 ?_
                refine k_icmp_le hx dL_pull_57 (by omega) (fun h_57 => ?_) (fun h_57 => ?_)
                · refine k_iconst hx dL_pull_66 ?_
                  refine k_istore_n (ls' := [(0, vR g i), (1, vI 1), (2, vI j)]) hx dL_pull_67 rfl rfl (by decide) ?_
                  refine k_goto hx dL_pull_68 ?_
                  refine K.sub [0, 1] rfl ?_
                  exact ih (cutP w' k) 1 _ M_54 (by omega) (by omega) (by omega) (by rw [hcl]; omega) (by rw [hcl]; omega) hcw (by rw [← hact, ← pl_cut (by omega) (by omega) hcc, if_neg (by omega)]) (ho.tr hco)
                · refine k_iload_n hx dL_pull_60 1 rfl ?_
                  refine k_iconst hx dL_pull_61 ?_
                  refine k_isub hx dL_pull_62 ?_
                  refine k_goto hx dL_pull_63 ?_
                  refine k_istore_n (ls' := [(0, vR g i), (1, vI (y - 1)), (2, vI j)]) hx dL_pull_67 rfl rfl (by decide) ?_
                  refine k_goto hx dL_pull_68 ?_
                  refine K.sub [0, 1] rfl ?_
                  exact ih (cutP w' k) (k - 1) _ M_54 (by omega) (by omega) (by rw [hcl]; omega) (by rw [hcl]; omega) (by rw [hcl]; omega) hcw (by rw [← hact, ← pl_cut (by omega) (by omega) hcc, if_pos (by omega)]) (ho.tr hco)
              · refine k_aload_n hx dL_pull_34 0 rfl ?_
                refine k_iload_n hx dL_pull_35 2 rfl ?_
                refine k_aload_n hx dL_pull_36 0 rfl ?_
                refine k_iload_n hx dL_pull_37 2 rfl ?_
                refine k_iconst hx dL_pull_38 ?_
                refine k_iadd hx dL_pull_39 ?_
                refine k_iald (v := (at0 w' (j + 1))) hx dL_pull_40 hA.2 (LAY_hi hA.1) (by omega) (by decide) (by rw [hz _ (by omega) (by omega), if_neg (by omega)]; congr 1; omega) ?_
                refine k_iastN hx dL_pull_41 hA.2 (LAY_hi hA.1) (by omega) (by decide) (fun M_41 hM_41 => ?_)
                refine k_iinc (ls' := [(0, vR g i), (1, vI y), (2, vI (j + 1))]) hx dL_pull_42 2 rfl rfl rfl (by decide) ?_
                refine k_goto hx dL_pull_45 ?_
                refine ih2 (j + 1) M_41 (by omega) (by omega) (by omega) (by rw [hM_41, up_k (by omega)]; exact hn) (fun z z1 z2 => ?_) (fun a ha => by rw [hM_41, up_i ha]; exact ho2 a ha)
                rw [hM_41]
                by_cases e : z = j
                · subst e
                  rw [up_s, if_pos (by omega), show z - 1 = ((z - 1).toNat : Int) by omega, cutP_at (by omega) (by omega) (by omega), if_neg (by omega)]
                  congr 1; omega
                · rw [up_k e, hz z z1 z2]
                  by_cases e2 : z < j
                  · rw [if_pos e2, if_pos (by omega)]
                  · rw [if_neg e2, if_neg (by omega)]
          exact inner (w'.length + 1) y M' (by omega) (by omega) (by omega) hwa.1 (fun z z1 z2 => by
            rw [hwa.2.1 z z1 z2]
            by_cases e : z < y
            · rw [if_pos e, show z - 1 = ((z - 1).toNat : Int) by omega, cutP_at (by omega) (by omega) (by omega), if_pos (by omega)]
            · rw [if_neg e]) OA.rf
  refine k_iconst hx dL_pull_0 ?_
  refine k_istore_n (ls' := [(0, vR g i), (1, vI 1)]) hx dL_pull_1 rfl rfl (by decide) ?_
  refine loop (2 * w.length + 1) w 1 1 M rfl (by omega) (by omega) (by omega) (by omega) hw ?_ OA.rf
  cases w with
  | nil => rfl
  | cons c u => rfl
theorem c_L_turn {g : GE} {l : Launch} {M : Mem} {i : Nat} (hA : IsA g i) {w : List Int} (hw : Wa M i w) (hl : w.length ≤ 62) : Cv g l μL_turn [vR g i] M (fun M' => Wa M' i (trn w) ∧ OA i M M') := by
  refine Cv.of (by decide +kernel) rfl rfl (fun x hx hr => ?_)
  have loop : ∀ (f : Nat), ∀ (s : Nat) (a b : Int) (M' : Mem), a = s + 1 → b = w.length - s → 2 * s ≤ w.length + 1 → w.length + 1 - s < f → M' i 0 = w.length → (∀ z : Int, 1 ≤ z → z ≤ w.length → M' i z = if z ≤ s ∨ w.length - s < z then op (at0 w (w.length - z)) else at0 w (z - 1)) → OA i M M' → K x g 0 0 LAY (NN g) M' 6 [(0, vR g i), (1, vI a), (2, vI b)] [] := by
    intro f
    induction f with
    | zero => intro s a b M' ha hb hs hf hn hz ho; omega
    | succ f ih =>
      intro s a b M' ha hb hs hf hn hz ho
      refine k_iload_n hx dL_turn_6 1 rfl ?_
      refine k_iload_n hx dL_turn_7 2 rfl ?_
      refine k_icmp_gt hx dL_turn_8 (by omega) (fun h_8 => ?_) (fun h_8 => ?_)
      · refine k_rv hx hr dL_turn_40 ?_
        have htl := trn_len w
        refine ⟨Wa.of (by rw [htl]; exact hn) (fun k hk => ?_) (cr_trn hw.2.2), ho⟩
        rw [htl] at hk
        rw [hz _ (by omega) (by omega), if_pos (by omega), trn_at hk]
        congr 2; omega
      · have c1 := at0_z hw.2.2 (z := a - 1) (by omega) (by omega)
        have c2 := at0_z hw.2.2 (z := b - 1) (by omega) (by omega)
        refine k_aload_n hx dL_turn_11 0 rfl ?_
        refine k_iload_n hx dL_turn_12 1 rfl ?_
        refine k_iald (v := (at0 w (a - 1))) hx dL_turn_13 hA.2 (LAY_hi hA.1) (by omega) (by decide) (by rw [hz _ (by omega) (by omega), if_neg (by omega)]) ?_
        refine k_istore_n (ls' := [(0, vR g i), (1, vI a), (2, vI b), (3, vI (at0 w (a - 1)))]) hx dL_turn_14 rfl rfl (by decide) ?_
        refine k_aload_n hx dL_turn_15 0 rfl ?_
        refine k_iload_n hx dL_turn_16 1 rfl ?_
        refine k_aload_n hx dL_turn_17 0 rfl ?_
        refine k_iload_n hx dL_turn_18 2 rfl ?_
        refine k_iald (v := (at0 w (b - 1))) hx dL_turn_19 hA.2 (LAY_hi hA.1) (by omega) (by decide) (by rw [hz _ (by omega) (by omega), if_neg (by omega)]) ?_
        refine k_sp (rest := [vI a, vR g i]) (e := (op (at0 w (b - 1)))) hx sL_27 dL_turn_20 (c_L_otherSide (a := (at0 w (b - 1))) (by omega)) rfl rfl rfl ⟨rfl, rfl⟩ ⟨by decide, by decide⟩ ?_
        refine k_iastN hx dL_turn_23 hA.2 (LAY_hi hA.1) (by omega) (by decide) (fun M_23 hM_23 => ?_)
        refine k_aload_n hx dL_turn_24 0 rfl ?_
        refine k_iload_n hx dL_turn_25 2 rfl ?_
        refine k_iload_n hx dL_turn_26 3 rfl ?_
        refine k_sp (rest := [vI b, vR g i]) (e := (op (at0 w (a - 1)))) hx sL_27 dL_turn_27 (c_L_otherSide (a := (at0 w (a - 1))) (by omega)) rfl rfl rfl ⟨rfl, rfl⟩ ⟨by decide, by decide⟩ ?_
        refine k_iastN hx dL_turn_30 hA.2 (LAY_hi hA.1) (by omega) (by decide) (fun M_30 hM_30 => ?_)
        refine k_iinc (ls' := [(0, vR g i), (1, vI (a + 1)), (2, vI b), (3, vI (at0 w (a - 1)))]) hx dL_turn_31 1 rfl rfl rfl (by decide) ?_
        refine k_iinc (ls' := [(0, vR g i), (1, vI (a + 1)), (2, vI (b + (-1))), (3, vI (at0 w (a - 1)))]) hx dL_turn_34 2 rfl rfl rfl (by decide) ?_
        refine k_goto hx dL_turn_37 ?_
        refine K.sub [0, 1, 2] rfl ?_
        refine ih (s + 1) (a + 1) (b + (-1)) M_30 (by omega) (by omega) (by omega) (by omega) (by rw [hM_30, up_k (by omega), hM_23, up_k (by omega)]; exact hn) (fun z z1 z2 => ?_) (fun q hq => by rw [hM_30, up_i hq, hM_23, up_i hq]; exact ho q hq)
        rw [hM_30]
        by_cases e1 : z = b
        · subst e1
          rw [up_s, if_pos (by omega)]; congr 2; omega
        · rw [up_k e1, hM_23]
          by_cases e2 : z = a
          · subst e2
            rw [up_s, if_pos (by omega)]; congr 2; omega
          · rw [up_k e2, hz z z1 z2]
            by_cases e3 : z ≤ s ∨ w.length - s < z
            · rw [if_pos e3, if_pos (by omega)]
            · rw [if_neg e3, if_neg (by omega)]
  refine k_iconst hx dL_turn_0 ?_
  refine k_istore_n (ls' := [(0, vR g i), (1, vI 1)]) hx dL_turn_1 rfl rfl (by decide) ?_
  refine k_aload_n hx dL_turn_2 0 rfl ?_
  refine k_iconst hx dL_turn_3 ?_
  refine k_iald (v := w.length) hx dL_turn_4 hA.2 (LAY_hi hA.1) (by omega) (by decide) (hw.1) ?_
  refine k_istore_n (ls' := [(0, vR g i), (1, vI 1), (2, vI w.length)]) hx dL_turn_5 rfl rfl (by decide) ?_
  exact loop (w.length + 2) 0 1 w.length M (by omega) (by omega) (by omega) (by omega) hw.1 (fun z z1 z2 => by rw [hw.2.1 z z1 z2, if_neg (by omega)]) OA.rf
theorem c_L_copy {g : GE} {l : Launch} {M : Mem} {i : Nat} (hA : IsA g i) {w : List Int} (hw : Wa M i w) (hl : w.length ≤ 62) {j : Nat} (hB : IsA g j) (hij : i ≠ j) : Cv g l μL_copy [vR g i, vR g j] M (fun M' => Wa M' j w ∧ OA j M M') := by
  refine Cv.of (by decide +kernel) rfl rfl (fun x hx hr => ?_)
  have loop : ∀ (f : Nat), ∀ (k : Nat) (y : Int) (M' : Mem), y = k → k ≤ w.length + 1 → w.length + 1 - k < f → (∀ z : Int, 0 ≤ z → z < k → M' j z = M i z) → OA j M M' → K x g 0 0 LAY (NN g) M' 2 [(0, vR g i), (1, vR g j), (2, vI y)] [] := by
    intro f
    induction f with
    | zero => intro k y M' hy hk hf hz ho; omega
    | succ f ih =>
      intro k y M' hy hk hf hz ho
      have hwa := hw.same (ho i hij)
      refine k_iload_n hx dL_copy_2 2 rfl ?_
      refine k_aload_n hx dL_copy_3 0 rfl ?_
      refine k_iconst hx dL_copy_4 ?_
      refine k_iald (v := w.length) hx dL_copy_5 hA.2 (LAY_hi hA.1) (by omega) (by decide) (hwa.1) ?_
      refine k_icmp_gt hx dL_copy_6 (by omega) (fun h_6 => ?_) (fun h_6 => ?_)
      · refine k_rv hx hr dL_copy_21 ?_
        exact ⟨⟨by rw [hz 0 (by omega) (by omega)]; exact hw.1, fun z z1 z2 => by rw [hz z (by omega) (by omega)]; exact hw.2.1 z z1 z2, hw.2.2⟩, ho⟩
      · refine k_aload_n hx dL_copy_9 1 rfl ?_
        refine k_iload_n hx dL_copy_10 2 rfl ?_
        refine k_aload_n hx dL_copy_11 0 rfl ?_
        refine k_iload_n hx dL_copy_12 2 rfl ?_
        refine k_iald (v := (M i y)) hx dL_copy_13 hA.2 (LAY_hi hA.1) (by omega) (by decide) (by rw [ho i hij]) ?_
        refine k_iastN hx dL_copy_14 hB.2 (LAY_hi hB.1) (by omega) (by decide) (fun M_14 hM_14 => ?_)
        refine k_iinc (ls' := [(0, vR g i), (1, vR g j), (2, vI (y + 1))]) hx dL_copy_15 2 rfl rfl rfl (by decide) ?_
        refine k_goto hx dL_copy_18 ?_
        refine ih (k + 1) (y + 1) M_14 (by omega) (by omega) (by omega) (fun z z1 z2 => ?_) (fun q hq => by rw [hM_14, up_i hq]; exact ho q hq)
        rw [hM_14]
        by_cases e : z = y
        · subst e; rw [up_s]
        · rw [up_k e]; exact hz z z1 (by omega)
  refine k_iconst hx dL_copy_0 ?_
  refine k_istore_n (ls' := [(0, vR g i), (1, vR g j), (2, vI 0)]) hx dL_copy_1 rfl rfl (by decide) ?_
  exact loop (w.length + 2) 0 0 M rfl (by omega) (by omega) (fun z z1 z2 => by omega) OA.rf
theorem c_L_change0 {g : GE} {l : Launch} {M : Mem} {i : Nat} (hA : IsA g i) {v : List Int} (hv : Wa M i v) (hl : v.length ≤ 20) {j : Nat} (hB : IsA g j) (hij : i ≠ j) {p : Int} (hp : 0 ≤ p ∧ p < 5) : Cv g l μL_change [vR g i, vI p, vI 0, vR g j] M (fun M' => Wa M' j (swF p 0 v) ∧ OA j M M') := by
  refine Cv.of (by decide +kernel) rfl rfl (fun x hx hr => ?_)
  have loop : ∀ (f : Nat), ∀ (k : Nat) (y : Int) (M' : Mem), y = k + 1 → k ≤ v.length → v.length - k < f → Wa M' j (swF p 0 (v.take k)) → OA j M M' → K x g 0 0 LAY (NN g) M' 7 [(0, vR g i), (1, vI p), (2, vI 0), (3, vR g j), (4, vI y)] [] := by
    intro f
    induction f with
    | zero => intro k y M' hy hk hf hwa ho; omega
    | succ f ih =>
      intro k y M' hy hk hf hwa ho
      have hv' := hv.same (ho i hij)
      refine k_iload hx dL_change_7 4 rfl ?_
      refine k_aload_n hx dL_change_9 0 rfl ?_
      refine k_iconst hx dL_change_10 ?_
      refine k_iald (v := v.length) hx dL_change_11 hA.2 (LAY_hi hA.1) (by omega) (by decide) (hv'.1) ?_
      refine k_icmp_gt hx dL_change_12 (by omega) (fun h_12 => ?_) (fun h_12 => ?_)
      · refine k_rv hx hr dL_change_173 ?_
        exact ⟨by rw [List.take_of_length_le (by omega)] at hwa; exact hwa, ho⟩
      · obtain ⟨c, hc⟩ : ∃ c, c = at0 v (y - 1) := ⟨_, rfl⟩
        have hcr : 0 ≤ c ∧ c < 12 := by rw [hc]; exact at0_z hv.2.2 (by omega) (by omega)
        have hck : at0 v k = c := by rw [hc]; congr 1; omega
        have h6 := mod6 hcr
        have hsd : c - pst c = 0 ∨ c - pst c = 6 := by unfold pst; omega
        have hpr := pst_rg hcr
        have hsl : (swF p 0 (v.take k)).length ≤ 57 := by have := swF_len p 0 (v.take k); rw [List.length_take] at this; omega
        refine k_aload_n hx dL_change_15 0 rfl ?_
        refine k_iload hx dL_change_16 4 rfl ?_
        refine k_iald (v := c) hx dL_change_18 hA.2 (LAY_hi hA.1) (by omega) (by decide) (by rw [hv'.2.1 _ (by omega) (by omega), hc]) ?_
        refine k_istore (ls' := [(0, vR g i), (1, vI p), (2, vI 0), (3, vR g j), (4, vI y), (5, vI c)]) hx dL_change_19 rfl rfl (by decide) ?_
        refine k_iload hx dL_change_21 5 rfl ?_
        refine k_bipush hx dL_change_23 (by decide +kernel) ?_
        refine k_irem hx dL_change_25 (by omega) ?_
        rw [h6]
        refine k_istore (ls' := [(0, vR g i), (1, vI p), (2, vI 0), (3, vR g j), (4, vI y), (5, vI c), (6, vI (pst c))]) hx dL_change_26 rfl rfl (by decide) ?_
        refine k_iload hx dL_change_28 5 rfl ?_
        refine k_iload hx dL_change_30 6 rfl ?_
        refine k_isub hx dL_change_32 ?_
        refine k_istore (ls' := [(0, vR g i), (1, vI p), (2, vI 0), (3, vR g j), (4, vI y), (5, vI c), (6, vI (pst c)), (7, vI (c - (pst c)))]) hx dL_change_33 rfl rfl (by decide) ?_
        refine k_iload_n hx dL_change_35 2 rfl ?_
        refine k_ifne hx dL_change_36 (by omega) (fun h_36 => absurd h_36 (by omega)) (fun h_36 => ?_)
        refine k_iload hx dL_change_39 6 rfl ?_
        refine k_iload_n hx dL_change_41 1 rfl ?_
        refine k_icmp_ne hx dL_change_42 (by omega) (fun h_42 => ?_) (fun h_42 => ?_)
        · refine k_iload_n hx dL_change_71 2 rfl ?_
          refine k_ifne hx dL_change_72 (by omega) (fun h_72 => absurd h_72 (by omega)) (fun h_72 => ?_)
          refine k_iload hx dL_change_75 6 rfl ?_
          refine k_iload_n hx dL_change_77 1 rfl ?_
          refine k_iconst hx dL_change_78 ?_
          refine k_iadd hx dL_change_79 ?_
          refine k_icmp_ne hx dL_change_80 (by omega) (fun h_80 => ?_) (fun h_80 => ?_)
          · refine k_iload_n hx dL_change_94 2 rfl ?_
            refine k_iconst hx dL_change_95 ?_
            refine k_icmp_ne hx dL_change_96 (by omega) (fun h_96 => ?_) (fun h_96 => absurd h_96 (by omega))
            refine k_iload_n hx dL_change_118 2 rfl ?_
            refine k_iconst hx dL_change_119 ?_
            refine k_icmp_ne hx dL_change_120 (by omega) (fun h_120 => ?_) (fun h_120 => absurd h_120 (by omega))
            refine k_aload_n hx dL_change_157 3 rfl ?_
            refine k_iload hx dL_change_158 5 rfl ?_
            refine k_sv (rest := []) hx sL_17 dL_change_160 (c_L_add hB hwa (by (try simp only [List.length_append, List.length_singleton]); omega) (c := c) (by omega)) rfl rfl rfl ⟨rfl, rfl⟩ ⟨by decide, by decide⟩ (fun M_160 p_160 => ?_)
            obtain ⟨a_160, b_160⟩ := p_160
            refine k_aload_n hx dL_change_163 3 rfl ?_
            refine k_sv (rest := []) hx sL_41 dL_change_164 (c_L_pull hB a_160 (by (try simp only [List.length_append, List.length_singleton]); omega)) rfl rfl rfl ⟨rfl, rfl⟩ ⟨by decide, by decide⟩ (fun M_164 p_164 => ?_)
            obtain ⟨a_164, b_164⟩ := p_164
            have hw2 : Wa M_164 j (swF p 0 (v.take (k + 1))) := by
              rw [swF_take (by omega), hck, swp_c (by omega) (by omega) (by omega)]
              have e := a_164
              try simp only [List.append_assoc, List.cons_append, List.nil_append] at e
              exact e
            refine k_iinc (ls' := [(0, vR g i), (1, vI p), (2, vI 0), (3, vR g j), (4, vI (y + 1)), (5, vI c), (6, vI (pst c)), (7, vI (c - (pst c)))]) hx dL_change_167 4 rfl rfl rfl (by decide) ?_
            refine k_goto hx dL_change_170 ?_
            refine K.sub [0, 1, 2, 3, 4] rfl ?_
            exact ih (k + 1) (y + 1) M_164 (by omega) (by omega) (by omega) hw2 (((ho).tr b_160).tr b_164)
          · refine k_aload_n hx dL_change_83 3 rfl ?_
            refine k_iload_n hx dL_change_84 1 rfl ?_
            refine k_iload hx dL_change_85 7 rfl ?_
            refine k_iadd hx dL_change_87 ?_
            refine k_sv (rest := []) hx sL_17 dL_change_88 (c_L_add hB hwa (by (try simp only [List.length_append, List.length_singleton]); omega) (c := p + (c - pst c)) (by omega)) rfl rfl rfl ⟨rfl, rfl⟩ ⟨by decide, by decide⟩ (fun M_88 p_88 => ?_)
            obtain ⟨a_88, b_88⟩ := p_88
            refine k_goto hx dL_change_91 ?_
            refine k_aload_n hx dL_change_163 3 rfl ?_
            refine k_sv (rest := []) hx sL_41 dL_change_164 (c_L_pull hB a_88 (by (try simp only [List.length_append, List.length_singleton]); omega)) rfl rfl rfl ⟨rfl, rfl⟩ ⟨by decide, by decide⟩ (fun M_164 p_164 => ?_)
            obtain ⟨a_164, b_164⟩ := p_164
            have hw2 : Wa M_164 j (swF p 0 (v.take (k + 1))) := by
              rw [swF_take (by omega), hck, swp_b (by omega)]
              have e := a_164
              try simp only [List.append_assoc, List.cons_append, List.nil_append] at e
              exact e
            refine k_iinc (ls' := [(0, vR g i), (1, vI p), (2, vI 0), (3, vR g j), (4, vI (y + 1)), (5, vI c), (6, vI (pst c)), (7, vI (c - (pst c)))]) hx dL_change_167 4 rfl rfl rfl (by decide) ?_
            refine k_goto hx dL_change_170 ?_
            refine K.sub [0, 1, 2, 3, 4] rfl ?_
            exact ih (k + 1) (y + 1) M_164 (by omega) (by omega) (by omega) hw2 (((ho).tr b_88).tr b_164)
        · refine k_aload_n hx dL_change_45 3 rfl ?_
          refine k_iload_n hx dL_change_46 1 rfl ?_
          refine k_sv (rest := []) hx sL_17 dL_change_47 (c_L_add hB hwa (by (try simp only [List.length_append, List.length_singleton]); omega) (c := p) (by omega)) rfl rfl rfl ⟨rfl, rfl⟩ ⟨by decide, by decide⟩ (fun M_47 p_47 => ?_)
          obtain ⟨a_47, b_47⟩ := p_47
          refine k_aload_n hx dL_change_50 3 rfl ?_
          refine k_iload_n hx dL_change_51 1 rfl ?_
          refine k_iconst hx dL_change_52 ?_
          refine k_iadd hx dL_change_53 ?_
          refine k_iload hx dL_change_54 7 rfl ?_
          refine k_iadd hx dL_change_56 ?_
          refine k_sv (rest := []) hx sL_17 dL_change_57 (c_L_add hB a_47 (by (try simp only [List.length_append, List.length_singleton]); omega) (c := p + 1 + (c - pst c)) (by omega)) rfl rfl rfl ⟨rfl, rfl⟩ ⟨by decide, by decide⟩ (fun M_57 p_57 => ?_)
          obtain ⟨a_57, b_57⟩ := p_57
          refine k_aload_n hx dL_change_60 3 rfl ?_
          refine k_iload_n hx dL_change_61 1 rfl ?_
          refine k_bipush hx dL_change_62 (by decide +kernel) ?_
          refine k_iadd hx dL_change_64 ?_
          refine k_sv (rest := []) hx sL_17 dL_change_65 (c_L_add hB a_57 (by (try simp only [List.length_append, List.length_singleton]); omega) (c := p + 6) (by omega)) rfl rfl rfl ⟨rfl, rfl⟩ ⟨by decide, by decide⟩ (fun M_65 p_65 => ?_)
          obtain ⟨a_65, b_65⟩ := p_65
          refine k_goto hx dL_change_68 ?_
          refine k_aload_n hx dL_change_163 3 rfl ?_
          refine k_sv (rest := []) hx sL_41 dL_change_164 (c_L_pull hB a_65 (by (try simp only [List.length_append, List.length_singleton]); omega)) rfl rfl rfl ⟨rfl, rfl⟩ ⟨by decide, by decide⟩ (fun M_164 p_164 => ?_)
          obtain ⟨a_164, b_164⟩ := p_164
          have hw2 : Wa M_164 j (swF p 0 (v.take (k + 1))) := by
            rw [swF_take (by omega), hck, swp_a hp (by omega)]
            have e := a_164
            try simp only [List.append_assoc, List.cons_append, List.nil_append] at e
            exact e
          refine k_iinc (ls' := [(0, vR g i), (1, vI p), (2, vI 0), (3, vR g j), (4, vI (y + 1)), (5, vI c), (6, vI (pst c)), (7, vI (c - (pst c)))]) hx dL_change_167 4 rfl rfl rfl (by decide) ?_
          refine k_goto hx dL_change_170 ?_
          refine K.sub [0, 1, 2, 3, 4] rfl ?_
          exact ih (k + 1) (y + 1) M_164 (by omega) (by omega) (by omega) hw2 (((((ho).tr b_47).tr b_57).tr b_65).tr b_164)
  refine k_aload_n hx dL_change_0 3 rfl ?_
  refine k_iconst hx dL_change_1 ?_
  refine k_iconst hx dL_change_2 ?_
  refine k_iastN hx dL_change_3 hB.2 (LAY_hi hB.1) (by omega) (by decide) (fun M_3 hM_3 => ?_)
  refine k_iconst hx dL_change_4 ?_
  refine k_istore (ls' := [(0, vR g i), (1, vI p), (2, vI 0), (3, vR g j), (4, vI 1)]) hx dL_change_5 rfl rfl (by decide) ?_
  exact loop (v.length + 1) 0 1 M_3 (by omega) (by omega) (by omega) (by rw [hM_3, List.take_zero]; exact Wa.nil) (fun q hq => by rw [hM_3, up_i hq])
theorem c_L_change1 {g : GE} {l : Launch} {M : Mem} {i : Nat} (hA : IsA g i) {v : List Int} (hv : Wa M i v) (hl : v.length ≤ 20) {j : Nat} (hB : IsA g j) (hij : i ≠ j) {p : Int} (hp : 0 ≤ p ∧ p < 5) : Cv g l μL_change [vR g i, vI p, vI 1, vR g j] M (fun M' => Wa M' j (swF p 1 v) ∧ OA j M M') := by
  refine Cv.of (by decide +kernel) rfl rfl (fun x hx hr => ?_)
  have loop : ∀ (f : Nat), ∀ (k : Nat) (y : Int) (M' : Mem), y = k + 1 → k ≤ v.length → v.length - k < f → Wa M' j (swF p 1 (v.take k)) → OA j M M' → K x g 0 0 LAY (NN g) M' 7 [(0, vR g i), (1, vI p), (2, vI 1), (3, vR g j), (4, vI y)] [] := by
    intro f
    induction f with
    | zero => intro k y M' hy hk hf hwa ho; omega
    | succ f ih =>
      intro k y M' hy hk hf hwa ho
      have hv' := hv.same (ho i hij)
      refine k_iload hx dL_change_7 4 rfl ?_
      refine k_aload_n hx dL_change_9 0 rfl ?_
      refine k_iconst hx dL_change_10 ?_
      refine k_iald (v := v.length) hx dL_change_11 hA.2 (LAY_hi hA.1) (by omega) (by decide) (hv'.1) ?_
      refine k_icmp_gt hx dL_change_12 (by omega) (fun h_12 => ?_) (fun h_12 => ?_)
      · refine k_rv hx hr dL_change_173 ?_
        exact ⟨by rw [List.take_of_length_le (by omega)] at hwa; exact hwa, ho⟩
      · obtain ⟨c, hc⟩ : ∃ c, c = at0 v (y - 1) := ⟨_, rfl⟩
        have hcr : 0 ≤ c ∧ c < 12 := by rw [hc]; exact at0_z hv.2.2 (by omega) (by omega)
        have hck : at0 v k = c := by rw [hc]; congr 1; omega
        have h6 := mod6 hcr
        have hsd : c - pst c = 0 ∨ c - pst c = 6 := by unfold pst; omega
        have hpr := pst_rg hcr
        have hsl : (swF p 1 (v.take k)).length ≤ 57 := by have := swF_len p 1 (v.take k); rw [List.length_take] at this; omega
        refine k_aload_n hx dL_change_15 0 rfl ?_
        refine k_iload hx dL_change_16 4 rfl ?_
        refine k_iald (v := c) hx dL_change_18 hA.2 (LAY_hi hA.1) (by omega) (by decide) (by rw [hv'.2.1 _ (by omega) (by omega), hc]) ?_
        refine k_istore (ls' := [(0, vR g i), (1, vI p), (2, vI 1), (3, vR g j), (4, vI y), (5, vI c)]) hx dL_change_19 rfl rfl (by decide) ?_
        refine k_iload hx dL_change_21 5 rfl ?_
        refine k_bipush hx dL_change_23 (by decide +kernel) ?_
        refine k_irem hx dL_change_25 (by omega) ?_
        rw [h6]
        refine k_istore (ls' := [(0, vR g i), (1, vI p), (2, vI 1), (3, vR g j), (4, vI y), (5, vI c), (6, vI (pst c))]) hx dL_change_26 rfl rfl (by decide) ?_
        refine k_iload hx dL_change_28 5 rfl ?_
        refine k_iload hx dL_change_30 6 rfl ?_
        refine k_isub hx dL_change_32 ?_
        refine k_istore (ls' := [(0, vR g i), (1, vI p), (2, vI 1), (3, vR g j), (4, vI y), (5, vI c), (6, vI (pst c)), (7, vI (c - (pst c)))]) hx dL_change_33 rfl rfl (by decide) ?_
        refine k_iload_n hx dL_change_35 2 rfl ?_
        refine k_ifne hx dL_change_36 (by omega) (fun h_36 => ?_) (fun h_36 => absurd h_36 (by omega))
        refine k_iload_n hx dL_change_71 2 rfl ?_
        refine k_ifne hx dL_change_72 (by omega) (fun h_72 => ?_) (fun h_72 => absurd h_72 (by omega))
        refine k_iload_n hx dL_change_94 2 rfl ?_
        refine k_iconst hx dL_change_95 ?_
        refine k_icmp_ne hx dL_change_96 (by omega) (fun h_96 => absurd h_96 (by omega)) (fun h_96 => ?_)
        refine k_iload hx dL_change_99 6 rfl ?_
        refine k_iload_n hx dL_change_101 1 rfl ?_
        refine k_icmp_ne hx dL_change_102 (by omega) (fun h_102 => ?_) (fun h_102 => ?_)
        · refine k_iload_n hx dL_change_118 2 rfl ?_
          refine k_iconst hx dL_change_119 ?_
          refine k_icmp_ne hx dL_change_120 (by omega) (fun h_120 => absurd h_120 (by omega)) (fun h_120 => ?_)
          refine k_iload hx dL_change_123 6 rfl ?_
          refine k_iload_n hx dL_change_125 1 rfl ?_
          refine k_iconst hx dL_change_126 ?_
          refine k_iadd hx dL_change_127 ?_
          refine k_icmp_ne hx dL_change_128 (by omega) (fun h_128 => ?_) (fun h_128 => ?_)
          · refine k_aload_n hx dL_change_157 3 rfl ?_
            refine k_iload hx dL_change_158 5 rfl ?_
            refine k_sv (rest := []) hx sL_17 dL_change_160 (c_L_add hB hwa (by (try simp only [List.length_append, List.length_singleton]); omega) (c := c) (by omega)) rfl rfl rfl ⟨rfl, rfl⟩ ⟨by decide, by decide⟩ (fun M_160 p_160 => ?_)
            obtain ⟨a_160, b_160⟩ := p_160
            refine k_aload_n hx dL_change_163 3 rfl ?_
            refine k_sv (rest := []) hx sL_41 dL_change_164 (c_L_pull hB a_160 (by (try simp only [List.length_append, List.length_singleton]); omega)) rfl rfl rfl ⟨rfl, rfl⟩ ⟨by decide, by decide⟩ (fun M_164 p_164 => ?_)
            obtain ⟨a_164, b_164⟩ := p_164
            have hw2 : Wa M_164 j (swF p 1 (v.take (k + 1))) := by
              rw [swF_take (by omega), hck, swp_c (by omega) (by omega) (by omega)]
              have e := a_164
              try simp only [List.append_assoc, List.cons_append, List.nil_append] at e
              exact e
            refine k_iinc (ls' := [(0, vR g i), (1, vI p), (2, vI 1), (3, vR g j), (4, vI (y + 1)), (5, vI c), (6, vI (pst c)), (7, vI (c - (pst c)))]) hx dL_change_167 4 rfl rfl rfl (by decide) ?_
            refine k_goto hx dL_change_170 ?_
            refine K.sub [0, 1, 2, 3, 4] rfl ?_
            exact ih (k + 1) (y + 1) M_164 (by omega) (by omega) (by omega) hw2 (((ho).tr b_160).tr b_164)
          · refine k_aload_n hx dL_change_131 3 rfl ?_
            refine k_iload_n hx dL_change_132 1 rfl ?_
            refine k_bipush hx dL_change_133 (by decide +kernel) ?_
            refine k_iadd hx dL_change_135 ?_
            refine k_sv (rest := []) hx sL_17 dL_change_136 (c_L_add hB hwa (by (try simp only [List.length_append, List.length_singleton]); omega) (c := p + 7) (by omega)) rfl rfl rfl ⟨rfl, rfl⟩ ⟨by decide, by decide⟩ (fun M_136 p_136 => ?_)
            obtain ⟨a_136, b_136⟩ := p_136
            refine k_aload_n hx dL_change_139 3 rfl ?_
            refine k_iload_n hx dL_change_140 1 rfl ?_
            refine k_iload hx dL_change_141 7 rfl ?_
            refine k_iadd hx dL_change_143 ?_
            refine k_sv (rest := []) hx sL_17 dL_change_144 (c_L_add hB a_136 (by (try simp only [List.length_append, List.length_singleton]); omega) (c := p + (c - pst c)) (by omega)) rfl rfl rfl ⟨rfl, rfl⟩ ⟨by decide, by decide⟩ (fun M_144 p_144 => ?_)
            obtain ⟨a_144, b_144⟩ := p_144
            refine k_aload_n hx dL_change_147 3 rfl ?_
            refine k_iload_n hx dL_change_148 1 rfl ?_
            refine k_iconst hx dL_change_149 ?_
            refine k_iadd hx dL_change_150 ?_
            refine k_sv (rest := []) hx sL_17 dL_change_151 (c_L_add hB a_144 (by (try simp only [List.length_append, List.length_singleton]); omega) (c := p + 1) (by omega)) rfl rfl rfl ⟨rfl, rfl⟩ ⟨by decide, by decide⟩ (fun M_151 p_151 => ?_)
            obtain ⟨a_151, b_151⟩ := p_151
            refine k_goto hx dL_change_154 ?_
            refine k_aload_n hx dL_change_163 3 rfl ?_
            refine k_sv (rest := []) hx sL_41 dL_change_164 (c_L_pull hB a_151 (by (try simp only [List.length_append, List.length_singleton]); omega)) rfl rfl rfl ⟨rfl, rfl⟩ ⟨by decide, by decide⟩ (fun M_164 p_164 => ?_)
            obtain ⟨a_164, b_164⟩ := p_164
            have hw2 : Wa M_164 j (swF p 1 (v.take (k + 1))) := by
              rw [swF_take (by omega), hck, swp_e hp (by omega)]
              have e := a_164
              try simp only [List.append_assoc, List.cons_append, List.nil_append] at e
              exact e
            refine k_iinc (ls' := [(0, vR g i), (1, vI p), (2, vI 1), (3, vR g j), (4, vI (y + 1)), (5, vI c), (6, vI (pst c)), (7, vI (c - (pst c)))]) hx dL_change_167 4 rfl rfl rfl (by decide) ?_
            refine k_goto hx dL_change_170 ?_
            refine K.sub [0, 1, 2, 3, 4] rfl ?_
            exact ih (k + 1) (y + 1) M_164 (by omega) (by omega) (by omega) hw2 (((((ho).tr b_136).tr b_144).tr b_151).tr b_164)
        · refine k_aload_n hx dL_change_105 3 rfl ?_
          refine k_iload_n hx dL_change_106 1 rfl ?_
          refine k_iconst hx dL_change_107 ?_
          refine k_iadd hx dL_change_108 ?_
          refine k_iload hx dL_change_109 7 rfl ?_
          refine k_iadd hx dL_change_111 ?_
          refine k_sv (rest := []) hx sL_17 dL_change_112 (c_L_add hB hwa (by (try simp only [List.length_append, List.length_singleton]); omega) (c := p + 1 + (c - pst c)) (by omega)) rfl rfl rfl ⟨rfl, rfl⟩ ⟨by decide, by decide⟩ (fun M_112 p_112 => ?_)
          obtain ⟨a_112, b_112⟩ := p_112
          refine k_goto hx dL_change_115 ?_
          refine k_aload_n hx dL_change_163 3 rfl ?_
          refine k_sv (rest := []) hx sL_41 dL_change_164 (c_L_pull hB a_112 (by (try simp only [List.length_append, List.length_singleton]); omega)) rfl rfl rfl ⟨rfl, rfl⟩ ⟨by decide, by decide⟩ (fun M_164 p_164 => ?_)
          obtain ⟨a_164, b_164⟩ := p_164
          have hw2 : Wa M_164 j (swF p 1 (v.take (k + 1))) := by
            rw [swF_take (by omega), hck, swp_d (by omega)]
            have e := a_164
            try simp only [List.append_assoc, List.cons_append, List.nil_append] at e
            exact e
          refine k_iinc (ls' := [(0, vR g i), (1, vI p), (2, vI 1), (3, vR g j), (4, vI (y + 1)), (5, vI c), (6, vI (pst c)), (7, vI (c - (pst c)))]) hx dL_change_167 4 rfl rfl rfl (by decide) ?_
          refine k_goto hx dL_change_170 ?_
          refine K.sub [0, 1, 2, 3, 4] rfl ?_
          exact ih (k + 1) (y + 1) M_164 (by omega) (by omega) (by omega) hw2 (((ho).tr b_112).tr b_164)
  refine k_aload_n hx dL_change_0 3 rfl ?_
  refine k_iconst hx dL_change_1 ?_
  refine k_iconst hx dL_change_2 ?_
  refine k_iastN hx dL_change_3 hB.2 (LAY_hi hB.1) (by omega) (by decide) (fun M_3 hM_3 => ?_)
  refine k_iconst hx dL_change_4 ?_
  refine k_istore (ls' := [(0, vR g i), (1, vI p), (2, vI 1), (3, vR g j), (4, vI 1)]) hx dL_change_5 rfl rfl (by decide) ?_
  exact loop (v.length + 1) 0 1 M_3 (by omega) (by omega) (by omega) (by rw [hM_3, List.take_zero]; exact Wa.nil) (fun q hq => by rw [hM_3, up_i hq])
theorem c_L_change {g : GE} {l : Launch} {M : Mem} {i : Nat} (hA : IsA g i) {v : List Int} (hv : Wa M i v) (hl : v.length ≤ 20) {j : Nat} (hB : IsA g j) (hij : i ≠ j) {p b : Int} (hp : 0 ≤ p ∧ p < 5) (hb : 0 ≤ b ∧ b < 2) : Cv g l μL_change [vR g i, vI p, vI b, vR g j] M (fun M' => Wa M' j (swF p b v) ∧ OA j M M') := by
  rcases (show b = 0 ∨ b = 1 by omega) with rfl | rfl
  · exact c_L_change0 hA hv hl hB hij hp
  · exact c_L_change1 hA hv hl hB hij hp

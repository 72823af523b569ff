/-! the reference: questions about forms -/
def OK2 (M M' : Mem) : Prop := (∀ a, a ≠ 120 → a ≠ 128 → M' a = M a) ∧ ∀ k, k ≠ 12 → M' 120 k = M 120 k

theorem c_X6_keepForm {g : GE} {l : Launch} {M : Mem} {w : List Int} (hw : Fo M 10 127 w) (hl : w.length ≤ 120) : Cv g l μX6_keepForm [vR g 120] M (fun M' => Fo M' 12 128 w ∧ OK2 M M') := by
  refine Cv.of (by decide +kernel) rfl rfl (fun x hx hr => ?_)
  have loop : ∀ (f : Nat), ∀ (k : Nat) (z : Int) (M' : Mem), z = k → k ≤ w.length → w.length - k < f → (∀ q : Int, 0 ≤ q → q < k → M' 128 q = at0 w q) → (∀ a, a ≠ 128 → M' a = M a) → K x g 0 0 LAY NN M' 2 [(0, vR g 120), (1, vI z)] [] := by
    intro f
    induction f with
    | zero => intro k z M' hz hk hf hin ho; omega
    | succ f ih =>
      intro k z M' hz hk hf hin ho
      refine k_iload_n hx dX6_keepForm_2 1 rfl ?_
      refine k_aload_n hx dX6_keepForm_3 0 rfl ?_
      refine k_get (v := vI w.length) hx fX6_93 dX6_keepForm_4 n_120 L_120 (congrArg vI (show M' 120 10 = w.length from by rw [ho 120 (by decide)]; exact hw.1)) ?_
      refine k_icmp_ge hx dX6_keepForm_7 (by omega) (fun h_7 => ?_) (fun h_7 => ?_)
      · refine k_aload_n hx dX6_keepForm_28 0 rfl ?_
        refine k_aload_n hx dX6_keepForm_29 0 rfl ?_
        refine k_get (v := vI w.length) hx fX6_93 dX6_keepForm_30 n_120 L_120 (congrArg vI (show M' 120 10 = w.length from by rw [ho 120 (by decide)]; exact hw.1)) ?_
        refine k_putI (kz := 12) hx fX6_96 dX6_keepForm_33 n_120 L_120 rfl rfl (fun M_33 hM_33 => ?_)
        refine k_rv hx hr dX6_keepForm_36 ?_
        refine ⟨⟨by rw [hM_33, up_s], fun q q0 q1 => ?_, hw.2.2⟩, ⟨fun a h1 h2 => by rw [hM_33, up_i h1]; exact ho a h2, fun j hj => by rw [hM_33, up_k hj, ho 120 (by decide)]⟩⟩
        rw [hM_33, up_i (by decide), show (0 : Int) + q = q by omega]; exact hin q q0 (by omega)
      · refine k_aload_n hx dX6_keepForm_10 0 rfl ?_
        refine k_get (v := vR g 128) hx fX6_32 dX6_keepForm_11 n_120 L_120 rfl ?_
        refine k_iload_n hx dX6_keepForm_14 1 rfl ?_
        refine k_aload_n hx dX6_keepForm_15 0 rfl ?_
        refine k_get (v := vR g 127) hx fX6_29 dX6_keepForm_16 n_120 L_120 rfl ?_
        refine k_iload_n hx dX6_keepForm_19 1 rfl ?_
        refine k_iald (v := (at0 w z)) hx dX6_keepForm_20 n_127 L_127 (by omega) (by decide) (by rw [ho 127 (by decide)]; exact hw.at (by omega) (by omega)) ?_
        refine k_iastN hx dX6_keepForm_21 n_128 L_128 (by omega) (by decide) (fun M_21 hM_21 => ?_)
        refine k_iinc (ls' := [(0, vR g 120), (1, vI (z + 1))]) hx dX6_keepForm_22 1 rfl rfl rfl (by decide) ?_
        refine k_goto hx dX6_keepForm_25 ?_
        refine ih (k + 1) (z + 1) M_21 (by omega) (by omega) (by omega) (fun q q0 q1 => ?_) (fun a ha => by rw [hM_21, up_i ha]; exact ho a ha)
        rw [hM_21]
        by_cases hqz : q = z
        · rw [hqz, up_s]
        · rw [up_k hqz]; exact hin q q0 (by omega)
  refine k_iconst hx dX6_keepForm_0 ?_
  refine k_istore_n (ls' := [(0, vR g 120), (1, vI 0)]) hx dX6_keepForm_1 rfl rfl (by decide) ?_
  exact loop (w.length + 1) 0 0 M rfl (by omega) (by omega) (fun q h0 h1 => by omega) (fun a _ => rfl)
theorem c_X6_areFormsAlike {g : GE} {l : Launch} {M : Mem} {u v : List Int} (hu : Fo M 10 127 u) (hv : Fo M 12 128 v) (hul : u.length ≤ 120) (hvl : v.length ≤ 120) : Cp g l μX6_areFormsAlike [vR g 120] M (b2i (decide (u = v))) := by
  refine Ci.of (by decide +kernel) rfl rfl (fun x hx hr => ?_)
  have loop : ∀ (f : Nat), ∀ (k : Nat) (z : Int) (al : Bool), z = k → k ≤ u.length → u.length - k < f → al = decide (u.length = v.length ∧ ∀ q : Nat, q < k → at0 u q = at0 v q) → K x g 0 0 LAY NN M 19 [(0, vR g 120), (1, vI (b2i al)), (2, vI z)] [] := by
    intro f
    induction f with
    | zero => intro k z al hz hk hf hal; omega
    | succ f ih =>
      intro k z al hz hk hf hal
      refine k_iload_n hx dX6_areFormsAlike_19 2 rfl ?_
      refine k_aload_n hx dX6_areFormsAlike_20 0 rfl ?_
      refine k_get (v := vI u.length) hx fX6_93 dX6_areFormsAlike_21 n_120 L_120 (congrArg vI (show M 120 10 = u.length from hu.1)) ?_
      refine k_icmp_ge hx dX6_areFormsAlike_24 (by omega) (fun h_24 => ?_) (fun h_24 => ?_)
      · have hfin : b2i al = b2i (decide (u = v)) := by
          rw [hal]; congr 1
          refine decide_eq_decide.mpr ⟨fun h => ext_at0 h.1 (fun q hq => h.2 q (by omega)), fun h => by subst h; exact ⟨rfl, fun _ _ => rfl⟩⟩
        refine k_iload_n hx dX6_areFormsAlike_58 1 rfl ?_
        refine k_rz hx hr dX6_areFormsAlike_59 (by first | exact Or.inl rfl | exact Or.inr rfl | exact b2i_or _) ?_
        exact ⟨hfin, rfl⟩
      · refine k_iload_n hx dX6_areFormsAlike_27 1 rfl ?_
        refine k_ceq hx dX6_areFormsAlike_28 (fun h_28 => ?_) (fun h_28 => ?_)
        · have hfin : b2i al = b2i (decide (u = v)) := by
            rw [h_28]; rw [h_28] at hal
            congr 1
            refine (decide_eq_false (fun h => ?_)).symm
            subst h
            exact of_decide_eq_false hal.symm ⟨rfl, fun _ _ => rfl⟩
          refine k_iload_n hx dX6_areFormsAlike_58 1 rfl ?_
          refine k_rz hx hr dX6_areFormsAlike_59 (by first | exact Or.inl rfl | exact Or.inr rfl | exact b2i_or _) ?_
          exact ⟨hfin, rfl⟩
        · rw [h_28] at hal
          have ha2 := of_decide_eq_true hal.symm
          have c1 := op_cr hu.2.2 (k := k) (by omega)
          have c2 := op_cr hv.2.2 (k := k) (by omega)
          refine k_aload_n hx dX6_areFormsAlike_31 0 rfl ?_
          refine k_get (v := vR g 127) hx fX6_29 dX6_areFormsAlike_32 n_120 L_120 rfl ?_
          refine k_iload_n hx dX6_areFormsAlike_35 2 rfl ?_
          refine k_iald (v := (at0 u k)) hx dX6_areFormsAlike_36 n_127 L_127 (by omega) (by decide) (by rw [hz]; exact hu.at (by omega) (by omega)) ?_
          refine k_aload_n hx dX6_areFormsAlike_37 0 rfl ?_
          refine k_get (v := vR g 128) hx fX6_32 dX6_areFormsAlike_38 n_120 L_120 rfl ?_
          refine k_iload_n hx dX6_areFormsAlike_41 2 rfl ?_
          refine k_iald (v := (at0 v k)) hx dX6_areFormsAlike_42 n_128 L_128 (by omega) (by decide) (by rw [hz]; exact hv.at (by omega) (by omega)) ?_
          refine k_icmp_ne hx dX6_areFormsAlike_43 (by omega) (fun h_43 => ?_) (fun h_43 => ?_)
          · refine k_iconst hx dX6_areFormsAlike_50 ?_
            refine k_istore_n (ls' := [(0, vR g 120), (1, vI 0), (2, vI z)]) hx dX6_areFormsAlike_51 rfl rfl (by decide) ?_
            refine k_iinc (ls' := [(0, vR g 120), (1, vI 0), (2, vI (z + 1))]) hx dX6_areFormsAlike_52 2 rfl rfl rfl (by decide) ?_
            refine k_goto hx dX6_areFormsAlike_55 ?_
            refine ih (k + 1) (z + 1) false (by omega) (by omega) (by omega) ?_
            exact (decide_eq_false (fun h => h_43 (h.2 k (by omega)))).symm
          · refine k_iconst hx dX6_areFormsAlike_46 ?_
            refine k_goto hx dX6_areFormsAlike_47 ?_
            refine k_istore_n (ls' := [(0, vR g 120), (1, vI 1), (2, vI z)]) hx dX6_areFormsAlike_51 rfl rfl (by decide) ?_
            refine k_iinc (ls' := [(0, vR g 120), (1, vI 1), (2, vI (z + 1))]) hx dX6_areFormsAlike_52 2 rfl rfl rfl (by decide) ?_
            refine k_goto hx dX6_areFormsAlike_55 ?_
            refine ih (k + 1) (z + 1) true (by omega) (by omega) (by omega) ?_
            refine (decide_eq_true ⟨ha2.1, fun q hq => ?_⟩).symm
            by_cases hqk : q = k
            · subst hqk; exact h_43
            · exact ha2.2 q (by omega)
  refine k_aload_n hx dX6_areFormsAlike_0 0 rfl ?_
  refine k_get (v := vI u.length) hx fX6_93 dX6_areFormsAlike_1 n_120 L_120 (congrArg vI (show M 120 10 = u.length from hu.1)) ?_
  refine k_aload_n hx dX6_areFormsAlike_4 0 rfl ?_
  refine k_get (v := vI v.length) hx fX6_96 dX6_areFormsAlike_5 n_120 L_120 (congrArg vI (show M 120 12 = v.length from hv.1)) ?_
  refine k_icmp_ne hx dX6_areFormsAlike_8 (by omega) (fun h_8 => ?_) (fun h_8 => ?_)
  · refine k_iconst hx dX6_areFormsAlike_15 ?_
    refine k_istore_n (ls' := [(0, vR g 120), (1, vI 0)]) hx dX6_areFormsAlike_16 rfl rfl (by decide) ?_
    refine k_iconst hx dX6_areFormsAlike_17 ?_
    refine k_istore_n (ls' := [(0, vR g 120), (1, vI 0), (2, vI 0)]) hx dX6_areFormsAlike_18 rfl rfl (by decide) ?_
    exact loop (u.length + 1) 0 0 false rfl (by omega) (by omega) (decide_eq_false (fun h => h_8 (by omega))).symm
  · refine k_iconst hx dX6_areFormsAlike_11 ?_
    refine k_goto hx dX6_areFormsAlike_12 ?_
    refine k_istore_n (ls' := [(0, vR g 120), (1, vI 1)]) hx dX6_areFormsAlike_16 rfl rfl (by decide) ?_
    refine k_iconst hx dX6_areFormsAlike_17 ?_
    refine k_istore_n (ls' := [(0, vR g 120), (1, vI 1), (2, vI 0)]) hx dX6_areFormsAlike_18 rfl rfl (by decide) ?_
    exact loop (u.length + 1) 0 0 true rfl (by omega) (by omega) (decide_eq_true ⟨by omega, fun q h => absurd h (by omega)⟩).symm
theorem c_X6_posts {g : GE} {l : Launch} {M : Mem} {w : List Int} (hw : Fo M 10 127 w) (hl : w.length ≤ 120) : Cp g l μX6_posts [vR g 120] M (pset w) := by
  refine Ci.of (by decide +kernel) rfl rfl (fun x hx hr => ?_)
  have loop : ∀ (f : Nat), ∀ (k : Nat) (y z : Int), z = k → k ≤ w.length → w.length - k < f → y = pset (w.take k) → K x g 0 0 LAY NN M 4 [(0, vR g 120), (1, vI y), (2, vI z)] [] := by
    intro f
    induction f with
    | zero => intro k y z hz hk hf hy; omega
    | succ f ih =>
      intro k y z hz hk hf hy
      refine k_iload_n hx dX6_posts_4 2 rfl ?_
      refine k_aload_n hx dX6_posts_5 0 rfl ?_
      refine k_get (v := vI w.length) hx fX6_93 dX6_posts_6 n_120 L_120 (congrArg vI (show M 120 10 = w.length from hw.1)) ?_
      refine k_icmp_ge hx dX6_posts_9 (by omega) (fun h_9 => ?_) (fun h_9 => ?_)
      · refine k_iload_n hx dX6_posts_32 1 rfl ?_
        refine k_ri hx hr dX6_posts_33 ?_
        exact ⟨by rw [hy, List.take_of_length_le (by omega)], rfl⟩
      · have e1 : M 127 z = at0 w k := by rw [hz]; exact hw.at (by omega) (by omega)
        have c1 := op_cr hw.2.2 (k := k) (by omega)
        have hps := pset_snoc (w := w.take k) c1
        rw [take_at0 (by omega), ← hy] at hps
        have hpm : at0 w k % 6 = pst (at0 w k) := by unfold pst; omega
        refine k_iload_n hx dX6_posts_12 1 rfl ?_
        refine k_iconst hx dX6_posts_13 ?_
        refine k_aload_n hx dX6_posts_14 0 rfl ?_
        refine k_get (v := vR g 127) hx fX6_29 dX6_posts_15 n_120 L_120 rfl ?_
        refine k_iload_n hx dX6_posts_18 2 rfl ?_
        refine k_iald (v := (at0 w k)) hx dX6_posts_19 n_127 L_127 (by omega) (by decide) (e1) ?_
        refine k_bipush hx dX6_posts_20 (by decide +kernel) ?_
        refine k_irem hx dX6_posts_22 (by omega) ?_
        refine k_ishl (v := zI ((zI 1 <<< (zI (pst (at0 w k)) &&& 31)).toInt)) hx dX6_posts_23 (by rw [hpm]; exact (zI_of _).symm) ?_
        refine k_ior (v := zI (pset (w.take (k + 1)))) hx dX6_posts_24 (by rw [zI_of]; exact hps) ?_
        refine k_istore_n (ls' := [(0, vR g 120), (1, vI (pset (w.take (k + 1)))), (2, vI z)]) hx dX6_posts_25 rfl rfl (by decide) ?_
        refine k_iinc (ls' := [(0, vR g 120), (1, vI (pset (w.take (k + 1)))), (2, vI (z + 1))]) hx dX6_posts_26 2 rfl rfl rfl (by decide) ?_
        refine k_goto hx dX6_posts_29 ?_
        exact ih (k + 1) _ (z + 1) (by omega) (by omega) (by omega) rfl
  refine k_iconst hx dX6_posts_0 ?_
  refine k_istore_n (ls' := [(0, vR g 120), (1, vI 0)]) hx dX6_posts_1 rfl rfl (by decide) ?_
  refine k_iconst hx dX6_posts_2 ?_
  refine k_istore_n (ls' := [(0, vR g 120), (1, vI 0), (2, vI 0)]) hx dX6_posts_3 rfl rfl (by decide) ?_
  exact loop (w.length + 1) 0 0 0 rfl (by omega) (by omega) (by rw [List.take_zero]; rfl)

/-! the reference: the power of a form -/
theorem c_X6_power {g : GE} {l : Launch} {M : Mem} {w : List Int} (hw : Fo M 10 127 w) (hl : w.length ≤ 120) : Cp g l μX6_power [vR g 120] M (power w) := by
  refine Ci.of (by decide +kernel) rfl rfl (fun x hx hr => ?_)
  have loop : ∀ (f : Nat), ∀ (p e : Nat) (z : Int), z = p → 1 ≤ p → w.length < e + p → pwF w e p = power w → p ≤ w.length + 1 → w.length + 2 - p ≤ f → K x g 0 0 LAY NN M 2 [(0, vR g 120), (1, vI z)] [] := by
    intro f
    induction f with
    | zero => intro p e z hz hp he hpw hpl hf; exact absurd hf (by omega)
    | succ f ih =>
      intro p e z hz hp he hpw hpl hf
      refine k_iload_n hx dX6_power_2 1 rfl ?_
      refine k_aload_n hx dX6_power_3 0 rfl ?_
      refine k_get (v := vI w.length) hx fX6_93 dX6_power_4 n_120 L_120 (congrArg vI (show M 120 10 = w.length from hw.1)) ?_
      refine k_icmp_gt hx dX6_power_7 (by omega) (fun h_7 => ?_) (fun h_7 => ?_)
      · refine k_iconst hx dX6_power_85 ?_
        refine k_ri hx hr dX6_power_86 ?_
        refine ⟨?_, rfl⟩
        rw [← hpw]
        cases e with
        | zero => rfl
        | succ e => rw [pwF, if_pos (by omega)]; rfl
      · subst hz
        obtain ⟨e, rfl⟩ : ∃ e2, e = e2 + 1 := ⟨e - 1, by omega⟩
        rw [pwF, if_neg (by omega)] at hpw
        have hem := emod_nat (a := w.length) (b := p)
        have hed := ediv_nat (a := w.length) (b := p)
        have inner : ∀ (f2 k : Nat) (u : Int) (is : Bool), u = k → p ≤ k → k ≤ w.length → w.length - k < f2 → is = decide (w.length % p = 0 ∧ ∀ q, q < k → p ≤ q → at0 w q = at0 w (q - p : Nat)) → K x g 0 0 LAY NN M 27 [(0, vR g 120), (1, vI (p : Nat)), (2, vI (b2i is)), (3, vI u)] [] := by
          intro f2
          induction f2 with
          | zero => intro k u is hu hpk hk hf2 his; omega
          | succ f2 ih2 =>
            intro k u is hu hpk hk hf2 his
            refine k_iload_n hx dX6_power_27 3 rfl ?_
            refine k_aload_n hx dX6_power_28 0 rfl ?_
            refine k_get (v := vI w.length) hx fX6_93 dX6_power_29 n_120 L_120 (congrArg vI (show M 120 10 = w.length from hw.1)) ?_
            refine k_icmp_ge hx dX6_power_32 (by omega) (fun h_32 => ?_) (fun h_32 => ?_)
            · have hfin : is = decide (w.length % p = 0 ∧ Per w p) := by
                rw [his]
                exact decide_eq_decide.mpr ⟨fun h => ⟨h.1, fun q h1 h2 => h.2 q (by omega) h2⟩, fun h => ⟨h.1, fun q h1 h2 => h.2 q (by omega) h2⟩⟩
              refine k_iload_n hx dX6_power_68 2 rfl ?_
              refine k_ceq hx dX6_power_69 (fun h_69 => ?_) (fun h_69 => ?_)
              · rw [h_69] at hfin
                have hno := of_decide_eq_false hfin.symm
                refine k_iinc (ls' := [(0, vR g 120), (1, vI ((p : Nat) + 1)), (2, vI (b2i is)), (3, vI u)]) hx dX6_power_79 1 rfl rfl rfl (by decide) ?_
                refine k_goto hx dX6_power_82 ?_
                refine K.sub [0, 1] rfl ?_
                exact ih (p + 1) e ((p : Int) + 1) (by omega) (by omega) (by omega) (by rw [← hpw, if_neg hno]) (by omega) (by omega)
              · rw [h_69] at hfin
                have hyes := of_decide_eq_true hfin.symm
                refine k_aload_n hx dX6_power_72 0 rfl ?_
                refine k_get (v := vI w.length) hx fX6_93 dX6_power_73 n_120 L_120 (congrArg vI (show M 120 10 = w.length from hw.1)) ?_
                refine k_iload_n hx dX6_power_76 1 rfl ?_
                refine k_idiv hx dX6_power_77 (by omega) ?_
                refine k_ri hx hr dX6_power_78 ?_
                exact ⟨by rw [hed, ← hpw, if_pos hyes], rfl⟩
            · refine k_iload_n hx dX6_power_35 2 rfl ?_
              refine k_ceq hx dX6_power_36 (fun h_36 => ?_) (fun h_36 => ?_)
              · have hfin : is = decide (w.length % p = 0 ∧ Per w p) := by
                  rw [h_36]; rw [h_36] at his
                  exact (decide_eq_false (fun h => of_decide_eq_false his.symm ⟨h.1, fun q h1 h2 => h.2 q (by omega) h2⟩)).symm
                refine k_iload_n hx dX6_power_68 2 rfl ?_
                refine k_ceq hx dX6_power_69 (fun h_69 => ?_) (fun h_69 => ?_)
                · rw [h_69] at hfin
                  have hno := of_decide_eq_false hfin.symm
                  refine k_iinc (ls' := [(0, vR g 120), (1, vI ((p : Nat) + 1)), (2, vI (b2i is)), (3, vI u)]) hx dX6_power_79 1 rfl rfl rfl (by decide) ?_
                  refine k_goto hx dX6_power_82 ?_
                  refine K.sub [0, 1] rfl ?_
                  exact ih (p + 1) e ((p : Int) + 1) (by omega) (by omega) (by omega) (by rw [← hpw, if_neg hno]) (by omega) (by omega)
                · rw [h_69] at hfin
                  have hyes := of_decide_eq_true hfin.symm
                  refine k_aload_n hx dX6_power_72 0 rfl ?_
                  refine k_get (v := vI w.length) hx fX6_93 dX6_power_73 n_120 L_120 (congrArg vI (show M 120 10 = w.length from hw.1)) ?_
                  refine k_iload_n hx dX6_power_76 1 rfl ?_
                  refine k_idiv hx dX6_power_77 (by omega) ?_
                  refine k_ri hx hr dX6_power_78 ?_
                  exact ⟨by rw [hed, ← hpw, if_pos hyes], rfl⟩
              · rw [h_36] at his
                have ha2 := of_decide_eq_true his.symm
                have c1 := op_cr hw.2.2 (k := k) (by omega)
                have c2 := op_cr hw.2.2 (k := k - p) (by omega)
                refine k_aload_n hx dX6_power_39 0 rfl ?_
                refine k_get (v := vR g 127) hx fX6_29 dX6_power_40 n_120 L_120 rfl ?_
                refine k_iload_n hx dX6_power_43 3 rfl ?_
                refine k_iald (v := (at0 w k)) hx dX6_power_44 n_127 L_127 (by omega) (by decide) (by rw [hu]; exact hw.at (by omega) (by omega)) ?_
                refine k_aload_n hx dX6_power_45 0 rfl ?_
                refine k_get (v := vR g 127) hx fX6_29 dX6_power_46 n_120 L_120 rfl ?_
                refine k_iload_n hx dX6_power_49 3 rfl ?_
                refine k_iload_n hx dX6_power_50 1 rfl ?_
                refine k_isub hx dX6_power_51 ?_
                refine k_iald (v := (at0 w (k - p : Nat))) hx dX6_power_52 n_127 L_127 (by omega) (by decide) (by rw [show u - (p : Int) = ((k - p : Nat) : Int) by omega]; exact hw.at (by omega) (by omega)) ?_
                refine k_icmp_ne hx dX6_power_53 (by omega) (fun h_53 => ?_) (fun h_53 => ?_)
                · refine k_iconst hx dX6_power_60 ?_
                  refine k_istore_n (ls' := [(0, vR g 120), (1, vI (p : Nat)), (2, vI 0), (3, vI u)]) hx dX6_power_61 rfl rfl (by decide) ?_
                  refine k_iinc (ls' := [(0, vR g 120), (1, vI (p : Nat)), (2, vI 0), (3, vI (u + 1))]) hx dX6_power_62 3 rfl rfl rfl (by decide) ?_
                  refine k_goto hx dX6_power_65 ?_
                  refine ih2 (k + 1) (u + 1) false (by omega) (by omega) (by omega) (by omega) ?_
                  exact (decide_eq_false (fun h => h_53 (h.2 k (by omega) hpk))).symm
                · refine k_iconst hx dX6_power_56 ?_
                  refine k_goto hx dX6_power_57 ?_
                  refine k_istore_n (ls' := [(0, vR g 120), (1, vI (p : Nat)), (2, vI 1), (3, vI u)]) hx dX6_power_61 rfl rfl (by decide) ?_
                  refine k_iinc (ls' := [(0, vR g 120), (1, vI (p : Nat)), (2, vI 1), (3, vI (u + 1))]) hx dX6_power_62 3 rfl rfl rfl (by decide) ?_
                  refine k_goto hx dX6_power_65 ?_
                  refine ih2 (k + 1) (u + 1) true (by omega) (by omega) (by omega) (by omega) ?_
                  refine (decide_eq_true ⟨ha2.1, fun q h1 h2 => ?_⟩).symm
                  by_cases hqk : q = k
                  · subst hqk; exact h_53
                  · exact ha2.2 q (by omega) h2
        refine k_aload_n hx dX6_power_10 0 rfl ?_
        refine k_get (v := vI w.length) hx fX6_93 dX6_power_11 n_120 L_120 (congrArg vI (show M 120 10 = w.length from hw.1)) ?_
        refine k_iload_n hx dX6_power_14 1 rfl ?_
        refine k_irem hx dX6_power_15 (by omega) ?_
        refine k_ifne hx dX6_power_16 (by rw [hem]; have := Nat.mod_lt w.length (show p > 0 by omega); omega) (fun h_16 => ?_) (fun h_16 => ?_)
        · refine k_iconst hx dX6_power_23 ?_
          refine k_istore_n (ls' := [(0, vR g 120), (1, vI (p : Nat)), (2, vI 0)]) hx dX6_power_24 rfl rfl (by decide) ?_
          refine k_iload_n hx dX6_power_25 1 rfl ?_
          refine k_istore_n (ls' := [(0, vR g 120), (1, vI (p : Nat)), (2, vI 0), (3, vI (p : Nat))]) hx dX6_power_26 rfl rfl (by decide) ?_
          exact inner (w.length + 1) p p false rfl (by omega) (by omega) (by omega) (decide_eq_false (fun h => h_16 (by rw [hem]; omega))).symm
        · refine k_iconst hx dX6_power_19 ?_
          refine k_goto hx dX6_power_20 ?_
          refine k_istore_n (ls' := [(0, vR g 120), (1, vI (p : Nat)), (2, vI 1)]) hx dX6_power_24 rfl rfl (by decide) ?_
          refine k_iload_n hx dX6_power_25 1 rfl ?_
          refine k_istore_n (ls' := [(0, vR g 120), (1, vI (p : Nat)), (2, vI 1), (3, vI (p : Nat))]) hx dX6_power_26 rfl rfl (by decide) ?_
          exact inner (w.length + 1) p p true rfl (by omega) (by omega) (by omega) (decide_eq_true ⟨by rw [hem] at h_16; omega, fun q h1 h2 => absurd h1 (by omega)⟩).symm
  refine k_iconst hx dX6_power_0 ?_
  refine k_istore_n (ls' := [(0, vR g 120), (1, vI 1)]) hx dX6_power_1 rfl rfl (by decide) ?_
  exact loop (w.length + 1) 1 (w.length + 1) 1 rfl (by omega) (by omega) rfl (by omega) (by omega)

/-! the reference: the past -/
theorem Fl.mv {M M' : Mem} {a a' : Nat} {o o' : Int} {A : Ab} (h : Fl M a o A) (e : ∀ q : Int, 0 ≤ q → q < 490 → M' a' (o' + q) = M a (o + q)) : Fl M' a' o' A := by
  refine ⟨h.1, fun p p0 p6 => by rw [e p p0 (by omega)]; exact h.2.1 p p0 p6, fun r r0 r4 => ?_, fun r r0 r4 k k0 k1 => ?_⟩
  · rw [show o' + 6 + r = o' + (6 + r) by omega, e _ (by omega) (by omega), show o + (6 + r) = o + 6 + r by omega]; exact h.2.2.1 r r0 r4
  · have := (h.1.rope ⟨r0, r4⟩).2
    rw [show o' + 10 + 120 * r + k = o' + (10 + 120 * r + k) by omega, e _ (by omega) (by omega), show o + (10 + 120 * r + k) = o + 10 + 120 * r + k by omega]
    exact h.2.2.2 r r0 r4 k k0 k1
def Hd (M : Mem) (ps : List Ab) : Prop := M 120 2 = ps.length ∧ ps.length ≤ 6 ∧ ∀ (j : Nat) (A : Ab), ps[j]? = some A → Fl M 122 (490 * ((ps.length : Int) - 1 - j)) A
def Pm (M : Mem) (t : List Int) : Prop := M 120 6 = t.length ∧ t.length ≤ 60 ∧ (∀ k : Nat, k < t.length → M 125 k = t.getD k 0) ∧ ∀ c ∈ t, 33 ≤ c ∧ c ≤ 126
def InvM (M : Mem) (σ : Sg) : Prop := Fl M 121 0 σ.1 ∧ Hd M σ.2.1 ∧ (∀ k : Nat, k < 2 → M 124 k = if (slo σ k).isSome = true then 1 else 0) ∧ (∀ (k : Nat) (A : Ab), k < 2 → slo σ k = some A → Fl M 123 (490 * k) A) ∧ Pm M σ.2.2.2
/-- what questions may touch -/
def OQ (M M' : Mem) : Prop := (∀ a, a ≠ 120 → a < 126 → M' a = M a) ∧ ∀ k, k ≠ 8 → k ≠ 10 → k ≠ 12 → k ≠ 14 → k ≠ 15 → M' 120 k = M 120 k
theorem OQ.tr {M M' M'' : Mem} (h : OQ M M') (k : OQ M' M'') : OQ M M'' := ⟨fun a h1 h2 => (k.1 a h1 h2).trans (h.1 a h1 h2), fun j h1 h2 h3 h4 h5 => (k.2 j h1 h2 h3 h4 h5).trans (h.2 j h1 h2 h3 h4 h5)⟩
theorem OF.q {M M' : Mem} (h : OF M M') : OQ M M' := ⟨fun a h1 h2 => h.1 a h1 (by omega) (by omega), fun k h1 h2 _ _ _ => h.2 k h1 h2⟩
theorem OK2.q {M M' : Mem} (h : OK2 M M') : OQ M M' := ⟨fun a h1 h2 => h.1 a h1 (by omega), fun k _ _ h3 _ _ => h.2 k h3⟩
theorem InvM.q {M M' : Mem} {σ : Sg} (h : InvM M σ) (ho : OQ M M') : InvM M' σ := by
  obtain ⟨h1, ⟨h2, h3, h4⟩, h5, h6, h7⟩ := h
  refine ⟨h1.eq (ho.1 121 (by decide) (by decide)), ⟨by rw [ho.2 2 (by decide) (by decide) (by decide) (by decide) (by decide)]; exact h2, h3, fun j A hj => (h4 j A hj).eq (ho.1 122 (by decide) (by decide))⟩, fun k hk => by rw [ho.1 124 (by decide) (by decide)]; exact h5 k hk, fun k A hk hs => (h6 k A hk hs).eq (ho.1 123 (by decide) (by decide)), ?_⟩
  unfold Pm; rw [ho.1 125 (by decide) (by decide), ho.2 6 (by decide) (by decide) (by decide) (by decide) (by decide)]; exact h7
/-- the answer, and the state behind it; the class's cells stay -/
def PM (M : Mem) (q : Int × Sg) : Int → Mem → Prop := fun z M' => z = q.1 ∧ InvM M' q.2 ∧ ∀ a, a < 120 → M' a = M a

theorem c_X6_record {g : GE} {l : Launch} {M : Mem} {A : Ab} {ps : List Ab} (hA : Fl M 121 0 A) (hH : Hd M ps) : Cv g l μX6_record [vR g 120] M (fun M' => Hd M' ((A :: ps).take 6) ∧ (∀ a, a ≠ 120 → a ≠ 122 → M' a = M a) ∧ ∀ k, k ≠ 2 → M' 120 k = M 120 k) := by
  refine Cv.of (by decide +kernel) rfl rfl (fun x hx hr => ?_)
  obtain ⟨h2, h6, h4⟩ := hH
  have loop2 : ∀ (f : Nat), ∀ (n k : Nat) (z : Int) (M0 M' : Mem), z = k → k ≤ 490 → 490 - k < f → n ≤ 5 → M0 120 2 = n → M0 121 = M 121 → (∀ q : Int, 490 * n ≤ q → q < 490 * n + k → M' 122 q = M 121 (q - 490 * n)) → (∀ q : Int, q < 490 * n → M' 122 q = M0 122 q) → (∀ a, a ≠ 122 → M' a = M0 a) → (∀ M2 : Mem, M2 120 2 = (n : Int) + 1 → (∀ q : Int, 490 * n ≤ q → q < 490 * n + 490 → M2 122 q = M 121 (q - 490 * n)) → (∀ q : Int, q < 490 * n → M2 122 q = M0 122 q) → (∀ a, a ≠ 120 → a ≠ 122 → M2 a = M0 a) → (∀ k, k ≠ 2 → M2 120 k = M0 120 k) → Hd M2 ((A :: ps).take 6) ∧ (∀ a, a ≠ 120 → a ≠ 122 → M2 a = M a) ∧ ∀ k, k ≠ 2 → M2 120 k = M 120 k) → K x g 0 0 LAY NN M' 47 [(0, vR g 120), (1, vI z)] [] := by
    intro f
    induction f with
    | zero => intro n k z M0 M' hz hk hf hn h02 h01 hin hlo ho hend; omega
    | succ f ih =>
      intro n k z M0 M' hz hk hf hn h02 h01 hin hlo ho hend
      refine k_iload_n hx dX6_record_47 1 rfl ?_
      refine k_sipush hx dX6_record_48 (by decide +kernel) ?_
      refine k_icmp_ge hx dX6_record_51 (by omega) (fun h_51 => ?_) (fun h_51 => ?_)
      · refine k_aload_n hx dX6_record_81 0 rfl ?_
        refine k_dup hx dX6_record_82 rfl ?_
        refine k_get (v := vI (n : Nat)) hx fX6_50 dX6_record_83 n_120 L_120 (congrArg vI (show M' 120 2 = (n : Nat) from by rw [ho 120 (by decide)]; exact h02)) ?_
        refine k_iconst hx dX6_record_86 ?_
        refine k_iadd hx dX6_record_87 ?_
        refine k_putI (kz := 2) hx fX6_50 dX6_record_88 n_120 L_120 rfl rfl (fun M_88 hM_88 => ?_)
        refine k_rv hx hr dX6_record_91 ?_
        rw [hM_88]
        exact hend _ up_s (fun q q0 q1 => by rw [up_i (by decide)]; exact hin q q0 (by omega)) (fun q q1 => by rw [up_i (by decide)]; exact hlo q q1) (fun a h1 h2 => by rw [up_i h1]; exact ho a h2) (fun k hk => by rw [up_k hk, ho 120 (by decide)])
      · refine k_aload_n hx dX6_record_54 0 rfl ?_
        refine k_get (v := vR g 122) hx fX6_13 dX6_record_55 n_120 L_120 rfl ?_
        refine k_aload_n hx dX6_record_58 0 rfl ?_
        refine k_get (v := vI (n : Nat)) hx fX6_50 dX6_record_59 n_120 L_120 (congrArg vI (show M' 120 2 = (n : Nat) from by rw [ho 120 (by decide)]; exact h02)) ?_
        refine k_sipush hx dX6_record_62 (by decide +kernel) ?_
        refine k_imul hx dX6_record_65 ?_
        refine k_iload_n hx dX6_record_66 1 rfl ?_
        refine k_iadd hx dX6_record_67 ?_
        refine k_aload_n hx dX6_record_68 0 rfl ?_
        refine k_get (v := vR g 121) hx fX6_7 dX6_record_69 n_120 L_120 rfl ?_
        refine k_iload_n hx dX6_record_72 1 rfl ?_
        refine k_iald (v := (M 121 z)) hx dX6_record_73 n_121 L_121 (by omega) (by decide) (by rw [ho 121 (by decide), h01]) ?_
        refine k_iastN hx dX6_record_74 n_122 L_122 (by omega) (by decide) (fun M_74 hM_74 => ?_)
        refine k_iinc (ls' := [(0, vR g 120), (1, vI (z + 1))]) hx dX6_record_75 1 rfl rfl rfl (by decide) ?_
        refine k_goto hx dX6_record_78 ?_
        refine ih n (k + 1) (z + 1) M0 M_74 (by omega) (by omega) (by omega) hn h02 h01 (fun q q0 q1 => ?_) (fun q q1 => by rw [hM_74, up_k (by omega)]; exact hlo q q1) (fun a ha => by rw [hM_74, up_i ha]; exact ho a ha) hend
        rw [hM_74]
        by_cases hqz : q = (n : Int) * 490 + z
        · rw [hqz, up_s]; congr 1; omega
        · rw [up_k hqz]; exact hin q q0 (by omega)
  have loop1 : ∀ (f : Nat), ∀ (k : Nat) (z : Int) (M' : Mem), z = k → k ≤ 2450 → 2450 - k < f → ps.length = 6 → (∀ q : Int, 0 ≤ q → q < k → M' 122 q = M 122 (q + 490)) → (∀ q : Int, k ≤ q → M' 122 q = M 122 q) → (∀ a, a ≠ 122 → M' a = M a) → K x g 0 0 LAY NN M' 11 [(0, vR g 120), (1, vI z)] [] := by
    intro f
    induction f with
    | zero => intro k z M' hz hk hf hn6 hin hhi ho; omega
    | succ f ih =>
      intro k z M' hz hk hf hn6 hin hhi ho
      refine k_iload_n hx dX6_record_11 1 rfl ?_
      refine k_sipush hx dX6_record_12 (by decide +kernel) ?_
      refine k_icmp_ge hx dX6_record_15 (by omega) (fun h_15 => ?_) (fun h_15 => ?_)
      · refine k_aload_n hx dX6_record_40 0 rfl ?_
        refine k_iconst hx dX6_record_41 ?_
        refine k_putI (kz := 2) hx fX6_50 dX6_record_42 n_120 L_120 rfl rfl (fun M_42 hM_42 => ?_)
        refine k_iconst hx dX6_record_45 ?_
        refine k_istore_n (ls' := [(0, vR g 120), (1, vI 0)]) hx dX6_record_46 rfl rfl (by decide) ?_
        refine K.sub [0, 1] rfl ?_
        refine loop2 491 5 0 0 M_42 M_42 rfl (by omega) (by omega) (by omega) (by rw [hM_42, up_s]; rfl) (by rw [hM_42, up_i (by decide)]; exact ho 121 (by decide)) (fun q h0 h1 => by omega) (fun q _ => rfl) (fun a _ => rfl) (fun M2 e2 e3 e4 e5 e6 => ⟨⟨by rw [e2, List.length_take, List.length_cons]; omega, by rw [List.length_take]; omega, fun j B hj => ?_⟩, fun a h1 h2 => by rw [e5 a h1 h2, hM_42, up_i h1]; exact ho a h2, fun k hk => by rw [e6 k hk, hM_42, up_k hk, ho 120 (by decide)]⟩)
        have hj6 : j < 6 := by
          have := (List.getElem?_eq_some_iff.mp hj).1
          rw [List.length_take] at this; omega
        rw [List.getElem?_take, if_pos hj6] at hj
        rw [List.length_take, List.length_cons, hn6]
        cases j with
        | zero =>
          rw [List.getElem?_cons_zero] at hj
          cases hj
          exact hA.mv (fun q q0 q1 => by rw [e3 _ (by omega) (by omega)]; congr 1; omega)
        | succ j =>
          rw [List.getElem?_cons_succ] at hj
          refine (h4 j B hj).mv (fun q q0 q1 => ?_)
          rw [e4 _ (by omega), hM_42, up_i (by decide), hin _ (by omega) (by omega)]
          congr 1; omega
      · refine k_aload_n hx dX6_record_18 0 rfl ?_
        refine k_get (v := vR g 122) hx fX6_13 dX6_record_19 n_120 L_120 rfl ?_
        refine k_iload_n hx dX6_record_22 1 rfl ?_
        refine k_aload_n hx dX6_record_23 0 rfl ?_
        refine k_get (v := vR g 122) hx fX6_13 dX6_record_24 n_120 L_120 rfl ?_
        refine k_iload_n hx dX6_record_27 1 rfl ?_
        refine k_sipush hx dX6_record_28 (by decide +kernel) ?_
        refine k_iadd hx dX6_record_31 ?_
        refine k_iald (v := (M 122 (z + 490))) hx dX6_record_32 n_122 L_122 (by omega) (by decide) (hhi _ (by omega)) ?_
        refine k_iastN hx dX6_record_33 n_122 L_122 (by omega) (by decide) (fun M_33 hM_33 => ?_)
        refine k_iinc (ls' := [(0, vR g 120), (1, vI (z + 1))]) hx dX6_record_34 1 rfl rfl rfl (by decide) ?_
        refine k_goto hx dX6_record_37 ?_
        refine ih (k + 1) (z + 1) M_33 (by omega) (by omega) (by omega) hn6 (fun q q0 q1 => ?_) (fun q q1 => by rw [hM_33, up_k (by omega)]; exact hhi q (by omega)) (fun a ha => by rw [hM_33, up_i ha]; exact ho a ha)
        rw [hM_33]
        by_cases hqz : q = z
        · rw [hqz, up_s]
        · rw [up_k hqz]; exact hin q q0 (by omega)
  refine k_aload_n hx dX6_record_0 0 rfl ?_
  refine k_get (v := vI ps.length) hx fX6_50 dX6_record_1 n_120 L_120 (congrArg vI (show M 120 2 = ps.length from h2)) ?_
  refine k_bipush hx dX6_record_4 (by decide +kernel) ?_
  refine k_icmp_ne hx dX6_record_6 (by omega) (fun h_6 => ?_) (fun h_6 => ?_)
  · refine k_iconst hx dX6_record_45 ?_
    refine k_istore_n (ls' := [(0, vR g 120), (1, vI 0)]) hx dX6_record_46 rfl rfl (by decide) ?_
    refine loop2 491 ps.length 0 0 M M rfl (by omega) (by omega) (by omega) h2 rfl (fun q h0 h1 => by omega) (fun q _ => rfl) (fun a _ => rfl) (fun M2 e2 e3 e4 e5 e6 => ⟨⟨by rw [e2, List.length_take, List.length_cons]; omega, by rw [List.length_take]; omega, fun j B hj => ?_⟩, e5, e6⟩)
    have hj6 : j < 6 := by
      have := (List.getElem?_eq_some_iff.mp hj).1
      rw [List.length_take] at this; omega
    rw [List.getElem?_take, if_pos hj6] at hj
    rw [List.length_take, List.length_cons]
    cases j with
    | zero =>
      rw [List.getElem?_cons_zero] at hj
      cases hj
      exact hA.mv (fun q q0 q1 => by rw [e3 _ (by omega) (by omega)]; congr 1; omega)
    | succ j =>
      rw [List.getElem?_cons_succ] at hj
      have hjl := (List.getElem?_eq_some_iff.mp hj).1
      refine (h4 j B hj).mv (fun q q0 q1 => ?_)
      rw [e4 _ (by omega)]
      congr 1; omega
  · refine k_iconst hx dX6_record_9 ?_
    refine k_istore_n (ls' := [(0, vR g 120), (1, vI 0)]) hx dX6_record_10 rfl rfl (by decide) ?_
    exact loop1 2451 0 0 M rfl (by omega) (by omega) (by omega) (fun q h0 h1 => by omega) (fun q _ => rfl) (fun a _ => rfl)

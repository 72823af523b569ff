/-! the reference: what is told -/
def ext (v s : List Int) : List Int := (v ++ s).take 1000
theorem ext_nil {v : List Int} (h : v.length ≤ 1000) : ext v [] = v := by unfold ext; rw [List.append_nil, List.take_of_length_le h]
theorem ext_cr {v s : List Int} (h : Cr v) (k : Cr s) : Cr (ext v s) := (h.app k).take 1000
theorem ext_len (v s : List Int) : (ext v s).length = min 1000 (v.length + s.length) := by unfold ext; rw [List.length_take, List.length_append]
theorem ext_ext {v s t : List Int} : ext (ext v s) t = ext v (s ++ t) := by
  unfold ext
  by_cases h : (v ++ s).length ≤ 1000
  · rw [List.take_of_length_le h, List.append_assoc]
  · have h1 : ((v ++ s).take 1000).length = 1000 := by rw [List.length_take]; omega
    have h2 : (v ++ s ++ t).take 1000 = (v ++ s).take 1000 := List.take_append_of_le_length (by omega)
    rw [List.take_append_of_le_length (by omega), List.take_of_length_le (by omega), ← List.append_assoc, h2]
theorem ext_at {v s : List Int} {k : Nat} (hv : v.length ≤ 1000) (h : k < v.length) : at0 (ext v s) k = at0 v k := by
  unfold ext
  rw [at0_take (by omega) (by rw [List.length_append]; omega), at0_app h]
theorem ext_slc {v s : List Int} {a b : Nat} (hv : v.length ≤ 1000) (h : b ≤ v.length) : slc (ext v s) a b = slc v a b := by
  unfold ext slc
  rw [List.take_take, show min b 1000 = b by omega, List.take_append_of_le_length h]
def Td (M : Mem) (v : List Int) : Prop := M 120 14 = v.length ∧ M 120 15 = b2i (decide (120 < v.length)) ∧ Ar M 129 0 v ∧ Cr v ∧ v.length ≤ 1000
theorem Td.at {M : Mem} {v : List Int} (h : Td M v) {z : Int} (h0 : 0 ≤ z) (h1 : z < v.length) : M 129 z = at0 v z := by
  have := h.2.2.1 z h0 h1
  rwa [show (0 : Int) + z = z by omega] at this
def OT (M M' : Mem) : Prop := (∀ a, a ≠ 120 → a ≠ 129 → M' a = M a) ∧ ∀ k, k ≠ 14 → k ≠ 15 → M' 120 k = M 120 k
theorem OT.rf {M : Mem} : OT M M := ⟨fun _ _ _ => rfl, fun _ _ _ => rfl⟩
theorem OT.tr {M M' M'' : Mem} (h : OT M M') (k : OT M' M'') : OT M M'' := ⟨fun a h1 h2 => (k.1 a h1 h2).trans (h.1 a h1 h2), fun j h1 h2 => (k.2 j h1 h2).trans (h.2 j h1 h2)⟩

theorem c_X6_tell {g : GE} {l : Launch} {M : Mem} {v : List Int} (hv : Td M v) {c : Int} (hc : 0 ≤ c ∧ c < 12) : Cv g l μX6_tell [vR g 120, vI c] M (fun M' => Td M' (ext v [c]) ∧ OT M M') := by
  refine Cv.of (by decide +kernel) rfl rfl (fun x hx hr => ?_)
  have h14 := hv.1
  have h15 := hv.2.1
  have hle := hv.2.2.2.2
  have hel := ext_len v [c]
  simp only [List.length_singleton] at hel
  have tail : ∀ M' : Mem, M' 120 14 = (ext v [c]).length → M' 120 15 = b2i (decide (120 < v.length)) → Ar M' 129 0 (ext v [c]) → OT M M' → K x g 0 0 LAY NN M' 30 [(0, vR g 120), (1, vI c)] [] := by
    intro M' e14 e15 eA ho
    refine k_aload_n hx dX6_tell_30 0 rfl ?_
    refine k_aload_n hx dX6_tell_31 0 rfl ?_
    refine k_get (v := vI (b2i (decide (120 < v.length)))) hx fX6_123 dX6_tell_32 n_120 L_120 (congrArg vI (show M' 120 15 = (b2i (decide (120 < v.length))) from e15)) ?_
    refine k_bne hx dX6_tell_35 (fun h_35 => ?_) (fun h_35 => ?_)
    · refine k_iconst hx dX6_tell_47 ?_
      refine k_goto hx dX6_tell_48 ?_
      refine k_putZ (kz := 15) hx fX6_123 dX6_tell_52 n_120 L_120 rfl rfl (by first | exact Or.inl rfl | exact Or.inr rfl) (fun M_52 hM_52 => ?_)
      refine k_rv hx hr dX6_tell_55 ?_
      refine ⟨⟨by rw [hM_52, up_k (by decide)]; exact e14, by rw [hM_52, up_s]; first | exact b2i_t (by omega) | exact b2i_f (by omega), fun z z0 z1 => by rw [hM_52, up_i (by decide)]; exact eA z z0 z1, ext_cr hv.2.2.2.1 (Cr.one hc), by omega⟩, ho.tr (by rw [hM_52]; exact ⟨fun a h1 _ => up_i h1, fun k _ h2 => up_k h2⟩)⟩
    · refine k_aload_n hx dX6_tell_38 0 rfl ?_
      refine k_get (v := vI ((ext v [c]).length)) hx fX6_120 dX6_tell_39 n_120 L_120 (congrArg vI (show M' 120 14 = ((ext v [c]).length) from e14)) ?_
      refine k_bipush hx dX6_tell_42 (by decide +kernel) ?_
      refine k_icmp_le hx dX6_tell_44 (by omega) (fun h_44 => ?_) (fun h_44 => ?_)
      · refine k_iconst hx dX6_tell_51 ?_
        refine k_putZ (kz := 15) hx fX6_123 dX6_tell_52 n_120 L_120 rfl rfl (by first | exact Or.inl rfl | exact Or.inr rfl) (fun M_52 hM_52 => ?_)
        refine k_rv hx hr dX6_tell_55 ?_
        refine ⟨⟨by rw [hM_52, up_k (by decide)]; exact e14, by rw [hM_52, up_s]; first | exact b2i_t (by omega) | exact b2i_f (by omega), fun z z0 z1 => by rw [hM_52, up_i (by decide)]; exact eA z z0 z1, ext_cr hv.2.2.2.1 (Cr.one hc), by omega⟩, ho.tr (by rw [hM_52]; exact ⟨fun a h1 _ => up_i h1, fun k _ h2 => up_k h2⟩)⟩
      · refine k_iconst hx dX6_tell_47 ?_
        refine k_goto hx dX6_tell_48 ?_
        refine k_putZ (kz := 15) hx fX6_123 dX6_tell_52 n_120 L_120 rfl rfl (by first | exact Or.inl rfl | exact Or.inr rfl) (fun M_52 hM_52 => ?_)
        refine k_rv hx hr dX6_tell_55 ?_
        refine ⟨⟨by rw [hM_52, up_k (by decide)]; exact e14, by rw [hM_52, up_s]; first | exact b2i_t (by omega) | exact b2i_f (by omega), fun z z0 z1 => by rw [hM_52, up_i (by decide)]; exact eA z z0 z1, ext_cr hv.2.2.2.1 (Cr.one hc), by omega⟩, ho.tr (by rw [hM_52]; exact ⟨fun a h1 _ => up_i h1, fun k _ h2 => up_k h2⟩)⟩
  refine k_aload_n hx dX6_tell_0 0 rfl ?_
  refine k_get (v := vI v.length) hx fX6_120 dX6_tell_1 n_120 L_120 (congrArg vI (show M 120 14 = v.length from h14)) ?_
  refine k_sipush hx dX6_tell_4 (by decide +kernel) ?_
  refine k_icmp_ge hx dX6_tell_7 (by omega) (fun h_7 => ?_) (fun h_7 => ?_)
  · have he : ext v [c] = v := by unfold ext; rw [List.take_append_of_le_length (by omega), List.take_of_length_le (by omega)]
    exact tail M (by rw [he]; exact h14) h15 (by rw [he]; exact hv.2.2.1) OT.rf
  · refine k_aload_n hx dX6_tell_10 0 rfl ?_
    refine k_get (v := vR g 129) hx fX6_35 dX6_tell_11 n_120 L_120 rfl ?_
    refine k_aload_n hx dX6_tell_14 0 rfl ?_
    refine k_get (v := vI v.length) hx fX6_120 dX6_tell_15 n_120 L_120 (congrArg vI (show M 120 14 = v.length from h14)) ?_
    refine k_iload_n hx dX6_tell_18 1 rfl ?_
    refine k_iastN hx dX6_tell_19 n_129 L_129 (by omega) (by decide) (fun M_19 hM_19 => ?_)
    refine k_aload_n hx dX6_tell_20 0 rfl ?_
    refine k_dup hx dX6_tell_21 rfl ?_
    refine k_get (v := vI v.length) hx fX6_120 dX6_tell_22 n_120 L_120 (congrArg vI (show M_19 120 14 = v.length from by rw [hM_19, up_i (by decide)]; exact h14)) ?_
    refine k_iconst hx dX6_tell_25 ?_
    refine k_iadd hx dX6_tell_26 ?_
    refine k_putI (kz := 14) hx fX6_120 dX6_tell_27 n_120 L_120 rfl rfl (fun M_27 hM_27 => ?_)
    have he : ext v [c] = v ++ [c] := by unfold ext; exact List.take_of_length_le (by rw [List.length_append]; simp; omega)
    refine tail M_27 (by rw [hM_27, up_s, he, List.length_append]; simp) (by rw [hM_27, up_k (by decide), hM_19, up_i (by decide)]; exact h15) (fun z z0 z1 => ?_) (by rw [hM_27, hM_19]; exact ⟨fun a h1 h2 => by rw [up_i h1, up_i h2], fun k h1 _ => by rw [up_k h1, up_i (by decide)]⟩)
    rw [he] at z1 ⊢
    rw [List.length_append, List.length_singleton] at z1
    rw [hM_27, up_i (by decide), hM_19, show (0 : Int) + z = z by omega]
    by_cases hz : z = v.length
    · rw [hz, up_s, at0_last]
    · rw [up_k hz, at0_appZ z0 (by omega)]; exact hv.at z0 (by omega)
theorem c_X6_tellAgain {g : GE} {l : Launch} {M : Mem} {v : List Int} (hv : Td M v) {a b : Nat} (hab : a ≤ b) (hb : b ≤ v.length) {t : Bool} : Cv g l μX6_tellAgain [vR g 120, vI a, vI b, vI (b2i t)] M (fun M' => Td M' (ext v (turned t (slc v a b))) ∧ OT M M') := by
  refine Cv.of (by decide +kernel) rfl rfl (fun x hx hr => ?_)
  have hle := hv.2.2.2.2
  have hsl := slc_len (v := v) (a := a) hb
  have htl := turned_len t (slc v a b)
  have htc := turned_cr (t := t) (slc_cr hv.2.2.2.1 a b)
  have loop : ∀ (f : Nat), ∀ (k : Nat) (z : Int) (M' : Mem), z = k → k ≤ b - a → b - a - k < f → Td M' (ext v ((turned t (slc v a b)).take k)) → OT M M' → K x g 0 0 LAY NN M' 3 [(0, vR g 120), (1, vI a), (2, vI b), (3, vI (b2i t)), (4, vI z)] [] := by
    intro f
    induction f with
    | zero => intro k z M' hz hk hf hd ho; omega
    | succ f ih =>
      intro k z M' hz hk hf hd ho
      refine k_iload hx dX6_tellAgain_3 4 rfl ?_
      refine k_iload_n hx dX6_tellAgain_5 2 rfl ?_
      refine k_iload_n hx dX6_tellAgain_6 1 rfl ?_
      refine k_isub hx dX6_tellAgain_7 ?_
      refine k_icmp_ge hx dX6_tellAgain_8 (by omega) (fun h_8 => ?_) (fun h_8 => ?_)
      · rw [List.take_of_length_le (by omega)] at hd
        refine k_rv hx hr dX6_tellAgain_51 ?_
        exact ⟨hd, ho⟩
      · have hkl : k < b - a := by omega
        have hel := ext_len v ((turned t (slc v a b)).take k)
        have hcr := op_cr htc (k := k) (by omega)
        have hst : ext (ext v ((turned t (slc v a b)).take k)) [at0 (turned t (slc v a b)) k] = ext v ((turned t (slc v a b)).take (k + 1)) := by rw [ext_ext, take_at0 (by omega)]
        refine k_aload_n hx dX6_tellAgain_11 0 rfl ?_
        refine k_iload_n hx dX6_tellAgain_12 3 rfl ?_
        refine k_ceq hx dX6_tellAgain_13 (fun h_13 => ?_) (fun h_13 => ?_)
        · have e1 : M' 129 (a + z) = at0 (turned t (slc v a b)) k := by
            rw [h_13]
            show _ = at0 (slc v a b) k
            rw [slc_at hb hkl, ← ext_at (s := (turned t (slc v a b)).take k) hle (by omega), hd.at (by omega) (by omega)]
            congr 1; omega
          refine k_aload_n hx dX6_tellAgain_33 0 rfl ?_
          refine k_get (v := vR g 129) hx fX6_35 dX6_tellAgain_34 n_120 L_120 rfl ?_
          refine k_iload_n hx dX6_tellAgain_37 1 rfl ?_
          refine k_iload hx dX6_tellAgain_38 4 rfl ?_
          refine k_iadd hx dX6_tellAgain_40 ?_
          refine k_iald (v := (at0 (turned t (slc v a b)) k)) hx dX6_tellAgain_41 n_129 L_129 (by omega) (by decide) (e1) ?_
          
          refine k_vv (rest := []) hx vX6_127 dX6_tellAgain_42 (c_X6_tell hd hcr) n_120 L_120 rfl rfl rfl ⟨rfl, rfl⟩ ⟨by decide, by decide⟩ (fun M_42 p_42 => ?_)
          rw [hst] at p_42
          refine k_iinc (ls' := [(0, vR g 120), (1, vI a), (2, vI b), (3, vI (b2i t)), (4, vI (z + 1))]) hx dX6_tellAgain_45 4 rfl rfl rfl (by decide) ?_
          refine k_goto hx dX6_tellAgain_48 ?_
          exact ih (k + 1) (z + 1) M_42 (by omega) (by omega) (by omega) p_42.1 (ho.tr p_42.2)
        · have e1 : M' 129 (b - 1 - z) = at0 v (a + (b - a - 1 - k) : Nat) := by
            rw [← ext_at (s := (turned t (slc v a b)).take k) hle (by omega), hd.at (by omega) (by omega)]
            congr 1; omega
          have e2 : op (at0 v (a + (b - a - 1 - k) : Nat)) = at0 (turned t (slc v a b)) k := by
            rw [h_13]
            show _ = at0 (trn (slc v a b)) k
            rw [trn_at (by omega), hsl, slc_at hb (by omega)]
          have c2 := op_cr hv.2.2.2.1 (k := a + (b - a - 1 - k)) (by omega)
          refine k_aload_n hx dX6_tellAgain_16 0 rfl ?_
          refine k_get (v := vR g 129) hx fX6_35 dX6_tellAgain_17 n_120 L_120 rfl ?_
          refine k_iload_n hx dX6_tellAgain_20 2 rfl ?_
          refine k_iconst hx dX6_tellAgain_21 ?_
          refine k_isub hx dX6_tellAgain_22 ?_
          refine k_iload hx dX6_tellAgain_23 4 rfl ?_
          refine k_isub hx dX6_tellAgain_25 ?_
          refine k_iald (v := (at0 v (a + (b - a - 1 - k) : Nat))) hx dX6_tellAgain_26 n_129 L_129 (by omega) (by decide) (e1) ?_
          refine k_sp (rest := [vR g 120]) (e := (op (at0 v (a + (b - a - 1 - k) : Nat)))) hx sX6_73 dX6_tellAgain_27 (c_X6_otherSide (a := (at0 v (a + (b - a - 1 - k) : Nat))) (by omega)) rfl rfl rfl ⟨rfl, rfl⟩ ⟨by decide, by decide⟩ ?_
          refine k_goto hx dX6_tellAgain_30 ?_
          rw [e2]
          refine k_vv (rest := []) hx vX6_127 dX6_tellAgain_42 (c_X6_tell hd hcr) n_120 L_120 rfl rfl rfl ⟨rfl, rfl⟩ ⟨by decide, by decide⟩ (fun M_42 p_42 => ?_)
          rw [hst] at p_42
          refine k_iinc (ls' := [(0, vR g 120), (1, vI a), (2, vI b), (3, vI (b2i t)), (4, vI (z + 1))]) hx dX6_tellAgain_45 4 rfl rfl rfl (by decide) ?_
          refine k_goto hx dX6_tellAgain_48 ?_
          exact ih (k + 1) (z + 1) M_42 (by omega) (by omega) (by omega) p_42.1 (ho.tr p_42.2)
  refine k_iconst hx dX6_tellAgain_0 ?_
  refine k_istore (ls' := [(0, vR g 120), (1, vI a), (2, vI b), (3, vI (b2i t)), (4, vI 0)]) hx dX6_tellAgain_1 rfl rfl (by decide) ?_
  exact loop (b - a + 1) 0 0 M rfl (by omega) (by omega) (by rw [List.take_zero, ext_nil hle]; exact hv) OT.rf
theorem c_X6_repeat {g : GE} {l : Launch} {M : Mem} {v : List Int} (hv : Td M v) {a t : Nat} (ha : a ≤ v.length) (ht : 1 ≤ t ∧ t ≤ 9) : Cv g l μX6_repeat [vR g 120, vI a, vI t] M (fun M' => Td M' (ext v (rpt (t - 1) (v.drop a))) ∧ OT M M') := by
  refine Cv.of (by decide +kernel) rfl rfl (fun x hx hr => ?_)
  have hle := hv.2.2.2.2
  have loop : ∀ (f : Nat), ∀ (k : Nat) (z : Int) (M' : Mem), z = k + 1 → k + 1 ≤ t → t - (k + 1) < f → Td M' (ext v (rpt k (v.drop a))) → OT M M' → K x g 0 0 LAY NN M' 8 [(0, vR g 120), (1, vI a), (2, vI t), (3, vI v.length), (4, vI z)] [] := by
    intro f
    induction f with
    | zero => intro k z M' hz hk hf hd ho; omega
    | succ f ih =>
      intro k z M' hz hk hf hd ho
      refine k_iload hx dX6_repeat_8 4 rfl ?_
      refine k_iload_n hx dX6_repeat_10 2 rfl ?_
      refine k_icmp_ge hx dX6_repeat_11 (by omega) (fun h_11 => ?_) (fun h_11 => ?_)
      · refine k_rv hx hr dX6_repeat_27 ?_
        rw [show t - 1 = k by omega]; exact ⟨hd, ho⟩
      · refine k_aload_n hx dX6_repeat_14 0 rfl ?_
        refine k_iload_n hx dX6_repeat_15 1 rfl ?_
        refine k_iload_n hx dX6_repeat_16 3 rfl ?_
        refine k_iconst hx dX6_repeat_17 ?_
        have hel := ext_len v (rpt k (v.drop a))
        have hst : ext (ext v (rpt k (v.drop a))) (turned false (slc (ext v (rpt k (v.drop a))) a v.length)) = ext v (rpt (k + 1) (v.drop a)) := by
          rw [ext_slc hle (Nat.le_refl _), ext_ext, rpt_succ]
          show ext v (rpt k (v.drop a) ++ slc v a v.length) = _
          unfold slc; rw [List.take_length]
        refine k_vv (rest := []) hx vX6_130 dX6_repeat_18 (c_X6_tellAgain hd (a := a) (b := v.length) ha (by omega) (t := false)) n_120 L_120 rfl rfl rfl ⟨rfl, rfl⟩ ⟨by decide, by decide⟩ (fun M_18 p_18 => ?_)
        rw [hst] at p_18
        refine k_iinc (ls' := [(0, vR g 120), (1, vI a), (2, vI t), (3, vI v.length), (4, vI (z + 1))]) hx dX6_repeat_21 4 rfl rfl rfl (by decide) ?_
        refine k_goto hx dX6_repeat_24 ?_
        exact ih (k + 1) (z + 1) M_18 (by omega) (by omega) (by omega) p_18.1 (ho.tr p_18.2)
  refine k_aload_n hx dX6_repeat_0 0 rfl ?_
  refine k_get (v := vI v.length) hx fX6_120 dX6_repeat_1 n_120 L_120 (congrArg vI (show M 120 14 = v.length from hv.1)) ?_
  refine k_istore_n (ls' := [(0, vR g 120), (1, vI a), (2, vI t), (3, vI v.length)]) hx dX6_repeat_4 rfl rfl (by decide) ?_
  refine k_iconst hx dX6_repeat_5 ?_
  refine k_istore (ls' := [(0, vR g 120), (1, vI a), (2, vI t), (3, vI v.length), (4, vI 1)]) hx dX6_repeat_6 rfl rfl (by decide) ?_
  exact loop t 0 1 M rfl (by omega) (by omega) (by show Td M (ext v []); rw [ext_nil hle]; exact hv) OT.rf
theorem c_X6_turnTold {g : GE} {l : Launch} {M : Mem} {v : List Int} (hv : Td M v) {a : Nat} (ha : a ≤ v.length) : Cv g l μX6_turnTold [vR g 120, vI a] M (fun M' => Td M' (turnF v a) ∧ OT M M') := by
  refine Cv.of (by decide +kernel) rfl rfl (fun x hx hr => ?_)
  have hle := hv.2.2.2.2
  have loop : ∀ (f : Nat), ∀ (s : Nat) (y z : Int) (M' : Mem), y = a + s → z = v.length - 1 - s → v.length - s < f → 2 * s ≤ v.length - a + 1 → (∀ q : Nat, q < v.length → M' 129 q = tf v a s q) → (∀ k, k ≠ 129 → M' k = M k) → K x g 0 0 LAY NN M' 9 [(0, vR g 120), (1, vI a), (2, vI y), (3, vI z)] [] := by
    intro f
    induction f with
    | zero => intro s y z M' hy hz hf h2 hq ho; omega
    | succ f ih =>
      intro s y z M' hy hz hf h2 hq ho
      refine k_iload_n hx dX6_turnTold_9 2 rfl ?_
      refine k_iload_n hx dX6_turnTold_10 3 rfl ?_
      refine k_icmp_gt hx dX6_turnTold_11 (by omega) (fun h_11 => ?_) (fun h_11 => ?_)
      · 
        refine k_rv hx hr dX6_turnTold_57 ?_
        refine ⟨⟨by rw [ho 120 (by decide), turnF_len ha]; exact hv.1, by rw [ho 120 (by decide), turnF_len ha]; exact hv.2.1, fun q q0 q1 => ?_, turnF_cr hv.2.2.2.1 a, by rw [turnF_len ha]; exact hle⟩, ⟨fun k _ h => ho k h, fun k _ _ => by rw [ho 120 (by decide)]⟩⟩
        rw [turnF_len ha] at q1
        have := hq q.toNat (by omega)
        rw [show ((q.toNat : Nat) : Int) = q by omega] at this
        rw [show (0 : Int) + q = q by omega, this, show at0 (turnF v a) q = at0 (turnF v a) (q.toNat : Nat) by rw [show ((q.toNat : Nat) : Int) = q by omega], turnF_at ha (by omega)]
        unfold tf
        by_cases q2 : q.toNat < a
        · rw [if_pos (Or.inl q2), if_pos q2]
        · rw [if_neg (by omega), if_neg q2]
      · have e1 : M' 129 y = at0 v (a + s : Nat) := by
          rw [show y = ((a + s : Nat) : Int) by omega]; have := hq (a + s) (by omega); unfold tf at this; rwa [if_pos (by omega)] at this
        have e2 : M' 129 z = at0 v (v.length - 1 - s : Nat) := by
          rw [show z = ((v.length - 1 - s : Nat) : Int) by omega]; have := hq (v.length - 1 - s) (by omega); unfold tf at this; rwa [if_pos (by omega)] at this
        have c1 := op_cr hv.2.2.2.1 (k := a + s) (by omega)
        have c2 := op_cr hv.2.2.2.1 (k := v.length - 1 - s) (by omega)
        refine k_aload_n hx dX6_turnTold_14 0 rfl ?_
        refine k_get (v := vR g 129) hx fX6_35 dX6_turnTold_15 n_120 L_120 rfl ?_
        refine k_iload_n hx dX6_turnTold_18 2 rfl ?_
        refine k_iald (v := (at0 v (a + s : Nat))) hx dX6_turnTold_19 n_129 L_129 (by omega) (by decide) (e1) ?_
        refine k_istore (ls' := [(0, vR g 120), (1, vI a), (2, vI y), (3, vI z), (4, vI (at0 v (a + s : Nat)))]) hx dX6_turnTold_20 rfl rfl (by decide) ?_
        refine k_aload_n hx dX6_turnTold_22 0 rfl ?_
        refine k_get (v := vR g 129) hx fX6_35 dX6_turnTold_23 n_120 L_120 rfl ?_
        refine k_iload_n hx dX6_turnTold_26 2 rfl ?_
        refine k_aload_n hx dX6_turnTold_27 0 rfl ?_
        refine k_get (v := vR g 129) hx fX6_35 dX6_turnTold_28 n_120 L_120 rfl ?_
        refine k_iload_n hx dX6_turnTold_31 3 rfl ?_
        refine k_iald (v := (at0 v (v.length - 1 - s : Nat))) hx dX6_turnTold_32 n_129 L_129 (by omega) (by decide) (e2) ?_
        refine k_sp (rest := [vI y, vR g 129]) (e := (op (at0 v (v.length - 1 - s : Nat)))) hx sX6_73 dX6_turnTold_33 (c_X6_otherSide (a := (at0 v (v.length - 1 - s : Nat))) (by omega)) rfl rfl rfl ⟨rfl, rfl⟩ ⟨by decide, by decide⟩ ?_
        refine k_iastN hx dX6_turnTold_36 n_129 L_129 (by omega) (by decide) (fun M_36 hM_36 => ?_)
        refine k_aload_n hx dX6_turnTold_37 0 rfl ?_
        refine k_get (v := vR g 129) hx fX6_35 dX6_turnTold_38 n_120 L_120 rfl ?_
        refine k_iload_n hx dX6_turnTold_41 3 rfl ?_
        refine k_iload hx dX6_turnTold_42 4 rfl ?_
        refine k_sp (rest := [vI z, vR g 129]) (e := (op (at0 v (a + s : Nat)))) hx sX6_73 dX6_turnTold_44 (c_X6_otherSide (a := (at0 v (a + s : Nat))) (by omega)) rfl rfl rfl ⟨rfl, rfl⟩ ⟨by decide, by decide⟩ ?_
        refine k_iastN hx dX6_turnTold_47 n_129 L_129 (by omega) (by decide) (fun M_47 hM_47 => ?_)
        refine k_iinc (ls' := [(0, vR g 120), (1, vI a), (2, vI (y + 1)), (3, vI z), (4, vI (at0 v (a + s : Nat)))]) hx dX6_turnTold_48 2 rfl rfl rfl (by decide) ?_
        refine k_iinc (ls' := [(0, vR g 120), (1, vI a), (2, vI (y + 1)), (3, vI (z + (-1))), (4, vI (at0 v (a + s : Nat)))]) hx dX6_turnTold_51 3 rfl rfl rfl (by decide) ?_
        refine k_goto hx dX6_turnTold_54 ?_
        refine K.sub [0, 1, 2, 3] rfl ?_
        refine ih (s + 1) (y + 1) (z + -1) M_47 (by omega) (by omega) (by omega) (by omega) (fun q hqn => ?_) (fun k hk => by rw [hM_47, hM_36, up_i hk, up_i hk]; exact ho k hk)
        rw [hM_47, hM_36]
        by_cases q2 : q = v.length - 1 - s
        · subst q2
          rw [show ((v.length - 1 - s : Nat) : Int) = z by omega, up_s]
          unfold tf; rw [if_neg (by omega)]; congr 3; omega
        · rw [up_k (by omega)]
          by_cases q1 : q = a + s
          · subst q1
            rw [show ((a + s : Nat) : Int) = y by omega, up_s]
            unfold tf; rw [if_neg (by omega)]; congr 3; omega
          · rw [up_k (by omega), hq q hqn]
            unfold tf
            by_cases q3 : q < a ∨ (a + s ≤ q ∧ q + s + 1 ≤ v.length)
            · rw [if_pos q3, if_pos (by omega)]
            · rw [if_neg q3, if_neg (by omega)]
  refine k_iload_n hx dX6_turnTold_0 1 rfl ?_
  refine k_istore_n (ls' := [(0, vR g 120), (1, vI a), (2, vI a)]) hx dX6_turnTold_1 rfl rfl (by decide) ?_
  refine k_aload_n hx dX6_turnTold_2 0 rfl ?_
  refine k_get (v := vI v.length) hx fX6_120 dX6_turnTold_3 n_120 L_120 (congrArg vI (show M 120 14 = v.length from hv.1)) ?_
  refine k_iconst hx dX6_turnTold_6 ?_
  refine k_isub hx dX6_turnTold_7 ?_
  refine k_istore_n (ls' := [(0, vR g 120), (1, vI a), (2, vI a), (3, vI (v.length - 1))]) hx dX6_turnTold_8 rfl rfl (by decide) ?_
  exact loop (v.length + 1) 0 _ _ M (by omega) (by omega) (by omega) (by omega) (fun q hqn => by unfold tf; rw [hv.at (by omega) (by omega)]; by_cases h : q < a ∨ (a + 0 ≤ q ∧ q + 0 + 1 ≤ v.length); rw [if_pos h]; exact absurd (by omega) h) (fun k _ => rfl)

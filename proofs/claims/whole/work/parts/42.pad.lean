/-! the reference's own methods: the pad -/
theorem c_X6_put {g : GE} {l : Launch} {M : Mem} {σ : Sg} (hI : InvM M σ) {v : Int64} : Ci g l μX6_put [vR g 120, .long v] M (PM M (aPut σ v)) := by
  refine Ci.of (by decide +kernel) rfl rfl (fun x hx hr => ?_)
  have hP := hI.2.2.2.2
  obtain ⟨p1, p2, p3, p4⟩ := hP
  have hc8 := chIn_le (uN v)
  have tail : 0 < chIn (uN v) → K x g 0 0 LAY NN M 63 [(0, vR g 120), (1, .long v), (3, vI (chIn (uN v)))] [] := by
    intro hm0
    obtain ⟨m, hm⟩ : ∃ m, chIn (uN v) = m := ⟨_, rfl⟩
    rw [hm] at hm0 hc8 ⊢
    have hcl := chs_len (uN v) m
    have hcm := chs_mem hm hm0
    obtain ⟨t, ht⟩ : ∃ t, σ.2.2.2 = t := ⟨_, rfl⟩
    rw [ht] at p1 p2 p3 p4
    have hput : ¬ 60 < t.length + m → aPut σ v = (((t.length + m : Nat) : Int), (σ.1, σ.2.1, σ.2.2.1, t ++ chs (uN v) m)) := fun h => by unfold aPut; rw [hm, ht, if_neg (by omega), if_neg h]
    have loop : ∀ (f : Nat), ∀ (i : Nat) (z : Int) (r : Int64) (M' : Mem), z = (m : Int) - 1 - i → i ≤ m → m - i < f → t.length + m ≤ 60 → uN r = uN v / 256 ^ i → (∀ q : Nat, q < t.length → M' 125 q = t.getD q 0) → (∀ q : Nat, m - i ≤ q → q < m → M' 125 (t.length + q : Nat) = (chs (uN v) m).getD q 0) → (∀ a, a ≠ 125 → M' a = M a) → K x g 0 0 LAY NN M' 85 [(0, vR g 120), (1, .long v), (3, vI m), (4, .long r), (6, vI z)] [] := by
      intro f
      induction f with
      | zero => intro i z r M' hz hi hf hsum hr2 hin hin2 ho; omega
      | succ f ih =>
        intro i z r M' hz hi hf hsum hr2 hin hin2 ho
        refine k_iload hx dX6_put_85 4 rfl ?_
        refine k_iflt hx dX6_put_87 (by omega) (fun h_87 => ?_) (fun h_87 => ?_)
        · refine k_aload_n hx dX6_put_122 0 rfl ?_
          refine k_dup hx dX6_put_123 rfl ?_
          refine k_get (v := vI t.length) hx fX6_134 dX6_put_124 n_120 L_120 (congrArg vI (show M' 120 6 = t.length from by rw [ho 120 (by decide)]; exact p1)) ?_
          refine k_iload_n hx dX6_put_127 2 rfl ?_
          refine k_iadd hx dX6_put_128 ?_
          refine k_putI (kz := 6) hx fX6_134 dX6_put_129 n_120 L_120 rfl rfl (fun M_129 hM_129 => ?_)
          refine k_aload_n hx dX6_put_132 0 rfl ?_
          refine k_get (v := vI (t.length + m : Nat)) hx fX6_134 dX6_put_133 n_120 L_120 (congrArg vI (show M_129 120 6 = (t.length + m : Nat) from by rw [hM_129, up_s]; omega)) ?_
          refine k_ri hx hr dX6_put_136 ?_
          rw [hput (by omega)]
          refine ⟨rfl, InvM.pad (t := σ.2.2.2) hI ⟨by rw [hM_129, up_s, List.length_append, hcl]; omega, by rw [List.length_append, hcl]; omega, fun q hq => ?_, fun c hc => ?_⟩ (fun a h1 h2 => by rw [hM_129, up_i (by omega)]; exact ho a (by omega)) (by rw [hM_129, up_k (by decide), ho 120 (by decide)]), fun a ha => by rw [hM_129, up_i (by omega)]; exact ho a (by omega)⟩
          · rw [List.length_append, hcl] at hq
            rw [hM_129, up_i (by decide), List.getD_eq_getElem?_getD]
            by_cases h1 : q < t.length
            · rw [List.getElem?_append_left h1, ← List.getD_eq_getElem?_getD]; exact hin q h1
            · rw [List.getElem?_append_right (by omega), ← List.getD_eq_getElem?_getD, ← hin2 (q - t.length) (by omega) (by omega)]
              congr 1; omega
          · rcases List.mem_append.mp hc with h | h
            · exact p4 c h
            · exact hcm c h
        · have hi2 : i < m := by omega
          have hmod : uN r % 256 = uN v / 256 ^ (m - 1 - (m - 1 - i)) % 256 := by rw [hr2, show m - 1 - (m - 1 - i) = i by omega]
          have hget : (chs (uN v) m).getD (m - 1 - i) 0 = ((uN r % 256 : Nat) : Int) := by
            rw [hmod, List.getD_eq_getElem?_getD, List.getElem?_eq_getElem (by omega)]
            simp [chs]
          refine k_aload_n hx dX6_put_90 0 rfl ?_
          refine k_get (v := vR g 125) hx fX6_23 dX6_put_91 n_120 L_120 rfl ?_
          refine k_aload_n hx dX6_put_94 0 rfl ?_
          refine k_get (v := vI t.length) hx fX6_134 dX6_put_95 n_120 L_120 (congrArg vI (show M' 120 6 = t.length from by rw [ho 120 (by decide)]; exact p1)) ?_
          refine k_iload hx dX6_put_98 4 rfl ?_
          refine k_iadd hx dX6_put_100 ?_
          refine k_lload hx dX6_put_101 3 rfl ?_
          refine k_ldc2 hx dX6_put_103 qX6_144 ?_
          refine k_land hx dX6_put_106 ?_
          refine k_l2i (v := zI (uN r % 256 : Nat)) hx dX6_put_107 (l2i_and r) ?_
          refine k_iastN hx dX6_put_108 n_125 L_125 (by omega) (by decide) (fun M_108 hM_108 => ?_)
          refine k_lload hx dX6_put_109 3 rfl ?_
          refine k_bipush hx dX6_put_111 (by decide +kernel) ?_
          refine k_lushr hx dX6_put_113 ?_
          refine k_lstore (ls' := [(0, vR g 120), (1, .long v), (3, vI m), (4, .long (lsr r 8)), (6, vI z)]) hx dX6_put_114 rfl rfl (by decide) ?_
          refine k_iinc (ls' := [(0, vR g 120), (1, .long v), (3, vI m), (4, .long (lsr r 8)), (6, vI (z + (-1)))]) hx dX6_put_116 4 rfl rfl rfl (by decide) ?_
          refine k_goto hx dX6_put_119 ?_
          refine ih (i + 1) (z + -1) (lsr r 8) M_108 (by omega) (by omega) (by omega) hsum ?_ (fun q hq => by rw [hM_108, up_k (by omega)]; exact hin q hq) (fun q h1 h2 => ?_) (fun a ha => by rw [hM_108, up_i ha]; exact ho a ha)
          · rw [show ((8 : Int)) = ((8 : Nat) : Int) from rfl, uN_lsr r (by omega), hr2, Nat.div_div_eq_div_mul, show (256 : Nat) ^ (i + 1) = 256 ^ i * 2 ^ 8 from Nat.pow_succ 256 i]
          · rw [hM_108]
            by_cases hq : q = m - 1 - i
            · subst hq
              rw [show ((t.length + (m - 1 - i) : Nat) : Int) = t.length + z by omega, up_s, hget]
            · rw [up_k (by omega)]; exact hin2 q (by omega) h2
    refine k_aload_n hx dX6_put_63 0 rfl ?_
    refine k_get (v := vI t.length) hx fX6_134 dX6_put_64 n_120 L_120 (congrArg vI (show M 120 6 = t.length from p1)) ?_
    refine k_iload_n hx dX6_put_67 2 rfl ?_
    refine k_iadd hx dX6_put_68 ?_
    refine k_bipush hx dX6_put_69 (by decide +kernel) ?_
    refine k_icmp_le hx dX6_put_71 (by omega) (fun h_71 => ?_) (fun h_71 => ?_)
    · refine k_lload_n hx dX6_put_77 1 rfl ?_
      refine k_lstore (ls' := [(0, vR g 120), (1, .long v), (3, vI m), (4, .long v)]) hx dX6_put_78 rfl rfl (by decide) ?_
      refine k_iload_n hx dX6_put_80 2 rfl ?_
      refine k_iconst hx dX6_put_81 ?_
      refine k_isub hx dX6_put_82 ?_
      refine k_istore (ls' := [(0, vR g 120), (1, .long v), (3, vI m), (4, .long v), (6, vI (m - 1))]) hx dX6_put_83 rfl rfl (by decide) ?_
      exact loop (m + 1) 0 _ v M (by omega) (by omega) (by omega) (by omega) (by simp) p3 (fun q h1 h2 => by omega) (fun a _ => rfl)
    · refine k_bipush hx dX6_put_74 (by decide +kernel) ?_
      refine k_ri hx hr dX6_put_76 ?_
      exact ⟨by unfold aPut; rw [hm, ht, if_neg (by omega), if_pos (by omega)], by unfold aPut; rw [hm, ht, if_neg (by omega), if_pos (by omega)]; exact hI, fun _ _ => rfl⟩
  have loop : ∀ (f : Nat), ∀ (k : Nat) (z : Int) (r : Int64), z = k → k ≤ 8 → 9 - k < f → uN r < 256 ^ (8 - k) → chF (8 - k) k (uN r) = chIn (uN v) → K x g 0 0 LAY NN M 5 [(0, vR g 120), (1, .long v), (3, vI z), (4, .long r)] [] := by
    intro f
    induction f with
    | zero => intro k z r hz hk hf hlt hch; omega
    | succ f ih =>
      intro k z r hz hk hf hlt hch
      have hlg := lg0 (r &&& 255)
      rw [uN_and] at hlg
      have hrg := i32_rg (lg_cmp (r &&& 255) 0)
      have hlg2 := lg0 r
      have hrg2 := i32_rg (lg_cmp r 0)
      have hm256 : uN r % 256 < 256 := Nat.mod_lt _ (by decide)
      obtain ⟨c, hc⟩ : ∃ c : Int, c = ((uN r % 256 : Nat) : Int) := ⟨_, rfl⟩
      have hk8 : uN r ≠ 0 → k < 8 := fun h => by
        rcases (show k < 8 ∨ k = 8 by omega) with q | q
        · exact q
        · subst q; simp at hlt; exact absurd hlt h
      have hst : uN r ≠ 0 → chIn (uN v) = if 33 ≤ uN r % 256 ∧ uN r % 256 ≤ 126 then chF (8 - (k + 1)) (k + 1) (uN r / 256) else 0 := fun h => by
        have := hk8 h
        rw [← hch, show 8 - k = (8 - (k + 1)) + 1 by omega, chF, if_neg h]
      have hst0 : uN r = 0 → chIn (uN v) = k := fun h => by
        rw [← hch, h]
        cases 8 - k with
        | zero => rw [chF]
        | succ j => rw [chF, if_pos rfl]
      refine k_lload hx dX6_put_5 3 rfl ?_
      refine k_ldc2 hx dX6_put_7 qX6_144 ?_
      refine k_land hx dX6_put_10 ?_
      refine k_lconst (v := 0) hx dX6_put_11 rfl ?_
      refine k_lcmpI (v := ((lg_cmp (r &&& 255) 0).toInt)) hx dX6_put_12 ((zI_of _).symm) ?_
      refine k_ifeq hx dX6_put_13 (by omega) (fun h_13 => ?_) (fun h_13 => ?_)
      · have hz0 : uN r % 256 = 0 := hlg.mp h_13
        refine k_lload hx dX6_put_49 3 rfl ?_
        refine k_lconst (v := 0) hx dX6_put_51 rfl ?_
        refine k_lcmpI (v := ((lg_cmp r 0).toInt)) hx dX6_put_52 ((zI_of _).symm) ?_
        refine k_ifne hx dX6_put_53 (by omega) (fun h_53 => ?_) (fun h_53 => ?_)
        · have hrn : uN r ≠ 0 := fun h => h_53 (hlg2.mpr h)
          have hch2 := hst hrn
          rw [if_neg (by omega)] at hch2
          refine k_bipush hx dX6_put_60 (by decide +kernel) ?_
          refine k_ri hx hr dX6_put_62 ?_
          exact ⟨by unfold aPut; rw [if_pos (by omega)], by unfold aPut; rw [if_pos (by omega)]; exact hI, fun _ _ => rfl⟩
        · have hch2 := hst0 (hlg2.mp h_53)
          refine k_iload_n hx dX6_put_56 2 rfl ?_
          refine k_ifne hx dX6_put_57 (by omega) (fun h_57 => ?_) (fun h_57 => ?_)
          · refine K.sub [0, 1, 2] rfl ?_
            rw [show z = ((chIn (uN v) : Nat) : Int) by omega]
            exact tail (by omega)
          · refine k_bipush hx dX6_put_60 (by decide +kernel) ?_
            refine k_ri hx hr dX6_put_62 ?_
            exact ⟨by unfold aPut; rw [if_pos (by omega)], by unfold aPut; rw [if_pos (by omega)]; exact hI, fun _ _ => rfl⟩
      · have hz0 : ¬ uN r % 256 = 0 := fun h => h_13 (hlg.mpr h)
        have hrn : uN r ≠ 0 := fun h => hz0 (by rw [h])
        have hch2 := hst hrn
        refine k_lload hx dX6_put_16 3 rfl ?_
        refine k_ldc2 hx dX6_put_18 qX6_144 ?_
        refine k_land hx dX6_put_21 ?_
        refine k_l2i (v := zI c) hx dX6_put_22 (by rw [hc]; exact l2i_and r) ?_
        refine k_bipush hx dX6_put_23 (by decide +kernel) ?_
        refine k_bipush hx dX6_put_25 (by decide +kernel) ?_
        refine k_sp (rest := []) (e := (b2i (decide (33 ≤ c ∧ c ≤ 126)))) hx sX6_61 dX6_put_27 (c_X6_in (v := c) (a := 33) (b := 126) (by omega)) rfl rfl rfl ⟨rfl, rfl⟩ ⟨by decide, by decide⟩ ?_
        refine k_bne hx dX6_put_30 (fun h_30 => ?_) (fun h_30 => ?_)
        · refine k_iinc (ls' := [(0, vR g 120), (1, .long v), (3, vI (z + 1)), (4, .long r)]) hx dX6_put_36 2 rfl rfl rfl (by decide) ?_
          refine k_lload hx dX6_put_39 3 rfl ?_
          refine k_bipush hx dX6_put_41 (by decide +kernel) ?_
          refine k_lushr hx dX6_put_43 ?_
          refine k_lstore (ls' := [(0, vR g 120), (1, .long v), (3, vI (z + 1)), (4, .long (lsr r 8))]) hx dX6_put_44 rfl rfl (by decide) ?_
          refine k_goto hx dX6_put_46 ?_
          rw [if_pos (by omega)] at hch2
          have hk9 := hk8 hrn
          have hu : uN (lsr r 8) = uN r / 256 := by rw [show ((8 : Int)) = ((8 : Nat) : Int) from rfl, uN_lsr r (by omega)]
          exact ih (k + 1) (z + 1) (lsr r 8) (by omega) (by omega) (by omega) (by rw [hu]; refine Nat.div_lt_of_lt_mul ?_; rw [show 8 - k = (8 - (k + 1)) + 1 by omega, Nat.pow_succ, Nat.mul_comm] at hlt; exact hlt) (by rw [hu]; exact hch2.symm)
        · refine k_bipush hx dX6_put_33 (by decide +kernel) ?_
          refine k_ri hx hr dX6_put_35 ?_
          rw [if_neg (by omega)] at hch2
          exact ⟨by unfold aPut; rw [if_pos hch2], by unfold aPut; rw [if_pos hch2]; exact hI, fun _ _ => rfl⟩
  refine k_iconst hx dX6_put_0 ?_
  refine k_istore_n (ls' := [(0, vR g 120), (1, .long v), (3, vI 0)]) hx dX6_put_1 rfl rfl (by decide) ?_
  refine k_lload_n hx dX6_put_2 1 rfl ?_
  refine k_lstore (ls' := [(0, vR g 120), (1, .long v), (3, vI 0), (4, .long v)]) hx dX6_put_3 rfl rfl (by decide) ?_
  exact loop 10 0 0 v rfl (by omega) (by omega) (by have := uN_lt v; simpa using this) rfl
theorem c_X6_fault {g : GE} {l : Launch} {M : Mem} {σ : Sg} (hI : InvM M σ) : Ci g l μX6_fault [vR g 120] M (PM M (aQ σ (faultT σ.2.2.2))) := by
  refine Ci.of (by decide +kernel) rfl rfl (fun x hx hr => ?_)
  refine k_aload_n hx dX6_fault_0 0 rfl ?_
  refine k_vi (rest := []) hx vX6_146 dX6_fault_1 (c_X6_read hI.2.2.2.2) n_120 L_120 rfl rfl rfl ⟨rfl, rfl⟩ ⟨by decide, by decide⟩ (fun z_1 M_1 p_1 => ?_)
  refine k_ri hx hr dX6_fault_4 ?_
  exact ⟨p_1.1, hI.q p_1.2.1.q, p_1.2.1.q.lo⟩
theorem c_X6_load {g : GE} {l : Launch} {M : Mem} {σ : Sg} (hI : InvM M σ) {z : Int} (hzr : -2147483648 ≤ z ∧ z < 2147483648) : Ci g l μX6_load [vR g 120, vI z] M (PM M (aLoad σ z)) := by
  refine Ci.of (by decide +kernel) rfl rfl (fun x hx hr => ?_)
  have hfr : -6 ≤ faultT σ.2.2.2 ∧ faultT σ.2.2.2 ≤ 60 := by
    have h1 := fgo_rg σ.2.2.2 0 0 [] (by omega)
    have := hI.2.2.2.2.2.1
    unfold faultT; omega
  refine k_iload_n hx dX6_load_0 1 rfl ?_
  refine k_sp (rest := []) (e := (b2i (decide (0 ≤ z ∧ z ≤ 3)))) hx sX6_102 dX6_load_1 (c_X6_isRope (z := z) (by omega)) rfl rfl rfl ⟨rfl, rfl⟩ ⟨by decide, by decide⟩ ?_
  refine k_bne hx dX6_load_4 (fun h_4 => ?_) (fun h_4 => ?_)
  · have hz4 : 0 ≤ z ∧ z < 4 := by omega
    refine k_aload_n hx dX6_load_9 0 rfl ?_
    refine k_vi (rest := []) hx vX6_146 dX6_load_10 (c_X6_read hI.2.2.2.2) n_120 L_120 rfl rfl rfl ⟨rfl, rfl⟩ ⟨by decide, by decide⟩ (fun z_10 M_10 p_10 => ?_)
    obtain ⟨rfl, o1, hrd⟩ := p_10
    have hI1 := hI.q o1.q
    refine k_bipush hx dX6_load_13 (by decide +kernel) ?_
    refine k_icmp_eq hx dX6_load_15 (by omega) (fun h_15 => ?_) (fun h_15 => ?_)
    · obtain ⟨v, hd, hvt⟩ := hrd (by omega)
      have hd1 := hd.1
      refine k_aload_n hx dX6_load_21 0 rfl ?_
      refine k_get (v := vI (b2i (decide (120 < v.length)))) hx fX6_123 dX6_load_22 n_120 L_120 (congrArg vI (show M_10 120 15 = (b2i (decide (120 < v.length))) from hd.2.1)) ?_
      refine k_beq hx dX6_load_25 (fun h_25 => ?_) (fun h_25 => ?_)
      · refine k_aload_n hx dX6_load_31 0 rfl ?_
        refine k_vv (rest := []) hx vX6_99 dX6_load_32 (c_X6_record hI1.1 hI1.2.1) n_120 L_120 rfl rfl rfl ⟨rfl, rfl⟩ ⟨by decide, by decide⟩ (fun M_32 p_32 => ?_)
        have hI2 := hI1.rec p_32
        have hS2 : Fl M_32 121 0 σ.1 := hI2.1
        have hvl : v.length ≤ 120 := by omega
        obtain ⟨u, hu⟩ : ∃ u, u = textW σ.2.2.2 := ⟨_, rfl⟩
        have hvu : v = u := by rw [hu]; rcases hvt with h | h; exact h.1; omega
        subst hvu
        have hd2 : Td M_32 v := ⟨by rw [p_32.2.2 14 (by decide)]; exact hd.1, by rw [p_32.2.2 15 (by decide)]; exact hd.2.1, fun q q0 q1 => by rw [p_32.2.1 129 (by decide) (by decide)]; exact hd.2.2.1 q q0 q1, hd.2.2.2⟩
        refine k_iconst hx dX6_load_35 ?_
        refine k_istore_n (ls' := [(0, vR g 120), (1, vI z), (2, vI 0)]) hx dX6_load_36 rfl rfl (by decide) ?_
        have loop : ∀ (f : Nat) (k : Nat) (u : Int) (M' : Mem), u = k → k ≤ v.length → v.length - k < f → (∀ q : Int, 0 ≤ q → q < k → M' 121 (10 + 120 * z + q) = at0 v q) → (∀ q : Int, ¬ (10 + 120 * z ≤ q ∧ q < 10 + 120 * z + 120) → M' 121 q = M_32 121 q) → ON M_32 M' → K x g 0 0 LAY NN M' 37 [(0, vR g 120), (1, vI z), (2, vI u)] [] := by
          intro f
          induction f with
          | zero => intro k u M' huk hk hf hin hout ho; omega
          | succ f ih =>
            intro k u M' huk hk hf hin hout ho
            refine k_iload_n hx dX6_load_37 2 rfl ?_
            refine k_aload_n hx dX6_load_38 0 rfl ?_
            refine k_get (v := vI v.length) hx fX6_120 dX6_load_39 n_120 L_120 (congrArg vI (show M' 120 14 = v.length from by rw [ho 120 (by decide)]; exact hd2.1)) ?_
            refine k_icmp_ge hx dX6_load_42 (by omega) (fun h_42 => ?_) (fun h_42 => ?_)
            · refine k_aload_n hx dX6_load_71 0 rfl ?_
              refine k_get (v := vR g 121) hx fX6_7 dX6_load_72 n_120 L_120 rfl ?_
              refine k_bipush hx dX6_load_75 (by decide +kernel) ?_
              refine k_iload_n hx dX6_load_77 1 rfl ?_
              refine k_iadd hx dX6_load_78 ?_
              refine k_aload_n hx dX6_load_79 0 rfl ?_
              refine k_get (v := vI v.length) hx fX6_120 dX6_load_80 n_120 L_120 (congrArg vI (show M' 120 14 = v.length from by rw [ho 120 (by decide)]; exact hd2.1)) ?_
              refine k_iastN hx dX6_load_83 n_121 L_121 (by omega) (by decide) (fun M_83 hM_83 => ?_)
              refine k_aload_n hx dX6_load_84 0 rfl ?_
              refine k_iconst hx dX6_load_85 ?_
              refine k_putI (kz := 6) hx fX6_134 dX6_load_86 n_120 L_120 rfl rfl (fun M_86 hM_86 => ?_)
              refine k_aload_n hx dX6_load_89 0 rfl ?_
              refine k_get (v := vI v.length) hx fX6_120 dX6_load_90 n_120 L_120 (congrArg vI (show M_86 120 14 = v.length from by rw [hM_86, up_k (by decide), hM_83, up_i (by decide), ho 120 (by decide)]; exact hd2.1)) ?_
              refine k_ri hx hr dX6_load_93 ?_
              have hF : Fl M_83 121 0 (setR σ.1 z v) := hS2.wr hz4 hd.2.2.2.1 hvl (by rw [hM_83, up_s]) (fun q q0 q1 => by rw [hM_83, up_k (by omega)]; exact hin q q0 (by omega)) (fun q h1 h2 => by rw [hM_83, up_k h1]; exact hout q h2)
              have hI4 := hI2.set hF (fun a ha => by rw [hM_83, up_i ha]; exact ho a ha)
              have hal : aLoad σ z = ((v.length : Int), (setR σ.1 z v, (σ.1 :: σ.2.1).take 6, σ.2.2.1, [])) := by unfold aLoad; rw [if_pos hz4, if_pos (by omega), ← hu, if_neg (by omega)]
              rw [hal]
              refine ⟨rfl, InvM.pad hI4 (by rw [hM_86]; exact Pm.nil) (fun a h1 h2 => by rw [hM_86, up_i (by omega)]) (by rw [hM_86, up_k (by decide)]), fun a ha => by rw [hM_86, up_i (by omega), hM_83, up_i (by omega), ho a (by omega), p_32.2.1 a (by omega) (by omega)]; exact o1.q.lo a ha⟩
            · refine k_aload_n hx dX6_load_45 0 rfl ?_
              refine k_get (v := vR g 121) hx fX6_7 dX6_load_46 n_120 L_120 rfl ?_
              refine k_bipush hx dX6_load_49 (by decide +kernel) ?_
              refine k_bipush hx dX6_load_51 (by decide +kernel) ?_
              refine k_iload_n hx dX6_load_53 1 rfl ?_
              refine k_imul hx dX6_load_54 ?_
              refine k_iadd hx dX6_load_55 ?_
              refine k_iload_n hx dX6_load_56 2 rfl ?_
              refine k_iadd hx dX6_load_57 ?_
              refine k_aload_n hx dX6_load_58 0 rfl ?_
              refine k_get (v := vR g 129) hx fX6_35 dX6_load_59 n_120 L_120 rfl ?_
              refine k_iload_n hx dX6_load_62 2 rfl ?_
              refine k_iald (v := (at0 v u)) hx dX6_load_63 n_129 L_129 (by omega) (by decide) (by rw [ho 129 (by decide)]; exact hd2.at (by omega) (by omega)) ?_
              refine k_iastN hx dX6_load_64 n_121 L_121 (by omega) (by decide) (fun M_64 hM_64 => ?_)
              refine k_iinc (ls' := [(0, vR g 120), (1, vI z), (2, vI (u + 1))]) hx dX6_load_65 2 rfl rfl rfl (by decide) ?_
              refine k_goto hx dX6_load_68 ?_
              refine ih (k + 1) (u + 1) M_64 (by omega) (by omega) (by omega) (fun q q0 q1 => ?_) (fun q hq => by rw [hM_64, up_k (by omega)]; exact hout q hq) (fun a ha => by rw [hM_64, up_i ha]; exact ho a ha)
              rw [hM_64]
              by_cases hq : q = u
              · rw [hq, up_s]
              · rw [up_k (by omega)]; exact hin q q0 (by omega)
        exact loop (v.length + 1) 0 0 M_32 rfl (by omega) (by omega) (fun q h0 h1 => by omega) (fun q _ => rfl) (fun a _ => rfl)
      · refine k_bipush hx dX6_load_28 (by decide +kernel) ?_
        refine k_ri hx hr dX6_load_30 ?_
        exact ⟨by unfold aLoad; rw [if_pos hz4, if_pos (by omega), if_pos (by omega)], by unfold aLoad; rw [if_pos hz4, if_pos (by omega), if_pos (by omega)]; exact hI1, o1.q.lo⟩
    · refine k_bipush hx dX6_load_18 (by decide +kernel) ?_
      refine k_ri hx hr dX6_load_20 ?_
      exact ⟨by unfold aLoad; rw [if_pos hz4, if_neg (by omega)], by unfold aLoad; rw [if_pos hz4, if_neg (by omega)]; exact hI1, o1.q.lo⟩
  · refine k_iconst hx dX6_load_7 ?_
    refine k_ri hx hr dX6_load_8 ?_
    exact ⟨by unfold aLoad; rw [if_neg (by omega)], by unfold aLoad; rw [if_neg (by omega)]; exact hI, fun _ _ => rfl⟩

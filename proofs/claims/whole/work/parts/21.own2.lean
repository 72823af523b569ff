/-! the class's own methods: the pad, the slots, the questions -/
theorem Inv.pad {M M' : Mem} {A : Ab} {ps : List Ab} {sl : Option Ab × Option Ab} {t t' : List Int} (h : Inv M (A, ps, sl, t)) (ht : Pw M' t') (ho : ∀ a, a < 104 → M' a = M a) : Inv M' (A, ps, sl, t') := by
  obtain ⟨h1, h2, h3, h4, h5⟩ := h
  exact ⟨h1.same (fun a _ _ => ho a (by omega)), h2.same (fun a _ _ => ho a (by omega)), fun k hk => by rw [ho 103 (by omega)]; exact h3 k hk, fun k A hk hs => (h4 k A hk hs).same (fun a _ _ => ho a (by omega)), ht⟩
theorem Inv.scis {M M' : Mem} {σ : Sg} (h : Inv M σ) (ho : ∀ a, (a < 110 ∨ 114 ≤ a) → M' a = M a) : Inv M' σ := by
  obtain ⟨h1, h2, h3, h4, h5⟩ := h
  refine ⟨h1.same (fun a _ _ => ho a (by omega)), h2.same (fun a _ _ => ho a (by omega)), fun k hk => by rw [ho 103 (by omega)]; exact h3 k hk, fun k A hk hs => (h4 k A hk hs).same (fun a _ _ => ho a (by omega)), ?_⟩
  unfold Pw; rw [ho 104 (by omega), ho 105 (by omega)]; exact h5
theorem Pw.nil {M : Mem} : Pw (up M 104 1 0) [] := ⟨up_s, by decide, fun k h => by simp at h, fun c h => by cases h⟩
theorem chIn_le (n : Nat) : chIn n ≤ 8 := by have := chF_le 8 0 n; unfold chIn; omega
theorem fgo_rg : ∀ (w : List Int) (z sg : Int) (os : List (Int × Int × Int)), 0 ≤ z → -6 ≤ fgo w z sg os ∧ fgo w z sg os ≤ z + w.length
  | [], z, sg, os, h => by rw [fgo]; simp only [List.length_nil]; split <;> omega
  | c :: t, z, sg, os, h => by
    rw [fgo]
    split
    · simp only [List.length_cons]; omega
    · rename_i q _
      have := fgo_rg t (z + 1) q.1 q.2 (by omega)
      simp only [List.length_cons]; omega
theorem faultT_rg {M : Mem} {w : List Int} (h : Pw M w) : -6 ≤ faultT w ∧ faultT w ≤ 60 := by
  have h1 := fgo_rg w 0 0 [] (by omega)
  have := h.2.1
  unfold faultT; omega
def aPut (σ : Sg) (v : Int64) : Int × Sg := if chIn (uN v) = 0 then (-2, σ) else if 60 < σ.2.2.2.length + chIn (uN v) then (-4, σ) else ((σ.2.2.2.length + chIn (uN v) : Nat), (σ.1, σ.2.1, σ.2.2.1, σ.2.2.2 ++ chs (uN v) (chIn (uN v))))
def aWipe (σ : Sg) : Int × Sg := (σ.2.2.2.length, (σ.1, σ.2.1, σ.2.2.1, []))
def aLoad (σ : Sg) (z : Int) : Int × Sg := if 0 ≤ z ∧ z < 4 then (if faultT σ.2.2.2 = -6 then (if 120 < (textW σ.2.2.2).length then (-4, σ) else ((textW σ.2.2.2).length, (setR σ.1 z (textW σ.2.2.2), (σ.1 :: σ.2.1).take 6, σ.2.2.1, []))) else (-3, σ)) else (-1, σ)
def aQ (σ : Sg) (z : Int) : Int × Sg := (z, σ)
def qRope (z : Int) (y : Int) : Int := if 0 ≤ z ∧ z < 4 then y else -1
def aUndo (σ : Sg) : Int × Sg := match σ.2.1 with
  | [] => (-5, σ)
  | A :: ps => (ps.length, (A, ps, σ.2.2))
def setS (s : Option Ab × Option Ab) (k : Nat) (A : Ab) : Option Ab × Option Ab := if k = 0 then (some A, s.2) else (s.1, some A)
def aSave (σ : Sg) (z : Int) : Int × Sg := if 0 ≤ z ∧ z < 2 then (allC σ.1, (σ.1, σ.2.1, setS σ.2.2.1 z.toNat σ.1, σ.2.2.2)) else (-2, σ)
def aRestore (σ : Sg) (z : Int) : Int × Sg := if 0 ≤ z ∧ z < 2 then (match slo σ z.toNat with
  | none => (-5, σ)
  | some A => (allC A, (A, rcd σ))) else (-2, σ)
theorem isSlot_S {z : Int} (h : 0 ≤ z ∧ z < 2) : IsS (81 + 11 * z.toNat) := by
  rcases (show z = 0 ∨ z = 1 by omega) with rfl | rfl
  · exact isS_81
  · exact isS_92
theorem slot_at {z : Int} (h : 0 ≤ z ∧ z < 2) : ([some 81, some 92] : List (Option Nat)).getD z.toNat none = some (81 + 11 * z.toNat) := by
  rcases (show z = 0 ∨ z = 1 by omega) with rfl | rfl <;> rfl

theorem c_X5_put {g : GE} {l : Launch} {M : Mem} {σ : Sg} (hI : Inv M σ) {v : Int64} : Ci g l μX5_put [vR g 0, .long v] M (PO M (aPut σ v)) := by
  refine Ci.of (by decide +kernel) rfl rfl (fun x hx hr => ?_)
  have hc8 := chIn_le (uN v)
  have hp := hI.2.2.2.2
  have hp60 := hp.2.1
  refine k_lload_n hx dX5_put_0 1 rfl ?_
  refine k_sp (rest := []) (e := (chIn (uN v) : Nat)) hx sX5_122 dX5_put_1 c_X0_charactersIn rfl rfl rfl ⟨rfl, rfl⟩ ⟨by decide, by decide⟩ ?_
  refine k_istore_n (ls' := [(0, vR g 0), (1, .long v), (3, vI (chIn (uN v) : Nat))]) hx dX5_put_4 rfl rfl (by decide) ?_
  refine k_iload_n hx dX5_put_5 2 rfl ?_
  refine k_ifne hx dX5_put_6 (by omega) (fun h_6 => ?_) (fun h_6 => ?_)
  · refine k_aload_n hx dX5_put_12 0 rfl ?_
    refine k_get (v := vR g 104) hx fX5_34 dX5_put_13 n_0 L_0 rfl ?_
    refine k_get (v := vI σ.2.2.2.length) hx fX5_126 dX5_put_16 n_104 L_104 (congrArg vI (show M 104 1 = σ.2.2.2.length from hp.1)) ?_
    refine k_iload_n hx dX5_put_19 2 rfl ?_
    refine k_iadd hx dX5_put_20 ?_
    refine k_bipush hx dX5_put_21 (by decide +kernel) ?_
    refine k_icmp_le hx dX5_put_23 (by omega) (fun h_23 => ?_) (fun h_23 => ?_)
    · refine k_aload_n hx dX5_put_29 0 rfl ?_
      refine k_get (v := vR g 104) hx fX5_34 dX5_put_30 n_0 L_0 rfl ?_
      refine k_lload_n hx dX5_put_33 1 rfl ?_
      refine k_iload_n hx dX5_put_34 2 rfl ?_
      refine k_vv (rest := []) hx vX5_127 dX5_put_35 (c_X0_append hp (v := v) (m := chIn (uN v)) rfl (by omega) (by omega)) n_104 L_104 rfl rfl rfl ⟨rfl, rfl⟩ ⟨by decide, by decide⟩ (fun M_35 p_35 => ?_)
      obtain ⟨q1, q2, -⟩ := p_35
      have q3 := q1.1
      rw [List.length_append, chs_len] at q3
      refine k_aload_n hx dX5_put_38 0 rfl ?_
      refine k_get (v := vR g 104) hx fX5_34 dX5_put_39 n_0 L_0 rfl ?_
      refine k_get (v := vI (σ.2.2.2.length + chIn (uN v) : Nat)) hx fX5_126 dX5_put_42 n_104 L_104 (congrArg vI (show M_35 104 1 = (σ.2.2.2.length + chIn (uN v) : Nat) from q3)) ?_
      refine k_ri hx hr dX5_put_45 ?_
      refine ⟨by unfold aPut; rw [if_neg (by omega), if_neg (by omega)], ?_, fun a ha => q2 a (by omega) (by omega)⟩
      unfold aPut
      rw [if_neg (by omega), if_neg (by omega)]
      exact Inv.pad hI q1 (fun a ha => q2 a (by omega) (by omega))
    · refine k_bipush hx dX5_put_26 (by decide +kernel) ?_
      refine k_ri hx hr dX5_put_28 ?_
      exact ⟨by unfold aPut; rw [if_neg (by omega), if_pos (by omega)], by unfold aPut; rw [if_neg (by omega), if_pos (by omega)]; exact hI, fun _ _ => rfl⟩
  · refine k_bipush hx dX5_put_9 (by decide +kernel) ?_
    refine k_ri hx hr dX5_put_11 ?_
    exact ⟨by unfold aPut; rw [if_pos (by omega)], by unfold aPut; rw [if_pos (by omega)]; exact hI, fun _ _ => rfl⟩
theorem c_X5_wipe {g : GE} {l : Launch} {M : Mem} {σ : Sg} (hI : Inv M σ) : Ci g l μX5_wipe [vR g 0] M (PO M (aWipe σ)) := by
  refine Ci.of (by decide +kernel) rfl rfl (fun x hx hr => ?_)
  refine k_aload_n hx dX5_wipe_0 0 rfl ?_
  refine k_get (v := vR g 104) hx fX5_34 dX5_wipe_1 n_0 L_0 rfl ?_
  refine k_get (v := vI σ.2.2.2.length) hx fX5_126 dX5_wipe_4 n_104 L_104 (congrArg vI (show M 104 1 = σ.2.2.2.length from hI.2.2.2.2.1)) ?_
  refine k_istore_n (ls' := [(0, vR g 0), (1, vI σ.2.2.2.length)]) hx dX5_wipe_7 rfl rfl (by decide) ?_
  refine k_aload_n hx dX5_wipe_8 0 rfl ?_
  refine k_get (v := vR g 104) hx fX5_34 dX5_wipe_9 n_0 L_0 rfl ?_
  refine k_vv (rest := []) hx vX5_131 dX5_wipe_12 c_X0_clear n_104 L_104 rfl rfl rfl ⟨rfl, rfl⟩ ⟨by decide, by decide⟩ (fun M_12 p_12 => ?_)
  refine k_iload_n hx dX5_wipe_15 1 rfl ?_
  refine k_ri hx hr dX5_wipe_16 ?_
  subst p_12
  exact ⟨rfl, Inv.pad hI Pw.nil (fun a ha => up_i (by omega)), fun a ha => up_i (by omega)⟩
theorem c_X5_fault {g : GE} {l : Launch} {M : Mem} {σ : Sg} (hI : Inv M σ) : Ci g l μX5_fault [vR g 0] M (PO M (aQ σ (faultT σ.2.2.2))) := by
  refine Ci.of (by decide +kernel) rfl rfl (fun x hx hr => ?_)
  refine k_aload_n hx dX5_fault_0 0 rfl ?_
  refine k_get (v := vR g 104) hx fX5_34 dX5_fault_1 n_0 L_0 rfl ?_
  refine k_vi (rest := []) hx vX5_132 dX5_fault_4 (c_X0_findFault hI.2.2.2.2) n_104 L_104 rfl rfl rfl ⟨rfl, rfl⟩ ⟨by decide, by decide⟩ (fun z_4 M_4 p_4 => ?_)
  refine k_ri hx hr dX5_fault_7 ?_
  exact ⟨p_4.1, Inv.pad hI (hI.2.2.2.2.off p_4.2) (fun a ha => p_4.2.1 a (by omega) (by omega) (by omega) (by omega)), fun a ha => p_4.2.1 a (by omega) (by omega) (by omega) (by omega)⟩
theorem c_X5_load {g : GE} {l : Launch} {M : Mem} {σ : Sg} (hI : Inv M σ) {z : Int} (hzr : -2147483648 ≤ z ∧ z < 2147483648) : Ci g l μX5_load [vR g 0, vI z] M (PO M (aLoad σ z)) := by
  refine Ci.of (by decide +kernel) rfl rfl (fun x hx hr => ?_)
  have hp := hI.2.2.2.2
  have hfr := faultT_rg hp
  refine k_iload_n hx dX5_load_0 1 rfl ?_
  refine k_sp (rest := []) (e := (b2i (decide (0 ≤ z ∧ z < 4)))) hx sX5_72 dX5_load_1 (c_X5_isRope (z := z) (by omega)) rfl rfl rfl ⟨rfl, rfl⟩ ⟨by decide, by decide⟩ ?_
  refine k_bne hx dX5_load_4 (fun h_4 => ?_) (fun h_4 => ?_)
  · refine k_aload_n hx dX5_load_9 0 rfl ?_
    refine k_get (v := vR g 104) hx fX5_34 dX5_load_10 n_0 L_0 rfl ?_
    refine k_vi (rest := []) hx vX5_132 dX5_load_13 (c_X0_findFault hp) n_104 L_104 rfl rfl rfl ⟨rfl, rfl⟩ ⟨by decide, by decide⟩ (fun z_13 M_13 p_13 => ?_)
    obtain ⟨rfl, o1⟩ := p_13
    have hI1 : Inv M_13 σ := Inv.pad hI (hp.off o1) (fun a ha => o1.1 a (by omega) (by omega) (by omega) (by omega))
    have hm1 : ∀ a, 120 ≤ a → M_13 a = M a := fun a ha => o1.1 a (by omega) (by omega) (by omega) (by omega)
    refine k_bipush hx dX5_load_16 (by decide +kernel) ?_
    refine k_icmp_eq hx dX5_load_18 (by omega) (fun h_18 => ?_) (fun h_18 => ?_)
    · refine k_aload_n hx dX5_load_24 0 rfl ?_
      refine k_get (v := vR g 104) hx fX5_34 dX5_load_25 n_0 L_0 rfl ?_
      refine k_aload_n hx dX5_load_28 0 rfl ?_
      refine k_get (v := vR g 114) hx fX5_50 dX5_load_29 n_0 L_0 rfl ?_
      refine k_vi (rest := []) hx vX5_135 dX5_load_32 (c_X0_readInto hI1.2.2.2.2 (by omega)) n_104 L_104 rfl rfl rfl ⟨rfl, rfl⟩ ⟨by decide, by decide⟩ (fun z_32 M_32 p_32 => ?_)
      obtain ⟨o2, q⟩ := p_32
      have hI2 : Inv M_32 σ := Inv.pad hI1 (hI1.2.2.2.2.offR o2) (fun a ha => o2.1 a (by omega) (by omega) (by omega) (by omega) (by omega) (by omega))
      have hm2 : ∀ a, 120 ≤ a → M_32 a = M a := fun a ha => (o2.1 a (by omega) (by omega) (by omega) (by omega) (by omega) (by omega)).trans (hm1 a ha)
      refine k_ifeq hx dX5_load_35 (by omega) (fun h_35 => ?_) (fun h_35 => ?_)
      · have hlong : 480 < (textW σ.2.2.2).length := by omega
        refine k_bipush hx dX5_load_50 (by decide +kernel) ?_
        refine k_ri hx hr dX5_load_52 ?_
        exact ⟨by unfold aLoad; rw [if_pos h_4, if_pos (by omega), if_pos (by omega)], by unfold aLoad; rw [if_pos h_4, if_pos (by omega), if_pos (by omega)]; exact hI2, hm2⟩
      · have q1 : (textW σ.2.2.2).length ≤ 480 := by omega
        have q2 : Wd M_32 114 (textW σ.2.2.2) := by
          rcases q with q | q
          · exact q.2.2
          · omega
        refine k_aload_n hx dX5_load_38 0 rfl ?_
        refine k_get (v := vR g 114) hx fX5_50 dX5_load_39 n_0 L_0 rfl ?_
        refine k_get (v := vI ((textW σ.2.2.2).length)) hx fX5_79 dX5_load_42 n_114 L_114 (congrArg vI (show M_32 114 1 = ((textW σ.2.2.2).length) from q2.1)) ?_
        refine k_bipush hx dX5_load_45 (by decide +kernel) ?_
        refine k_icmp_le hx dX5_load_47 (by omega) (fun h_47 => ?_) (fun h_47 => ?_)
        · refine k_aload_n hx dX5_load_53 0 rfl ?_
          refine k_get (v := vR g 12) hx fX5_19 dX5_load_54 n_0 L_0 rfl ?_
          refine k_aload_n hx dX5_load_57 0 rfl ?_
          refine k_get (v := vR g 1) hx fX5_12 dX5_load_58 n_0 L_0 rfl ?_
          refine k_vv (rest := []) hx vX5_64 dX5_load_61 (c_X1_remember hI2.2.1 hI2.1) n_12 L_12 rfl rfl rfl ⟨rfl, rfl⟩ ⟨by decide, by decide⟩ (fun M_61 p_61 => ?_)
          have hI3 := hI2.rec p_61
          have hS3 : Sd M_61 1 σ.1 := hI3.1
          have w3 := q2.same (p_61.2 114 (by omega)) (p_61.2 115 (by omega))
          refine k_aload_n hx dX5_load_64 0 rfl ?_
          refine k_get (v := vR g 1) hx fX5_12 dX5_load_65 n_0 L_0 rfl ?_
          refine k_get (v := vR g 3) hx fX5_75 dX5_load_68 n_1 L_1 rfl ?_
          refine k_iload_n hx dX5_load_71 1 rfl ?_
          refine k_aald (q := (4 + 2 * z.toNat)) hx dX5_load_72 n_3 L_3 (by decide) (by simp only [List.length_cons, List.length_nil]; omega) (by decide) (rope_at h_4) ?_
          refine k_aload_n hx dX5_load_73 0 rfl ?_
          refine k_get (v := vR g 114) hx fX5_50 dX5_load_74 n_0 L_0 rfl ?_
          refine k_vv (rest := []) hx vX5_106 dX5_load_77 (c_X4_copyFrom (isS1w h_4) isW_114 w3 (by omega) (by omega) (by omega)) (isS1w h_4).2.2.1 (isS1w h_4).1 rfl rfl rfl ⟨rfl, rfl⟩ ⟨by decide, by decide⟩ (fun M_77 p_77 => ?_)
          obtain ⟨q3, q4⟩ := p_77
          have hI4 := hI3.set (hS3.setR h_4 q3 q4 (by omega)) (fun a h1 h2 => q4 a (by omega) (by omega))
          refine k_aload_n hx dX5_load_80 0 rfl ?_
          refine k_get (v := vR g 104) hx fX5_34 dX5_load_81 n_0 L_0 rfl ?_
          refine k_vv (rest := []) hx vX5_131 dX5_load_84 c_X0_clear n_104 L_104 rfl rfl rfl ⟨rfl, rfl⟩ ⟨by decide, by decide⟩ (fun M_84 p_84 => ?_)
          refine k_aload_n hx dX5_load_87 0 rfl ?_
          refine k_get (v := vR g 1) hx fX5_12 dX5_load_88 n_0 L_0 rfl ?_
          refine k_get (v := vR g 3) hx fX5_75 dX5_load_91 n_1 L_1 rfl ?_
          refine k_iload_n hx dX5_load_94 1 rfl ?_
          refine k_aald (q := (4 + 2 * z.toNat)) hx dX5_load_95 n_3 L_3 (by decide) (by simp only [List.length_cons, List.length_nil]; omega) (by decide) (rope_at h_4) ?_
          refine k_get (v := vI ((textW σ.2.2.2).length)) hx fX5_79 dX5_load_96 (isS1w h_4).2.2.1 (isS1w h_4).1 (congrArg vI (show M_84 (4 + 2 * z.toNat) 1 = ((textW σ.2.2.2).length) from by rw [p_84, up_i (by omega)]; exact q3.1)) ?_
          refine k_ri hx hr dX5_load_99 ?_
          subst p_84
          refine ⟨by unfold aLoad; rw [if_pos h_4, if_pos (by omega), if_neg (by omega)], ?_, fun a ha => by rw [up_i (by omega), q4 a (by omega) (by omega), p_61.2 a (by omega)]; exact hm2 a ha⟩
          unfold aLoad
          rw [if_pos h_4, if_pos (by omega), if_neg (by omega)]
          exact Inv.pad hI4 Pw.nil (fun a ha => up_i (by omega))
        · refine k_bipush hx dX5_load_50 (by decide +kernel) ?_
          refine k_ri hx hr dX5_load_52 ?_
          exact ⟨by unfold aLoad; rw [if_pos h_4, if_pos (by omega), if_pos (by omega)], by unfold aLoad; rw [if_pos h_4, if_pos (by omega), if_pos (by omega)]; exact hI2, hm2⟩
    · refine k_bipush hx dX5_load_21 (by decide +kernel) ?_
      refine k_ri hx hr dX5_load_23 ?_
      exact ⟨by unfold aLoad; rw [if_pos h_4, if_neg h_18], by unfold aLoad; rw [if_pos h_4, if_neg h_18]; exact hI1, hm1⟩
  · refine k_iconst hx dX5_load_7 ?_
    refine k_ri hx hr dX5_load_8 ?_
    exact ⟨by unfold aLoad; rw [if_neg h_4], by unfold aLoad; rw [if_neg h_4]; exact hI, fun _ _ => rfl⟩
theorem c_X5_crossing {g : GE} {l : Launch} {M : Mem} {σ : Sg} (hI : Inv M σ) {z : Int} (hzr : -2147483648 ≤ z ∧ z < 2147483648) {k : Int} (hkr : -2147483648 ≤ k ∧ k < 2147483648) : Ci g l μX5_crossing [vR g 0, vI z, vI k] M (PO M (aQ σ (qRope z (at0 (rope σ.1 z) k)))) := by
  refine Ci.of (by decide +kernel) rfl rfl (fun x hx hr => ?_)
  refine k_iload_n hx dX5_crossing_0 1 rfl ?_
  refine k_sp (rest := []) (e := (b2i (decide (0 ≤ z ∧ z < 4)))) hx sX5_72 dX5_crossing_1 (c_X5_isRope (z := z) (by omega)) rfl rfl rfl ⟨rfl, rfl⟩ ⟨by decide, by decide⟩ ?_
  refine k_bne hx dX5_crossing_4 (fun h_4 => ?_) (fun h_4 => ?_)
  · refine k_aload_n hx dX5_crossing_9 0 rfl ?_
    refine k_get (v := vR g 1) hx fX5_12 dX5_crossing_10 n_0 L_0 rfl ?_
    refine k_get (v := vR g 3) hx fX5_75 dX5_crossing_13 n_1 L_1 rfl ?_
    refine k_iload_n hx dX5_crossing_16 1 rfl ?_
    obtain ⟨hv, hvl⟩ := hI.1.rope h_4
    refine k_aald (q := (4 + 2 * z.toNat)) hx dX5_crossing_17 n_3 L_3 (by decide) (by simp only [List.length_cons, List.length_nil]; omega) (by decide) (rope_at h_4) ?_
    refine k_iload_n hx dX5_crossing_18 2 rfl ?_
    refine k_sp (rest := []) (e := (at0 (rope σ.1 z) k)) hx sX5_139 dX5_crossing_19 (c_X5_crossingOrNoSuch (isS1w h_4) hv hvl hkr) rfl rfl rfl ⟨rfl, rfl⟩ ⟨by decide, by decide⟩ ?_
    refine k_ri hx hr dX5_crossing_22 ?_
    exact ⟨by unfold aQ qRope; rw [if_pos h_4], hI, fun _ _ => rfl⟩
  · refine k_iconst hx dX5_crossing_7 ?_
    refine k_ri hx hr dX5_crossing_8 ?_
    exact ⟨by unfold aQ qRope; rw [if_neg h_4], hI, fun _ _ => rfl⟩
theorem c_X5_least {g : GE} {l : Launch} {M : Mem} {σ : Sg} (hI : Inv M σ) {z : Int} (hzr : -2147483648 ≤ z ∧ z < 2147483648) {k : Int} (hkr : -2147483648 ≤ k ∧ k < 2147483648) : Ci g l μX5_least [vR g 0, vI z, vI k] M (PO M (aQ σ (qRope z (at0 (lst (rope σ.1 z)) k)))) := by
  refine Ci.of (by decide +kernel) rfl rfl (fun x hx hr => ?_)
  refine k_iload_n hx dX5_least_0 1 rfl ?_
  refine k_sp (rest := []) (e := (b2i (decide (0 ≤ z ∧ z < 4)))) hx sX5_72 dX5_least_1 (c_X5_isRope (z := z) (by omega)) rfl rfl rfl ⟨rfl, rfl⟩ ⟨by decide, by decide⟩ ?_
  refine k_bne hx dX5_least_4 (fun h_4 => ?_) (fun h_4 => ?_)
  · refine k_aload_n hx dX5_least_9 0 rfl ?_
    refine k_aload_n hx dX5_least_10 0 rfl ?_
    refine k_get (v := vR g 1) hx fX5_12 dX5_least_11 n_0 L_0 rfl ?_
    refine k_get (v := vR g 3) hx fX5_75 dX5_least_14 n_1 L_1 rfl ?_
    refine k_iload_n hx dX5_least_17 1 rfl ?_
    obtain ⟨hv, hvl⟩ := hI.1.rope h_4
    have hll := lst_len (rope σ.1 z)
    refine k_aald (q := (4 + 2 * z.toNat)) hx dX5_least_18 n_3 L_3 (by decide) (by simp only [List.length_cons, List.length_nil]; omega) (by decide) (rope_at h_4) ?_
    refine k_aload_n hx dX5_least_19 0 rfl ?_
    refine k_get (v := vR g 114) hx fX5_50 dX5_least_20 n_0 L_0 rfl ?_
    refine k_vv (rest := []) hx vX5_174 dX5_least_23 (c_X5_layLeast (isS1w h_4) hv hvl (by omega) (k := 114) (Or.inl rfl)) n_0 L_0 rfl rfl rfl ⟨rfl, rfl⟩ ⟨by decide, by decide⟩ (fun M_23 p_23 => ?_)
    obtain ⟨q1, q2⟩ := p_23
    refine k_aload_n hx dX5_least_26 0 rfl ?_
    refine k_get (v := vR g 114) hx fX5_50 dX5_least_27 n_0 L_0 rfl ?_
    refine k_iload_n hx dX5_least_30 2 rfl ?_
    refine k_sp (rest := []) (e := (at0 (lst (rope σ.1 z)) k)) hx sX5_139 dX5_least_31 (c_X5_crossingOrNoSuch isW_114 q1 (by omega) hkr) rfl rfl rfl ⟨rfl, rfl⟩ ⟨by decide, by decide⟩ ?_
    refine k_ri hx hr dX5_least_34 ?_
    exact ⟨by unfold aQ qRope; rw [if_pos h_4], hI.same (fun a ha => q2 a (by omega) (by omega) (by omega) (by omega)), fun a ha => q2 a (by omega) (by omega) (by omega) (by omega)⟩
  · refine k_iconst hx dX5_least_7 ?_
    refine k_ri hx hr dX5_least_8 ?_
    exact ⟨by unfold aQ qRope; rw [if_neg h_4], hI, fun _ _ => rfl⟩
theorem c_X5_cuts {g : GE} {l : Launch} {M : Mem} {σ : Sg} (hI : Inv M σ) {z : Int} (hzr : -2147483648 ≤ z ∧ z < 2147483648) : Ci g l μX5_cuts [vR g 0, vI z] M (PO M (aQ σ (qRope z ((red (rope σ.1 z)).length - Mx (red (rope σ.1 z)))))) := by
  refine Ci.of (by decide +kernel) rfl rfl (fun x hx hr => ?_)
  refine k_iload_n hx dX5_cuts_0 1 rfl ?_
  refine k_sp (rest := []) (e := (b2i (decide (0 ≤ z ∧ z < 4)))) hx sX5_72 dX5_cuts_1 (c_X5_isRope (z := z) (by omega)) rfl rfl rfl ⟨rfl, rfl⟩ ⟨by decide, by decide⟩ ?_
  refine k_bne hx dX5_cuts_4 (fun h_4 => ?_) (fun h_4 => ?_)
  · refine k_aload_n hx dX5_cuts_9 0 rfl ?_
    refine k_aload_n hx dX5_cuts_10 0 rfl ?_
    refine k_get (v := vR g 1) hx fX5_12 dX5_cuts_11 n_0 L_0 rfl ?_
    refine k_get (v := vR g 3) hx fX5_75 dX5_cuts_14 n_1 L_1 rfl ?_
    refine k_iload_n hx dX5_cuts_17 1 rfl ?_
    obtain ⟨hv, hvl⟩ := hI.1.rope h_4
    have hll := red_len_le (rope σ.1 z)
    refine k_aald (q := (4 + 2 * z.toNat)) hx dX5_cuts_18 n_3 L_3 (by decide) (by simp only [List.length_cons, List.length_nil]; omega) (by decide) (rope_at h_4) ?_
    refine k_vv (rest := []) hx vX5_147 dX5_cuts_19 (c_X5_layPulled (isS1w h_4) hv hvl (by omega)) n_0 L_0 rfl rfl rfl ⟨rfl, rfl⟩ ⟨by decide, by decide⟩ (fun M_19 p_19 => ?_)
    obtain ⟨q1, q2⟩ := p_19
    refine k_aload_n hx dX5_cuts_22 0 rfl ?_
    refine k_get (v := vR g 109) hx fX5_41 dX5_cuts_23 n_0 L_0 rfl ?_
    refine k_aload_n hx dX5_cuts_26 0 rfl ?_
    refine k_get (v := vR g 114) hx fX5_50 dX5_cuts_27 n_0 L_0 rfl ?_
    refine k_vi (rest := []) hx vX5_200 dX5_cuts_30 (c_X2_fewestCuts q1 (by omega)) n_109 L_109 rfl rfl rfl ⟨rfl, rfl⟩ ⟨by decide, by decide⟩ (fun z_30 M_30 p_30 => ?_)
    obtain ⟨q3, q4⟩ := p_30
    refine k_ri hx hr dX5_cuts_33 ?_
    exact ⟨by unfold aQ qRope; rw [if_pos h_4]; exact q3, Inv.scis (hI.same (fun a ha => q2 a (by omega) (by omega))) (fun a ha => q4 a (by omega)), fun a ha => (q4 a (by omega)).trans (q2 a (by omega) (by omega))⟩
  · refine k_iconst hx dX5_cuts_7 ?_
    refine k_ri hx hr dX5_cuts_8 ?_
    exact ⟨by unfold aQ qRope; rw [if_neg h_4], hI, fun _ _ => rfl⟩
theorem c_X5_falls {g : GE} {l : Launch} {M : Mem} {σ : Sg} (hI : Inv M σ) {z : Int} (hzr : -2147483648 ≤ z ∧ z < 2147483648) {S : Int} (hSr : -2147483648 ≤ S ∧ S < 2147483648) : Ci g l μX5_falls [vR g 0, vI z, vI S] M (PO M (aQ σ (if (0 ≤ z ∧ z < 4) ∧ (0 ≤ S ∧ S < 64) then b2i (decide (wF S (rope σ.1 z) = [])) else -1))) := by
  refine Ci.of (by decide +kernel) rfl rfl (fun x hx hr => ?_)
  refine k_iload_n hx dX5_falls_0 1 rfl ?_
  refine k_sp (rest := []) (e := (b2i (decide (0 ≤ z ∧ z < 4)))) hx sX5_72 dX5_falls_1 (c_X5_isRope (z := z) (by omega)) rfl rfl rfl ⟨rfl, rfl⟩ ⟨by decide, by decide⟩ ?_
  refine k_beq hx dX5_falls_4 (fun h_4 => ?_) (fun h_4 => ?_)
  · refine k_iconst hx dX5_falls_17 ?_
    refine k_ri hx hr dX5_falls_18 ?_
    exact ⟨by unfold aQ; rw [if_neg (by omega)], hI, fun _ _ => rfl⟩
  · refine k_iload_n hx dX5_falls_7 2 rfl ?_
    refine k_iflt hx dX5_falls_8 (by omega) (fun h_8 => ?_) (fun h_8 => ?_)
    · refine k_iconst hx dX5_falls_17 ?_
      refine k_ri hx hr dX5_falls_18 ?_
      exact ⟨by unfold aQ; rw [if_neg (by omega)], hI, fun _ _ => rfl⟩
    · refine k_iload_n hx dX5_falls_11 2 rfl ?_
      refine k_bipush hx dX5_falls_12 (by decide +kernel) ?_
      refine k_icmp_lt hx dX5_falls_14 (by omega) (fun h_14 => ?_) (fun h_14 => ?_)
      · refine k_aload_n hx dX5_falls_19 0 rfl ?_
        refine k_aload_n hx dX5_falls_20 0 rfl ?_
        refine k_get (v := vR g 1) hx fX5_12 dX5_falls_21 n_0 L_0 rfl ?_
        refine k_get (v := vR g 3) hx fX5_75 dX5_falls_24 n_1 L_1 rfl ?_
        refine k_iload_n hx dX5_falls_27 1 rfl ?_
        obtain ⟨hv, hvl⟩ := hI.1.rope h_4
        refine k_aald (q := (4 + 2 * z.toNat)) hx dX5_falls_28 n_3 L_3 (by decide) (by simp only [List.length_cons, List.length_nil]; omega) (by decide) (rope_at h_4) ?_
        refine k_iload_n hx dX5_falls_29 2 rfl ?_
        refine k_vi (rest := []) hx vX5_162 dX5_falls_30 (c_X5_fallsWithout (isS1w h_4) hv hvl (by omega) (S := S) (by omega)) n_0 L_0 rfl rfl rfl ⟨rfl, rfl⟩ ⟨by decide, by decide⟩ (fun z_30 M_30 p_30 => ?_)
        obtain ⟨rfl, q2⟩ := p_30
        refine k_sp (rest := []) (e := (b2i (decide (wF S (rope σ.1 z) = [])))) hx sX5_166 dX5_falls_33 (c_X5_oneIf (b := (decide (wF S (rope σ.1 z) = [])))) rfl rfl rfl ⟨rfl, rfl⟩ ⟨by decide, by decide⟩ ?_
        refine k_ri hx hr dX5_falls_36 ?_
        exact ⟨by unfold aQ; rw [if_pos (by omega)], hI.same (fun a ha => q2 a (by omega) (by omega)), fun a ha => q2 a (by omega) (by omega)⟩
      · refine k_iconst hx dX5_falls_17 ?_
        refine k_ri hx hr dX5_falls_18 ?_
        exact ⟨by unfold aQ; rw [if_neg (by omega)], hI, fun _ _ => rfl⟩
theorem c_X5_winds {g : GE} {l : Launch} {M : Mem} {σ : Sg} (hI : Inv M σ) {z : Int} (hzr : -2147483648 ≤ z ∧ z < 2147483648) {p : Int} (hpr : -2147483648 ≤ p ∧ p < 2147483648) : Ci g l μX5_winds [vR g 0, vI z, vI p] M (PO M (aQ σ (if (0 ≤ z ∧ z < 4) ∧ (0 ≤ p ∧ p < 6) then 1000 + wnd (rope σ.1 z) p else -1))) := by
  refine Ci.of (by decide +kernel) rfl rfl (fun x hx hr => ?_)
  refine k_iload_n hx dX5_winds_0 1 rfl ?_
  refine k_sp (rest := []) (e := (b2i (decide (0 ≤ z ∧ z < 4)))) hx sX5_72 dX5_winds_1 (c_X5_isRope (z := z) (by omega)) rfl rfl rfl ⟨rfl, rfl⟩ ⟨by decide, by decide⟩ ?_
  refine k_beq hx dX5_winds_4 (fun h_4 => ?_) (fun h_4 => ?_)
  · refine k_iconst hx dX5_winds_14 ?_
    refine k_ri hx hr dX5_winds_15 ?_
    exact ⟨by unfold aQ; rw [if_neg (by omega)], hI, fun _ _ => rfl⟩
  · refine k_iload_n hx dX5_winds_7 2 rfl ?_
    refine k_sp (rest := []) (e := (b2i (decide (0 ≤ p ∧ p < 6)))) hx sX5_60 dX5_winds_8 (c_X5_isPost (z := p) (by omega)) rfl rfl rfl ⟨rfl, rfl⟩ ⟨by decide, by decide⟩ ?_
    refine k_bne hx dX5_winds_11 (fun h_11 => ?_) (fun h_11 => ?_)
    · refine k_sipush hx dX5_winds_16 (by decide +kernel) ?_
      refine k_aload_n hx dX5_winds_19 0 rfl ?_
      refine k_get (v := vR g 1) hx fX5_12 dX5_winds_20 n_0 L_0 rfl ?_
      refine k_get (v := vR g 3) hx fX5_75 dX5_winds_23 n_1 L_1 rfl ?_
      refine k_iload_n hx dX5_winds_26 1 rfl ?_
      obtain ⟨hv, hvl⟩ := hI.1.rope h_4
      refine k_aald (q := (4 + 2 * z.toNat)) hx dX5_winds_27 n_3 L_3 (by decide) (by simp only [List.length_cons, List.length_nil]; omega) (by decide) (rope_at h_4) ?_
      refine k_iload_n hx dX5_winds_28 2 rfl ?_
      refine k_vp (rest := [vI 1000]) (e := (wnd (rope σ.1 z) p)) hx vX5_170 dX5_winds_29 (c_X4_windings (isS1w h_4) hv hvl (p := p) (by omega)) (isS1w h_4).2.2.1 (isS1w h_4).1 rfl rfl rfl ⟨rfl, rfl⟩ ⟨by decide, by decide⟩ ?_
      refine k_iadd hx dX5_winds_32 ?_
      refine k_ri hx hr dX5_winds_33 ?_
      exact ⟨by unfold aQ; rw [if_pos (by omega)], hI, fun _ _ => rfl⟩
    · refine k_iconst hx dX5_winds_14 ?_
      refine k_ri hx hr dX5_winds_15 ?_
      exact ⟨by unfold aQ; rw [if_neg (by omega)], hI, fun _ _ => rfl⟩
theorem c_X5_ifSwapped {g : GE} {l : Launch} {M : Mem} {σ : Sg} (hI : Inv M σ) {p b : Int} (hpr : -2147483648 ≤ p ∧ p < 2147483648) (hbr : -2147483648 ≤ b ∧ b < 2147483648) : Ci g l μX5_ifSwapped [vR g 0, vI p, vI b] M (PO M (aQ σ (if 0 ≤ p ∧ p < 5 then (if 0 ≤ b ∧ b < 2 then csw σ.1 p b else -2) else -1))) := by
  refine Ci.of (by decide +kernel) rfl rfl (fun x hx hr => ?_)
  refine k_iload_n hx dX5_ifSwapped_0 1 rfl ?_
  refine k_sp (rest := []) (e := (b2i (decide (0 ≤ p ∧ p < 5)))) hx sX5_109 dX5_ifSwapped_1 (c_X5_isSwap (z := p) (by omega)) rfl rfl rfl ⟨rfl, rfl⟩ ⟨by decide, by decide⟩ ?_
  refine k_bne hx dX5_ifSwapped_4 (fun h_4 => ?_) (fun h_4 => ?_)
  · refine k_iload_n hx dX5_ifSwapped_9 2 rfl ?_
    refine k_sp (rest := []) (e := (b2i (decide (0 ≤ b ∧ b < 2)))) hx sX5_112 dX5_ifSwapped_10 (c_X5_isBack (z := b) (by omega)) rfl rfl rfl ⟨rfl, rfl⟩ ⟨by decide, by decide⟩ ?_
    refine k_bne hx dX5_ifSwapped_13 (fun h_13 => ?_) (fun h_13 => ?_)
    · refine k_aload_n hx dX5_ifSwapped_19 0 rfl ?_
      refine k_iload_n hx dX5_ifSwapped_20 1 rfl ?_
      refine k_iload_n hx dX5_ifSwapped_21 2 rfl ?_
      refine k_vi (rest := []) hx vX5_203 dX5_ifSwapped_22 (c_X5_crossingsIfSwapped hI.1 (p := p) (b := b) (by omega) (by omega)) n_0 L_0 rfl rfl rfl ⟨rfl, rfl⟩ ⟨by decide, by decide⟩ (fun z_22 M_22 p_22 => ?_)
      obtain ⟨q1, q2⟩ := p_22
      refine k_ri hx hr dX5_ifSwapped_25 ?_
      exact ⟨by unfold aQ; rw [if_pos (by omega), if_pos (by omega)]; exact q1, hI.same (fun a ha => q2 a (by omega) (by omega)), fun a ha => q2 a (by omega) (by omega)⟩
    · refine k_bipush hx dX5_ifSwapped_16 (by decide +kernel) ?_
      refine k_ri hx hr dX5_ifSwapped_18 ?_
      exact ⟨by unfold aQ; rw [if_pos (by omega), if_neg (by omega)], hI, fun _ _ => rfl⟩
  · refine k_iconst hx dX5_ifSwapped_7 ?_
    refine k_ri hx hr dX5_ifSwapped_8 ?_
    exact ⟨by unfold aQ; rw [if_neg (by omega)], hI, fun _ _ => rfl⟩

/-! constructors -/
/-- the object at s and what it makes, m cells -/
def Mk (s m : Nat) (L : Lay) (M : Mem) (P : Mem → Prop) : Option Value → Lay → Nat → Mem → Prop := fun r L' n' M' => r = none ∧ n' = s + m ∧ (∀ j, j < s → L' j = L j) ∧ (∀ j, j < s → M' j = M j) ∧ (∀ j, s ≤ j → j < s + m → L' j = LAY j) ∧ P M'
theorem c_maxG {g : GE} {l : Launch} {L : Lay} {n : Nat} {M : Mem} {a b : Int} (h : (-2147483648 ≤ a ∧ a < 2147483648) ∧ (-2147483648 ≤ b ∧ b < 2147483648)) : Ct g l μJ9_max_7cf53 0 0 [vI a, vI b] L n M (fun r L' n' M' => r = some (vI (max a b)) ∧ L' = L ∧ n' = n ∧ M' = M) := by
  refine Ct.ofJ (by decide +kernel) rfl (fun x _ hx _ hr => ?_)
  show K x g 0 0 L n M 0 [(0, vI a), (1, vI b)] []
  refine k_iload_n hx dJ9_max_7cf53_0 0 rfl ?_
  refine k_iload_n hx dJ9_max_7cf53_1 1 rfl ?_
  refine k_icmp_lt hx dJ9_max_7cf53_2 (by omega) (fun h_2 => ?_) (fun h_2 => ?_)
  · refine k_iload_n hx dJ9_max_7cf53_9 1 rfl ?_
    refine k_iret hx hr dJ9_max_7cf53_10 ?_
    exact ⟨by rw [show max a b = b by omega], rfl, rfl, rfl⟩
  · refine k_iload_n hx dJ9_max_7cf53_5 0 rfl ?_
    refine k_goto hx dJ9_max_7cf53_6 ?_
    refine k_iret hx hr dJ9_max_7cf53_10 ?_
    exact ⟨by rw [show max a b = a by omega], rfl, rfl, rfl⟩
theorem nwX1_9 : NW RX1 9 3 [some none, some none] := ⟨RX3, TX3, 2, tyX3, rfl, wX1_9, in_X3, ini_X3, inX3, tyX3_ok, rfl, (fun k hk => by rcases (show k = 0 ∨ k = 1 by omega) with rfl | rfl <;> rfl), (by simp)⟩
theorem nwX3_15 : NW RX3 15 4 [some none, none] := ⟨RX4, TX4, 2, tyX4, rfl, wX3_15, in_X4, ini_X4, inX4, tyX4_ok, rfl, (fun k hk => by rcases (show k = 0 ∨ k = 1 by omega) with rfl | rfl <;> rfl), (by simp)⟩
theorem nwX5_9 : NW RX5 9 3 [some none, some none] := ⟨RX3, TX3, 2, tyX3, rfl, wX5_9, in_X3, ini_X3, inX3, tyX3_ok, rfl, (fun k hk => by rcases (show k = 0 ∨ k = 1 by omega) with rfl | rfl <;> rfl), (by simp)⟩
theorem nwX5_16 : NW RX5 16 1 [some none, none, none] := ⟨RX1, TX1, 3, tyX1, rfl, wX5_16, in_X1, ini_X1, inX1, tyX1_ok, rfl, (fun k hk => by rcases (show k = 0 ∨ k = 1 ∨ k = 2 by omega) with rfl | rfl | rfl <;> rfl), (by simp)⟩
theorem nwX5_31 : NW RX5 31 0 [some none, none, some none, some none, some none, none] := ⟨RX0, TX0, 6, tyX0, rfl, wX5_31, in_X0, ini_X0, inX0, tyX0_ok, rfl, (fun k hk => by rcases (show k = 0 ∨ k = 1 ∨ k = 2 ∨ k = 3 ∨ k = 4 ∨ k = 5 by omega) with rfl | rfl | rfl | rfl | rfl | rfl <;> rfl), (by simp)⟩
theorem nwX5_38 : NW RX5 38 2 [some none, some none, some none, some none] := ⟨RX2, TX2, 4, tyX2, rfl, wX5_38, in_X2, ini_X2, inX2, tyX2_ok, rfl, (fun k hk => by rcases (show k = 0 ∨ k = 1 ∨ k = 2 ∨ k = 3 by omega) with rfl | rfl | rfl | rfl <;> rfl), (by simp)⟩
theorem nwX5_45 : NW RX5 45 4 [some none, none] := ⟨RX4, TX4, 2, tyX4, rfl, wX5_45, in_X4, ini_X4, inX4, tyX4_ok, rfl, (fun k hk => by rcases (show k = 0 ∨ k = 1 by omega) with rfl | rfl <;> rfl), (by simp)⟩
set_option maxHeartbeats 4000000 in
theorem i_X4 {g : GE} {l : Launch} {L : Lay} {M : Mem} {i cap : Nat} (hW : IsW g i cap) (hT : L i = kO 4 [some none, none]) : Ct g l μX4_init 1 (0 + cap) [vR g i, vI cap] L (i + 1) M (Mk i 2 L M (fun M' => M' i 1 = 0)) := by
  refine Ct.of (by decide +kernel) rfl (fun x _ hx hnm hr => ?_)
  have h480 := hW.2.2.2.2
  show K x g 0 0 L (i + 1) M 0 [(0, vR g i), (1, vI cap)] []
  refine k_aload_n hx dX4_init_0 0 rfl ?_
  refine k_objI hx oX4 dX4_init_1 ⟨rfl, rfl⟩ ?_
  refine k_aload_n hx dX4_init_4 0 rfl ?_
  refine k_iload_n hx dX4_init_5 1 rfl ?_
  refine k_iconst hx dX4_init_6 ?_
  refine k_callS (rest := [vR g i]) hx sX4_9 dX4_init_7 (c_maxG (a := (cap : Int)) (b := 0) (by omega)) rfl rfl rfl ⟨rfl, rfl⟩ ⟨Nat.zero_le _, Nat.zero_le _⟩ (fun r2 L2 n2 M2 h2 => ?_)
  obtain ⟨hr2, hL2, hn2, hM2⟩ := h2
  rw [hr2, hL2, hn2, hM2, show max (cap : Int) 0 = cap by omega]
  show K x g 0 0 L (i + 1) M 10 [(0, vR g i), (1, vI cap)] [vI cap, vR g i]
  refine k_newaI (N := cap) hx dX4_init_10 rfl (by omega) ⟨Nat.le_refl _, Nat.le_refl _⟩ (fun L1 M1 hL1 hM1 => ?_)
  show K x g 1 (0 + cap) L1 (i + 2) M1 12 [(0, vR g i), (1, vI cap)] [vR g (i + 1), vR g i]
  have hT1 : L1 i = kO 4 [some none, none] := by rw [hL1, upL_n (by omega)]; exact hT
  have hN1 : L1 (i + 1) = kA 0 cap := by rw [hL1]; exact upL_s
  refine k_putFN (o := some (some (i + 1))) (fs' := [some (some (i + 1)), none]) hx hnm fX4_15 (fun q h => by cases h; rfl) dX4_init_12 (by omega) hT1 (fun m => rfl) ⟨rfl, rfl⟩ rfl (by simp only [List.length_cons, List.length_nil]; omega) (fun L2 hL2 => ?_)
  have hT2 : L2 i = kO 4 [some (some (i + 1)), none] := by rw [hL2]; exact upL_s
  refine k_aload_n hx dX4_init_15 0 rfl ?_
  refine k_iconst hx dX4_init_16 ?_
  refine k_putI (kz := 1) hx fX4_21 dX4_init_17 (by omega) hT2 rfl rfl (fun M3 hM3 => ?_)
  refine k_vret hx hr dX4_init_20 ?_
  refine ⟨rfl, rfl, fun j hj => ?_, fun j hj => ?_, fun j j0 j1 => ?_, ?_⟩
  · rw [hL2, upL_n (by omega), hL1, upL_n (by omega)]
  · rw [hM3, up_i (by omega), hM1, clr_n (by omega)]
  · rcases (show j = i ∨ j = (i + 1) by omega) with rfl | rfl
    · rw [hL2, upL_s]; exact hW.1.symm
    · rw [hL2, upL_n (by omega), hL1, upL_s]; exact hW.2.1.symm
  · show M3 i 1 = 0
    exact (by rw [hM3, up_s])
set_option maxHeartbeats 4000000 in
theorem i_X3 {g : GE} {l : Launch} {L : Lay} {M : Mem} {s : Nat} (hS : IsS g s) (hT : L s = kO 3 [some none, some none]) : Ct g l μX3_init 10 498 [vR g s] L (s + 1) M (Mk s 11 L M (fun M' => M' (s + 1) 0 = 1 ∧ M' (s + 1) 1 = 1 ∧ M' (s + 1) 2 = 1 ∧ M' (s + 1) 3 = 1 ∧ M' (s + 1) 4 = 1 ∧ M' (s + 1) 5 = 1 ∧ M' (s + 3) 1 = 0 ∧ M' (s + 5) 1 = 0 ∧ M' (s + 7) 1 = 0 ∧ M' (s + 9) 1 = 0)) := by
  refine Ct.of (by decide +kernel) rfl (fun x _ hx hnm hr => ?_)
  show K x g 0 0 L (s + 1) M 0 [(0, vR g s)] []
  refine k_aload_n hx dX3_init_0 0 rfl ?_
  refine k_objI hx oX3 dX3_init_1 ⟨rfl, rfl⟩ ?_
  refine k_aload_n hx dX3_init_4 0 rfl ?_
  refine k_bipush hx dX3_init_5 (by decide +kernel) ?_
  refine k_newaI (N := 6) hx dX3_init_7 rfl (by omega) ⟨Nat.le_of_ble_eq_true rfl, Nat.le_of_ble_eq_true rfl⟩ (fun L1 M1 hL1 hM1 => ?_)
  show K x g 1 6 L1 (s + 2) M1 9 [(0, vR g s)] [vR g (s + 1), vR g s]
  have hT1 : L1 s = kO 3 [some none, some none] := by rw [hL1, upL_n (by omega)]; exact hT
  have hN1 : L1 (s + 1) = kA 0 6 := by rw [hL1]; exact upL_s
  refine k_putFN (o := some (some (s + 1))) (fs' := [some (some (s + 1)), some none]) hx hnm fX3_9 (fun q h => by cases h; rfl) dX3_init_9 (by omega) hT1 (fun m => rfl) ⟨rfl, rfl⟩ rfl (by simp only [List.length_cons, List.length_nil]; omega) (fun L2 hL2 => ?_)
  have hT2 : L2 s = kO 3 [some (some (s + 1)), some none] := by rw [hL2]; exact upL_s
  refine k_iconst hx dX3_init_12 ?_
  refine k_istore_n (ls' := [(0, vR g s), (1, vI 0)]) hx dX3_init_13 rfl rfl (by decide) ?_
  refine k_iload_n hx dX3_init_14 1 rfl ?_
  refine k_bipush hx dX3_init_15 (by decide +kernel) ?_
  refine k_icmp_ge hx dX3_init_17 (by omega) (fun q => absurd q (by omega)) (fun _ => ?_)
  refine k_aload_n hx dX3_init_20 0 rfl ?_
  refine k_get (v := vR g (s + 1)) hx fX3_9 dX3_init_21 (by omega) hT2 rfl ?_
  refine k_iload_n hx dX3_init_24 1 rfl ?_
  refine k_iconst hx dX3_init_25 ?_
  refine k_iastN hx dX3_init_26 (by omega) (show L2 (s + 1) = kA 0 6 by rw [hL2, upL_n (by omega), hL1]; exact upL_s) (by omega) (by decide) (fun M3 hM3 => ?_)
  refine k_iincV (v := 1) (ls' := [(0, vR g s), (1, vI 1)]) hx dX3_init_27 1 rfl rfl rfl rfl (by decide) ?_
  refine k_goto hx dX3_init_30 ?_
  refine k_iload_n hx dX3_init_14 1 rfl ?_
  refine k_bipush hx dX3_init_15 (by decide +kernel) ?_
  refine k_icmp_ge hx dX3_init_17 (by omega) (fun q => absurd q (by omega)) (fun _ => ?_)
  refine k_aload_n hx dX3_init_20 0 rfl ?_
  refine k_get (v := vR g (s + 1)) hx fX3_9 dX3_init_21 (by omega) hT2 rfl ?_
  refine k_iload_n hx dX3_init_24 1 rfl ?_
  refine k_iconst hx dX3_init_25 ?_
  refine k_iastN hx dX3_init_26 (by omega) (show L2 (s + 1) = kA 0 6 by rw [hL2, upL_n (by omega), hL1]; exact upL_s) (by omega) (by decide) (fun M4 hM4 => ?_)
  refine k_iincV (v := 2) (ls' := [(0, vR g s), (1, vI 2)]) hx dX3_init_27 1 rfl rfl rfl rfl (by decide) ?_
  refine k_goto hx dX3_init_30 ?_
  refine k_iload_n hx dX3_init_14 1 rfl ?_
  refine k_bipush hx dX3_init_15 (by decide +kernel) ?_
  refine k_icmp_ge hx dX3_init_17 (by omega) (fun q => absurd q (by omega)) (fun _ => ?_)
  refine k_aload_n hx dX3_init_20 0 rfl ?_
  refine k_get (v := vR g (s + 1)) hx fX3_9 dX3_init_21 (by omega) hT2 rfl ?_
  refine k_iload_n hx dX3_init_24 1 rfl ?_
  refine k_iconst hx dX3_init_25 ?_
  refine k_iastN hx dX3_init_26 (by omega) (show L2 (s + 1) = kA 0 6 by rw [hL2, upL_n (by omega), hL1]; exact upL_s) (by omega) (by decide) (fun M5 hM5 => ?_)
  refine k_iincV (v := 3) (ls' := [(0, vR g s), (1, vI 3)]) hx dX3_init_27 1 rfl rfl rfl rfl (by decide) ?_
  refine k_goto hx dX3_init_30 ?_
  refine k_iload_n hx dX3_init_14 1 rfl ?_
  refine k_bipush hx dX3_init_15 (by decide +kernel) ?_
  refine k_icmp_ge hx dX3_init_17 (by omega) (fun q => absurd q (by omega)) (fun _ => ?_)
  refine k_aload_n hx dX3_init_20 0 rfl ?_
  refine k_get (v := vR g (s + 1)) hx fX3_9 dX3_init_21 (by omega) hT2 rfl ?_
  refine k_iload_n hx dX3_init_24 1 rfl ?_
  refine k_iconst hx dX3_init_25 ?_
  refine k_iastN hx dX3_init_26 (by omega) (show L2 (s + 1) = kA 0 6 by rw [hL2, upL_n (by omega), hL1]; exact upL_s) (by omega) (by decide) (fun M6 hM6 => ?_)
  refine k_iincV (v := 4) (ls' := [(0, vR g s), (1, vI 4)]) hx dX3_init_27 1 rfl rfl rfl rfl (by decide) ?_
  refine k_goto hx dX3_init_30 ?_
  refine k_iload_n hx dX3_init_14 1 rfl ?_
  refine k_bipush hx dX3_init_15 (by decide +kernel) ?_
  refine k_icmp_ge hx dX3_init_17 (by omega) (fun q => absurd q (by omega)) (fun _ => ?_)
  refine k_aload_n hx dX3_init_20 0 rfl ?_
  refine k_get (v := vR g (s + 1)) hx fX3_9 dX3_init_21 (by omega) hT2 rfl ?_
  refine k_iload_n hx dX3_init_24 1 rfl ?_
  refine k_iconst hx dX3_init_25 ?_
  refine k_iastN hx dX3_init_26 (by omega) (show L2 (s + 1) = kA 0 6 by rw [hL2, upL_n (by omega), hL1]; exact upL_s) (by omega) (by decide) (fun M7 hM7 => ?_)
  refine k_iincV (v := 5) (ls' := [(0, vR g s), (1, vI 5)]) hx dX3_init_27 1 rfl rfl rfl rfl (by decide) ?_
  refine k_goto hx dX3_init_30 ?_
  refine k_iload_n hx dX3_init_14 1 rfl ?_
  refine k_bipush hx dX3_init_15 (by decide +kernel) ?_
  refine k_icmp_ge hx dX3_init_17 (by omega) (fun q => absurd q (by omega)) (fun _ => ?_)
  refine k_aload_n hx dX3_init_20 0 rfl ?_
  refine k_get (v := vR g (s + 1)) hx fX3_9 dX3_init_21 (by omega) hT2 rfl ?_
  refine k_iload_n hx dX3_init_24 1 rfl ?_
  refine k_iconst hx dX3_init_25 ?_
  refine k_iastN hx dX3_init_26 (by omega) (show L2 (s + 1) = kA 0 6 by rw [hL2, upL_n (by omega), hL1]; exact upL_s) (by omega) (by decide) (fun M8 hM8 => ?_)
  refine k_iincV (v := 6) (ls' := [(0, vR g s), (1, vI 6)]) hx dX3_init_27 1 rfl rfl rfl rfl (by decide) ?_
  refine k_goto hx dX3_init_30 ?_
  refine k_iload_n hx dX3_init_14 1 rfl ?_
  refine k_bipush hx dX3_init_15 (by decide +kernel) ?_
  refine k_icmp_ge hx dX3_init_17 (by omega) (fun _ => ?_) (fun q => absurd q (by omega))
  refine k_aload_n hx dX3_init_33 0 rfl ?_
  refine k_iconst hx dX3_init_34 ?_
  refine k_anew (N := 4) (t := 3) (qs := [none, none, none, none]) hx (by first | exact Or.inl ⟨rfl, rfl⟩ | exact Or.inr ⟨rfl, rfl⟩) wX3_15a dX3_init_35 rfl (by omega) rfl ⟨Nat.le_of_ble_eq_true rfl, Nat.le_of_ble_eq_true rfl⟩ (fun L9 M9 hL9 hM9 => ?_)
  show K x g 2 10 L9 (s + 3) M9 38 [(0, vR g s), (1, vI 6)] [vR g (s + 2), vR g s]
  have hT9 : L9 s = kO 3 [some (some (s + 1)), some none] := by rw [hL9, upL_n (by omega)]; exact hT2
  have hN9 : L9 (s + 2) = kR 3 [none, none, none, none] := by rw [hL9]; exact upL_s
  refine k_putFN (o := some (some (s + 2))) (fs' := [some (some (s + 1)), some (some (s + 2))]) hx hnm fX3_17 (fun q h => by cases h; rfl) dX3_init_38 (by omega) hT9 (fun m => rfl) ⟨rfl, rfl⟩ rfl (by simp only [List.length_cons, List.length_nil]; omega) (fun L10 hL10 => ?_)
  have hA10_2 : L10 (s + 2) = kR 3 [none, none, none, none] := by rw [hL10, upL_n (by omega)]; exact hN9
  have hT10 : L10 s = kO 3 [some (some (s + 1)), some (some (s + 2))] := by rw [hL10]; exact upL_s
  refine k_iconst hx dX3_init_41 ?_
  refine k_istore_n (ls' := [(0, vR g s), (1, vI 0)]) hx dX3_init_42 rfl rfl (by decide) ?_
  refine k_iload_n hx dX3_init_43 1 rfl ?_
  refine k_iconst hx dX3_init_44 ?_
  refine k_icmp_ge hx dX3_init_45 (by omega) (fun q => absurd q (by omega)) (fun _ => ?_)
  refine k_aload_n hx dX3_init_48 0 rfl ?_
  refine k_get (v := vR g (s + 2)) hx fX3_17 dX3_init_49 (by omega) hT10 rfl ?_
  refine k_iload_n hx dX3_init_52 1 rfl ?_
  refine k_new (N := 2) hx nwX3_15 dX3_init_53 rfl ⟨Nat.le_of_ble_eq_true rfl, Nat.le_of_ble_eq_true rfl⟩ (fun L11 M11 hL11 hM11 => ?_)
  show K x g 3 12 L11 (s + 4) M11 56 [(0, vR g s), (1, vI 0)] [vR g (s + 3), vI 0, vR g (s + 2)]
  have hA11_2 : L11 (s + 2) = kR 3 [none, none, none, none] := by rw [hL11, upL_n (by omega)]; exact hA10_2
  have hT11 : L11 s = kO 3 [some (some (s + 1)), some (some (s + 2))] := by rw [hL11, upL_n (by omega)]; exact hT10
  have hN11 : L11 (s + 3) = kO 4 [some none, none] := by rw [hL11]; exact upL_s
  refine k_dup hx dX3_init_56 rfl ?_
  refine k_bipush hx dX3_init_57 (by decide +kernel) ?_
  refine k_callI (rest := [vR g (s + 3), vI 0, vR g (s + 2)]) hx iX3_21 dX3_init_59 (i_X4 (i := (s + 3)) (cap := 120) (hS.2.2.2.2.2.2.1) hN11) rfl rfl rfl ⟨rfl, rfl⟩ ⟨Nat.le_of_ble_eq_true rfl, Nat.le_of_ble_eq_true rfl⟩ (fun r12 L12 n12 M12 h12 => ?_)
  obtain ⟨rfl, rfl, kp12, km12, hl12, hP12⟩ := h12
  show K x g 4 132 L12 (s + 5) M12 62 [(0, vR g s), (1, vI 0)] [vR g (s + 3), vI 0, vR g (s + 2)]
  have hA12_2 : L12 (s + 2) = kR 3 [none, none, none, none] := (kp12 (s + 2) (by omega)).trans hA11_2
  have hT12 : L12 s = kO 3 [some (some (s + 1)), some (some (s + 2))] := (kp12 s (by omega)).trans hT11
  refine k_aast (ci := 4) (qs' := [some (s + 3), none, none, none]) hx (by first | exact Or.inl ⟨rfl, rfl⟩ | exact Or.inr ⟨rfl, rfl⟩) dX3_init_62 (by omega) hA12_2 (by omega) ((hl12 (s + 3) (by omega) (by omega)).trans (hS.2.2.2.2.2.2.1).1) ⟨by omega, by simp only [List.length_cons, List.length_nil]; omega⟩ (by simp only [List.length_cons, List.length_nil]; omega) rfl (fun L13 hL13 => ?_)
  have hT13 : L13 s = kO 3 [some (some (s + 1)), some (some (s + 2))] := by rw [hL13, upL_n (by omega)]; exact hT12
  have hA13_2 : L13 (s + 2) = kR 3 [some (s + 3), none, none, none] := by rw [hL13]; exact upL_s
  refine k_iincV (v := 1) (ls' := [(0, vR g s), (1, vI 1)]) hx dX3_init_63 1 rfl rfl rfl rfl (by decide) ?_
  refine k_goto hx dX3_init_66 ?_
  refine k_iload_n hx dX3_init_43 1 rfl ?_
  refine k_iconst hx dX3_init_44 ?_
  refine k_icmp_ge hx dX3_init_45 (by omega) (fun q => absurd q (by omega)) (fun _ => ?_)
  refine k_aload_n hx dX3_init_48 0 rfl ?_
  refine k_get (v := vR g (s + 2)) hx fX3_17 dX3_init_49 (by omega) hT13 rfl ?_
  refine k_iload_n hx dX3_init_52 1 rfl ?_
  refine k_new (N := 2) hx nwX3_15 dX3_init_53 rfl ⟨Nat.le_of_ble_eq_true rfl, Nat.le_of_ble_eq_true rfl⟩ (fun L14 M14 hL14 hM14 => ?_)
  show K x g 5 134 L14 (s + 6) M14 56 [(0, vR g s), (1, vI 1)] [vR g (s + 5), vI 1, vR g (s + 2)]
  have hA14_2 : L14 (s + 2) = kR 3 [some (s + 3), none, none, none] := by rw [hL14, upL_n (by omega)]; exact hA13_2
  have hT14 : L14 s = kO 3 [some (some (s + 1)), some (some (s + 2))] := by rw [hL14, upL_n (by omega)]; exact hT13
  have hN14 : L14 (s + 5) = kO 4 [some none, none] := by rw [hL14]; exact upL_s
  refine k_dup hx dX3_init_56 rfl ?_
  refine k_bipush hx dX3_init_57 (by decide +kernel) ?_
  refine k_callI (rest := [vR g (s + 5), vI 1, vR g (s + 2)]) hx iX3_21 dX3_init_59 (i_X4 (i := (s + 5)) (cap := 120) (hS.2.2.2.2.2.2.2.1) hN14) rfl rfl rfl ⟨rfl, rfl⟩ ⟨Nat.le_of_ble_eq_true rfl, Nat.le_of_ble_eq_true rfl⟩ (fun r15 L15 n15 M15 h15 => ?_)
  obtain ⟨rfl, rfl, kp15, km15, hl15, hP15⟩ := h15
  show K x g 6 254 L15 (s + 7) M15 62 [(0, vR g s), (1, vI 1)] [vR g (s + 5), vI 1, vR g (s + 2)]
  have hA15_2 : L15 (s + 2) = kR 3 [some (s + 3), none, none, none] := (kp15 (s + 2) (by omega)).trans hA14_2
  have hT15 : L15 s = kO 3 [some (some (s + 1)), some (some (s + 2))] := (kp15 s (by omega)).trans hT14
  refine k_aast (ci := 4) (qs' := [some (s + 3), some (s + 5), none, none]) hx (by first | exact Or.inl ⟨rfl, rfl⟩ | exact Or.inr ⟨rfl, rfl⟩) dX3_init_62 (by omega) hA15_2 (by omega) ((hl15 (s + 5) (by omega) (by omega)).trans (hS.2.2.2.2.2.2.2.1).1) ⟨by omega, by simp only [List.length_cons, List.length_nil]; omega⟩ (by simp only [List.length_cons, List.length_nil]; omega) rfl (fun L16 hL16 => ?_)
  have hT16 : L16 s = kO 3 [some (some (s + 1)), some (some (s + 2))] := by rw [hL16, upL_n (by omega)]; exact hT15
  have hA16_2 : L16 (s + 2) = kR 3 [some (s + 3), some (s + 5), none, none] := by rw [hL16]; exact upL_s
  refine k_iincV (v := 2) (ls' := [(0, vR g s), (1, vI 2)]) hx dX3_init_63 1 rfl rfl rfl rfl (by decide) ?_
  refine k_goto hx dX3_init_66 ?_
  refine k_iload_n hx dX3_init_43 1 rfl ?_
  refine k_iconst hx dX3_init_44 ?_
  refine k_icmp_ge hx dX3_init_45 (by omega) (fun q => absurd q (by omega)) (fun _ => ?_)
  refine k_aload_n hx dX3_init_48 0 rfl ?_
  refine k_get (v := vR g (s + 2)) hx fX3_17 dX3_init_49 (by omega) hT16 rfl ?_
  refine k_iload_n hx dX3_init_52 1 rfl ?_
  refine k_new (N := 2) hx nwX3_15 dX3_init_53 rfl ⟨Nat.le_of_ble_eq_true rfl, Nat.le_of_ble_eq_true rfl⟩ (fun L17 M17 hL17 hM17 => ?_)
  show K x g 7 256 L17 (s + 8) M17 56 [(0, vR g s), (1, vI 2)] [vR g (s + 7), vI 2, vR g (s + 2)]
  have hA17_2 : L17 (s + 2) = kR 3 [some (s + 3), some (s + 5), none, none] := by rw [hL17, upL_n (by omega)]; exact hA16_2
  have hT17 : L17 s = kO 3 [some (some (s + 1)), some (some (s + 2))] := by rw [hL17, upL_n (by omega)]; exact hT16
  have hN17 : L17 (s + 7) = kO 4 [some none, none] := by rw [hL17]; exact upL_s
  refine k_dup hx dX3_init_56 rfl ?_
  refine k_bipush hx dX3_init_57 (by decide +kernel) ?_
  refine k_callI (rest := [vR g (s + 7), vI 2, vR g (s + 2)]) hx iX3_21 dX3_init_59 (i_X4 (i := (s + 7)) (cap := 120) (hS.2.2.2.2.2.2.2.2.1) hN17) rfl rfl rfl ⟨rfl, rfl⟩ ⟨Nat.le_of_ble_eq_true rfl, Nat.le_of_ble_eq_true rfl⟩ (fun r18 L18 n18 M18 h18 => ?_)
  obtain ⟨rfl, rfl, kp18, km18, hl18, hP18⟩ := h18
  show K x g 8 376 L18 (s + 9) M18 62 [(0, vR g s), (1, vI 2)] [vR g (s + 7), vI 2, vR g (s + 2)]
  have hA18_2 : L18 (s + 2) = kR 3 [some (s + 3), some (s + 5), none, none] := (kp18 (s + 2) (by omega)).trans hA17_2
  have hT18 : L18 s = kO 3 [some (some (s + 1)), some (some (s + 2))] := (kp18 s (by omega)).trans hT17
  refine k_aast (ci := 4) (qs' := [some (s + 3), some (s + 5), some (s + 7), none]) hx (by first | exact Or.inl ⟨rfl, rfl⟩ | exact Or.inr ⟨rfl, rfl⟩) dX3_init_62 (by omega) hA18_2 (by omega) ((hl18 (s + 7) (by omega) (by omega)).trans (hS.2.2.2.2.2.2.2.2.1).1) ⟨by omega, by simp only [List.length_cons, List.length_nil]; omega⟩ (by simp only [List.length_cons, List.length_nil]; omega) rfl (fun L19 hL19 => ?_)
  have hT19 : L19 s = kO 3 [some (some (s + 1)), some (some (s + 2))] := by rw [hL19, upL_n (by omega)]; exact hT18
  have hA19_2 : L19 (s + 2) = kR 3 [some (s + 3), some (s + 5), some (s + 7), none] := by rw [hL19]; exact upL_s
  refine k_iincV (v := 3) (ls' := [(0, vR g s), (1, vI 3)]) hx dX3_init_63 1 rfl rfl rfl rfl (by decide) ?_
  refine k_goto hx dX3_init_66 ?_
  refine k_iload_n hx dX3_init_43 1 rfl ?_
  refine k_iconst hx dX3_init_44 ?_
  refine k_icmp_ge hx dX3_init_45 (by omega) (fun q => absurd q (by omega)) (fun _ => ?_)
  refine k_aload_n hx dX3_init_48 0 rfl ?_
  refine k_get (v := vR g (s + 2)) hx fX3_17 dX3_init_49 (by omega) hT19 rfl ?_
  refine k_iload_n hx dX3_init_52 1 rfl ?_
  refine k_new (N := 2) hx nwX3_15 dX3_init_53 rfl ⟨Nat.le_of_ble_eq_true rfl, Nat.le_of_ble_eq_true rfl⟩ (fun L20 M20 hL20 hM20 => ?_)
  show K x g 9 378 L20 (s + 10) M20 56 [(0, vR g s), (1, vI 3)] [vR g (s + 9), vI 3, vR g (s + 2)]
  have hA20_2 : L20 (s + 2) = kR 3 [some (s + 3), some (s + 5), some (s + 7), none] := by rw [hL20, upL_n (by omega)]; exact hA19_2
  have hT20 : L20 s = kO 3 [some (some (s + 1)), some (some (s + 2))] := by rw [hL20, upL_n (by omega)]; exact hT19
  have hN20 : L20 (s + 9) = kO 4 [some none, none] := by rw [hL20]; exact upL_s
  refine k_dup hx dX3_init_56 rfl ?_
  refine k_bipush hx dX3_init_57 (by decide +kernel) ?_
  refine k_callI (rest := [vR g (s + 9), vI 3, vR g (s + 2)]) hx iX3_21 dX3_init_59 (i_X4 (i := (s + 9)) (cap := 120) (hS.2.2.2.2.2.2.2.2.2) hN20) rfl rfl rfl ⟨rfl, rfl⟩ ⟨Nat.le_of_ble_eq_true rfl, Nat.le_of_ble_eq_true rfl⟩ (fun r21 L21 n21 M21 h21 => ?_)
  obtain ⟨rfl, rfl, kp21, km21, hl21, hP21⟩ := h21
  show K x g 10 498 L21 (s + 11) M21 62 [(0, vR g s), (1, vI 3)] [vR g (s + 9), vI 3, vR g (s + 2)]
  have hA21_2 : L21 (s + 2) = kR 3 [some (s + 3), some (s + 5), some (s + 7), none] := (kp21 (s + 2) (by omega)).trans hA20_2
  have hT21 : L21 s = kO 3 [some (some (s + 1)), some (some (s + 2))] := (kp21 s (by omega)).trans hT20
  refine k_aast (ci := 4) (qs' := [some (s + 3), some (s + 5), some (s + 7), some (s + 9)]) hx (by first | exact Or.inl ⟨rfl, rfl⟩ | exact Or.inr ⟨rfl, rfl⟩) dX3_init_62 (by omega) hA21_2 (by omega) ((hl21 (s + 9) (by omega) (by omega)).trans (hS.2.2.2.2.2.2.2.2.2).1) ⟨by omega, by simp only [List.length_cons, List.length_nil]; omega⟩ (by simp only [List.length_cons, List.length_nil]; omega) rfl (fun L22 hL22 => ?_)
  have hT22 : L22 s = kO 3 [some (some (s + 1)), some (some (s + 2))] := by rw [hL22, upL_n (by omega)]; exact hT21
  have hA22_2 : L22 (s + 2) = kR 3 [some (s + 3), some (s + 5), some (s + 7), some (s + 9)] := by rw [hL22]; exact upL_s
  refine k_iincV (v := 4) (ls' := [(0, vR g s), (1, vI 4)]) hx dX3_init_63 1 rfl rfl rfl rfl (by decide) ?_
  refine k_goto hx dX3_init_66 ?_
  refine k_iload_n hx dX3_init_43 1 rfl ?_
  refine k_iconst hx dX3_init_44 ?_
  refine k_icmp_ge hx dX3_init_45 (by omega) (fun _ => ?_) (fun q => absurd q (by omega))
  refine k_vret hx hr dX3_init_69 ?_
  refine ⟨rfl, rfl, fun j hj => ?_, fun j hj => ?_, fun j j0 j1 => ?_, ?_⟩
  · rw [hL22, upL_n (by omega), kp21 _ (by omega), hL20, upL_n (by omega), hL19, upL_n (by omega), kp18 _ (by omega), hL17, upL_n (by omega), hL16, upL_n (by omega), kp15 _ (by omega), hL14, upL_n (by omega), hL13, upL_n (by omega), kp12 _ (by omega), hL11, upL_n (by omega), hL10, upL_n (by omega), hL9, upL_n (by omega), hL2, upL_n (by omega), hL1, upL_n (by omega)]
  · rw [km21 _ (by omega), hM20, clr_n (by omega), km18 _ (by omega), hM17, clr_n (by omega), km15 _ (by omega), hM14, clr_n (by omega), km12 _ (by omega), hM11, clr_n (by omega), hM9, clr_n (by omega), hM8, up_i (by omega), hM7, up_i (by omega), hM6, up_i (by omega), hM5, up_i (by omega), hM4, up_i (by omega), hM3, up_i (by omega), hM1, clr_n (by omega)]
  · rcases (show j = s ∨ j = (s + 1) ∨ j = (s + 2) ∨ ((s + 3) ≤ j ∧ j < (s + 5)) ∨ ((s + 5) ≤ j ∧ j < (s + 7)) ∨ ((s + 7) ≤ j ∧ j < (s + 9)) ∨ ((s + 9) ≤ j ∧ j < (s + 11)) by omega) with rfl | rfl | rfl | ⟨g1, g2⟩ | ⟨g1, g2⟩ | ⟨g1, g2⟩ | ⟨g1, g2⟩
    · rw [hL22, upL_n (by omega), kp21 _ (by omega), hL20, upL_n (by omega), hL19, upL_n (by omega), kp18 _ (by omega), hL17, upL_n (by omega), hL16, upL_n (by omega), kp15 _ (by omega), hL14, upL_n (by omega), hL13, upL_n (by omega), kp12 _ (by omega), hL11, upL_n (by omega), hL10, upL_s]; exact hS.1.symm
    · rw [hL22, upL_n (by omega), kp21 _ (by omega), hL20, upL_n (by omega), hL19, upL_n (by omega), kp18 _ (by omega), hL17, upL_n (by omega), hL16, upL_n (by omega), kp15 _ (by omega), hL14, upL_n (by omega), hL13, upL_n (by omega), kp12 _ (by omega), hL11, upL_n (by omega), hL10, upL_n (by omega), hL9, upL_n (by omega), hL2, upL_n (by omega), hL1, upL_s]; exact hS.2.1.symm
    · rw [hL22, upL_s]; exact hS.2.2.1.symm
    · rw [hL22, upL_n (by omega), kp21 _ (by omega), hL20, upL_n (by omega), hL19, upL_n (by omega), kp18 _ (by omega), hL17, upL_n (by omega), hL16, upL_n (by omega), kp15 _ (by omega), hL14, upL_n (by omega), hL13, upL_n (by omega)]; exact hl12 j g1 g2
    · rw [hL22, upL_n (by omega), kp21 _ (by omega), hL20, upL_n (by omega), hL19, upL_n (by omega), kp18 _ (by omega), hL17, upL_n (by omega), hL16, upL_n (by omega)]; exact hl15 j g1 g2
    · rw [hL22, upL_n (by omega), kp21 _ (by omega), hL20, upL_n (by omega), hL19, upL_n (by omega)]; exact hl18 j g1 g2
    · rw [hL22, upL_n (by omega)]; exact hl21 j g1 g2
  · show M21 (s + 1) 0 = 1 ∧ M21 (s + 1) 1 = 1 ∧ M21 (s + 1) 2 = 1 ∧ M21 (s + 1) 3 = 1 ∧ M21 (s + 1) 4 = 1 ∧ M21 (s + 1) 5 = 1 ∧ M21 (s + 3) 1 = 0 ∧ M21 (s + 5) 1 = 0 ∧ M21 (s + 7) 1 = 0 ∧ M21 (s + 9) 1 = 0
    exact ⟨(by rw [km21 _ (by omega), hM20, clr_n (by omega), km18 _ (by omega), hM17, clr_n (by omega), km15 _ (by omega), hM14, clr_n (by omega), km12 _ (by omega), hM11, clr_n (by omega), hM9, clr_n (by omega), hM8, up_k (by decide), hM7, up_k (by decide), hM6, up_k (by decide), hM5, up_k (by decide), hM4, up_k (by decide), hM3, up_s]), (by rw [km21 _ (by omega), hM20, clr_n (by omega), km18 _ (by omega), hM17, clr_n (by omega), km15 _ (by omega), hM14, clr_n (by omega), km12 _ (by omega), hM11, clr_n (by omega), hM9, clr_n (by omega), hM8, up_k (by decide), hM7, up_k (by decide), hM6, up_k (by decide), hM5, up_k (by decide), hM4, up_s]), (by rw [km21 _ (by omega), hM20, clr_n (by omega), km18 _ (by omega), hM17, clr_n (by omega), km15 _ (by omega), hM14, clr_n (by omega), km12 _ (by omega), hM11, clr_n (by omega), hM9, clr_n (by omega), hM8, up_k (by decide), hM7, up_k (by decide), hM6, up_k (by decide), hM5, up_s]), (by rw [km21 _ (by omega), hM20, clr_n (by omega), km18 _ (by omega), hM17, clr_n (by omega), km15 _ (by omega), hM14, clr_n (by omega), km12 _ (by omega), hM11, clr_n (by omega), hM9, clr_n (by omega), hM8, up_k (by decide), hM7, up_k (by decide), hM6, up_s]), (by rw [km21 _ (by omega), hM20, clr_n (by omega), km18 _ (by omega), hM17, clr_n (by omega), km15 _ (by omega), hM14, clr_n (by omega), km12 _ (by omega), hM11, clr_n (by omega), hM9, clr_n (by omega), hM8, up_k (by decide), hM7, up_s]), (by rw [km21 _ (by omega), hM20, clr_n (by omega), km18 _ (by omega), hM17, clr_n (by omega), km15 _ (by omega), hM14, clr_n (by omega), km12 _ (by omega), hM11, clr_n (by omega), hM9, clr_n (by omega), hM8, up_s]), (by rw [km21 _ (by omega), hM20, clr_n (by omega), km18 _ (by omega), hM17, clr_n (by omega), km15 _ (by omega), hM14, clr_n (by omega)]; exact hP12), (by rw [km21 _ (by omega), hM20, clr_n (by omega), km18 _ (by omega), hM17, clr_n (by omega)]; exact hP15), (by rw [km21 _ (by omega), hM20, clr_n (by omega)]; exact hP18), (by exact hP21)⟩
set_option maxHeartbeats 4000000 in
theorem i_X1 {g : GE} {l : Launch} {L : Lay} {M : Mem} (hT : L 12 = kO 1 [some none, none, none]) : Ct g l μX1_init 67 3006 [vR g 12] L 13 M (Mk 12 68 L M (fun M' => M' 12 1 = 0 ∧ M' 12 2 = 0)) := by
  refine Ct.of (by decide +kernel) rfl (fun x _ hx hnm hr => ?_)
  show K x g 0 0 L 13 M 0 [(0, vR g 12)] []
  refine k_aload_n hx dX1_init_0 0 rfl ?_
  refine k_objI hx oX1 dX1_init_1 ⟨rfl, rfl⟩ ?_
  refine k_aload_n hx dX1_init_4 0 rfl ?_
  refine k_bipush hx dX1_init_5 (by decide +kernel) ?_
  refine k_anew (N := 6) (t := 2) (qs := [none, none, none, none, none, none]) hx (by first | exact Or.inl ⟨rfl, rfl⟩ | exact Or.inr ⟨rfl, rfl⟩) wX1_9a dX1_init_7 rfl (by omega) rfl ⟨Nat.le_of_ble_eq_true rfl, Nat.le_of_ble_eq_true rfl⟩ (fun L1 M1 hL1 hM1 => ?_)
  show K x g 1 6 L1 14 M1 10 [(0, vR g 12)] [vR g 13, vR g 12]
  have hT1 : L1 12 = kO 1 [some none, none, none] := by rw [hL1, upL_n (by omega)]; exact hT
  have hN1 : L1 13 = kR 2 [none, none, none, none, none, none] := by rw [hL1]; exact upL_s
  refine k_putFN (o := some (some 13)) (fs' := [some (some 13), none, none]) hx hnm fX1_11 (fun q h => by cases h; rfl) dX1_init_10 (by omega) hT1 (fun m => rfl) ⟨rfl, rfl⟩ rfl (by simp only [List.length_cons, List.length_nil]; omega) (fun L2 hL2 => ?_)
  have hA2_1 : L2 13 = kR 2 [none, none, none, none, none, none] := by rw [hL2, upL_n (by omega)]; exact hN1
  have hT2 : L2 12 = kO 1 [some (some 13), none, none] := by rw [hL2]; exact upL_s
  refine k_iconst hx dX1_init_13 ?_
  refine k_istore_n (ls' := [(0, vR g 12), (1, vI 0)]) hx dX1_init_14 rfl rfl (by decide) ?_
  refine k_iload_n hx dX1_init_15 1 rfl ?_
  refine k_bipush hx dX1_init_16 (by decide +kernel) ?_
  refine k_icmp_ge hx dX1_init_18 (by omega) (fun q => absurd q (by omega)) (fun _ => ?_)
  refine k_aload_n hx dX1_init_21 0 rfl ?_
  refine k_get (v := vR g 13) hx fX1_11 dX1_init_22 (by omega) hT2 rfl ?_
  refine k_iload_n hx dX1_init_25 1 rfl ?_
  refine k_new (N := 2) hx nwX1_9 dX1_init_26 rfl ⟨Nat.le_of_ble_eq_true rfl, Nat.le_of_ble_eq_true rfl⟩ (fun L3 M3 hL3 hM3 => ?_)
  show K x g 2 8 L3 15 M3 29 [(0, vR g 12), (1, vI 0)] [vR g 14, vI 0, vR g 13]
  have hA3_1 : L3 13 = kR 2 [none, none, none, none, none, none] := by rw [hL3, upL_n (by omega)]; exact hA2_1
  have hT3 : L3 12 = kO 1 [some (some 13), none, none] := by rw [hL3, upL_n (by omega)]; exact hT2
  have hN3 : L3 14 = kO 3 [some none, some none] := by rw [hL3]; exact upL_s
  refine k_dup hx dX1_init_29 rfl ?_
  refine k_callI (rest := [vR g 14, vI 0, vR g 13]) hx iX1_17 dX1_init_30 (i_X3 (s := 14) isS_14 hN3) rfl rfl rfl ⟨rfl, rfl⟩ ⟨Nat.le_of_ble_eq_true rfl, Nat.le_of_ble_eq_true rfl⟩ (fun r4 L4 n4 M4 h4 => ?_)
  obtain ⟨rfl, rfl, kp4, km4, hl4, hP4⟩ := h4
  show K x g 12 506 L4 25 M4 33 [(0, vR g 12), (1, vI 0)] [vR g 14, vI 0, vR g 13]
  have hA4_1 : L4 13 = kR 2 [none, none, none, none, none, none] := (kp4 13 (by omega)).trans hA3_1
  have hT4 : L4 12 = kO 1 [some (some 13), none, none] := (kp4 12 (by omega)).trans hT3
  refine k_aast (ci := 3) (qs' := [some 14, none, none, none, none, none]) hx (by first | exact Or.inl ⟨rfl, rfl⟩ | exact Or.inr ⟨rfl, rfl⟩) dX1_init_33 (by omega) hA4_1 (by omega) ((hl4 14 (by omega) (by omega)).trans (isS_14 (g := g)).1) ⟨by omega, by simp only [List.length_cons, List.length_nil]; omega⟩ (by simp only [List.length_cons, List.length_nil]; omega) rfl (fun L5 hL5 => ?_)
  have hT5 : L5 12 = kO 1 [some (some 13), none, none] := by rw [hL5, upL_n (by omega)]; exact hT4
  have hA5_1 : L5 13 = kR 2 [some 14, none, none, none, none, none] := by rw [hL5]; exact upL_s
  refine k_iincV (v := 1) (ls' := [(0, vR g 12), (1, vI 1)]) hx dX1_init_34 1 rfl rfl rfl rfl (by decide) ?_
  refine k_goto hx dX1_init_37 ?_
  refine k_iload_n hx dX1_init_15 1 rfl ?_
  refine k_bipush hx dX1_init_16 (by decide +kernel) ?_
  refine k_icmp_ge hx dX1_init_18 (by omega) (fun q => absurd q (by omega)) (fun _ => ?_)
  refine k_aload_n hx dX1_init_21 0 rfl ?_
  refine k_get (v := vR g 13) hx fX1_11 dX1_init_22 (by omega) hT5 rfl ?_
  refine k_iload_n hx dX1_init_25 1 rfl ?_
  refine k_new (N := 2) hx nwX1_9 dX1_init_26 rfl ⟨Nat.le_of_ble_eq_true rfl, Nat.le_of_ble_eq_true rfl⟩ (fun L6 M6 hL6 hM6 => ?_)
  show K x g 13 508 L6 26 M6 29 [(0, vR g 12), (1, vI 1)] [vR g 25, vI 1, vR g 13]
  have hA6_1 : L6 13 = kR 2 [some 14, none, none, none, none, none] := by rw [hL6, upL_n (by omega)]; exact hA5_1
  have hT6 : L6 12 = kO 1 [some (some 13), none, none] := by rw [hL6, upL_n (by omega)]; exact hT5
  have hN6 : L6 25 = kO 3 [some none, some none] := by rw [hL6]; exact upL_s
  refine k_dup hx dX1_init_29 rfl ?_
  refine k_callI (rest := [vR g 25, vI 1, vR g 13]) hx iX1_17 dX1_init_30 (i_X3 (s := 25) isS_25 hN6) rfl rfl rfl ⟨rfl, rfl⟩ ⟨Nat.le_of_ble_eq_true rfl, Nat.le_of_ble_eq_true rfl⟩ (fun r7 L7 n7 M7 h7 => ?_)
  obtain ⟨rfl, rfl, kp7, km7, hl7, hP7⟩ := h7
  show K x g 23 1006 L7 36 M7 33 [(0, vR g 12), (1, vI 1)] [vR g 25, vI 1, vR g 13]
  have hA7_1 : L7 13 = kR 2 [some 14, none, none, none, none, none] := (kp7 13 (by omega)).trans hA6_1
  have hT7 : L7 12 = kO 1 [some (some 13), none, none] := (kp7 12 (by omega)).trans hT6
  refine k_aast (ci := 3) (qs' := [some 14, some 25, none, none, none, none]) hx (by first | exact Or.inl ⟨rfl, rfl⟩ | exact Or.inr ⟨rfl, rfl⟩) dX1_init_33 (by omega) hA7_1 (by omega) ((hl7 25 (by omega) (by omega)).trans (isS_25 (g := g)).1) ⟨by omega, by simp only [List.length_cons, List.length_nil]; omega⟩ (by simp only [List.length_cons, List.length_nil]; omega) rfl (fun L8 hL8 => ?_)
  have hT8 : L8 12 = kO 1 [some (some 13), none, none] := by rw [hL8, upL_n (by omega)]; exact hT7
  have hA8_1 : L8 13 = kR 2 [some 14, some 25, none, none, none, none] := by rw [hL8]; exact upL_s
  refine k_iincV (v := 2) (ls' := [(0, vR g 12), (1, vI 2)]) hx dX1_init_34 1 rfl rfl rfl rfl (by decide) ?_
  refine k_goto hx dX1_init_37 ?_
  refine k_iload_n hx dX1_init_15 1 rfl ?_
  refine k_bipush hx dX1_init_16 (by decide +kernel) ?_
  refine k_icmp_ge hx dX1_init_18 (by omega) (fun q => absurd q (by omega)) (fun _ => ?_)
  refine k_aload_n hx dX1_init_21 0 rfl ?_
  refine k_get (v := vR g 13) hx fX1_11 dX1_init_22 (by omega) hT8 rfl ?_
  refine k_iload_n hx dX1_init_25 1 rfl ?_
  refine k_new (N := 2) hx nwX1_9 dX1_init_26 rfl ⟨Nat.le_of_ble_eq_true rfl, Nat.le_of_ble_eq_true rfl⟩ (fun L9 M9 hL9 hM9 => ?_)
  show K x g 24 1008 L9 37 M9 29 [(0, vR g 12), (1, vI 2)] [vR g 36, vI 2, vR g 13]
  have hA9_1 : L9 13 = kR 2 [some 14, some 25, none, none, none, none] := by rw [hL9, upL_n (by omega)]; exact hA8_1
  have hT9 : L9 12 = kO 1 [some (some 13), none, none] := by rw [hL9, upL_n (by omega)]; exact hT8
  have hN9 : L9 36 = kO 3 [some none, some none] := by rw [hL9]; exact upL_s
  refine k_dup hx dX1_init_29 rfl ?_
  refine k_callI (rest := [vR g 36, vI 2, vR g 13]) hx iX1_17 dX1_init_30 (i_X3 (s := 36) isS_36 hN9) rfl rfl rfl ⟨rfl, rfl⟩ ⟨Nat.le_of_ble_eq_true rfl, Nat.le_of_ble_eq_true rfl⟩ (fun r10 L10 n10 M10 h10 => ?_)
  obtain ⟨rfl, rfl, kp10, km10, hl10, hP10⟩ := h10
  show K x g 34 1506 L10 47 M10 33 [(0, vR g 12), (1, vI 2)] [vR g 36, vI 2, vR g 13]
  have hA10_1 : L10 13 = kR 2 [some 14, some 25, none, none, none, none] := (kp10 13 (by omega)).trans hA9_1
  have hT10 : L10 12 = kO 1 [some (some 13), none, none] := (kp10 12 (by omega)).trans hT9
  refine k_aast (ci := 3) (qs' := [some 14, some 25, some 36, none, none, none]) hx (by first | exact Or.inl ⟨rfl, rfl⟩ | exact Or.inr ⟨rfl, rfl⟩) dX1_init_33 (by omega) hA10_1 (by omega) ((hl10 36 (by omega) (by omega)).trans (isS_36 (g := g)).1) ⟨by omega, by simp only [List.length_cons, List.length_nil]; omega⟩ (by simp only [List.length_cons, List.length_nil]; omega) rfl (fun L11 hL11 => ?_)
  have hT11 : L11 12 = kO 1 [some (some 13), none, none] := by rw [hL11, upL_n (by omega)]; exact hT10
  have hA11_1 : L11 13 = kR 2 [some 14, some 25, some 36, none, none, none] := by rw [hL11]; exact upL_s
  refine k_iincV (v := 3) (ls' := [(0, vR g 12), (1, vI 3)]) hx dX1_init_34 1 rfl rfl rfl rfl (by decide) ?_
  refine k_goto hx dX1_init_37 ?_
  refine k_iload_n hx dX1_init_15 1 rfl ?_
  refine k_bipush hx dX1_init_16 (by decide +kernel) ?_
  refine k_icmp_ge hx dX1_init_18 (by omega) (fun q => absurd q (by omega)) (fun _ => ?_)
  refine k_aload_n hx dX1_init_21 0 rfl ?_
  refine k_get (v := vR g 13) hx fX1_11 dX1_init_22 (by omega) hT11 rfl ?_
  refine k_iload_n hx dX1_init_25 1 rfl ?_
  refine k_new (N := 2) hx nwX1_9 dX1_init_26 rfl ⟨Nat.le_of_ble_eq_true rfl, Nat.le_of_ble_eq_true rfl⟩ (fun L12 M12 hL12 hM12 => ?_)
  show K x g 35 1508 L12 48 M12 29 [(0, vR g 12), (1, vI 3)] [vR g 47, vI 3, vR g 13]
  have hA12_1 : L12 13 = kR 2 [some 14, some 25, some 36, none, none, none] := by rw [hL12, upL_n (by omega)]; exact hA11_1
  have hT12 : L12 12 = kO 1 [some (some 13), none, none] := by rw [hL12, upL_n (by omega)]; exact hT11
  have hN12 : L12 47 = kO 3 [some none, some none] := by rw [hL12]; exact upL_s
  refine k_dup hx dX1_init_29 rfl ?_
  refine k_callI (rest := [vR g 47, vI 3, vR g 13]) hx iX1_17 dX1_init_30 (i_X3 (s := 47) isS_47 hN12) rfl rfl rfl ⟨rfl, rfl⟩ ⟨Nat.le_of_ble_eq_true rfl, Nat.le_of_ble_eq_true rfl⟩ (fun r13 L13 n13 M13 h13 => ?_)
  obtain ⟨rfl, rfl, kp13, km13, hl13, hP13⟩ := h13
  show K x g 45 2006 L13 58 M13 33 [(0, vR g 12), (1, vI 3)] [vR g 47, vI 3, vR g 13]
  have hA13_1 : L13 13 = kR 2 [some 14, some 25, some 36, none, none, none] := (kp13 13 (by omega)).trans hA12_1
  have hT13 : L13 12 = kO 1 [some (some 13), none, none] := (kp13 12 (by omega)).trans hT12
  refine k_aast (ci := 3) (qs' := [some 14, some 25, some 36, some 47, none, none]) hx (by first | exact Or.inl ⟨rfl, rfl⟩ | exact Or.inr ⟨rfl, rfl⟩) dX1_init_33 (by omega) hA13_1 (by omega) ((hl13 47 (by omega) (by omega)).trans (isS_47 (g := g)).1) ⟨by omega, by simp only [List.length_cons, List.length_nil]; omega⟩ (by simp only [List.length_cons, List.length_nil]; omega) rfl (fun L14 hL14 => ?_)
  have hT14 : L14 12 = kO 1 [some (some 13), none, none] := by rw [hL14, upL_n (by omega)]; exact hT13
  have hA14_1 : L14 13 = kR 2 [some 14, some 25, some 36, some 47, none, none] := by rw [hL14]; exact upL_s
  refine k_iincV (v := 4) (ls' := [(0, vR g 12), (1, vI 4)]) hx dX1_init_34 1 rfl rfl rfl rfl (by decide) ?_
  refine k_goto hx dX1_init_37 ?_
  refine k_iload_n hx dX1_init_15 1 rfl ?_
  refine k_bipush hx dX1_init_16 (by decide +kernel) ?_
  refine k_icmp_ge hx dX1_init_18 (by omega) (fun q => absurd q (by omega)) (fun _ => ?_)
  refine k_aload_n hx dX1_init_21 0 rfl ?_
  refine k_get (v := vR g 13) hx fX1_11 dX1_init_22 (by omega) hT14 rfl ?_
  refine k_iload_n hx dX1_init_25 1 rfl ?_
  refine k_new (N := 2) hx nwX1_9 dX1_init_26 rfl ⟨Nat.le_of_ble_eq_true rfl, Nat.le_of_ble_eq_true rfl⟩ (fun L15 M15 hL15 hM15 => ?_)
  show K x g 46 2008 L15 59 M15 29 [(0, vR g 12), (1, vI 4)] [vR g 58, vI 4, vR g 13]
  have hA15_1 : L15 13 = kR 2 [some 14, some 25, some 36, some 47, none, none] := by rw [hL15, upL_n (by omega)]; exact hA14_1
  have hT15 : L15 12 = kO 1 [some (some 13), none, none] := by rw [hL15, upL_n (by omega)]; exact hT14
  have hN15 : L15 58 = kO 3 [some none, some none] := by rw [hL15]; exact upL_s
  refine k_dup hx dX1_init_29 rfl ?_
  refine k_callI (rest := [vR g 58, vI 4, vR g 13]) hx iX1_17 dX1_init_30 (i_X3 (s := 58) isS_58 hN15) rfl rfl rfl ⟨rfl, rfl⟩ ⟨Nat.le_of_ble_eq_true rfl, Nat.le_of_ble_eq_true rfl⟩ (fun r16 L16 n16 M16 h16 => ?_)
  obtain ⟨rfl, rfl, kp16, km16, hl16, hP16⟩ := h16
  show K x g 56 2506 L16 69 M16 33 [(0, vR g 12), (1, vI 4)] [vR g 58, vI 4, vR g 13]
  have hA16_1 : L16 13 = kR 2 [some 14, some 25, some 36, some 47, none, none] := (kp16 13 (by omega)).trans hA15_1
  have hT16 : L16 12 = kO 1 [some (some 13), none, none] := (kp16 12 (by omega)).trans hT15
  refine k_aast (ci := 3) (qs' := [some 14, some 25, some 36, some 47, some 58, none]) hx (by first | exact Or.inl ⟨rfl, rfl⟩ | exact Or.inr ⟨rfl, rfl⟩) dX1_init_33 (by omega) hA16_1 (by omega) ((hl16 58 (by omega) (by omega)).trans (isS_58 (g := g)).1) ⟨by omega, by simp only [List.length_cons, List.length_nil]; omega⟩ (by simp only [List.length_cons, List.length_nil]; omega) rfl (fun L17 hL17 => ?_)
  have hT17 : L17 12 = kO 1 [some (some 13), none, none] := by rw [hL17, upL_n (by omega)]; exact hT16
  have hA17_1 : L17 13 = kR 2 [some 14, some 25, some 36, some 47, some 58, none] := by rw [hL17]; exact upL_s
  refine k_iincV (v := 5) (ls' := [(0, vR g 12), (1, vI 5)]) hx dX1_init_34 1 rfl rfl rfl rfl (by decide) ?_
  refine k_goto hx dX1_init_37 ?_
  refine k_iload_n hx dX1_init_15 1 rfl ?_
  refine k_bipush hx dX1_init_16 (by decide +kernel) ?_
  refine k_icmp_ge hx dX1_init_18 (by omega) (fun q => absurd q (by omega)) (fun _ => ?_)
  refine k_aload_n hx dX1_init_21 0 rfl ?_
  refine k_get (v := vR g 13) hx fX1_11 dX1_init_22 (by omega) hT17 rfl ?_
  refine k_iload_n hx dX1_init_25 1 rfl ?_
  refine k_new (N := 2) hx nwX1_9 dX1_init_26 rfl ⟨Nat.le_of_ble_eq_true rfl, Nat.le_of_ble_eq_true rfl⟩ (fun L18 M18 hL18 hM18 => ?_)
  show K x g 57 2508 L18 70 M18 29 [(0, vR g 12), (1, vI 5)] [vR g 69, vI 5, vR g 13]
  have hA18_1 : L18 13 = kR 2 [some 14, some 25, some 36, some 47, some 58, none] := by rw [hL18, upL_n (by omega)]; exact hA17_1
  have hT18 : L18 12 = kO 1 [some (some 13), none, none] := by rw [hL18, upL_n (by omega)]; exact hT17
  have hN18 : L18 69 = kO 3 [some none, some none] := by rw [hL18]; exact upL_s
  refine k_dup hx dX1_init_29 rfl ?_
  refine k_callI (rest := [vR g 69, vI 5, vR g 13]) hx iX1_17 dX1_init_30 (i_X3 (s := 69) isS_69 hN18) rfl rfl rfl ⟨rfl, rfl⟩ ⟨Nat.le_of_ble_eq_true rfl, Nat.le_of_ble_eq_true rfl⟩ (fun r19 L19 n19 M19 h19 => ?_)
  obtain ⟨rfl, rfl, kp19, km19, hl19, hP19⟩ := h19
  show K x g 67 3006 L19 80 M19 33 [(0, vR g 12), (1, vI 5)] [vR g 69, vI 5, vR g 13]
  have hA19_1 : L19 13 = kR 2 [some 14, some 25, some 36, some 47, some 58, none] := (kp19 13 (by omega)).trans hA18_1
  have hT19 : L19 12 = kO 1 [some (some 13), none, none] := (kp19 12 (by omega)).trans hT18
  refine k_aast (ci := 3) (qs' := [some 14, some 25, some 36, some 47, some 58, some 69]) hx (by first | exact Or.inl ⟨rfl, rfl⟩ | exact Or.inr ⟨rfl, rfl⟩) dX1_init_33 (by omega) hA19_1 (by omega) ((hl19 69 (by omega) (by omega)).trans (isS_69 (g := g)).1) ⟨by omega, by simp only [List.length_cons, List.length_nil]; omega⟩ (by simp only [List.length_cons, List.length_nil]; omega) rfl (fun L20 hL20 => ?_)
  have hT20 : L20 12 = kO 1 [some (some 13), none, none] := by rw [hL20, upL_n (by omega)]; exact hT19
  have hA20_1 : L20 13 = kR 2 [some 14, some 25, some 36, some 47, some 58, some 69] := by rw [hL20]; exact upL_s
  refine k_iincV (v := 6) (ls' := [(0, vR g 12), (1, vI 6)]) hx dX1_init_34 1 rfl rfl rfl rfl (by decide) ?_
  refine k_goto hx dX1_init_37 ?_
  refine k_iload_n hx dX1_init_15 1 rfl ?_
  refine k_bipush hx dX1_init_16 (by decide +kernel) ?_
  refine k_icmp_ge hx dX1_init_18 (by omega) (fun _ => ?_) (fun q => absurd q (by omega))
  refine k_aload_n hx dX1_init_40 0 rfl ?_
  refine k_iconst hx dX1_init_41 ?_
  refine k_putI (kz := 1) hx fX1_18 dX1_init_42 (by omega) hT20 rfl rfl (fun M21 hM21 => ?_)
  refine k_aload_n hx dX1_init_45 0 rfl ?_
  refine k_iconst hx dX1_init_46 ?_
  refine k_putI (kz := 2) hx fX1_22 dX1_init_47 (by omega) hT20 rfl rfl (fun M22 hM22 => ?_)
  refine k_vret hx hr dX1_init_50 ?_
  refine ⟨rfl, rfl, fun j hj => ?_, fun j hj => ?_, fun j j0 j1 => ?_, ?_⟩
  · rw [hL20, upL_n (by omega), kp19 _ (by omega), hL18, upL_n (by omega), hL17, upL_n (by omega), kp16 _ (by omega), hL15, upL_n (by omega), hL14, upL_n (by omega), kp13 _ (by omega), hL12, upL_n (by omega), hL11, upL_n (by omega), kp10 _ (by omega), hL9, upL_n (by omega), hL8, upL_n (by omega), kp7 _ (by omega), hL6, upL_n (by omega), hL5, upL_n (by omega), kp4 _ (by omega), hL3, upL_n (by omega), hL2, upL_n (by omega), hL1, upL_n (by omega)]
  · rw [hM22, up_i (by omega), hM21, up_i (by omega), km19 _ (by omega), hM18, clr_n (by omega), km16 _ (by omega), hM15, clr_n (by omega), km13 _ (by omega), hM12, clr_n (by omega), km10 _ (by omega), hM9, clr_n (by omega), km7 _ (by omega), hM6, clr_n (by omega), km4 _ (by omega), hM3, clr_n (by omega), hM1, clr_n (by omega)]
  · rcases (show j = 12 ∨ j = 13 ∨ (14 ≤ j ∧ j < 25) ∨ (25 ≤ j ∧ j < 36) ∨ (36 ≤ j ∧ j < 47) ∨ (47 ≤ j ∧ j < 58) ∨ (58 ≤ j ∧ j < 69) ∨ (69 ≤ j ∧ j < 80) by omega) with rfl | rfl | ⟨g1, g2⟩ | ⟨g1, g2⟩ | ⟨g1, g2⟩ | ⟨g1, g2⟩ | ⟨g1, g2⟩ | ⟨g1, g2⟩
    · rw [hL20, upL_n (by omega), kp19 _ (by omega), hL18, upL_n (by omega), hL17, upL_n (by omega), kp16 _ (by omega), hL15, upL_n (by omega), hL14, upL_n (by omega), kp13 _ (by omega), hL12, upL_n (by omega), hL11, upL_n (by omega), kp10 _ (by omega), hL9, upL_n (by omega), hL8, upL_n (by omega), kp7 _ (by omega), hL6, upL_n (by omega), hL5, upL_n (by omega), kp4 _ (by omega), hL3, upL_n (by omega), hL2, upL_s]; exact rfl
    · rw [hL20, upL_s]; exact rfl
    · rw [hL20, upL_n (by omega), kp19 _ (by omega), hL18, upL_n (by omega), hL17, upL_n (by omega), kp16 _ (by omega), hL15, upL_n (by omega), hL14, upL_n (by omega), kp13 _ (by omega), hL12, upL_n (by omega), hL11, upL_n (by omega), kp10 _ (by omega), hL9, upL_n (by omega), hL8, upL_n (by omega), kp7 _ (by omega), hL6, upL_n (by omega), hL5, upL_n (by omega)]; exact hl4 j g1 g2
    · rw [hL20, upL_n (by omega), kp19 _ (by omega), hL18, upL_n (by omega), hL17, upL_n (by omega), kp16 _ (by omega), hL15, upL_n (by omega), hL14, upL_n (by omega), kp13 _ (by omega), hL12, upL_n (by omega), hL11, upL_n (by omega), kp10 _ (by omega), hL9, upL_n (by omega), hL8, upL_n (by omega)]; exact hl7 j g1 g2
    · rw [hL20, upL_n (by omega), kp19 _ (by omega), hL18, upL_n (by omega), hL17, upL_n (by omega), kp16 _ (by omega), hL15, upL_n (by omega), hL14, upL_n (by omega), kp13 _ (by omega), hL12, upL_n (by omega), hL11, upL_n (by omega)]; exact hl10 j g1 g2
    · rw [hL20, upL_n (by omega), kp19 _ (by omega), hL18, upL_n (by omega), hL17, upL_n (by omega), kp16 _ (by omega), hL15, upL_n (by omega), hL14, upL_n (by omega)]; exact hl13 j g1 g2
    · rw [hL20, upL_n (by omega), kp19 _ (by omega), hL18, upL_n (by omega), hL17, upL_n (by omega)]; exact hl16 j g1 g2
    · rw [hL20, upL_n (by omega)]; exact hl19 j g1 g2
  · show M22 12 1 = 0 ∧ M22 12 2 = 0
    exact ⟨(by rw [hM22, up_k (by decide), hM21, up_s]), (by rw [hM22, up_s])⟩
set_option maxHeartbeats 4000000 in
theorem i_X0 {g : GE} {l : Launch} {L : Lay} {M : Mem} (hT : L 104 = kO 0 [some none, none, some none, some none, some none, none]) : Ct g l μX0_init 4 72 [vR g 104] L 105 M (Mk 104 5 L M (fun M' => M' 104 1 = 0 ∧ M' 104 5 = 0)) := by
  refine Ct.of (by decide +kernel) rfl (fun x _ hx hnm hr => ?_)
  show K x g 0 0 L 105 M 0 [(0, vR g 104)] []
  refine k_aload_n hx dX0_init_0 0 rfl ?_
  refine k_objI hx oX0 dX0_init_1 ⟨rfl, rfl⟩ ?_
  refine k_aload_n hx dX0_init_4 0 rfl ?_
  refine k_bipush hx dX0_init_5 (by decide +kernel) ?_
  refine k_newaI (N := 60) hx dX0_init_7 rfl (by omega) ⟨Nat.le_of_ble_eq_true rfl, Nat.le_of_ble_eq_true rfl⟩ (fun L1 M1 hL1 hM1 => ?_)
  show K x g 1 60 L1 106 M1 9 [(0, vR g 104)] [vR g 105, vR g 104]
  have hT1 : L1 104 = kO 0 [some none, none, some none, some none, some none, none] := by rw [hL1, upL_n (by omega)]; exact hT
  have hN1 : L1 105 = kA 0 60 := by rw [hL1]; exact upL_s
  refine k_putFN (o := some (some 105)) (fs' := [some (some 105), none, some none, some none, some none, none]) hx hnm fX0_9 (fun q h => by cases h; rfl) dX0_init_9 (by omega) hT1 (fun m => rfl) ⟨rfl, rfl⟩ rfl (by simp only [List.length_cons, List.length_nil]; omega) (fun L2 hL2 => ?_)
  have hT2 : L2 104 = kO 0 [some (some 105), none, some none, some none, some none, none] := by rw [hL2]; exact upL_s
  refine k_aload_n hx dX0_init_12 0 rfl ?_
  refine k_iconst hx dX0_init_13 ?_
  refine k_putI (kz := 1) hx fX0_15 dX0_init_14 (by omega) hT2 rfl rfl (fun M3 hM3 => ?_)
  refine k_aload_n hx dX0_init_17 0 rfl ?_
  refine k_iconst hx dX0_init_18 ?_
  refine k_newaI (N := 4) hx dX0_init_19 rfl (by omega) ⟨Nat.le_of_ble_eq_true rfl, Nat.le_of_ble_eq_true rfl⟩ (fun L4 M4 hL4 hM4 => ?_)
  show K x g 2 64 L4 107 M4 21 [(0, vR g 104)] [vR g 106, vR g 104]
  have hT4 : L4 104 = kO 0 [some (some 105), none, some none, some none, some none, none] := by rw [hL4, upL_n (by omega)]; exact hT2
  have hN4 : L4 106 = kA 0 4 := by rw [hL4]; exact upL_s
  refine k_putFN (o := some (some 106)) (fs' := [some (some 105), none, some (some 106), some none, some none, none]) hx hnm fX0_19 (fun q h => by cases h; rfl) dX0_init_21 (by omega) hT4 (fun m => rfl) ⟨rfl, rfl⟩ rfl (by simp only [List.length_cons, List.length_nil]; omega) (fun L5 hL5 => ?_)
  have hT5 : L5 104 = kO 0 [some (some 105), none, some (some 106), some none, some none, none] := by rw [hL5]; exact upL_s
  refine k_aload_n hx dX0_init_24 0 rfl ?_
  refine k_iconst hx dX0_init_25 ?_
  refine k_newaI (N := 4) hx dX0_init_26 rfl (by omega) ⟨Nat.le_of_ble_eq_true rfl, Nat.le_of_ble_eq_true rfl⟩ (fun L6 M6 hL6 hM6 => ?_)
  show K x g 3 68 L6 108 M6 28 [(0, vR g 104)] [vR g 107, vR g 104]
  have hT6 : L6 104 = kO 0 [some (some 105), none, some (some 106), some none, some none, none] := by rw [hL6, upL_n (by omega)]; exact hT5
  have hN6 : L6 107 = kA 0 4 := by rw [hL6]; exact upL_s
  refine k_putFN (o := some (some 107)) (fs' := [some (some 105), none, some (some 106), some (some 107), some none, none]) hx hnm fX0_22 (fun q h => by cases h; rfl) dX0_init_28 (by omega) hT6 (fun m => rfl) ⟨rfl, rfl⟩ rfl (by simp only [List.length_cons, List.length_nil]; omega) (fun L7 hL7 => ?_)
  have hT7 : L7 104 = kO 0 [some (some 105), none, some (some 106), some (some 107), some none, none] := by rw [hL7]; exact upL_s
  refine k_aload_n hx dX0_init_31 0 rfl ?_
  refine k_iconst hx dX0_init_32 ?_
  refine k_newaI (N := 4) hx dX0_init_33 rfl (by omega) ⟨Nat.le_of_ble_eq_true rfl, Nat.le_of_ble_eq_true rfl⟩ (fun L8 M8 hL8 hM8 => ?_)
  show K x g 4 72 L8 109 M8 35 [(0, vR g 104)] [vR g 108, vR g 104]
  have hT8 : L8 104 = kO 0 [some (some 105), none, some (some 106), some (some 107), some none, none] := by rw [hL8, upL_n (by omega)]; exact hT7
  have hN8 : L8 108 = kA 0 4 := by rw [hL8]; exact upL_s
  refine k_putFN (o := some (some 108)) (fs' := [some (some 105), none, some (some 106), some (some 107), some (some 108), none]) hx hnm fX0_25 (fun q h => by cases h; rfl) dX0_init_35 (by omega) hT8 (fun m => rfl) ⟨rfl, rfl⟩ rfl (by simp only [List.length_cons, List.length_nil]; omega) (fun L9 hL9 => ?_)
  have hT9 : L9 104 = kO 0 [some (some 105), none, some (some 106), some (some 107), some (some 108), none] := by rw [hL9]; exact upL_s
  refine k_aload_n hx dX0_init_38 0 rfl ?_
  refine k_iconst hx dX0_init_39 ?_
  refine k_putI (kz := 5) hx fX0_28 dX0_init_40 (by omega) hT9 rfl rfl (fun M10 hM10 => ?_)
  refine k_vret hx hr dX0_init_43 ?_
  refine ⟨rfl, rfl, fun j hj => ?_, fun j hj => ?_, fun j j0 j1 => ?_, ?_⟩
  · rw [hL9, upL_n (by omega), hL8, upL_n (by omega), hL7, upL_n (by omega), hL6, upL_n (by omega), hL5, upL_n (by omega), hL4, upL_n (by omega), hL2, upL_n (by omega), hL1, upL_n (by omega)]
  · rw [hM10, up_i (by omega), hM8, clr_n (by omega), hM6, clr_n (by omega), hM4, clr_n (by omega), hM3, up_i (by omega), hM1, clr_n (by omega)]
  · rcases (show j = 104 ∨ j = 105 ∨ j = 106 ∨ j = 107 ∨ j = 108 by omega) with rfl | rfl | rfl | rfl | rfl
    · rw [hL9, upL_s]; exact rfl
    · rw [hL9, upL_n (by omega), hL8, upL_n (by omega), hL7, upL_n (by omega), hL6, upL_n (by omega), hL5, upL_n (by omega), hL4, upL_n (by omega), hL2, upL_n (by omega), hL1, upL_s]; exact rfl
    · rw [hL9, upL_n (by omega), hL8, upL_n (by omega), hL7, upL_n (by omega), hL6, upL_n (by omega), hL5, upL_n (by omega), hL4, upL_s]; exact rfl
    · rw [hL9, upL_n (by omega), hL8, upL_n (by omega), hL7, upL_n (by omega), hL6, upL_s]; exact rfl
    · rw [hL9, upL_n (by omega), hL8, upL_s]; exact rfl
  · show M10 104 1 = 0 ∧ M10 104 5 = 0
    exact ⟨(by rw [hM10, up_k (by decide), hM8, clr_n (by omega), hM6, clr_n (by omega), hM4, clr_n (by omega), hM3, up_s]), (by rw [hM10, up_s])⟩
set_option maxHeartbeats 4000000 in
theorem i_X2 {g : GE} {l : Launch} {L : Lay} {M : Mem} (hT : L 109 = kO 2 [some none, some none, some none, some none]) : Ct g l μX2_init 4 7512 [vR g 109] L 110 M (Mk 109 5 L M (fun M' => True)) := by
  refine Ct.of (by decide +kernel) rfl (fun x _ hx hnm hr => ?_)
  show K x g 0 0 L 110 M 0 [(0, vR g 109)] []
  refine k_aload_n hx dX2_init_0 0 rfl ?_
  refine k_objI hx oX2 dX2_init_1 ⟨rfl, rfl⟩ ?_
  refine k_aload_n hx dX2_init_4 0 rfl ?_
  refine k_sipush hx dX2_init_5 (by decide +kernel) ?_
  refine k_newaI (N := 7260) hx dX2_init_8 rfl (by omega) ⟨Nat.le_of_ble_eq_true rfl, Nat.le_of_ble_eq_true rfl⟩ (fun L1 M1 hL1 hM1 => ?_)
  show K x g 1 7260 L1 111 M1 10 [(0, vR g 109)] [vR g 110, vR g 109]
  have hT1 : L1 109 = kO 2 [some none, some none, some none, some none] := by rw [hL1, upL_n (by omega)]; exact hT
  have hN1 : L1 110 = kA 0 7260 := by rw [hL1]; exact upL_s
  refine k_putFN (o := some (some 110)) (fs' := [some (some 110), some none, some none, some none]) hx hnm fX2_9 (fun q h => by cases h; rfl) dX2_init_10 (by omega) hT1 (fun m => rfl) ⟨rfl, rfl⟩ rfl (by simp only [List.length_cons, List.length_nil]; omega) (fun L2 hL2 => ?_)
  have hT2 : L2 109 = kO 2 [some (some 110), some none, some none, some none] := by rw [hL2]; exact upL_s
  refine k_aload_n hx dX2_init_13 0 rfl ?_
  refine k_bipush hx dX2_init_14 (by decide +kernel) ?_
  refine k_newaI (N := 120) hx dX2_init_16 rfl (by omega) ⟨Nat.le_of_ble_eq_true rfl, Nat.le_of_ble_eq_true rfl⟩ (fun L3 M3 hL3 hM3 => ?_)
  show K x g 2 7380 L3 112 M3 18 [(0, vR g 109)] [vR g 111, vR g 109]
  have hT3 : L3 109 = kO 2 [some (some 110), some none, some none, some none] := by rw [hL3, upL_n (by omega)]; exact hT2
  have hN3 : L3 111 = kA 0 120 := by rw [hL3]; exact upL_s
  refine k_putFN (o := some (some 111)) (fs' := [some (some 110), some (some 111), some none, some none]) hx hnm fX2_15 (fun q h => by cases h; rfl) dX2_init_18 (by omega) hT3 (fun m => rfl) ⟨rfl, rfl⟩ rfl (by simp only [List.length_cons, List.length_nil]; omega) (fun L4 hL4 => ?_)
  have hT4 : L4 109 = kO 2 [some (some 110), some (some 111), some none, some none] := by rw [hL4]; exact upL_s
  refine k_aload_n hx dX2_init_21 0 rfl ?_
  refine k_bipush hx dX2_init_22 (by decide +kernel) ?_
  refine k_newaI (N := 120) hx dX2_init_24 rfl (by omega) ⟨Nat.le_of_ble_eq_true rfl, Nat.le_of_ble_eq_true rfl⟩ (fun L5 M5 hL5 hM5 => ?_)
  show K x g 3 7500 L5 113 M5 26 [(0, vR g 109)] [vR g 112, vR g 109]
  have hT5 : L5 109 = kO 2 [some (some 110), some (some 111), some none, some none] := by rw [hL5, upL_n (by omega)]; exact hT4
  have hN5 : L5 112 = kA 0 120 := by rw [hL5]; exact upL_s
  refine k_putFN (o := some (some 112)) (fs' := [some (some 110), some (some 111), some (some 112), some none]) hx hnm fX2_18 (fun q h => by cases h; rfl) dX2_init_26 (by omega) hT5 (fun m => rfl) ⟨rfl, rfl⟩ rfl (by simp only [List.length_cons, List.length_nil]; omega) (fun L6 hL6 => ?_)
  have hT6 : L6 109 = kO 2 [some (some 110), some (some 111), some (some 112), some none] := by rw [hL6]; exact upL_s
  refine k_aload_n hx dX2_init_29 0 rfl ?_
  refine k_bipush hx dX2_init_30 (by decide +kernel) ?_
  refine k_newaI (N := 12) hx dX2_init_32 rfl (by omega) ⟨Nat.le_of_ble_eq_true rfl, Nat.le_of_ble_eq_true rfl⟩ (fun L7 M7 hL7 hM7 => ?_)
  show K x g 4 7512 L7 114 M7 34 [(0, vR g 109)] [vR g 113, vR g 109]
  have hT7 : L7 109 = kO 2 [some (some 110), some (some 111), some (some 112), some none] := by rw [hL7, upL_n (by omega)]; exact hT6
  have hN7 : L7 113 = kA 0 12 := by rw [hL7]; exact upL_s
  refine k_putFN (o := some (some 113)) (fs' := [some (some 110), some (some 111), some (some 112), some (some 113)]) hx hnm fX2_21 (fun q h => by cases h; rfl) dX2_init_34 (by omega) hT7 (fun m => rfl) ⟨rfl, rfl⟩ rfl (by simp only [List.length_cons, List.length_nil]; omega) (fun L8 hL8 => ?_)
  have hT8 : L8 109 = kO 2 [some (some 110), some (some 111), some (some 112), some (some 113)] := by rw [hL8]; exact upL_s
  refine k_vret hx hr dX2_init_37 ?_
  refine ⟨rfl, rfl, fun j hj => ?_, fun j hj => ?_, fun j j0 j1 => ?_, ?_⟩
  · rw [hL8, upL_n (by omega), hL7, upL_n (by omega), hL6, upL_n (by omega), hL5, upL_n (by omega), hL4, upL_n (by omega), hL3, upL_n (by omega), hL2, upL_n (by omega), hL1, upL_n (by omega)]
  · rw [hM7, clr_n (by omega), hM5, clr_n (by omega), hM3, clr_n (by omega), hM1, clr_n (by omega)]
  · rcases (show j = 109 ∨ j = 110 ∨ j = 111 ∨ j = 112 ∨ j = 113 by omega) with rfl | rfl | rfl | rfl | rfl
    · rw [hL8, upL_s]; exact rfl
    · rw [hL8, upL_n (by omega), hL7, upL_n (by omega), hL6, upL_n (by omega), hL5, upL_n (by omega), hL4, upL_n (by omega), hL3, upL_n (by omega), hL2, upL_n (by omega), hL1, upL_s]; exact rfl
    · rw [hL8, upL_n (by omega), hL7, upL_n (by omega), hL6, upL_n (by omega), hL5, upL_n (by omega), hL4, upL_n (by omega), hL3, upL_s]; exact rfl
    · rw [hL8, upL_n (by omega), hL7, upL_n (by omega), hL6, upL_n (by omega), hL5, upL_s]; exact rfl
    · rw [hL8, upL_n (by omega), hL7, upL_s]; exact rfl
  · trivial

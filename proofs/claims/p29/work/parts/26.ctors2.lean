/-! constructors of the class and of the reference -/
set_option maxHeartbeats 4000000 in
theorem i_X5 {g : GE} {l : Launch} {L : Lay} {M : Mem} (hT : L 0 = kO 5 [some none, some none, some none, some none, some none, some none, some none, some none, some none]) : Ct g l μX5_init 119 13553 [vR g 0] L 1 M (Mk 0 120 L M (fun M' => M' 2 0 = 1 ∧ M' 2 1 = 1 ∧ M' 2 2 = 1 ∧ M' 2 3 = 1 ∧ M' 2 4 = 1 ∧ M' 2 5 = 1 ∧ M' 4 1 = 0 ∧ M' 6 1 = 0 ∧ M' 8 1 = 0 ∧ M' 10 1 = 0 ∧ M' 12 1 = 0 ∧ M' 12 2 = 0 ∧ M' 103 0 = 0 ∧ M' 103 1 = 0 ∧ M' 104 1 = 0)) := by
  refine Ct.of (by decide +kernel) rfl (fun x _ hx hnm hr => ?_)
  show K x g 0 0 L 1 M 0 [(0, vR g 0)] []
  refine k_aload_n hx dX5_init_0 0 rfl ?_
  refine k_objI hx oX5 dX5_init_1 ⟨rfl, rfl⟩ ?_
  refine k_aload_n hx dX5_init_4 0 rfl ?_
  refine k_new (N := 2) hx nwX5_9 dX5_init_5 rfl ⟨Nat.le_of_ble_eq_true rfl, Nat.le_of_ble_eq_true rfl⟩ (fun L1 M1 hL1 hM1 => ?_)
  show K x g 1 2 L1 2 M1 8 [(0, vR g 0)] [vR g 1, vR g 0]
  have hT1 : L1 0 = kO 5 [some none, some none, some none, some none, some none, some none, some none, some none, some none] := by rw [hL1, upL_n (by omega)]; exact hT
  have hN1 : L1 1 = kO 3 [some none, some none] := by rw [hL1]; exact upL_s
  refine k_dup hx dX5_init_8 rfl ?_
  refine k_callI (rest := [vR g 1, vR g 0]) hx iX5_11 dX5_init_9 (i_X3 (s := 1) isS_1 hN1) rfl rfl rfl ⟨rfl, rfl⟩ ⟨Nat.le_of_ble_eq_true rfl, Nat.le_of_ble_eq_true rfl⟩ (fun r2 L2 n2 M2 h2 => ?_)
  obtain ⟨rfl, rfl, kp2, km2, hl2, hP2⟩ := h2
  show K x g 11 500 L2 12 M2 12 [(0, vR g 0)] [vR g 1, vR g 0]
  have hT2 : L2 0 = kO 5 [some none, some none, some none, some none, some none, some none, some none, some none, some none] := (kp2 0 (by omega)).trans hT1
  refine k_putFN (o := some (some 1)) (fs' := [some (some 1), some none, some none, some none, some none, some none, some none, some none, some none]) hx hnm fX5_12 (fun q h => by cases h; rfl) dX5_init_12 (by omega) hT2 (fun m => rfl) ⟨rfl, rfl⟩ rfl (by simp only [List.length_cons, List.length_nil]; omega) (fun L3 hL3 => ?_)
  have hT3 : L3 0 = kO 5 [some (some 1), some none, some none, some none, some none, some none, some none, some none, some none] := by rw [hL3]; exact upL_s
  refine k_aload_n hx dX5_init_15 0 rfl ?_
  refine k_new (N := 3) hx nwX5_16 dX5_init_16 rfl ⟨Nat.le_of_ble_eq_true rfl, Nat.le_of_ble_eq_true rfl⟩ (fun L4 M4 hL4 hM4 => ?_)
  show K x g 12 503 L4 13 M4 19 [(0, vR g 0)] [vR g 12, vR g 0]
  have hT4 : L4 0 = kO 5 [some (some 1), some none, some none, some none, some none, some none, some none, some none, some none] := by rw [hL4, upL_n (by omega)]; exact hT3
  have hN4 : L4 12 = kO 1 [some none, none, none] := by rw [hL4]; exact upL_s
  refine k_dup hx dX5_init_19 rfl ?_
  refine k_callI (rest := [vR g 12, vR g 0]) hx iX5_18 dX5_init_20 (i_X1 hN4) rfl rfl rfl ⟨rfl, rfl⟩ ⟨Nat.le_of_ble_eq_true rfl, Nat.le_of_ble_eq_true rfl⟩ (fun r5 L5 n5 M5 h5 => ?_)
  obtain ⟨rfl, rfl, kp5, km5, hl5, hP5⟩ := h5
  show K x g 79 3509 L5 80 M5 23 [(0, vR g 0)] [vR g 12, vR g 0]
  have hT5 : L5 0 = kO 5 [some (some 1), some none, some none, some none, some none, some none, some none, some none, some none] := (kp5 0 (by omega)).trans hT4
  refine k_putFN (o := some (some 12)) (fs' := [some (some 1), some (some 12), some none, some none, some none, some none, some none, some none, some none]) hx hnm fX5_19 (fun q h => by cases h; rfl) dX5_init_23 (by omega) hT5 (fun m => rfl) ⟨rfl, rfl⟩ rfl (by simp only [List.length_cons, List.length_nil]; omega) (fun L6 hL6 => ?_)
  have hT6 : L6 0 = kO 5 [some (some 1), some (some 12), some none, some none, some none, some none, some none, some none, some none] := by rw [hL6]; exact upL_s
  refine k_aload_n hx dX5_init_26 0 rfl ?_
  refine k_iconst hx dX5_init_27 ?_
  refine k_anew (N := 2) (t := 2) (qs := [none, none]) hx (by first | exact Or.inl ⟨rfl, rfl⟩ | exact Or.inr ⟨rfl, rfl⟩) wX5_9a dX5_init_28 rfl (by omega) rfl ⟨Nat.le_of_ble_eq_true rfl, Nat.le_of_ble_eq_true rfl⟩ (fun L7 M7 hL7 hM7 => ?_)
  show K x g 80 3511 L7 81 M7 31 [(0, vR g 0)] [vR g 80, vR g 0]
  have hT7 : L7 0 = kO 5 [some (some 1), some (some 12), some none, some none, some none, some none, some none, some none, some none] := by rw [hL7, upL_n (by omega)]; exact hT6
  have hN7 : L7 80 = kR 2 [none, none] := by rw [hL7]; exact upL_s
  refine k_putFN (o := some (some 80)) (fs' := [some (some 1), some (some 12), some (some 80), some none, some none, some none, some none, some none, some none]) hx hnm fX5_23 (fun q h => by cases h; rfl) dX5_init_31 (by omega) hT7 (fun m => rfl) ⟨rfl, rfl⟩ rfl (by simp only [List.length_cons, List.length_nil]; omega) (fun L8 hL8 => ?_)
  have hA8_80 : L8 80 = kR 2 [none, none] := by rw [hL8, upL_n (by omega)]; exact hN7
  have hT8 : L8 0 = kO 5 [some (some 1), some (some 12), some (some 80), some none, some none, some none, some none, some none, some none] := by rw [hL8]; exact upL_s
  refine k_iconst hx dX5_init_34 ?_
  refine k_istore_n (ls' := [(0, vR g 0), (1, vI 0)]) hx dX5_init_35 rfl rfl (by decide) ?_
  refine k_iload_n hx dX5_init_36 1 rfl ?_
  refine k_iconst hx dX5_init_37 ?_
  refine k_icmp_ge hx dX5_init_38 (by omega) (fun q => absurd q (by omega)) (fun _ => ?_)
  refine k_aload_n hx dX5_init_41 0 rfl ?_
  refine k_get (v := vR g 80) hx fX5_23 dX5_init_42 (by omega) hT8 rfl ?_
  refine k_iload_n hx dX5_init_45 1 rfl ?_
  refine k_new (N := 2) hx nwX5_9 dX5_init_46 rfl ⟨Nat.le_of_ble_eq_true rfl, Nat.le_of_ble_eq_true rfl⟩ (fun L9 M9 hL9 hM9 => ?_)
  show K x g 81 3513 L9 82 M9 49 [(0, vR g 0), (1, vI 0)] [vR g 81, vI 0, vR g 80]
  have hA9_80 : L9 80 = kR 2 [none, none] := by rw [hL9, upL_n (by omega)]; exact hA8_80
  have hT9 : L9 0 = kO 5 [some (some 1), some (some 12), some (some 80), some none, some none, some none, some none, some none, some none] := by rw [hL9, upL_n (by omega)]; exact hT8
  have hN9 : L9 81 = kO 3 [some none, some none] := by rw [hL9]; exact upL_s
  refine k_dup hx dX5_init_49 rfl ?_
  refine k_callI (rest := [vR g 81, vI 0, vR g 80]) hx iX5_11 dX5_init_50 (i_X3 (s := 81) isS_81 hN9) rfl rfl rfl ⟨rfl, rfl⟩ ⟨Nat.le_of_ble_eq_true rfl, Nat.le_of_ble_eq_true rfl⟩ (fun r10 L10 n10 M10 h10 => ?_)
  obtain ⟨rfl, rfl, kp10, km10, hl10, hP10⟩ := h10
  show K x g 91 4011 L10 92 M10 53 [(0, vR g 0), (1, vI 0)] [vR g 81, vI 0, vR g 80]
  have hA10_80 : L10 80 = kR 2 [none, none] := (kp10 80 (by omega)).trans hA9_80
  have hT10 : L10 0 = kO 5 [some (some 1), some (some 12), some (some 80), some none, some none, some none, some none, some none, some none] := (kp10 0 (by omega)).trans hT9
  refine k_aast (ci := 3) (qs' := [some 81, none]) hx (by first | exact Or.inl ⟨rfl, rfl⟩ | exact Or.inr ⟨rfl, rfl⟩) dX5_init_53 (by omega) hA10_80 (by omega) ((hl10 81 (by omega) (by omega)).trans (isS_81 (g := g)).1) ⟨by omega, by simp only [List.length_cons, List.length_nil]; omega⟩ (by simp only [List.length_cons, List.length_nil]; omega) rfl (fun L11 hL11 => ?_)
  have hT11 : L11 0 = kO 5 [some (some 1), some (some 12), some (some 80), some none, some none, some none, some none, some none, some none] := by rw [hL11, upL_n (by omega)]; exact hT10
  have hA11_80 : L11 80 = kR 2 [some 81, none] := by rw [hL11]; exact upL_s
  refine k_iincV (v := 1) (ls' := [(0, vR g 0), (1, vI 1)]) hx dX5_init_54 1 rfl rfl rfl rfl (by decide) ?_
  refine k_goto hx dX5_init_57 ?_
  refine k_iload_n hx dX5_init_36 1 rfl ?_
  refine k_iconst hx dX5_init_37 ?_
  refine k_icmp_ge hx dX5_init_38 (by omega) (fun q => absurd q (by omega)) (fun _ => ?_)
  refine k_aload_n hx dX5_init_41 0 rfl ?_
  refine k_get (v := vR g 80) hx fX5_23 dX5_init_42 (by omega) hT11 rfl ?_
  refine k_iload_n hx dX5_init_45 1 rfl ?_
  refine k_new (N := 2) hx nwX5_9 dX5_init_46 rfl ⟨Nat.le_of_ble_eq_true rfl, Nat.le_of_ble_eq_true rfl⟩ (fun L12 M12 hL12 hM12 => ?_)
  show K x g 92 4013 L12 93 M12 49 [(0, vR g 0), (1, vI 1)] [vR g 92, vI 1, vR g 80]
  have hA12_80 : L12 80 = kR 2 [some 81, none] := by rw [hL12, upL_n (by omega)]; exact hA11_80
  have hT12 : L12 0 = kO 5 [some (some 1), some (some 12), some (some 80), some none, some none, some none, some none, some none, some none] := by rw [hL12, upL_n (by omega)]; exact hT11
  have hN12 : L12 92 = kO 3 [some none, some none] := by rw [hL12]; exact upL_s
  refine k_dup hx dX5_init_49 rfl ?_
  refine k_callI (rest := [vR g 92, vI 1, vR g 80]) hx iX5_11 dX5_init_50 (i_X3 (s := 92) isS_92 hN12) rfl rfl rfl ⟨rfl, rfl⟩ ⟨Nat.le_of_ble_eq_true rfl, Nat.le_of_ble_eq_true rfl⟩ (fun r13 L13 n13 M13 h13 => ?_)
  obtain ⟨rfl, rfl, kp13, km13, hl13, hP13⟩ := h13
  show K x g 102 4511 L13 103 M13 53 [(0, vR g 0), (1, vI 1)] [vR g 92, vI 1, vR g 80]
  have hA13_80 : L13 80 = kR 2 [some 81, none] := (kp13 80 (by omega)).trans hA12_80
  have hT13 : L13 0 = kO 5 [some (some 1), some (some 12), some (some 80), some none, some none, some none, some none, some none, some none] := (kp13 0 (by omega)).trans hT12
  refine k_aast (ci := 3) (qs' := [some 81, some 92]) hx (by first | exact Or.inl ⟨rfl, rfl⟩ | exact Or.inr ⟨rfl, rfl⟩) dX5_init_53 (by omega) hA13_80 (by omega) ((hl13 92 (by omega) (by omega)).trans (isS_92 (g := g)).1) ⟨by omega, by simp only [List.length_cons, List.length_nil]; omega⟩ (by simp only [List.length_cons, List.length_nil]; omega) rfl (fun L14 hL14 => ?_)
  have hT14 : L14 0 = kO 5 [some (some 1), some (some 12), some (some 80), some none, some none, some none, some none, some none, some none] := by rw [hL14, upL_n (by omega)]; exact hT13
  have hA14_80 : L14 80 = kR 2 [some 81, some 92] := by rw [hL14]; exact upL_s
  refine k_iincV (v := 2) (ls' := [(0, vR g 0), (1, vI 2)]) hx dX5_init_54 1 rfl rfl rfl rfl (by decide) ?_
  refine k_goto hx dX5_init_57 ?_
  refine k_iload_n hx dX5_init_36 1 rfl ?_
  refine k_iconst hx dX5_init_37 ?_
  refine k_icmp_ge hx dX5_init_38 (by omega) (fun _ => ?_) (fun q => absurd q (by omega))
  refine k_aload_n hx dX5_init_60 0 rfl ?_
  refine k_iconst hx dX5_init_61 ?_
  refine k_newaZ (N := 2) hx dX5_init_62 rfl (by omega) ⟨Nat.le_of_ble_eq_true rfl, Nat.le_of_ble_eq_true rfl⟩ (fun L15 M15 hL15 hM15 => ?_)
  show K x g 103 4513 L15 104 M15 64 [(0, vR g 0), (1, vI 2)] [vR g 103, vR g 0]
  have hA15_80 : L15 80 = kR 2 [some 81, some 92] := by rw [hL15, upL_n (by omega)]; exact hA14_80
  have hT15 : L15 0 = kO 5 [some (some 1), some (some 12), some (some 80), some none, some none, some none, some none, some none, some none] := by rw [hL15, upL_n (by omega)]; exact hT14
  have hN15 : L15 103 = kA 1 2 := by rw [hL15]; exact upL_s
  refine k_putFN (o := some (some 103)) (fs' := [some (some 1), some (some 12), some (some 80), some (some 103), some none, some none, some none, some none, some none]) hx hnm fX5_27 (fun q h => by cases h; rfl) dX5_init_64 (by omega) hT15 (fun m => rfl) ⟨rfl, rfl⟩ rfl (by simp only [List.length_cons, List.length_nil]; omega) (fun L16 hL16 => ?_)
  have hA16_80 : L16 80 = kR 2 [some 81, some 92] := by rw [hL16, upL_n (by omega)]; exact hA15_80
  have hT16 : L16 0 = kO 5 [some (some 1), some (some 12), some (some 80), some (some 103), some none, some none, some none, some none, some none] := by rw [hL16]; exact upL_s
  refine k_aload_n hx dX5_init_67 0 rfl ?_
  refine k_new (N := 6) hx nwX5_31 dX5_init_68 rfl ⟨Nat.le_of_ble_eq_true rfl, Nat.le_of_ble_eq_true rfl⟩ (fun L17 M17 hL17 hM17 => ?_)
  show K x g 104 4519 L17 105 M17 71 [(0, vR g 0), (1, vI 2)] [vR g 104, vR g 0]
  have hA17_80 : L17 80 = kR 2 [some 81, some 92] := by rw [hL17, upL_n (by omega)]; exact hA16_80
  have hT17 : L17 0 = kO 5 [some (some 1), some (some 12), some (some 80), some (some 103), some none, some none, some none, some none, some none] := by rw [hL17, upL_n (by omega)]; exact hT16
  have hN17 : L17 104 = kO 0 [some none, none, some none, some none, some none, none] := by rw [hL17]; exact upL_s
  refine k_dup hx dX5_init_71 rfl ?_
  refine k_callI (rest := [vR g 104, vR g 0]) hx iX5_33 dX5_init_72 (i_X0 hN17) rfl rfl rfl ⟨rfl, rfl⟩ ⟨Nat.le_of_ble_eq_true rfl, Nat.le_of_ble_eq_true rfl⟩ (fun r18 L18 n18 M18 h18 => ?_)
  obtain ⟨rfl, rfl, kp18, km18, hl18, hP18⟩ := h18
  show K x g 108 4591 L18 109 M18 75 [(0, vR g 0), (1, vI 2)] [vR g 104, vR g 0]
  have hA18_80 : L18 80 = kR 2 [some 81, some 92] := (kp18 80 (by omega)).trans hA17_80
  have hT18 : L18 0 = kO 5 [some (some 1), some (some 12), some (some 80), some (some 103), some none, some none, some none, some none, some none] := (kp18 0 (by omega)).trans hT17
  refine k_putFN (o := some (some 104)) (fs' := [some (some 1), some (some 12), some (some 80), some (some 103), some (some 104), some none, some none, some none, some none]) hx hnm fX5_34 (fun q h => by cases h; rfl) dX5_init_75 (by omega) hT18 (fun m => rfl) ⟨rfl, rfl⟩ rfl (by simp only [List.length_cons, List.length_nil]; omega) (fun L19 hL19 => ?_)
  have hA19_80 : L19 80 = kR 2 [some 81, some 92] := by rw [hL19, upL_n (by omega)]; exact hA18_80
  have hT19 : L19 0 = kO 5 [some (some 1), some (some 12), some (some 80), some (some 103), some (some 104), some none, some none, some none, some none] := by rw [hL19]; exact upL_s
  refine k_aload_n hx dX5_init_78 0 rfl ?_
  refine k_new (N := 4) hx nwX5_38 dX5_init_79 rfl ⟨Nat.le_of_ble_eq_true rfl, Nat.le_of_ble_eq_true rfl⟩ (fun L20 M20 hL20 hM20 => ?_)
  show K x g 109 4595 L20 110 M20 82 [(0, vR g 0), (1, vI 2)] [vR g 109, vR g 0]
  have hA20_80 : L20 80 = kR 2 [some 81, some 92] := by rw [hL20, upL_n (by omega)]; exact hA19_80
  have hT20 : L20 0 = kO 5 [some (some 1), some (some 12), some (some 80), some (some 103), some (some 104), some none, some none, some none, some none] := by rw [hL20, upL_n (by omega)]; exact hT19
  have hN20 : L20 109 = kO 2 [some none, some none, some none, some none] := by rw [hL20]; exact upL_s
  refine k_dup hx dX5_init_82 rfl ?_
  refine k_callI (rest := [vR g 109, vR g 0]) hx iX5_40 dX5_init_83 (i_X2 hN20) rfl rfl rfl ⟨rfl, rfl⟩ ⟨Nat.le_of_ble_eq_true rfl, Nat.le_of_ble_eq_true rfl⟩ (fun r21 L21 n21 M21 h21 => ?_)
  obtain ⟨rfl, rfl, kp21, km21, hl21, hP21⟩ := h21
  show K x g 113 12107 L21 114 M21 86 [(0, vR g 0), (1, vI 2)] [vR g 109, vR g 0]
  have hA21_80 : L21 80 = kR 2 [some 81, some 92] := (kp21 80 (by omega)).trans hA20_80
  have hT21 : L21 0 = kO 5 [some (some 1), some (some 12), some (some 80), some (some 103), some (some 104), some none, some none, some none, some none] := (kp21 0 (by omega)).trans hT20
  refine k_putFN (o := some (some 109)) (fs' := [some (some 1), some (some 12), some (some 80), some (some 103), some (some 104), some (some 109), some none, some none, some none]) hx hnm fX5_41 (fun q h => by cases h; rfl) dX5_init_86 (by omega) hT21 (fun m => rfl) ⟨rfl, rfl⟩ rfl (by simp only [List.length_cons, List.length_nil]; omega) (fun L22 hL22 => ?_)
  have hA22_80 : L22 80 = kR 2 [some 81, some 92] := by rw [hL22, upL_n (by omega)]; exact hA21_80
  have hT22 : L22 0 = kO 5 [some (some 1), some (some 12), some (some 80), some (some 103), some (some 104), some (some 109), some none, some none, some none] := by rw [hL22]; exact upL_s
  refine k_aload_n hx dX5_init_89 0 rfl ?_
  refine k_new (N := 2) hx nwX5_45 dX5_init_90 rfl ⟨Nat.le_of_ble_eq_true rfl, Nat.le_of_ble_eq_true rfl⟩ (fun L23 M23 hL23 hM23 => ?_)
  show K x g 114 12109 L23 115 M23 93 [(0, vR g 0), (1, vI 2)] [vR g 114, vR g 0]
  have hA23_80 : L23 80 = kR 2 [some 81, some 92] := by rw [hL23, upL_n (by omega)]; exact hA22_80
  have hT23 : L23 0 = kO 5 [some (some 1), some (some 12), some (some 80), some (some 103), some (some 104), some (some 109), some none, some none, some none] := by rw [hL23, upL_n (by omega)]; exact hT22
  have hN23 : L23 114 = kO 4 [some none, none] := by rw [hL23]; exact upL_s
  refine k_dup hx dX5_init_93 rfl ?_
  refine k_sipush hx dX5_init_94 (by decide +kernel) ?_
  refine k_callI (rest := [vR g 114, vR g 0]) hx iX5_47 dX5_init_97 (i_X4 (i := 114) (cap := 480) (isW_114) hN23) rfl rfl rfl ⟨rfl, rfl⟩ ⟨Nat.le_of_ble_eq_true rfl, Nat.le_of_ble_eq_true rfl⟩ (fun r24 L24 n24 M24 h24 => ?_)
  obtain ⟨rfl, rfl, kp24, km24, hl24, hP24⟩ := h24
  show K x g 115 12589 L24 116 M24 100 [(0, vR g 0), (1, vI 2)] [vR g 114, vR g 0]
  have hA24_80 : L24 80 = kR 2 [some 81, some 92] := (kp24 80 (by omega)).trans hA23_80
  have hT24 : L24 0 = kO 5 [some (some 1), some (some 12), some (some 80), some (some 103), some (some 104), some (some 109), some none, some none, some none] := (kp24 0 (by omega)).trans hT23
  refine k_putFN (o := some (some 114)) (fs' := [some (some 1), some (some 12), some (some 80), some (some 103), some (some 104), some (some 109), some (some 114), some none, some none]) hx hnm fX5_50 (fun q h => by cases h; rfl) dX5_init_100 (by omega) hT24 (fun m => rfl) ⟨rfl, rfl⟩ rfl (by simp only [List.length_cons, List.length_nil]; omega) (fun L25 hL25 => ?_)
  have hA25_80 : L25 80 = kR 2 [some 81, some 92] := by rw [hL25, upL_n (by omega)]; exact hA24_80
  have hT25 : L25 0 = kO 5 [some (some 1), some (some 12), some (some 80), some (some 103), some (some 104), some (some 109), some (some 114), some none, some none] := by rw [hL25]; exact upL_s
  refine k_aload_n hx dX5_init_103 0 rfl ?_
  refine k_new (N := 2) hx nwX5_45 dX5_init_104 rfl ⟨Nat.le_of_ble_eq_true rfl, Nat.le_of_ble_eq_true rfl⟩ (fun L26 M26 hL26 hM26 => ?_)
  show K x g 116 12591 L26 117 M26 107 [(0, vR g 0), (1, vI 2)] [vR g 116, vR g 0]
  have hA26_80 : L26 80 = kR 2 [some 81, some 92] := by rw [hL26, upL_n (by omega)]; exact hA25_80
  have hT26 : L26 0 = kO 5 [some (some 1), some (some 12), some (some 80), some (some 103), some (some 104), some (some 109), some (some 114), some none, some none] := by rw [hL26, upL_n (by omega)]; exact hT25
  have hN26 : L26 116 = kO 4 [some none, none] := by rw [hL26]; exact upL_s
  refine k_dup hx dX5_init_107 rfl ?_
  refine k_sipush hx dX5_init_108 (by decide +kernel) ?_
  refine k_callI (rest := [vR g 116, vR g 0]) hx iX5_47 dX5_init_111 (i_X4 (i := 116) (cap := 480) (isW_116) hN26) rfl rfl rfl ⟨rfl, rfl⟩ ⟨Nat.le_of_ble_eq_true rfl, Nat.le_of_ble_eq_true rfl⟩ (fun r27 L27 n27 M27 h27 => ?_)
  obtain ⟨rfl, rfl, kp27, km27, hl27, hP27⟩ := h27
  show K x g 117 13071 L27 118 M27 114 [(0, vR g 0), (1, vI 2)] [vR g 116, vR g 0]
  have hA27_80 : L27 80 = kR 2 [some 81, some 92] := (kp27 80 (by omega)).trans hA26_80
  have hT27 : L27 0 = kO 5 [some (some 1), some (some 12), some (some 80), some (some 103), some (some 104), some (some 109), some (some 114), some none, some none] := (kp27 0 (by omega)).trans hT26
  refine k_putFN (o := some (some 116)) (fs' := [some (some 1), some (some 12), some (some 80), some (some 103), some (some 104), some (some 109), some (some 114), some (some 116), some none]) hx hnm fX5_54 (fun q h => by cases h; rfl) dX5_init_114 (by omega) hT27 (fun m => rfl) ⟨rfl, rfl⟩ rfl (by simp only [List.length_cons, List.length_nil]; omega) (fun L28 hL28 => ?_)
  have hA28_80 : L28 80 = kR 2 [some 81, some 92] := by rw [hL28, upL_n (by omega)]; exact hA27_80
  have hT28 : L28 0 = kO 5 [some (some 1), some (some 12), some (some 80), some (some 103), some (some 104), some (some 109), some (some 114), some (some 116), some none] := by rw [hL28]; exact upL_s
  refine k_aload_n hx dX5_init_117 0 rfl ?_
  refine k_new (N := 2) hx nwX5_45 dX5_init_118 rfl ⟨Nat.le_of_ble_eq_true rfl, Nat.le_of_ble_eq_true rfl⟩ (fun L29 M29 hL29 hM29 => ?_)
  show K x g 118 13073 L29 119 M29 121 [(0, vR g 0), (1, vI 2)] [vR g 118, vR g 0]
  have hA29_80 : L29 80 = kR 2 [some 81, some 92] := by rw [hL29, upL_n (by omega)]; exact hA28_80
  have hT29 : L29 0 = kO 5 [some (some 1), some (some 12), some (some 80), some (some 103), some (some 104), some (some 109), some (some 114), some (some 116), some none] := by rw [hL29, upL_n (by omega)]; exact hT28
  have hN29 : L29 118 = kO 4 [some none, none] := by rw [hL29]; exact upL_s
  refine k_dup hx dX5_init_121 rfl ?_
  refine k_sipush hx dX5_init_122 (by decide +kernel) ?_
  refine k_callI (rest := [vR g 118, vR g 0]) hx iX5_47 dX5_init_125 (i_X4 (i := 118) (cap := 480) (isW_118) hN29) rfl rfl rfl ⟨rfl, rfl⟩ ⟨Nat.le_of_ble_eq_true rfl, Nat.le_of_ble_eq_true rfl⟩ (fun r30 L30 n30 M30 h30 => ?_)
  obtain ⟨rfl, rfl, kp30, km30, hl30, hP30⟩ := h30
  show K x g 119 13553 L30 120 M30 128 [(0, vR g 0), (1, vI 2)] [vR g 118, vR g 0]
  have hA30_80 : L30 80 = kR 2 [some 81, some 92] := (kp30 80 (by omega)).trans hA29_80
  have hT30 : L30 0 = kO 5 [some (some 1), some (some 12), some (some 80), some (some 103), some (some 104), some (some 109), some (some 114), some (some 116), some none] := (kp30 0 (by omega)).trans hT29
  refine k_putFN (o := some (some 118)) (fs' := [some (some 1), some (some 12), some (some 80), some (some 103), some (some 104), some (some 109), some (some 114), some (some 116), some (some 118)]) hx hnm fX5_57 (fun q h => by cases h; rfl) dX5_init_128 (by omega) hT30 (fun m => rfl) ⟨rfl, rfl⟩ rfl (by simp only [List.length_cons, List.length_nil]; omega) (fun L31 hL31 => ?_)
  have hA31_80 : L31 80 = kR 2 [some 81, some 92] := by rw [hL31, upL_n (by omega)]; exact hA30_80
  have hT31 : L31 0 = kO 5 [some (some 1), some (some 12), some (some 80), some (some 103), some (some 104), some (some 109), some (some 114), some (some 116), some (some 118)] := by rw [hL31]; exact upL_s
  refine k_vret hx hr dX5_init_131 ?_
  refine ⟨rfl, rfl, fun j hj => ?_, fun j hj => ?_, fun j j0 j1 => ?_, ?_⟩
  · rw [hL31, upL_n (by omega), kp30 _ (by omega), hL29, upL_n (by omega), hL28, upL_n (by omega), kp27 _ (by omega), hL26, upL_n (by omega), hL25, upL_n (by omega), kp24 _ (by omega), hL23, upL_n (by omega), hL22, upL_n (by omega), kp21 _ (by omega), hL20, upL_n (by omega), hL19, upL_n (by omega), kp18 _ (by omega), hL17, upL_n (by omega), hL16, upL_n (by omega), hL15, upL_n (by omega), hL14, upL_n (by omega), kp13 _ (by omega), hL12, upL_n (by omega), hL11, upL_n (by omega), kp10 _ (by omega), hL9, upL_n (by omega), hL8, upL_n (by omega), hL7, upL_n (by omega), hL6, upL_n (by omega), kp5 _ (by omega), hL4, upL_n (by omega), hL3, upL_n (by omega), kp2 _ (by omega), hL1, upL_n (by omega)]
  · rw [km30 _ (by omega), hM29, clr_n (by omega), km27 _ (by omega), hM26, clr_n (by omega), km24 _ (by omega), hM23, clr_n (by omega), km21 _ (by omega), hM20, clr_n (by omega), km18 _ (by omega), hM17, clr_n (by omega), hM15, clr_n (by omega), km13 _ (by omega), hM12, clr_n (by omega), km10 _ (by omega), hM9, clr_n (by omega), hM7, clr_n (by omega), km5 _ (by omega), hM4, clr_n (by omega), km2 _ (by omega), hM1, clr_n (by omega)]
  · rcases (show j = 0 ∨ (1 ≤ j ∧ j < 12) ∨ (12 ≤ j ∧ j < 80) ∨ j = 80 ∨ (81 ≤ j ∧ j < 92) ∨ (92 ≤ j ∧ j < 103) ∨ j = 103 ∨ (104 ≤ j ∧ j < 109) ∨ (109 ≤ j ∧ j < 114) ∨ (114 ≤ j ∧ j < 116) ∨ (116 ≤ j ∧ j < 118) ∨ (118 ≤ j ∧ j < 120) by omega) with rfl | ⟨g1, g2⟩ | ⟨g1, g2⟩ | rfl | ⟨g1, g2⟩ | ⟨g1, g2⟩ | rfl | ⟨g1, g2⟩ | ⟨g1, g2⟩ | ⟨g1, g2⟩ | ⟨g1, g2⟩ | ⟨g1, g2⟩
    · rw [hL31, upL_s]; exact rfl
    · rw [hL31, upL_n (by omega), kp30 _ (by omega), hL29, upL_n (by omega), hL28, upL_n (by omega), kp27 _ (by omega), hL26, upL_n (by omega), hL25, upL_n (by omega), kp24 _ (by omega), hL23, upL_n (by omega), hL22, upL_n (by omega), kp21 _ (by omega), hL20, upL_n (by omega), hL19, upL_n (by omega), kp18 _ (by omega), hL17, upL_n (by omega), hL16, upL_n (by omega), hL15, upL_n (by omega), hL14, upL_n (by omega), kp13 _ (by omega), hL12, upL_n (by omega), hL11, upL_n (by omega), kp10 _ (by omega), hL9, upL_n (by omega), hL8, upL_n (by omega), hL7, upL_n (by omega), hL6, upL_n (by omega), kp5 _ (by omega), hL4, upL_n (by omega), hL3, upL_n (by omega)]; exact hl2 j g1 g2
    · rw [hL31, upL_n (by omega), kp30 _ (by omega), hL29, upL_n (by omega), hL28, upL_n (by omega), kp27 _ (by omega), hL26, upL_n (by omega), hL25, upL_n (by omega), kp24 _ (by omega), hL23, upL_n (by omega), hL22, upL_n (by omega), kp21 _ (by omega), hL20, upL_n (by omega), hL19, upL_n (by omega), kp18 _ (by omega), hL17, upL_n (by omega), hL16, upL_n (by omega), hL15, upL_n (by omega), hL14, upL_n (by omega), kp13 _ (by omega), hL12, upL_n (by omega), hL11, upL_n (by omega), kp10 _ (by omega), hL9, upL_n (by omega), hL8, upL_n (by omega), hL7, upL_n (by omega), hL6, upL_n (by omega)]; exact hl5 j g1 g2
    · rw [hL31, upL_n (by omega), kp30 _ (by omega), hL29, upL_n (by omega), hL28, upL_n (by omega), kp27 _ (by omega), hL26, upL_n (by omega), hL25, upL_n (by omega), kp24 _ (by omega), hL23, upL_n (by omega), hL22, upL_n (by omega), kp21 _ (by omega), hL20, upL_n (by omega), hL19, upL_n (by omega), kp18 _ (by omega), hL17, upL_n (by omega), hL16, upL_n (by omega), hL15, upL_n (by omega), hL14, upL_s]; exact rfl
    · rw [hL31, upL_n (by omega), kp30 _ (by omega), hL29, upL_n (by omega), hL28, upL_n (by omega), kp27 _ (by omega), hL26, upL_n (by omega), hL25, upL_n (by omega), kp24 _ (by omega), hL23, upL_n (by omega), hL22, upL_n (by omega), kp21 _ (by omega), hL20, upL_n (by omega), hL19, upL_n (by omega), kp18 _ (by omega), hL17, upL_n (by omega), hL16, upL_n (by omega), hL15, upL_n (by omega), hL14, upL_n (by omega), kp13 _ (by omega), hL12, upL_n (by omega), hL11, upL_n (by omega)]; exact hl10 j g1 g2
    · rw [hL31, upL_n (by omega), kp30 _ (by omega), hL29, upL_n (by omega), hL28, upL_n (by omega), kp27 _ (by omega), hL26, upL_n (by omega), hL25, upL_n (by omega), kp24 _ (by omega), hL23, upL_n (by omega), hL22, upL_n (by omega), kp21 _ (by omega), hL20, upL_n (by omega), hL19, upL_n (by omega), kp18 _ (by omega), hL17, upL_n (by omega), hL16, upL_n (by omega), hL15, upL_n (by omega), hL14, upL_n (by omega)]; exact hl13 j g1 g2
    · rw [hL31, upL_n (by omega), kp30 _ (by omega), hL29, upL_n (by omega), hL28, upL_n (by omega), kp27 _ (by omega), hL26, upL_n (by omega), hL25, upL_n (by omega), kp24 _ (by omega), hL23, upL_n (by omega), hL22, upL_n (by omega), kp21 _ (by omega), hL20, upL_n (by omega), hL19, upL_n (by omega), kp18 _ (by omega), hL17, upL_n (by omega), hL16, upL_n (by omega), hL15, upL_s]; exact rfl
    · rw [hL31, upL_n (by omega), kp30 _ (by omega), hL29, upL_n (by omega), hL28, upL_n (by omega), kp27 _ (by omega), hL26, upL_n (by omega), hL25, upL_n (by omega), kp24 _ (by omega), hL23, upL_n (by omega), hL22, upL_n (by omega), kp21 _ (by omega), hL20, upL_n (by omega), hL19, upL_n (by omega)]; exact hl18 j g1 g2
    · rw [hL31, upL_n (by omega), kp30 _ (by omega), hL29, upL_n (by omega), hL28, upL_n (by omega), kp27 _ (by omega), hL26, upL_n (by omega), hL25, upL_n (by omega), kp24 _ (by omega), hL23, upL_n (by omega), hL22, upL_n (by omega)]; exact hl21 j g1 g2
    · rw [hL31, upL_n (by omega), kp30 _ (by omega), hL29, upL_n (by omega), hL28, upL_n (by omega), kp27 _ (by omega), hL26, upL_n (by omega), hL25, upL_n (by omega)]; exact hl24 j g1 g2
    · rw [hL31, upL_n (by omega), kp30 _ (by omega), hL29, upL_n (by omega), hL28, upL_n (by omega)]; exact hl27 j g1 g2
    · rw [hL31, upL_n (by omega)]; exact hl30 j g1 g2
  · show M30 2 0 = 1 ∧ M30 2 1 = 1 ∧ M30 2 2 = 1 ∧ M30 2 3 = 1 ∧ M30 2 4 = 1 ∧ M30 2 5 = 1 ∧ M30 4 1 = 0 ∧ M30 6 1 = 0 ∧ M30 8 1 = 0 ∧ M30 10 1 = 0 ∧ M30 12 1 = 0 ∧ M30 12 2 = 0 ∧ M30 103 0 = 0 ∧ M30 103 1 = 0 ∧ M30 104 1 = 0
    exact ⟨(by rw [km30 _ (by omega), hM29, clr_n (by omega), km27 _ (by omega), hM26, clr_n (by omega), km24 _ (by omega), hM23, clr_n (by omega), km21 _ (by omega), hM20, clr_n (by omega), km18 _ (by omega), hM17, clr_n (by omega), hM15, clr_n (by omega), km13 _ (by omega), hM12, clr_n (by omega), km10 _ (by omega), hM9, clr_n (by omega), hM7, clr_n (by omega), km5 _ (by omega), hM4, clr_n (by omega)]; exact hP2.1), (by rw [km30 _ (by omega), hM29, clr_n (by omega), km27 _ (by omega), hM26, clr_n (by omega), km24 _ (by omega), hM23, clr_n (by omega), km21 _ (by omega), hM20, clr_n (by omega), km18 _ (by omega), hM17, clr_n (by omega), hM15, clr_n (by omega), km13 _ (by omega), hM12, clr_n (by omega), km10 _ (by omega), hM9, clr_n (by omega), hM7, clr_n (by omega), km5 _ (by omega), hM4, clr_n (by omega)]; exact hP2.2.1), (by rw [km30 _ (by omega), hM29, clr_n (by omega), km27 _ (by omega), hM26, clr_n (by omega), km24 _ (by omega), hM23, clr_n (by omega), km21 _ (by omega), hM20, clr_n (by omega), km18 _ (by omega), hM17, clr_n (by omega), hM15, clr_n (by omega), km13 _ (by omega), hM12, clr_n (by omega), km10 _ (by omega), hM9, clr_n (by omega), hM7, clr_n (by omega), km5 _ (by omega), hM4, clr_n (by omega)]; exact hP2.2.2.1), (by rw [km30 _ (by omega), hM29, clr_n (by omega), km27 _ (by omega), hM26, clr_n (by omega), km24 _ (by omega), hM23, clr_n (by omega), km21 _ (by omega), hM20, clr_n (by omega), km18 _ (by omega), hM17, clr_n (by omega), hM15, clr_n (by omega), km13 _ (by omega), hM12, clr_n (by omega), km10 _ (by omega), hM9, clr_n (by omega), hM7, clr_n (by omega), km5 _ (by omega), hM4, clr_n (by omega)]; exact hP2.2.2.2.1), (by rw [km30 _ (by omega), hM29, clr_n (by omega), km27 _ (by omega), hM26, clr_n (by omega), km24 _ (by omega), hM23, clr_n (by omega), km21 _ (by omega), hM20, clr_n (by omega), km18 _ (by omega), hM17, clr_n (by omega), hM15, clr_n (by omega), km13 _ (by omega), hM12, clr_n (by omega), km10 _ (by omega), hM9, clr_n (by omega), hM7, clr_n (by omega), km5 _ (by omega), hM4, clr_n (by omega)]; exact hP2.2.2.2.2.1), (by rw [km30 _ (by omega), hM29, clr_n (by omega), km27 _ (by omega), hM26, clr_n (by omega), km24 _ (by omega), hM23, clr_n (by omega), km21 _ (by omega), hM20, clr_n (by omega), km18 _ (by omega), hM17, clr_n (by omega), hM15, clr_n (by omega), km13 _ (by omega), hM12, clr_n (by omega), km10 _ (by omega), hM9, clr_n (by omega), hM7, clr_n (by omega), km5 _ (by omega), hM4, clr_n (by omega)]; exact hP2.2.2.2.2.2.1), (by rw [km30 _ (by omega), hM29, clr_n (by omega), km27 _ (by omega), hM26, clr_n (by omega), km24 _ (by omega), hM23, clr_n (by omega), km21 _ (by omega), hM20, clr_n (by omega), km18 _ (by omega), hM17, clr_n (by omega), hM15, clr_n (by omega), km13 _ (by omega), hM12, clr_n (by omega), km10 _ (by omega), hM9, clr_n (by omega), hM7, clr_n (by omega), km5 _ (by omega), hM4, clr_n (by omega)]; exact hP2.2.2.2.2.2.2.1), (by rw [km30 _ (by omega), hM29, clr_n (by omega), km27 _ (by omega), hM26, clr_n (by omega), km24 _ (by omega), hM23, clr_n (by omega), km21 _ (by omega), hM20, clr_n (by omega), km18 _ (by omega), hM17, clr_n (by omega), hM15, clr_n (by omega), km13 _ (by omega), hM12, clr_n (by omega), km10 _ (by omega), hM9, clr_n (by omega), hM7, clr_n (by omega), km5 _ (by omega), hM4, clr_n (by omega)]; exact hP2.2.2.2.2.2.2.2.1), (by rw [km30 _ (by omega), hM29, clr_n (by omega), km27 _ (by omega), hM26, clr_n (by omega), km24 _ (by omega), hM23, clr_n (by omega), km21 _ (by omega), hM20, clr_n (by omega), km18 _ (by omega), hM17, clr_n (by omega), hM15, clr_n (by omega), km13 _ (by omega), hM12, clr_n (by omega), km10 _ (by omega), hM9, clr_n (by omega), hM7, clr_n (by omega), km5 _ (by omega), hM4, clr_n (by omega)]; exact hP2.2.2.2.2.2.2.2.2.1), (by rw [km30 _ (by omega), hM29, clr_n (by omega), km27 _ (by omega), hM26, clr_n (by omega), km24 _ (by omega), hM23, clr_n (by omega), km21 _ (by omega), hM20, clr_n (by omega), km18 _ (by omega), hM17, clr_n (by omega), hM15, clr_n (by omega), km13 _ (by omega), hM12, clr_n (by omega), km10 _ (by omega), hM9, clr_n (by omega), hM7, clr_n (by omega), km5 _ (by omega), hM4, clr_n (by omega)]; exact hP2.2.2.2.2.2.2.2.2.2), (by rw [km30 _ (by omega), hM29, clr_n (by omega), km27 _ (by omega), hM26, clr_n (by omega), km24 _ (by omega), hM23, clr_n (by omega), km21 _ (by omega), hM20, clr_n (by omega), km18 _ (by omega), hM17, clr_n (by omega), hM15, clr_n (by omega), km13 _ (by omega), hM12, clr_n (by omega), km10 _ (by omega), hM9, clr_n (by omega), hM7, clr_n (by omega)]; exact hP5.1), (by rw [km30 _ (by omega), hM29, clr_n (by omega), km27 _ (by omega), hM26, clr_n (by omega), km24 _ (by omega), hM23, clr_n (by omega), km21 _ (by omega), hM20, clr_n (by omega), km18 _ (by omega), hM17, clr_n (by omega), hM15, clr_n (by omega), km13 _ (by omega), hM12, clr_n (by omega), km10 _ (by omega), hM9, clr_n (by omega), hM7, clr_n (by omega)]; exact hP5.2), (by rw [km30 _ (by omega), hM29, clr_n (by omega), km27 _ (by omega), hM26, clr_n (by omega), km24 _ (by omega), hM23, clr_n (by omega), km21 _ (by omega), hM20, clr_n (by omega), km18 _ (by omega), hM17, clr_n (by omega), hM15, clr_s]), (by rw [km30 _ (by omega), hM29, clr_n (by omega), km27 _ (by omega), hM26, clr_n (by omega), km24 _ (by omega), hM23, clr_n (by omega), km21 _ (by omega), hM20, clr_n (by omega), km18 _ (by omega), hM17, clr_n (by omega), hM15, clr_s]), (by rw [km30 _ (by omega), hM29, clr_n (by omega), km27 _ (by omega), hM26, clr_n (by omega), km24 _ (by omega), hM23, clr_n (by omega), km21 _ (by omega), hM20, clr_n (by omega)]; exact hP18.1)⟩
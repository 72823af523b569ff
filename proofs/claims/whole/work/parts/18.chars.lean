/-! the pad: characters given as a number -/
def uN (v : Int64) : Nat := v.toBitVec.toNat
theorem uN_lt (v : Int64) : uN v < 2 ^ 64 := v.toBitVec.isLt
def lsr (v : Int64) (k : Int) : Int64 := (v.toUInt64 >>> ((zI k).toInt64.toUInt64 &&& Int64.toUInt64 63)).toInt64
theorem shu_fin : ∀ q : Fin 64, (((zI ((q : Nat) : Int)).toInt64.toUInt64 &&& Int64.toUInt64 63).toBitVec % 64).toNat = (q : Nat) := by decide +kernel
theorem uN_lsr (v : Int64) {k : Nat} (h : k < 64) : uN (lsr v k) = uN v / 2 ^ k := by
  have h1 := shu_fin ⟨k, h⟩
  simp only at h1
  show (v.toBitVec >>> (((zI (k : Int)).toInt64.toUInt64 &&& Int64.toUInt64 63).toBitVec % 64)).toNat = _
  rw [BitVec.ushiftRight_eq', h1, BitVec.toNat_ushiftRight, Nat.shiftRight_eq_div_pow]
  rfl
theorem uN_and (v : Int64) : uN (v &&& 255) = uN v % 256 := by
  show (v.toBitVec &&& 255#64).toNat = _
  rw [BitVec.toNat_and]
  have : (255#64).toNat = 2 ^ 8 - 1 := rfl
  rw [this, Nat.and_two_pow_sub_one_eq_mod]
  rfl
theorem l2i_and (v : Int64) : (v &&& 255).toInt32 = zI (uN v % 256 : Nat) := by
  have h := uN_and v
  have hlt : uN v % 256 < 256 := Nat.mod_lt _ (by decide)
  apply Int32.toBitVec.inj
  apply BitVec.eq_of_toNat_eq
  show ((v &&& 255).toBitVec.signExtend 32).toNat = (BitVec.ofInt 32 ((uN v % 256 : Nat) : Int)).toNat
  have e1 : (v &&& 255).toBitVec.signExtend 32 = (v &&& 255).toBitVec.setWidth 32 := BitVec.signExtend_eq_setWidth_of_le _ (by decide)
  rw [e1, BitVec.toNat_setWidth, BitVec.toNat_ofInt]
  have e2 : (v &&& 255).toBitVec.toNat = uN v % 256 := h
  rw [e2]
  omega
theorem lg0 (v : Int64) : (lg_cmp v 0).toInt = 0 ↔ uN v = 0 := by
  have e : v = 0 ↔ uN v = 0 := by
    constructor
    · intro h; rw [h]; rfl
    · intro h; exact Int64.toBitVec.inj (BitVec.eq_of_toNat_eq h)
  rw [← e]
  unfold lg_cmp
  by_cases h1 : v > 0
  · rw [if_pos h1]
    constructor
    · intro h; exact absurd h (by decide)
    · intro h; subst h; exact absurd h1 (by decide)
  · rw [if_neg h1]
    by_cases h2 : v = 0
    · rw [if_pos h2]; simp [h2]
    · rw [if_neg h2]
      constructor
      · intro h; exact absurd h (by decide)
      · intro h; exact absurd h h2
/-- how many characters a number holds: 0 if it holds none, or anything else -/
def chF : Nat → Nat → Nat → Nat
  | 0, k, _ => k
  | f + 1, k, r => if r = 0 then k else if 33 ≤ r % 256 ∧ r % 256 ≤ 126 then chF f (k + 1) (r / 256) else 0
def chIn (n : Nat) : Nat := chF 8 0 n
def chs (n m : Nat) : List Int := (List.range m).map (fun i => ((n / 256 ^ (m - 1 - i) % 256 : Nat) : Int))
theorem chF_le : ∀ (f k r : Nat), chF f k r ≤ k + f
  | 0, k, r => Nat.le_refl _
  | f + 1, k, r => by
    rw [chF]
    split
    · omega
    · split
      · have := chF_le f (k + 1) (r / 256); omega
      · omega
/-- the characters that were counted are characters -/
theorem chF_ok : ∀ (f k r : Nat), (chF f k r = 0 → k = 0 ∨ True) ∧ (0 < chF f k r → ∀ j, k + j < chF f k r → 33 ≤ r / 256 ^ j % 256 ∧ r / 256 ^ j % 256 ≤ 126)
  | 0, k, r => ⟨fun _ => Or.inr trivial, fun _ j h => by rw [chF] at h; omega⟩
  | f + 1, k, r => by
    refine ⟨fun _ => Or.inr trivial, fun hp j hj => ?_⟩
    rw [chF] at hp hj
    split at hj
    · omega
    · rename_i hr
      rw [if_neg hr] at hp
      split at hj
      · rename_i hc
        rw [if_pos hc] at hp
        cases j with
        | zero => simpa using hc
        | succ j =>
          have := (chF_ok f (k + 1) (r / 256)).2 hp j (by omega)
          rwa [Nat.div_div_eq_div_mul, show 256 * 256 ^ j = 256 ^ (j + 1) by rw [Nat.pow_succ, Nat.mul_comm]] at this
      · omega
theorem chs_len (n m : Nat) : (chs n m).length = m := by simp [chs]
theorem chs_mem {n m : Nat} (h : chIn n = m) (hm : 0 < m) : ∀ c ∈ chs n m, 33 ≤ c ∧ c ≤ 126 := by
  intro c hc
  obtain ⟨i, hi, rfl⟩ := List.mem_map.mp hc
  have hi2 := List.mem_range.mp hi
  have := (chF_ok 8 0 n).2 (by unfold chIn at h; omega) (m - 1 - i) (by unfold chIn at h; omega)
  omega

theorem c_X0_charactersIn {g : GE} {l : Launch} {M : Mem} {v : Int64} : Cp g l μX0_charactersIn [.long v] M (chIn (uN v)) := by
  refine Ci.of (by decide +kernel) rfl rfl (fun x hx hr => ?_)
  have loop : ∀ (f : Nat), ∀ (k : Nat) (z : Int) (r : Int64), z = k → k ≤ 8 → 8 - k < f → chF (8 - k) k (uN r) = chIn (uN v) → K x g 0 0 LAY NN M 5 [(0, .long v), (2, .long r), (4, vI z)] [] := by
    intro f
    induction f with
    | zero => intro k z r hz hk hf hch; omega
    | succ f ih =>
      intro k z r hz hk hf hch
      refine k_iload hx dX0_charactersIn_5 2 rfl ?_
      refine k_bipush hx dX0_charactersIn_7 (by decide +kernel) ?_
      refine k_icmp_ge hx dX0_charactersIn_9 (by omega) (fun h_9 => ?_) (fun h_9 => ?_)
      · refine k_iload hx dX0_charactersIn_53 2 rfl ?_
        refine k_ri hx hr dX0_charactersIn_55 ?_
        refine ⟨?_, rfl⟩
        first
        | (rw [if_pos (hlg.mp h_15)] at hch; rw [← hch]; exact hz)
        | (rw [show 8 - k = 0 by omega, chF] at hch; rw [← hch]; exact hz)
      · have hlg := lg0 r
        have hrg := i32_rg (lg_cmp r 0)
        rw [show 8 - k = (8 - (k + 1)) + 1 by omega, chF] at hch
        refine k_lload_n hx dX0_charactersIn_12 1 rfl ?_
        refine k_lconst (v := 0) hx dX0_charactersIn_13 rfl ?_
        refine k_lcmpI (v := ((lg_cmp r 0).toInt)) hx dX0_charactersIn_14 ((zI_of _).symm) ?_
        refine k_ifeq hx dX0_charactersIn_15 (by omega) (fun h_15 => ?_) (fun h_15 => ?_)
        · refine k_iload hx dX0_charactersIn_53 2 rfl ?_
          refine k_ri hx hr dX0_charactersIn_55 ?_
          refine ⟨?_, rfl⟩
          first
          | (rw [if_pos (hlg.mp h_15)] at hch; rw [← hch]; exact hz)
          | (rw [show 8 - k = 0 by omega, chF] at hch; rw [← hch]; exact hz)
        · rw [if_neg (fun h => h_15 (hlg.mpr h))] at hch
          have hm256 : uN r % 256 < 256 := Nat.mod_lt _ (by decide)
          refine k_lload_n hx dX0_charactersIn_18 1 rfl ?_
          refine k_ldc2 hx dX0_charactersIn_19 qX0_31 ?_
          refine k_land hx dX0_charactersIn_22 ?_
          refine k_l2i (v := zI (uN r % 256 : Nat)) hx dX0_charactersIn_23 (l2i_and r) ?_
          refine k_istore (ls' := [(0, .long v), (2, .long r), (4, vI z), (5, vI (uN r % 256 : Nat))]) hx dX0_charactersIn_24 rfl rfl (by decide) ?_
          refine k_iload hx dX0_charactersIn_26 3 rfl ?_
          refine k_bipush hx dX0_charactersIn_28 (by decide +kernel) ?_
          refine k_icmp_lt hx dX0_charactersIn_30 (by omega) (fun h_30 => ?_) (fun h_30 => ?_)
          · refine k_iconst hx dX0_charactersIn_40 ?_
            refine k_ri hx hr dX0_charactersIn_41 ?_
            exact ⟨by rw [← hch, if_neg (by omega)]; rfl, rfl⟩
          · refine k_iload hx dX0_charactersIn_33 3 rfl ?_
            refine k_bipush hx dX0_charactersIn_35 (by decide +kernel) ?_
            refine k_icmp_le hx dX0_charactersIn_37 (by omega) (fun h_37 => ?_) (fun h_37 => ?_)
            · refine k_iinc (ls' := [(0, .long v), (2, .long r), (4, vI (z + 1)), (5, vI (uN r % 256 : Nat))]) hx dX0_charactersIn_42 2 rfl rfl rfl (by decide) ?_
              refine k_lload_n hx dX0_charactersIn_45 1 rfl ?_
              refine k_bipush hx dX0_charactersIn_46 (by decide +kernel) ?_
              refine k_lushr hx dX0_charactersIn_48 ?_
              refine k_lstore_n (ls' := [(0, .long v), (2, .long (lsr r 8)), (4, vI (z + 1)), (5, vI (uN r % 256 : Nat))]) hx dX0_charactersIn_49 rfl rfl (by decide) ?_
              refine k_goto hx dX0_charactersIn_50 ?_
              refine K.sub [0, 1, 2] rfl ?_
              rw [if_pos (by omega)] at hch
              exact ih (k + 1) (z + 1) (lsr r 8) (by omega) (by omega) (by omega) (by rw [show ((8 : Int)) = ((8 : Nat) : Int) from rfl, uN_lsr r (by omega)]; exact hch)
            · refine k_iconst hx dX0_charactersIn_40 ?_
              refine k_ri hx hr dX0_charactersIn_41 ?_
              exact ⟨by rw [← hch, if_neg (by omega)]; rfl, rfl⟩
  refine k_lload_n hx dX0_charactersIn_0 0 rfl ?_
  refine k_lstore_n (ls' := [(0, .long v), (2, .long v)]) hx dX0_charactersIn_1 rfl rfl (by decide) ?_
  refine k_iconst hx dX0_charactersIn_2 ?_
  refine k_istore (ls' := [(0, .long v), (2, .long v), (4, vI 0)]) hx dX0_charactersIn_3 rfl rfl (by decide) ?_
  refine K.sub [0, 1, 2] rfl ?_
  exact loop 9 0 0 v rfl (by omega) (by omega) rfl
theorem OffP.up1 {M : Mem} : True := trivial
def Off104 (M M' : Mem) : Prop := ∀ a, a ≠ 104 → a ≠ 105 → M' a = M a
theorem getD_snoc {w : List Int} {c : Int} {k : Nat} : (w ++ [c]).getD k 0 = if k < w.length then w.getD k 0 else if k = w.length then c else 0 := by
  simp only [List.getD_eq_getElem?_getD]
  by_cases h : k < w.length
  · rw [if_pos h, List.getElem?_append_left h]
  · rw [if_neg h, List.getElem?_append_right (by omega)]
    by_cases h2 : k = w.length
    · rw [if_pos h2, h2]; simp
    · rw [if_neg h2, List.getElem?_eq_none (by simp; omega)]; rfl
theorem chs_take {n m i : Nat} (h : i < m) : (chs n m).take (i + 1) = (chs n m).take i ++ [((n / 256 ^ (m - 1 - i) % 256 : Nat) : Int)] := by
  have hl := chs_len n m
  rw [List.take_succ_eq_append_getElem (by omega)]
  congr 2
  simp [chs]

theorem c_X0_append {g : GE} {l : Launch} {M : Mem} {w : List Int} (hw : Pw M w) {v : Int64} {m : Nat} (hm : chIn (uN v) = m) (hm0 : 0 < m) (hsum : w.length + m ≤ 60) : Cv g l μX0_append [vR g 104, .long v, vI m] M (fun M' => Pw M' (w ++ chs (uN v) m) ∧ Off104 M M' ∧ M' 104 5 = M 104 5) := by
  refine Cv.of (by decide +kernel) rfl rfl (fun x hx hr => ?_)
  have hm8 : m ≤ 8 := by have := chF_le 8 0 (uN v); unfold chIn at hm; omega
  have hcl := chs_len (uN v) m
  have hcm := chs_mem hm hm0
  have loop : ∀ (f : Nat), ∀ (i : Nat) (z : Int) (M' : Mem), z = (m : Int) - 1 - i → i ≤ m → m - i < f → Pw M' (w ++ (chs (uN v) m).take i) → Off104 M M' → M' 104 5 = M 104 5 → K x g 0 0 LAY NN M' 5 [(0, vR g 104), (1, .long v), (3, vI m), (4, vI z)] [] := by
    intro f
    induction f with
    | zero => intro i z M' hz hi hf hp ho h5; omega
    | succ f ih =>
      intro i z M' hz hi hf hp ho h5
      have hpl := hp.1
      have htl : (w ++ (chs (uN v) m).take i).length = w.length + i := by rw [List.length_append, List.length_take]; omega
      rw [htl] at hpl
      refine k_iload hx dX0_append_5 3 rfl ?_
      refine k_iflt hx dX0_append_7 (by omega) (fun h_7 => ?_) (fun h_7 => ?_)
      · refine k_rv hx hr dX0_append_56 ?_
        exact ⟨by rwa [List.take_of_length_le (by omega)] at hp, ho, h5⟩
      · refine k_aload_n hx dX0_append_10 0 rfl ?_
        refine k_get (v := vI (w.length + i : Nat)) hx fX0_15 dX0_append_11 n_104 L_104 (congrArg vI (show M' 104 1 = (w.length + i : Nat) from hpl)) ?_
        refine k_bipush hx dX0_append_14 (by decide +kernel) ?_
        refine k_icmp_ge hx dX0_append_16 (by omega) (fun h_16 => absurd h_16 (by omega)) (fun h_16 => ?_)
        have hi2 : i < m := by omega
        have hz8 : 8 * z = ((8 * (m - 1 - i) : Nat) : Int) := by omega
        have hmod : uN (lsr v (8 * z)) % 256 = uN v / 256 ^ (m - 1 - i) % 256 := by
          rw [hz8, uN_lsr v (by omega), Nat.pow_mul]
        have hcmem : ((uN v / 256 ^ (m - 1 - i) % 256 : Nat) : Int) ∈ chs (uN v) m := List.mem_map.mpr ⟨i, List.mem_range.mpr hi2, rfl⟩
        have hcr := hcm _ hcmem
        refine k_aload_n hx dX0_append_19 0 rfl ?_
        refine k_get (v := vR g 105) hx fX0_9 dX0_append_20 n_104 L_104 rfl ?_
        refine k_aload_n hx dX0_append_23 0 rfl ?_
        refine k_get (v := vI (w.length + i : Nat)) hx fX0_15 dX0_append_24 n_104 L_104 (congrArg vI (show M' 104 1 = (w.length + i : Nat) from hpl)) ?_
        refine k_lload_n hx dX0_append_27 1 rfl ?_
        refine k_bipush hx dX0_append_28 (by decide +kernel) ?_
        refine k_iload hx dX0_append_30 3 rfl ?_
        refine k_imul hx dX0_append_32 ?_
        refine k_lushr hx dX0_append_33 ?_
        refine k_ldc2 hx dX0_append_34 qX0_31 ?_
        refine k_land hx dX0_append_37 ?_
        refine k_l2i (v := zI (uN v / 256 ^ (m - 1 - i) % 256 : Nat)) hx dX0_append_38 (by rw [← hmod]; exact l2i_and _) ?_
        refine k_iastN hx dX0_append_39 n_105 L_105 (by omega) (by decide) (fun M_39 hM_39 => ?_)
        refine k_aload_n hx dX0_append_40 0 rfl ?_
        refine k_dup hx dX0_append_41 rfl ?_
        refine k_get (v := vI (w.length + i : Nat)) hx fX0_15 dX0_append_42 n_104 L_104 (congrArg vI (show M_39 104 1 = (w.length + i : Nat) from by rw [hM_39, up_i (by omega)]; exact hpl)) ?_
        refine k_iconst hx dX0_append_45 ?_
        refine k_iadd hx dX0_append_46 ?_
        refine k_putI (kz := 1) hx fX0_15 dX0_append_47 n_104 L_104 rfl rfl (fun M_47 hM_47 => ?_)
        refine k_iinc (ls' := [(0, vR g 104), (1, .long v), (3, vI m), (4, vI (z + (-1)))]) hx dX0_append_50 3 rfl rfl rfl (by decide) ?_
        refine k_goto hx dX0_append_53 ?_
        refine ih (i + 1) (z + -1) M_47 (by omega) (by omega) (by omega) ?_ (fun a h1 h2 => by rw [hM_47, up_i h1, hM_39, up_i h2]; exact ho a h1 h2) (by rw [hM_47, up_k (by omega), hM_39, up_i (by omega)]; exact h5)
        rw [chs_take hi2, ← List.append_assoc]
        refine ⟨?_, ?_, fun k hk => ?_, fun c hc => ?_⟩
        · rw [hM_47, up_s, List.length_append, htl]; simp
        · rw [List.length_append, htl]; simp; omega
        · rw [List.length_append, htl] at hk
          rw [hM_47, up_i (by omega), hM_39, getD_snoc, htl]
          by_cases h1 : k < w.length + i
          · rw [if_pos h1, up_k (by omega)]
            exact hp.2.2.1 k (by omega)
          · have h2 : k = w.length + i := by simp at hk; omega
            rw [if_neg h1, if_pos h2, h2, up_s]
        · rcases List.mem_append.mp hc with h | h
          · exact hp.2.2.2 c h
          · rw [List.mem_singleton.mp h]; exact hcr
  refine k_iload_n hx dX0_append_0 2 rfl ?_
  refine k_iconst hx dX0_append_1 ?_
  refine k_isub hx dX0_append_2 ?_
  refine k_istore (ls' := [(0, vR g 104), (1, .long v), (3, vI m), (4, vI (m - 1))]) hx dX0_append_3 rfl rfl (by decide) ?_
  exact loop (m + 1) 0 _ M (by omega) (by omega) (by omega) (by simpa using hw) (fun _ _ _ => rfl) rfl
theorem c_X0_clear {g : GE} {l : Launch} {M : Mem} : Cv g l μX0_clear [vR g 104] M (fun M' => M' = up M 104 1 0) := by
  refine Cv.of (by decide +kernel) rfl rfl (fun x hx hr => ?_)
  refine k_aload_n hx dX0_clear_0 0 rfl ?_
  refine k_iconst hx dX0_clear_1 ?_
  refine k_putI (kz := 1) hx fX0_15 dX0_clear_2 n_104 L_104 rfl rfl (fun M_2 hM_2 => ?_)
  refine k_rv hx hr dX0_clear_5 ?_
  exact hM_2

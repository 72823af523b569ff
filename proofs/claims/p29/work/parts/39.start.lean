/-! the start: a new object; then the law's loops -/
theorem k_lay {x : Fx} {g : GE} {cs sl : Nat} {L : Lay} {n : Nat} {M : Mem} {pc : Nat} {ls : List (Nat × Value)} {st : List Value} (hn : n = NN g) (h : ∀ j, j < NN g → L j = LAY j) (k : K x g cs sl LAY (NN g) M pc ls st) : K x g cs sl L n M pc ls st := by
  subst hn
  intro H locs la hR hS hl
  exact k H locs la ⟨hR.1, fun i hi => by rw [← h i hi]; exact hR.2 i hi⟩ hS hl

def A0 : Ab := ([1, 1, 1, 1, 1, 1], [[], [], [], []])
def σ0 : Sg := (A0, [], (none, none), [])
theorem A0_r : ∀ r : Nat, A0.2.getD r [] = []
  | 0 => rfl
  | 1 => rfl
  | 2 => rfl
  | 3 => rfl
  | _ + 4 => rfl
theorem A0_ok : OkA A0 := by
  refine ⟨rfl, rfl, fun p hp => ?_, fun r hr => ?_⟩
  · rcases (show p = 0 ∨ p = 1 ∨ p = 2 ∨ p = 3 ∨ p = 4 ∨ p = 5 by omega) with rfl | rfl | rfl | rfl | rfl | rfl <;> decide
  · rw [A0_r]; exact ⟨(fun c h => by cases h), by decide⟩
theorem wd0 {M : Mem} {i : Nat} (h : M i 1 = 0) : Wd M i [] := ⟨h, (fun k c q => by simp at q), (fun c q => by cases q)⟩
theorem slo0 {k : Nat} (h : k < 2) : slo σ0 k = none := by
  rcases (show k = 0 ∨ k = 1 by omega) with rfl | rfl <;> rfl
theorem inv0 {M : Mem} (h : M 2 0 = 1 ∧ M 2 1 = 1 ∧ M 2 2 = 1 ∧ M 2 3 = 1 ∧ M 2 4 = 1 ∧ M 2 5 = 1 ∧ M 4 1 = 0 ∧ M 6 1 = 0 ∧ M 8 1 = 0 ∧ M 10 1 = 0 ∧ M 12 1 = 0 ∧ M 12 2 = 0 ∧ M 103 0 = 0 ∧ M 103 1 = 0 ∧ M 104 1 = 0) : Inv M σ0 := by
  obtain ⟨w0, w1, w2, w3, w4, w5, r0, r1, r2, r3, p1, p2, s0, s1, t1⟩ := h
  refine ⟨⟨A0_ok, fun p hp => ?_, fun r hr => ?_⟩, ⟨0, by decide, p1, p2, by decide, fun j A hj => by simp [σ0] at hj⟩, fun k hk => ?_, fun k A hk q => ?_, ⟨t1, by decide, fun k hk => absurd hk (by simp [σ0]), fun c q => by cases q⟩⟩
  · rcases (show p = 0 ∨ p = 1 ∨ p = 2 ∨ p = 3 ∨ p = 4 ∨ p = 5 by omega) with rfl | rfl | rfl | rfl | rfl | rfl
    · exact w0
    · exact w1
    · exact w2
    · exact w3
    · exact w4
    · exact w5
  · show Wd M (1 + 3 + 2 * r) (A0.2.getD r [])
    rw [A0_r]
    rcases (show r = 0 ∨ r = 1 ∨ r = 2 ∨ r = 3 by omega) with rfl | rfl | rfl | rfl
    · exact wd0 r0
    · exact wd0 r1
    · exact wd0 r2
    · exact wd0 r3
  · rw [slo0 hk]
    rcases (show k = 0 ∨ k = 1 by omega) with rfl | rfl
    · exact s0
    · exact s1
  · rw [slo0 hk] at q; cases q

theorem rope0 (r : Int) : rope A0 r = [] := A0_r _
theorem nwL_9 : NW RL 9 5 [some none, some none, some none, some none, some none, some none, some none, some none, some none] := ⟨RX5, TX5, 9, tyX5, rfl, wL_9, in_X5, ini_X5, inX5, tyX5_ok, rfl, (fun k hk => by rcases (show k = 0 ∨ k = 1 ∨ k = 2 ∨ k = 3 ∨ k = 4 ∨ k = 5 ∨ k = 6 ∨ k = 7 ∨ k = 8 by omega) with rfl | rfl | rfl | rfl | rfl | rfl | rfl | rfl | rfl <;> rfl), (by simp)⟩

theorem Sm.trans {g g1 g2 : GE} (h : Sm g g1) (k : Sm g1 g2) : Sm g g2 := ⟨k.1.trans h.1, k.2.1.trans h.2.1, k.2.2.trans h.2.2⟩
theorem law_B {x : Fx} {g0 : GE} {b Ln : Nat} {xs : Nat → Int32} (fin : ∀ (g1 : GE) (cs sl : Nat) (M : Mem) (ls : List (Nat × Value)), Sm g0 g1 → cs ≤ 600000 ∧ sl ≤ 7302250 → K x g1 cs sl LAY (NN g1) M 96 ls [vI 1]) : ∀ (f k : Nat) (y : Int) (g : GE) (cs sl : Nat) (M : Mem) (σ : Sg), Sm g0 g → y = k → k ≤ 30 → 30 - k < f → cs ≤ 200 + 11 * k → sl ≤ 20000 + 704 * k → Cx x g cL_law RL 3 room_1 → SC x g b Ln xs → Inv M σ → OKN σ 60 → K x g cs sl LAY (NN g) M 57 [(0, .ref b), (1, vR g 0), (2, vI y)] [] := by
  intro f
  induction f with
  | zero => intro k y g cs sl M σ hgg hy hk hf; omega
  | succ f ih =>
    intro k y g cs sl M σ hgg hy hk hf hcs hsl hx hs1 hI h60
    refine k_iload_n hx dL_law_57 2 rfl ?_
    refine k_bipush hx dL_law_58 (by decide +kernel) ?_
    refine k_icmp_ge hx dL_law_60 (by omega) (fun h_60 => ?_) (fun h_60 => ?_)
    · refine k_aload_n hx dL_law_92 1 rfl ?_
      refine k_sa (ls := fun q => [(0, .ref b), (1, rf q 0), (2, vI y)]) (As := fun q => [rf q 0]) hx sL_126 dL_law_93 (c_L_agree hI h60) rfl rfl ⟨rfl, rfl⟩ (show _ ∧ _ from ⟨by show cs + 8 ≤ 600000; omega, by show sl + 512 ≤ 7302250; omega⟩) (fun g1 z_93 M_93 hs_g1 p_93 => ?_)
      have hx_g1 := hx.sm hs_g1
      obtain ⟨rfl, I_93⟩ := p_93
      show K _ _ _ _ _ _ _ 96 [(0, .ref b), (1, vR g1 0), (2, vI y)] [vI 1]
      exact fin _ _ _ _ _ (hgg.trans hs_g1) ⟨by omega, by omega⟩
    · refine k_aload_n hx dL_law_63 1 rfl ?_
      refine k_sa (ls := fun q => [(0, .ref b), (1, rf q 0), (2, vI y)]) (As := fun q => [rf q 0]) hx sL_126 dL_law_64 (c_L_agree hI h60) rfl rfl ⟨rfl, rfl⟩ (show _ ∧ _ from ⟨by show cs + 8 ≤ 600000; omega, by show sl + 512 ≤ 7302250; omega⟩) (fun g1 z_64 M_64 hs_g1 p_64 => ?_)
      have hx_g1 := hx.sm hs_g1
      obtain ⟨rfl, I_64⟩ := p_64
      have hs_g1s := hs1.sm hs_g1
      show K _ _ _ _ _ _ _ 67 [(0, .ref b), (1, vR g1 0), (2, vI y)] [vI 1]
      refine k_ifeq hx_g1 dL_law_67 (by omega) (fun h_67 => absurd h_67 (by omega)) (fun h_67 => ?_)
      refine k_aload_n hx_g1 dL_law_70 1 rfl ?_
      refine k_aload_n hx_g1 dL_law_71 0 rfl ?_
      refine k_bipush hx_g1 dL_law_72 (by decide +kernel) ?_
      refine k_iconst hx_g1 dL_law_74 ?_
      refine k_iload_n hx_g1 dL_law_75 2 rfl ?_
      refine k_imul hx_g1 dL_law_76 ?_
      refine k_iadd hx_g1 dL_law_77 ?_
      refine k_sas (ls := fun q => [(0, .ref b), (1, rf q 0), (2, vI y)]) (As := fun q => [rf q 0, .ref b, vI (17 + (5 * y))]) hx_g1 hs_g1s sL_130 dL_law_78 (c_L_isAct I_64 h60 (p0 := 17 + 5 * y) (by omega)) rfl rfl ⟨rfl, rfl⟩ (show _ ∧ _ from ⟨by show cs + 8 + 3 ≤ 600000; omega, by show sl + 512 + 192 ≤ 7302250; omega⟩) (fun g2 z_78 M_78 hs_g2 p_78 => ?_)
      have hx_g2 := hx_g1.sm hs_g2
      obtain ⟨rfl, σ2, I_78, h60b⟩ := p_78
      show K _ _ _ _ _ _ _ 81 [(0, .ref b), (1, vR g2 0), (2, vI y)] [vI 1]
      refine k_ifne hx_g2 dL_law_81 (by omega) (fun h_81 => ?_) (fun h_81 => absurd h_81 (by omega))
      refine k_iinc (ls' := [(0, .ref b), (1, vR g2 0), (2, vI (y + 1))]) hx_g2 dL_law_86 2 rfl rfl rfl (by decide) ?_
      refine k_goto hx_g2 dL_law_89 ?_
      exact ih (k + 1) (y + 1) g2 _ _ M_78 σ2 ((hgg.trans hs_g1).trans hs_g2) (by omega) (by omega) (by omega) (by omega) (by omega) hx_g2 (hs_g1s.sm hs_g2) I_78 h60b
theorem law_A {x : Fx} {g0 : GE} {b Ln : Nat} {xs : Nat → Int32} (fin : ∀ (g1 : GE) (cs sl : Nat) (M : Mem) (ls : List (Nat × Value)), Sm g0 g1 → cs ≤ 600000 ∧ sl ≤ 7302250 → K x g1 cs sl LAY (NN g1) M 96 ls [vI 1]) : ∀ (f k : Nat) (y : Int) (g : GE) (cs sl : Nat) (M : Mem) (σ : Sg), Sm g0 g → y = k → k ≤ 16 → 16 - k < f → cs ≤ 120 + k → sl ≤ 13562 + 64 * k → Cx x g cL_law RL 3 room_1 → SC x g b Ln xs → Inv M σ → (∀ r : Int, 0 ≤ r ∧ r < 4 → (rope σ.1 r).length ≤ k) → K x g cs sl LAY (NN g) M 10 [(0, .ref b), (1, vR g 0), (2, vI y)] [] := by
  intro f
  induction f with
  | zero => intro k y g cs sl M σ hgg hy hk hf; omega
  | succ f ih =>
    intro k y g cs sl M σ hgg hy hk hf hcs hsl hx hs1 hI hl
    refine k_iload_n hx dL_law_10 2 rfl ?_
    refine k_bipush hx dL_law_11 (by decide +kernel) ?_
    refine k_icmp_ge hx dL_law_13 (by omega) (fun h_13 => ?_) (fun h_13 => ?_)
    · have hrl : ∀ r : Int, 0 ≤ r ∧ r < 4 → (rope σ.1 r).length ≤ 60 := fun r hr => by have := hl r hr; omega
      refine k_iconst hx dL_law_55 ?_
      refine k_istore_n (ls' := [(0, .ref b), (1, vR g 0), (2, vI 0)]) hx dL_law_56 rfl rfl (by decide) ?_
      exact law_B fin 31 0 0 g cs sl M σ hgg rfl (by omega) (by omega) (by omega) (by omega) hx hs1 hI hrl
    · have hlz := hl (y % 3) (by omega)
      refine k_aload_n hx dL_law_16 1 rfl ?_
      refine k_iload_n hx dL_law_17 2 rfl ?_
      refine k_iconst hx dL_law_18 ?_
      refine k_irem hx dL_law_19 (by omega) ?_
      refine k_aload_n hx dL_law_20 0 rfl ?_
      refine k_iload_n hx dL_law_21 2 rfl ?_
      refine k_aload_n hx dL_law_22 0 rfl ?_
      refine k_bipush hx dL_law_23 (by decide +kernel) ?_
      refine k_iconst hx dL_law_25 ?_
      refine k_sis (rest := [vI y, .ref b, vI (y % 3), vR g 0]) hx hs1 sL_96 dL_law_26 (c_L_cell (k := 16) (n := 2) (by omega) (by omega)) rfl rfl rfl ⟨rfl, rfl⟩ ⟨by show cs ≤ 600000; omega, by show sl ≤ 7302250; omega⟩ (fun z_26 M_26 p_26 => ?_)
      obtain ⟨b_26, e_26⟩ := p_26
      rw [e_26]
      refine k_ifne hx dL_law_29 (by omega) (fun h_29 => ?_) (fun h_29 => ?_)
      · refine k_iconst hx dL_law_37 ?_
        refine k_sis (rest := [vI (y % 3), vR g 0]) hx hs1 sL_96 dL_law_38 (c_L_cell (k := y) (n := 3) (by omega) (by omega)) rfl rfl rfl ⟨rfl, rfl⟩ ⟨by show cs ≤ 600000; omega, by show sl ≤ 7302250; omega⟩ (fun z_38 M_38 p_38 => ?_)
        obtain ⟨b_38, e_38⟩ := p_38
        rw [e_38]
        refine k_sa (ls := fun q => [(0, .ref b), (1, rf q 0), (2, vI y)]) (As := fun q => [rf q 0, vI (y % 3), vI z_38]) hx sL_100 dL_law_41 (c_L_isCrossed hI (z := y % 3) (by omega) (by omega) (c := z_38) (by omega)) rfl rfl ⟨rfl, rfl⟩ (show _ ∧ _ from ⟨by show cs + 1 ≤ 600000; omega, by show sl + 64 ≤ 7302250; omega⟩) (fun g1 z_41 M_41 hs_g1 p_41 => ?_)
        have hx_g1 := hx.sm hs_g1
        obtain ⟨rfl, σ2, I_41, hlen⟩ := p_41
        have hl2 : ∀ r : Int, 0 ≤ r ∧ r < 4 → (rope σ2.1 r).length ≤ k + 1 := fun r hr => by
          have e1 := hlen r hr
          have e2 := hl r hr
          by_cases e : r = y % 3
          · rw [if_pos e] at e1; omega
          · rw [if_neg e] at e1; omega
        show K _ _ _ _ _ _ _ 44 [(0, .ref b), (1, vR g1 0), (2, vI y)] [vI 1]
        refine k_ifne hx_g1 dL_law_44 (by omega) (fun h_44 => ?_) (fun h_44 => absurd h_44 (by omega))
        refine k_iinc (ls' := [(0, .ref b), (1, vR g1 0), (2, vI (y + 1))]) hx_g1 dL_law_49 2 rfl rfl rfl (by decide) ?_
        refine k_goto hx_g1 dL_law_52 ?_
        exact ih (k + 1) (y + 1) g1 _ _ M_41 σ2 (hgg.trans hs_g1) (by omega) (by omega) (by omega) (by omega) (by omega) hx_g1 (hs1.sm hs_g1) I_41 hl2
      · refine k_bipush hx dL_law_32 (by decide +kernel) ?_
        refine k_goto hx dL_law_34 ?_
        refine k_sis (rest := [vI (y % 3), vR g 0]) hx hs1 sL_96 dL_law_38 (c_L_cell (k := y) (n := 12) (by omega) (by omega)) rfl rfl rfl ⟨rfl, rfl⟩ ⟨by show cs ≤ 600000; omega, by show sl ≤ 7302250; omega⟩ (fun z_38 M_38 p_38 => ?_)
        obtain ⟨b_38, e_38⟩ := p_38
        rw [e_38]
        refine k_sa (ls := fun q => [(0, .ref b), (1, rf q 0), (2, vI y)]) (As := fun q => [rf q 0, vI (y % 3), vI z_38]) hx sL_100 dL_law_41 (c_L_isCrossed hI (z := y % 3) (by omega) (by omega) (c := z_38) (by omega)) rfl rfl ⟨rfl, rfl⟩ (show _ ∧ _ from ⟨by show cs + 1 ≤ 600000; omega, by show sl + 64 ≤ 7302250; omega⟩) (fun g1 z_41 M_41 hs_g1 p_41 => ?_)
        have hx_g1 := hx.sm hs_g1
        obtain ⟨rfl, σ2, I_41, hlen⟩ := p_41
        have hl2 : ∀ r : Int, 0 ≤ r ∧ r < 4 → (rope σ2.1 r).length ≤ k + 1 := fun r hr => by
          have e1 := hlen r hr
          have e2 := hl r hr
          by_cases e : r = y % 3
          · rw [if_pos e] at e1; omega
          · rw [if_neg e] at e1; omega
        show K _ _ _ _ _ _ _ 44 [(0, .ref b), (1, vR g1 0), (2, vI y)] [vI 1]
        refine k_ifne hx_g1 dL_law_44 (by omega) (fun h_44 => ?_) (fun h_44 => absurd h_44 (by omega))
        refine k_iinc (ls' := [(0, .ref b), (1, vR g1 0), (2, vI (y + 1))]) hx_g1 dL_law_49 2 rfl rfl rfl (by decide) ?_
        refine k_goto hx_g1 dL_law_52 ?_
        exact ih (k + 1) (y + 1) g1 _ _ M_41 σ2 (hgg.trans hs_g1) (by omega) (by omega) (by omega) (by omega) (by omega) hx_g1 (hs1.sm hs_g1) I_41 hl2
/-! THE CLAIM OUT OF ONE WALK OF THE LAW'S BODY. Your part is whole_start (and what it stands on); all else here is the same for every law, but numbers. -/
def R_law : String := "PostRopesLaw"
def lw_P (b : Addr) (xs : List Int32) (args : Array Value) (s : State) : Prop := args = #[.ref b] ∧ s.IntsAt b xs ∧ xs.length ≤ 260 ∧ (Jvm.Cond.and given_1 narrow_1).before args s = true
def lw_Q (_ : Array Value) (s : State) (o : Outcome) (t : State) : Prop := o = .returned (some (.int 1)) ∧ Framed s o t [] 600000 7302250
def lw_Z (below : List Frame) (a : Array Value) (s : State) : State → Prop := fun t => ∃ o, t.status = .running ∧ Ended t below o ∧ lw_Q a s o t
/-- the law's own end, with 1 on the stack, nothing written that was there before, its room as the claim has it -/
theorem lw_ret {p : Program} {l : Launch} {e : Env} {s : State} {m : MethodId} {below : List Frame} {meth : Method} {c : Code} {b : Nat} (hx : p.tables.exec = Jvm.exec) (hb : c.code = code) (hr : meth.sig.returnType = ret) (hlocks : meth.locks = false) {pc : Nat} {H : Heap} {ls : Array Slot} (hdg : decode code pc = .ok (.ireturn, 1)) : W p l e room_1 s m #[Value.ref b] below meth c H [] 600000 7302250 (lw_Z below #[Value.ref b] s) (F0 m pc ls [.int 1]) := by
  intro T hT X
  obtain ⟨fs, hret, hrun, hended, hW, hframe⟩ := X.leave (v := some (.int 1)) (hlocks := hlocks) (fun h => by rw [hr] at h; cases h)
  have hmeth' : T.vm.method? m = some meth := X.method'
  refine ⟨T.setFrames fs, ?_, .returned (some (.int 1)), hrun, hended, rfl, ⟨_, rfl⟩, hW, hframe⟩
  jvm_step X.here [X.here.top, hx, hb, hdg, hmeth', hr, ret, narrow_b1]
  (try refine ⟨rfl, ?_⟩); (try refine ⟨rfl, ?_⟩)
  first | (intro acts; rw [hret _ acts rfl rfl rfl]) | rw [hret _ _ rfl rfl rfl]
  exact Steps.refl _
/-- what holds at the law's entry: the machine, the code, the tables' words (any of lw_tbl by 'hts w (by decide +kernel)'), the script of L ints xs at the cell b, what the Statement gives of the start (any of its parts by flat_of_before) -/
def lw_At (p : Program) (s : State) (m : MethodId) (meth : Method) (c : Code) (b L : Nat) (xs : Nat → Int32) : Prop :=
  p.tables.exec = Jvm.exec ∧ c.code = code ∧ meth.sig.returnType = ret ∧ c.maxLocals = 3 ∧ s.vm.findClass R_law = some m.cls ∧ (∀ w ∈ lw_tbl, w.before #[Value.ref b] s = true) ∧ va_X b L xs s s.heap ∧ b < s.heap.size ∧ meth.locks = false ∧ (Jvm.Cond.and given_1 narrow_1).before #[Value.ref b] s = true

theorem whole_start {p : Program} {e : Env} {s : State} {m : MethodId} {below : List Frame} {meth : Method} {c : Code} (l : Launch) (hflags : l.flags = flags0) {b L : Nat} {xs : Nat → Int32} (hL : L ≤ 260) (C0 : lw_At p s m meth c b L xs) : W p l e room_1 s m #[Value.ref b] below meth c s.heap [] 0 0 (lw_Z below #[Value.ref b] s) (entryFrame m ([Value.ref b] : List Value).toArray 3) := by
  obtain ⟨hex, hb, hr, hml, hown, hts, hX, hbl, hlocks, hgv⟩ := id C0
  have hTB : ∀ w ∈ TB, w.before #[Value.ref b] s = true := fun w hw => hts w (List.mem_filter.mp hw).1
  obtain ⟨c0, iS0, hKn0⟩ := u_known (C := RX0) (T := TX0) (N := 6) (n := 6) hTB inX0 (hTB _ in_X0)
  obtain ⟨c1, iS1, hKn1⟩ := u_known (C := RX1) (T := TX1) (N := 3) (n := 3) hTB inX1 (hTB _ in_X1)
  obtain ⟨c2, iS2, hKn2⟩ := u_known (C := RX2) (T := TX2) (N := 4) (n := 4) hTB inX2 (hTB _ in_X2)
  obtain ⟨c3, iS3, hKn3⟩ := u_known (C := RX3) (T := TX3) (N := 2) (n := 2) hTB inX3 (hTB _ in_X3)
  obtain ⟨c4, iS4, hKn4⟩ := u_known (C := RX4) (T := TX4) (N := 2) (n := 2) hTB inX4 (hTB _ in_X4)
  obtain ⟨c5, iS5, hKn5⟩ := u_known (C := RX5) (T := TX5) (N := 9) (n := 9) hTB inX5 (hTB _ in_X5)
  obtain ⟨dC, dI, hKc⟩ : ∃ (dC : Nat → ClassId) (dI : Nat → Nat → Nat), ∀ (k : Nat) (q : vw_C), classes[k]? = some q → u_Kn s q.1 q.2.1 q.2.2 (dC k) (dI k) := by
    refine ⟨fun k => match k with | 0 => c0 | 1 => c1 | 2 => c2 | 3 => c3 | 4 => c4 | _ => c5, fun k => match k with | 0 => iS0 | 1 => iS1 | 2 => iS2 | 3 => iS3 | 4 => iS4 | _ => iS5, ?_⟩
    intro k q hq
    match k, hq with
    | 0, hq => cases hq; exact hKn0
    | 1, hq => cases hq; exact hKn1
    | 2, hq => cases hq; exact hKn2
    | 3, hq => cases hq; exact hKn3
    | 4, hq => cases hq; exact hKn4
    | 5, hq => cases hq; exact hKn5
    | k + 6, hq => simp [classes] at hq
  obtain ⟨aI, kI, coI, hI1, hI2, hI3⟩ := Cond.arrayClass_spec (hTB _ ac_I)
  obtain ⟨aZ, kZ, coZ, hZ1, hZ2, hZ3⟩ := Cond.arrayClass_spec (hTB _ ac_Z)
  have ho3 : va_AO RX3 s := va_AO.of (A := #[Value.ref b]) (hts (Cond.arrayOver (.object RX3)) (List.mem_of_getElem? (i := 65) (by decide +kernel)))
  have ho4 : va_AO RX4 s := va_AO.of (A := #[Value.ref b]) (hts (Cond.arrayOver (.object RX4)) (List.mem_of_getElem? (i := 30) (by decide +kernel)))
  obtain ⟨co3, a3, k3, e1, e2, e3, e4, e5⟩ := Cond.arrayOver_spec ho3
  obtain ⟨co4, a4, k4, f1, f2, f3, f4, f5⟩ := Cond.arrayOver_spec ho4
  obtain ⟨g, hg⟩ : ∃ g : GE, g = (s.heap.size, (dC, dI), (fun t => match t with | 0 => aI | 1 => aZ | 2 => a3 | _ => a4), 0) := ⟨_, rfl⟩
  have hKn : Kn g s := by
    subst hg
    refine ⟨⟨hKc, fun k q hk => ?_⟩, ?_, ho3, ho4⟩
    · match k, hk with
      | 0, hk => cases hk; exact ⟨fun n z => ⟨(fun k h => by cases h), kI, hI2, coI, hI3⟩, hI1⟩
      | 1, hk => cases hk; exact ⟨fun n z => ⟨(fun k h => by cases h), kZ, hZ2, coZ, hZ3⟩, hZ1⟩
      | 2, hk => cases hk; exact ⟨fun n z => ⟨(fun k h => by cases h), k3, e3, co3, e4⟩, k3, co3, e3, e4, e1, e5⟩
      | 3, hk => cases hk; exact ⟨fun n z => ⟨(fun k h => by cases h), k4, f3, co4, f4⟩, k4, co4, f3, f4, f1, f5⟩
      | k + 4, hk => simp [tysT] at hk
    · exact List.forall_mem_cons.mpr ⟨va_Nw.of rfl (hts _ (List.mem_of_getElem? (i := 207) (by decide +kernel))), List.forall_mem_cons.mpr ⟨va_Nw.of rfl (hts _ (List.mem_of_getElem? (i := 176) (by decide +kernel))), List.forall_mem_cons.mpr ⟨va_Nw.of rfl (hts _ (List.mem_of_getElem? (i := 179) (by decide +kernel))), List.forall_mem_cons.mpr ⟨va_Nw.of rfl (hts _ (List.mem_of_getElem? (i := 231) (by decide +kernel))), fun _ h => absurd h List.not_mem_nil⟩⟩⟩⟩
  have hgz : g.1 = s.heap.size := by rw [hg]
  have hg0 : NN g = 120 := by rw [hg]; rfl
  have main : ∀ x : Fx, x = (p, l, e, room_1, s, m, #[Value.ref b], below, meth, c, lw_Z below #[Value.ref b] s) → K x g 0 0 (fun _ => kA 0 0) 0 (fun _ _ => 0) 0 [(0, .ref b)] [] := by
    intro x hxe
    have hx : Cx x g cL_law RL 3 room_1 := by subst hxe; exact ⟨hex, hb, hml, hown, hTB, hKn, rfl⟩
    have hs : SC x g b L xs := by subst hxe; exact ⟨hX, by rw [hgz]; exact hbl, hL⟩
    have fin : ∀ (g1 : GE) (cs sl : Nat) (M : Mem) (ls : List (Nat × Value)), Sm g g1 → cs ≤ 600000 ∧ sl ≤ 7302250 → K x g1 cs sl LAY (NN g1) M 96 ls [vI 1] := by
      intro g1 cs sl M ls hsm hcs H locs la hR hS hl
      have hg1 : g1.1 = s.heap.size := hsm.1.trans hgz
      subst hxe
      refine va_forget (fun q hq => by rw [← hg1]; exact hS.2.2 q hq) ?_
      refine W.widen (k := 600000) (n := 7302250) hcs.1 hcs.2 ?_
      have e1 : vI 1 = Value.int 1 := congrArg Value.int zI_1
      rw [e1]
      exact lw_ret hex hb hr hlocks dL_law_96.1
    refine k_new (N := 9) hx nwL_9 dL_law_0 rfl ⟨Nat.le_of_ble_eq_true rfl, Nat.le_of_ble_eq_true rfl⟩ (fun L1 M1 hL1 hM1 => ?_)
    show K x g 1 9 L1 1 M1 3 [(0, .ref b)] [vR g 0]
    refine k_dup hx dL_law_3 rfl ?_
    refine k_callI (rest := [vR g 0]) hx iL_125 dL_law_4 (i_X5 (by rw [hL1]; exact upL_s)) rfl rfl rfl ⟨rfl, rfl⟩ ⟨Nat.le_of_ble_eq_true rfl, Nat.le_of_ble_eq_true rfl⟩ (fun r2 L2 n2 M2 h2 => ?_)
    obtain ⟨rfl, rfl, kp2, km2, hl2, hP2⟩ := h2
    show K x g 120 13562 L2 120 M2 7 [(0, .ref b)] [vR g 0]
    refine k_astore_n (ls' := [(0, .ref b), (1, vR g 0)]) hx dL_law_7 rfl rfl (by decide) ?_
    refine k_iconst hx dL_law_8 ?_
    refine k_istore_n (ls' := [(0, .ref b), (1, vR g 0), (2, vI 0)]) hx dL_law_9 rfl rfl (by decide) ?_
    refine k_lay hg0.symm (fun j hj => hl2 j (Nat.zero_le j) (by omega)) ?_
    exact law_A fin 17 0 0 g 120 13562 M2 σ0 Sm.rf rfl (by omega) (by omega) (by omega) (by omega) hx hs (inv0 hP2) (fun r hr => by show (rope A0 r).length ≤ 0; rw [rope0]; exact Nat.le_refl _)
  rw [lg_entry_eq]
  have hl := lv_entry [Value.ref b] (n := 3) (Nat.le_of_ble_eq_true rfl)
  refine main _ rfl s.heap [] _ ⟨by rw [hgz]; rfl, fun i hi => absurd hi (Nat.not_lt_zero i)⟩ ⟨Nat.le_refl _, fun q _ _ => rfl, fun q hq => by cases hq⟩ ?_
  show lv_has _ c.maxLocals _
  rw [hml]
  exact hl
set_option maxHeartbeats 4000000 in
theorem lw_walk (l : Launch) (hflags : l.flags = flags0) (b : Addr) (xs : List Int32) : MetFree l x (headSpec (Jvm.Cond.code x code maxLocals ret :: tables_1) room_1) (lw_P b xs) (fun _ _ _ _ _ => True) lw_Q := by
  refine MetFree.of_bodyS (code := code) (maxLocals := maxLocals) (ret := ret) (by decide) ?_ ?_
  · intro args s m h hn
    obtain ⟨meth, c, h1, h2, h3, h4, h5, h6, -, -⟩ := Cond.code_spec hn (atoms_spec (ws := Jvm.Cond.code x code maxLocals ret :: tables_1) h _ List.mem_cons_self)
    exact ⟨meth, c, h1, h2, h3, h4, h5, h6⟩
  · intro p e s m args below meth c s₁ B hml0 hP _
    obtain ⟨rfl, hx, hbd, hgv⟩ := hP
    obtain ⟨scr, harrAt, hlist, hof, hsmall⟩ := hx
    obtain ⟨hcb, hkn, -, -⟩ := State.arrayAt?_spec harrAt
    have hown : s.vm.findClass R_law = some m.cls := findClass_of_methodNamed B.named
    have hts0 : ∀ c ∈ (Jvm.Cond.code x code maxLocals ret :: tables_1), c.before #[Value.ref b] s = true := atoms_spec (ws := Jvm.Cond.code x code maxLocals ret :: tables_1) B.pre
    have hts : ∀ w ∈ lw_tbl, w.before #[Value.ref b] s = true := k2_hts_sels lw_privs (fun w hw => hts0 w (List.mem_cons_of_mem _ hw)) lw_privs_ok
    have hml : c.maxLocals = 3 := B.maxLocals_eq (hts0 _ List.mem_cons_self)
    have X₀ : Stand p l e room_1 s m #[Value.ref b] below meth c s₁ [] 0 0 := Stand.of_body B
    have hh0 : s₁.heap = s.heap := by rw [B.state]; rfl
    have hsz : scr.slots.size = xs.length := by rw [← Array.length_toList, hlist, List.length_map]
    have hval : ∀ j : Nat, j < xs.length → scr.slots[j]? = some (.int (xs.getD j 0)) := fun j hj => by
      rw [← Array.getElem?_toList, hlist]
      simp [hj]
    have hbl : b < s.heap.size := (Array.getElem?_eq_some_iff.mp hcb).1
    have hX : va_X b xs.length (fun j => xs.getD j 0) s s.heap := ⟨scr, hcb, hof, hkn, hsz, hval⟩
    have K : W p l e room_1 s m #[Value.ref b] below meth c s₁.heap [] 0 0 (lw_Z below #[Value.ref b] s) (entryFrame m ([Value.ref b] : List Value).toArray 3) := by
      rw [hh0]
      exact whole_start l hflags hbd ⟨B.exec, B.bytes, B.returns, hml, hown, hts, hX, hbl, B.notSynchronized, hgv⟩
    obtain ⟨t, a1, o, b1, b2, b3⟩ := K s₁ rfl X₀
    exact ⟨t, o, a1, b1, b2, b3⟩
theorem lw_pre_spec {args : Array Value} {s : State} (h : (Jvm.Cond.and given_1 narrow_1).before args s = true) (hr : rest_1_c.before args s = true) : ∃ (b : Addr) (xs : List Int32), lw_P b xs args s := by
  have hs := flat_of_before _ h
  have hq := flat_of_before _ hr
  have hc : (Cond.count 1).before args s = true := hs _ (by decide +kernel)
  have harr : (Cond.arrayOf (.arg 0) .int).before args s = true := hs _ (by decide +kernel)
  have hle : (Cond.le (.length (.arg 0)) (.int 260)).before args s = true := hs _ (by decide +kernel)
  have hlen : (Cond.isInt (.length (.arg 0))).before args s = true := hq _ (by decide +kernel)
  have hall : (Cond.all (.arg 0) (.isInt (.elem (.arg 0) (.index 0)))).before args s = true := hq _ (by decide +kernel)
  obtain ⟨b, xs, hb, hx⟩ := State.ints_of_pre rfl harr hlen hall
  have hsm : xs.length < 2 ^ 31 := hx.choose_spec.2.2.2
  have hev : (Term.length (.arg 0)).eval args s none [] s = some (.int xs.length.toInt32) := hx.length_eval hb
  have hv := Cond.le_ints hev (show (Term.int 260).eval args s none [] s = some (.int 260) from rfl)
  have hd : xs.length.toInt32 ≤ 260 := by
    simpa [Cond.before, Cond.holds, hv] using hle
  have hN : xs.length ≤ 260 := (Int32.ofNat_le_ofNat hsm (by decide)).mp (show Int32.ofNat xs.length ≤ Int32.ofNat 260 from hd)
  exact ⟨b, xs, Cond.one_arg hc (show args[0]? = some (.ref b) from hb), hx, hN, h⟩
theorem lw_comes (l : Launch) (hflags : l.flags = flags0) : Comes l x (Jvm.Cond.code x code maxLocals ret :: tables_1) room_1 (fun tb e args s => Calls_1 tb e args s ∧ rest_1 tb e args s ∧ Pre_1 tb e args s)
    (fun _ _ args s o t => lw_Q args s o t) := by
  intro p e ha hc hk s m args below hf hfit hheap happ hpre
  obtain ⟨b, xs, hP⟩ := lw_pre_spec hpre.2.2 hpre.2.1
  obtain ⟨k, o, h1, h2, h3, hQ⟩ := lw_walk l hflags b xs p e ha hc hk s m args below hf ((Spec.applies_iff_loose hf).mp happ).1 hP trivial
  exact ⟨k, o, h1, h2, h3, hQ⟩
theorem lw_frame {s t : State} {o : Outcome} {args : Array Value} (h : Framed s o t [] 600000 7302250) :
    Framed s o t (fieldLocs frame_1_writes args s ++ arrayLocs frame_1_arrays args s ++ staticLocs frame_1_statics s) 600000 7302250 := h
theorem lw_limb (L : Cond) (hL : ∀ (args : Array Value) (s t : State), L.after args s (.returned (some (.int 1))) t = true) :
    ArmFor flags0 classFile x code maxLocals ret World_1 tables_1 room_1 Calls_1 rest_1 Pre_1
      (fun tb e a s o t => postC L tb e a s o t ∧ Framed s o t (fieldLocs frame_1_writes a s ++ arrayLocs frame_1_arrays a s ++ staticLocs frame_1_statics s) 600000 7302250) := by
  intro l hflags _ _ p e ha hc hk s m args below hf hfit hheap happ hpre
  obtain ⟨k, o, h1, h2, h3, rfl, hF⟩ := lw_comes l hflags p e ha hc hk s m args below hf hfit hheap happ hpre
  exact ⟨k, _, h1, h2, h3, hL args s _, lw_frame hF⟩
theorem i_vc : Claimed_1_1 ∧ Claimed_1_2 := ⟨lw_limb limb_1_1 (fun args s t => by simp [limb_1_1, Cond.after, Cond.holds, Cond.value]), lw_limb limb_1_2 (fun args s t => Cond.after_iff.mpr (by
  first | (rw [show limb_1_2 = Cond.eq .result (.int 1) from rfl, Cond.eq_ints (x := 1) (y := 1) rfl rfl]; simp; done) | (simp [limb_1_2, Cond.value, Term.eval]; done)))⟩


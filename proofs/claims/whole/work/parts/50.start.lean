/-! the start: a new object, a new reference; then the law's loop -/
theorem k_lay {x : Fx} {g : GE} {cs sl : Nat} {L : Lay} {n : Nat} {M : Mem} {pc : Nat} {ls : List (Nat × Value)} {st : List Value} (hn : n = NN) (h : ∀ j, j < NN → L j = LAY j) (k : K x g cs sl LAY NN M pc ls st) : K x g cs sl L n M pc ls st := by
  subst hn
  intro H locs la hR hS hl
  exact k H locs la ⟨hR.1, fun i hi => by rw [← h i hi]; exact hR.2 i hi⟩ hS hl
def A0 : Ab := ([1, 1, 1, 1, 1, 1], [[], [], [], []])
def σ0 : Sg := (A0, [], (none, none), [])
theorem A0_r : ∀ r : Nat, A0.2.getD r [] = []
  | 0 => rfl
  | 1 => rfl
  | 2 => rfl
  | 3 => rfl
  | _ + 4 => rfl
theorem A0_ok : OkA A0 := by
  refine ⟨rfl, rfl, fun p hp => ?_, fun r hr => ?_⟩
  · rcases (show p = 0 ∨ p = 1 ∨ p = 2 ∨ p = 3 ∨ p = 4 ∨ p = 5 by omega) with rfl | rfl | rfl | rfl | rfl | rfl <;> decide
  · rw [A0_r]; exact ⟨(fun c h => by cases h), by decide⟩
theorem wd0 {M : Mem} {i : Nat} (h : M i 1 = 0) : Wd M i [] := ⟨h, (fun k c q => by simp at q), (fun c q => by cases q)⟩
theorem slo0 {k : Nat} (h : k < 2) : slo σ0 k = none := by
  rcases (show k = 0 ∨ k = 1 by omega) with rfl | rfl <;> rfl
theorem inv0 {M : Mem} (h : M 2 0 = 1 ∧ M 2 1 = 1 ∧ M 2 2 = 1 ∧ M 2 3 = 1 ∧ M 2 4 = 1 ∧ M 2 5 = 1 ∧ M 4 1 = 0 ∧ M 6 1 = 0 ∧ M 8 1 = 0 ∧ M 10 1 = 0 ∧ M 12 1 = 0 ∧ M 12 2 = 0 ∧ M 103 0 = 0 ∧ M 103 1 = 0 ∧ M 104 1 = 0) : Inv M σ0 := by
  obtain ⟨w0, w1, w2, w3, w4, w5, r0, r1, r2, r3, p1, p2, s0, s1, t1⟩ := h
  refine ⟨⟨A0_ok, fun p hp => ?_, fun r hr => ?_⟩, ⟨0, by decide, p1, p2, by decide, fun j A hj => by simp [σ0] at hj⟩, fun k hk => ?_, fun k A hk q => ?_, ⟨t1, by decide, fun k hk => absurd hk (by simp [σ0]), fun c q => by cases q⟩⟩
  · rcases (show p = 0 ∨ p = 1 ∨ p = 2 ∨ p = 3 ∨ p = 4 ∨ p = 5 by omega) with rfl | rfl | rfl | rfl | rfl | rfl
    · exact w0
    · exact w1
    · exact w2
    · exact w3
    · exact w4
    · exact w5
  · show Wd M (1 + 3 + 2 * r) (A0.2.getD r [])
    rw [A0_r]
    rcases (show r = 0 ∨ r = 1 ∨ r = 2 ∨ r = 3 by omega) with rfl | rfl | rfl | rfl
    · exact wd0 r0
    · exact wd0 r1
    · exact wd0 r2
    · exact wd0 r3
  · rw [slo0 hk]
    rcases (show k = 0 ∨ k = 1 by omega) with rfl | rfl
    · exact s0
    · exact s1
  · rw [slo0 hk] at q; cases q
theorem rope0 (r : Int) : rope A0 r = [] := A0_r _
theorem invM0 {M : Mem} (h : M 121 0 = 1 ∧ M 121 1 = 1 ∧ M 121 2 = 1 ∧ M 121 3 = 1 ∧ M 121 4 = 1 ∧ M 121 5 = 1 ∧ M 121 6 = 0 ∧ M 121 7 = 0 ∧ M 121 8 = 0 ∧ M 121 9 = 0 ∧ M 120 2 = 0 ∧ M 120 6 = 0 ∧ M 124 0 = 0 ∧ M 124 1 = 0) : InvM M σ0 := by
  obtain ⟨w0, w1, w2, w3, w4, w5, r0, r1, r2, r3, p1, t1, s0, s1⟩ := h
  refine ⟨⟨A0_ok, fun p h0 h6 => ?_, fun r h0 h4 => ?_, fun r h0 h4 k k0 k1 => ?_⟩, ⟨p1, by decide, fun j A hj => by simp [σ0] at hj⟩, fun k hk => ?_, fun k A hk q => ?_, ⟨t1, by decide, fun k hk => absurd hk (by simp [σ0]), fun c q => by cases q⟩⟩
  · rcases (show p = 0 ∨ p = 1 ∨ p = 2 ∨ p = 3 ∨ p = 4 ∨ p = 5 by omega) with rfl | rfl | rfl | rfl | rfl | rfl
    · exact w0
    · exact w1
    · exact w2
    · exact w3
    · exact w4
    · exact w5
  · show M 121 (0 + 6 + r) = (rope A0 r).length
    rw [rope0]
    rcases (show r = 0 ∨ r = 1 ∨ r = 2 ∨ r = 3 by omega) with rfl | rfl | rfl | rfl
    · exact r0
    · exact r1
    · exact r2
    · exact r3
  · have k1 : k < ((rope A0 r).length : Int) := k1
    rw [rope0] at k1
    simp at k1
    omega
  · rw [slo0 hk]
    rcases (show k = 0 ∨ k = 1 by omega) with rfl | rfl
    · exact s0
    · exact s1
  · rw [slo0 hk] at q; cases q

/-! THE CLAIM OUT OF ONE WALK OF THE LAW'S BODY. Your part is whole_start (and what it stands on); all else here is the same for every law, but numbers. -/
def R_law : String := "PostRopesLaw"
def lw_P (b : Addr) (xs : List Int32) (args : Array Value) (s : State) : Prop := args = #[.ref b] ∧ s.IntsAt b xs ∧ xs.length ≤ 2048 ∧ (Jvm.Cond.and given_1 narrow_1).before args s = true
def lw_Q (_ : Array Value) (s : State) (o : Outcome) (t : State) : Prop := o = .returned (some (.int 1)) ∧ Framed s o t [] 600000 7302250
def lw_Z (below : List Frame) (a : Array Value) (s : State) : State → Prop := fun t => ∃ o, t.status = .running ∧ Ended t below o ∧ lw_Q a s o t
/-- the law's own end, with 1 on the stack, nothing written that was there before, its room as the claim has it -/
theorem lw_ret {p : Program} {l : Launch} {e : Env} {s : State} {m : MethodId} {below : List Frame} {meth : Method} {c : Code} {b : Nat} (hx : p.tables.exec = Jvm.exec) (hb : c.code = code) (hr : meth.sig.returnType = ret) (hlocks : meth.locks = false) {pc : Nat} {H : Heap} {ls : Array Slot} (hdg : decode code pc = .ok (.ireturn, 1)) : W p l e room_1 s m #[Value.ref b] below meth c H [] 600000 7302250 (lw_Z below #[Value.ref b] s) (F0 m pc ls [.int 1]) := by
  intro T hT X
  obtain ⟨fs, hret, hrun, hended, hW, hframe⟩ := X.leave (v := some (.int 1)) (hlocks := hlocks) (fun h => by rw [hr] at h; cases h)
  have hmeth' : T.vm.method? m = some meth := X.method'
  refine ⟨T.setFrames fs, ?_, .returned (some (.int 1)), hrun, hended, rfl, ⟨_, rfl⟩, hW, hframe⟩
  jvm_step X.here [X.here.top, hx, hb, hdg, hmeth', hr, ret, narrow_b1]
  (try refine ⟨rfl, ?_⟩); (try refine ⟨rfl, ?_⟩)
  first | (intro acts; rw [hret _ acts rfl rfl rfl]) | rw [hret _ _ rfl rfl rfl]
  exact Steps.refl _
/-- what holds at the law's entry: the machine, the code, the tables' words (any of lw_tbl by 'hts w (by decide +kernel)'), the script of L ints xs at the cell b, what the Statement gives of the start (any of its parts by flat_of_before) -/
def lw_At (p : Program) (s : State) (m : MethodId) (meth : Method) (c : Code) (b L : Nat) (xs : Nat → Int32) : Prop :=
  p.tables.exec = Jvm.exec ∧ c.code = code ∧ meth.sig.returnType = ret ∧ c.maxLocals = 4 ∧ s.vm.findClass R_law = some m.cls ∧ (∀ w ∈ lw_tbl, w.before #[Value.ref b] s = true) ∧ va_X b L xs s s.heap ∧ b < s.heap.size ∧ meth.locks = false ∧ (Jvm.Cond.and given_1 narrow_1).before #[Value.ref b] s = true

theorem whole_start {p : Program} {e : Env} {s : State} {m : MethodId} {below : List Frame} {meth : Method} {c : Code} (l : Launch) (hflags : l.flags = flags0) {b L : Nat} {xs : Nat → Int32} (hL : L ≤ 2048) (C0 : lw_At p s m meth c b L xs) : W p l e room_1 s m #[Value.ref b] below meth c s.heap [] 0 0 (lw_Z below #[Value.ref b] s) (entryFrame m ([Value.ref b] : List Value).toArray 4) := by
  obtain ⟨hex, hb, hr, hml, hown, hts, hX, hbl, hlocks, hgv⟩ := id C0
  have hTB : ∀ w ∈ TB, w.before #[Value.ref b] s = true := fun w hw => hts w (List.mem_filter.mp hw).1
  obtain ⟨c0, iS0, hKn0⟩ := u_known (C := RX0) (T := TX0) (N := 6) (n := 6) hTB inX0 (hTB _ in_X0)
  obtain ⟨c1, iS1, hKn1⟩ := u_known (C := RX1) (T := TX1) (N := 3) (n := 3) hTB inX1 (hTB _ in_X1)
  obtain ⟨c2, iS2, hKn2⟩ := u_known (C := RX2) (T := TX2) (N := 4) (n := 4) hTB inX2 (hTB _ in_X2)
  obtain ⟨c3, iS3, hKn3⟩ := u_known (C := RX3) (T := TX3) (N := 2) (n := 2) hTB inX3 (hTB _ in_X3)
  obtain ⟨c4, iS4, hKn4⟩ := u_known (C := RX4) (T := TX4) (N := 2) (n := 2) hTB inX4 (hTB _ in_X4)
  obtain ⟨c5, iS5, hKn5⟩ := u_known (C := RX5) (T := TX5) (N := 9) (n := 9) hTB inX5 (hTB _ in_X5)
  obtain ⟨c6, iS6, hKn6⟩ := u_known (C := RX6) (T := TX6) (N := 20) (n := 20) hTB inX6 (hTB _ in_X6)
  obtain ⟨dC, dI, hKc⟩ : ∃ (dC : Nat → ClassId) (dI : Nat → Nat → Nat), ∀ (k : Nat) (q : vw_C), classes[k]? = some q → u_Kn s q.1 q.2.1 q.2.2 (dC k) (dI k) := by
    refine ⟨fun k => match k with | 0 => c0 | 1 => c1 | 2 => c2 | 3 => c3 | 4 => c4 | 5 => c5 | _ => c6, fun k => match k with | 0 => iS0 | 1 => iS1 | 2 => iS2 | 3 => iS3 | 4 => iS4 | 5 => iS5 | _ => iS6, ?_⟩
    intro k q hq
    match k, hq with
    | 0, hq => cases hq; exact hKn0
    | 1, hq => cases hq; exact hKn1
    | 2, hq => cases hq; exact hKn2
    | 3, hq => cases hq; exact hKn3
    | 4, hq => cases hq; exact hKn4
    | 5, hq => cases hq; exact hKn5
    | 6, hq => cases hq; exact hKn6
    | k + 7, hq => simp [classes] at hq
  obtain ⟨aI, kI, coI, hI1, hI2, hI3⟩ := Cond.arrayClass_spec (hTB _ ac_I)
  obtain ⟨aZ, kZ, coZ, hZ1, hZ2, hZ3⟩ := Cond.arrayClass_spec (hTB _ ac_Z)
  have ho3 : va_AO RX3 s := va_AO.of (A := #[Value.ref b]) (hts (Cond.arrayOver (.object RX3)) (List.mem_of_getElem? (i := 101) (by decide +kernel)))
  have ho4 : va_AO RX4 s := va_AO.of (A := #[Value.ref b]) (hts (Cond.arrayOver (.object RX4)) (List.mem_of_getElem? (i := 64) (by decide +kernel)))
  obtain ⟨co3, a3, k3, e1, e2, e3, e4, e5⟩ := Cond.arrayOver_spec ho3
  obtain ⟨co4, a4, k4, f1, f2, f3, f4, f5⟩ := Cond.arrayOver_spec ho4
  obtain ⟨g, hg⟩ : ∃ g : GE, g = (s.heap.size, (dC, dI), fun t => match t with | 0 => aI | 1 => aZ | 2 => a3 | _ => a4) := ⟨_, rfl⟩
  have hKn : Kn g s := by
    subst hg
    refine ⟨⟨hKc, fun k q hk => ?_⟩, ?_, ho3, ho4⟩
    · match k, hk with
      | 0, hk => cases hk; exact ⟨fun n z => ⟨(fun k h => by cases h), kI, hI2, coI, hI3⟩, hI1⟩
      | 1, hk => cases hk; exact ⟨fun n z => ⟨(fun k h => by cases h), kZ, hZ2, coZ, hZ3⟩, hZ1⟩
      | 2, hk => cases hk; exact ⟨fun n z => ⟨(fun k h => by cases h), k3, e3, co3, e4⟩, k3, co3, e3, e4, e1, e5⟩
      | 3, hk => cases hk; exact ⟨fun n z => ⟨(fun k h => by cases h), k4, f3, co4, f4⟩, k4, co4, f3, f4, f1, f5⟩
      | k + 4, hk => simp [tysT] at hk
    · exact List.forall_mem_cons.mpr ⟨va_Nw.of rfl (hts _ (List.mem_of_getElem? (i := 252) (by decide +kernel))), List.forall_mem_cons.mpr ⟨va_Nw.of rfl (hts _ (List.mem_of_getElem? (i := 402) (by decide +kernel))), List.forall_mem_cons.mpr ⟨va_Nw.of rfl (hts _ (List.mem_of_getElem? (i := 403) (by decide +kernel))), List.forall_mem_cons.mpr ⟨va_Nw.of rfl (hts _ (List.mem_of_getElem? (i := 429) (by decide +kernel))), List.forall_mem_cons.mpr ⟨va_Nw.of rfl (hts _ (List.mem_of_getElem? (i := 531) (by decide +kernel))), fun _ h => absurd h List.not_mem_nil⟩⟩⟩⟩⟩
  have hgz : g.1 = s.heap.size := by rw [hg]
  have main : ∀ x : Fx, x = (p, l, e, room_1, s, m, #[Value.ref b], below, meth, c, lw_Z below #[Value.ref b] s) → K x g 0 0 (fun _ => kA 0 0) 0 (fun _ _ => 0) 0 [(0, .ref b)] [] := by
    intro x hxe
    have hx : Cx x g cL_law RL 4 room_1 := by subst hxe; exact ⟨hex, hb, hml, hown, hTB, hKn, rfl⟩
    have hs : SC x g b L xs := by subst hxe; exact ⟨hX, hbl, hgz, hL⟩
    have fin : ∀ (M : Mem) (ls : List (Nat × Value)), K x g 134 34947 LAY NN M 907 ls [vI 1] := by
      intro M ls H locs la hR hS hl
      subst hxe
      refine va_forget (fun q hq => by rw [← hgz]; exact hS.2.2 q hq) ?_
      refine W.widen (k := 600000) (n := 7302250) (Nat.le_of_ble_eq_true rfl) (Nat.le_of_ble_eq_true rfl) ?_
      have e1 : vI 1 = Value.int 1 := congrArg Value.int zI_1
      rw [e1]
      exact lw_ret hex hb hr hlocks dL_law_907.1
    refine k_new (N := 9) hx nwL_7 dL_law_0 rfl ⟨Nat.le_of_ble_eq_true rfl, Nat.le_of_ble_eq_true rfl⟩ (fun L1 M1 hL1 hM1 => ?_)
    show K x g 1 9 L1 1 M1 3 [(0, .ref b)] [vR g 0]
    refine k_dup hx dL_law_3 rfl ?_
    refine k_callI (rest := [vR g 0]) hx iL_9 dL_law_4 (i_X5 (by rw [hL1]; exact upL_s)) rfl rfl rfl ⟨rfl, rfl⟩ ⟨Nat.le_of_ble_eq_true rfl, Nat.le_of_ble_eq_true rfl⟩ (fun r2 L2 n2 M2 h2 => ?_)
    obtain ⟨rfl, rfl, kp2, km2, hl2, hP2⟩ := h2
    show K x g 120 13562 L2 120 M2 7 [(0, .ref b)] [vR g 0]
    refine k_astore_n (ls' := [(0, .ref b), (1, vR g 0)]) hx dL_law_7 rfl rfl (by decide) ?_
    refine k_new (N := 20) hx nwL_10 dL_law_8 rfl ⟨Nat.le_of_ble_eq_true rfl, Nat.le_of_ble_eq_true rfl⟩ (fun L3 M3 hL3 hM3 => ?_)
    show K x g 121 13582 L3 121 M3 11 [(0, .ref b), (1, vR g 0)] [vR g 120]
    refine k_dup hx dL_law_11 rfl ?_
    refine k_callI (rest := [vR g 120]) hx iL_12 dL_law_12 (i_X6 (by rw [hL3]; exact upL_s) (fun k => by rw [hM3]; exact clr_s)) rfl rfl rfl ⟨rfl, rfl⟩ ⟨Nat.le_of_ble_eq_true rfl, Nat.le_of_ble_eq_true rfl⟩ (fun r4 L4 n4 M4 h4 => ?_)
    obtain ⟨rfl, rfl, kp4, km4, hl4, hP4⟩ := h4
    show K x g 134 34947 L4 134 M4 15 [(0, .ref b), (1, vR g 0)] [vR g 120]
    refine k_astore_n (ls' := [(0, .ref b), (1, vR g 0), (2, vR g 120)]) hx dL_law_15 rfl rfl (by decide) ?_
    refine k_iconst hx dL_law_16 ?_
    refine k_istore_n (ls' := [(0, .ref b), (1, vR g 0), (2, vR g 120), (3, vI 0)]) hx dL_law_17 rfl rfl (by decide) ?_
    have hm : ∀ j, j < 120 → M4 j = M2 j := fun j hj => by rw [km4 j hj, hM3, clr_n (by omega)]
    refine k_lay rfl (fun j hj => ?_) ?_
    · by_cases h : j < 120
      · rw [kp4 j h, hL3, upL_n (by omega)]; exact hl2 j (Nat.zero_le j) (by omega)
      · exact hl4 j (by omega) (show j < 134 from hj)
    · refine law_loop hx hs fin (L + 1) 0 M4 σ0 (by omega) (by omega) (inv0 ?_) (invM0 hP4)
      rw [hm 2 (by decide), hm 4 (by decide), hm 6 (by decide), hm 8 (by decide), hm 10 (by decide), hm 12 (by decide), hm 103 (by decide), hm 104 (by decide)]
      exact hP2
  rw [lg_entry_eq]
  have hl := lv_entry [Value.ref b] (n := 4) (Nat.le_of_ble_eq_true rfl)
  refine main _ rfl s.heap [] _ ⟨by rw [hgz]; rfl, fun i hi => absurd hi (Nat.not_lt_zero i)⟩ ⟨Nat.le_refl _, fun q _ _ => rfl, fun q hq => by cases hq⟩ ?_
  show lv_has _ c.maxLocals _
  rw [hml]
  exact hl
set_option maxHeartbeats 4000000 in
theorem lw_walk (l : Launch) (hflags : l.flags = flags0) (b : Addr) (xs : List Int32) : MetFree l x (headSpec (Jvm.Cond.code x code maxLocals ret :: tables_1) room_1) (lw_P b xs) (fun _ _ _ _ _ => True) lw_Q := by
  refine MetFree.of_bodyS (code := code) (maxLocals := maxLocals) (ret := ret) (by decide) ?_ ?_
  · intro args s m h hn
    obtain ⟨meth, c, h1, h2, h3, h4, h5, h6, -, -⟩ := Cond.code_spec hn (atoms_spec (ws := Jvm.Cond.code x code maxLocals ret :: tables_1) h _ List.mem_cons_self)
    exact ⟨meth, c, h1, h2, h3, h4, h5, h6⟩
  · intro p e s m args below meth c s₁ B hml0 hP _
    obtain ⟨rfl, hx, hbd, hgv⟩ := hP
    obtain ⟨scr, harrAt, hlist, hof, hsmall⟩ := hx
    obtain ⟨hcb, hkn, -, -⟩ := State.arrayAt?_spec harrAt
    have hown : s.vm.findClass R_law = some m.cls := findClass_of_methodNamed B.named
    have hts0 : ∀ c ∈ (Jvm.Cond.code x code maxLocals ret :: tables_1), c.before #[Value.ref b] s = true := atoms_spec (ws := Jvm.Cond.code x code maxLocals ret :: tables_1) B.pre
    have hts : ∀ w ∈ lw_tbl, w.before #[Value.ref b] s = true := k2_hts_sels lw_privs (fun w hw => hts0 w (List.mem_cons_of_mem _ hw)) lw_privs_ok
    have hml : c.maxLocals = 4 := B.maxLocals_eq (hts0 _ List.mem_cons_self)
    have X₀ : Stand p l e room_1 s m #[Value.ref b] below meth c s₁ [] 0 0 := Stand.of_body B
    have hh0 : s₁.heap = s.heap := by rw [B.state]; rfl
    have hsz : scr.slots.size = xs.length := by rw [← Array.length_toList, hlist, List.length_map]
    have hval : ∀ j : Nat, j < xs.length → scr.slots[j]? = some (.int (xs.getD j 0)) := fun j hj => by
      rw [← Array.getElem?_toList, hlist]
      simp [hj]
    have hbl : b < s.heap.size := (Array.getElem?_eq_some_iff.mp hcb).1
    have hX : va_X b xs.length (fun j => xs.getD j 0) s s.heap := ⟨scr, hcb, hof, hkn, hsz, hval⟩
    have K : W p l e room_1 s m #[Value.ref b] below meth c s₁.heap [] 0 0 (lw_Z below #[Value.ref b] s) (entryFrame m ([Value.ref b] : List Value).toArray 4) := by
      rw [hh0]
      exact whole_start l hflags hbd ⟨B.exec, B.bytes, B.returns, hml, hown, hts, hX, hbl, B.notSynchronized, hgv⟩
    obtain ⟨t, a1, o, b1, b2, b3⟩ := K s₁ rfl X₀
    exact ⟨t, o, a1, b1, b2, b3⟩
theorem lw_pre_spec {args : Array Value} {s : State} (h : (Jvm.Cond.and given_1 narrow_1).before args s = true) (hr : rest_1_c.before args s = true) : ∃ (b : Addr) (xs : List Int32), lw_P b xs args s := by
  have hs := flat_of_before _ h
  have hq := flat_of_before _ hr
  have hc : (Cond.count 1).before args s = true := hs _ (by decide +kernel)
  have harr : (Cond.arrayOf (.arg 0) .int).before args s = true := hs _ (by decide +kernel)
  have hle : (Cond.le (.length (.arg 0)) (.int 2048)).before args s = true := hs _ (by decide +kernel)
  have hlen : (Cond.isInt (.length (.arg 0))).before args s = true := hq _ (by decide +kernel)
  have hall : (Cond.all (.arg 0) (.isInt (.elem (.arg 0) (.index 0)))).before args s = true := hq _ (by decide +kernel)
  obtain ⟨b, xs, hb, hx⟩ := State.ints_of_pre rfl harr hlen hall
  have hsm : xs.length < 2 ^ 31 := hx.choose_spec.2.2.2
  have hev : (Term.length (.arg 0)).eval args s none [] s = some (.int xs.length.toInt32) := hx.length_eval hb
  have hv := Cond.le_ints hev (show (Term.int 2048).eval args s none [] s = some (.int 2048) from rfl)
  have hd : xs.length.toInt32 ≤ 2048 := by
    simpa [Cond.before, Cond.holds, hv] using hle
  have hN : xs.length ≤ 2048 := (Int32.ofNat_le_ofNat hsm (by decide)).mp (show Int32.ofNat xs.length ≤ Int32.ofNat 2048 from hd)
  exact ⟨b, xs, Cond.one_arg hc (show args[0]? = some (.ref b) from hb), hx, hN, h⟩
theorem lw_comes (l : Launch) (hflags : l.flags = flags0) : Comes l x (Jvm.Cond.code x code maxLocals ret :: tables_1) room_1 (fun tb e args s => Calls_1 tb e args s ∧ rest_1 tb e args s ∧ Pre_1 tb e args s)
    (fun _ _ args s o t => lw_Q args s o t) := by
  intro p e ha hc hk s m args below hf hfit hheap happ hpre
  obtain ⟨b, xs, hP⟩ := lw_pre_spec hpre.2.2 hpre.2.1
  obtain ⟨k, o, h1, h2, h3, hQ⟩ := lw_walk l hflags b xs p e ha hc hk s m args below hf ((Spec.applies_iff_loose hf).mp happ).1 hP trivial
  exact ⟨k, o, h1, h2, h3, hQ⟩
theorem lw_frame {s t : State} {o : Outcome} {args : Array Value} (h : Framed s o t [] 600000 7302250) :
    Framed s o t (fieldLocs frame_1_writes args s ++ arrayLocs frame_1_arrays args s ++ staticLocs frame_1_statics s) 600000 7302250 := h
theorem lw_limb (L : Cond) (hL : ∀ (args : Array Value) (s t : State), L.after args s (.returned (some (.int 1))) t = true) :
    ArmFor flags0 classFile x code maxLocals ret World_1 tables_1 room_1 Calls_1 rest_1 Pre_1
      (fun tb e a s o t => postC L tb e a s o t ∧ Framed s o t (fieldLocs frame_1_writes a s ++ arrayLocs frame_1_arrays a s ++ staticLocs frame_1_statics s) 600000 7302250) := by
  intro l hflags _ _ p e ha hc hk s m args below hf hfit hheap happ hpre
  obtain ⟨k, o, h1, h2, h3, rfl, hF⟩ := lw_comes l hflags p e ha hc hk s m args below hf hfit hheap happ hpre
  exact ⟨k, _, h1, h2, h3, hL args s _, lw_frame hF⟩
theorem i_vc : Claimed_1_1 ∧ Claimed_1_2 := ⟨lw_limb limb_1_1 (fun args s t => by simp [limb_1_1, Cond.after, Cond.holds, Cond.value]), lw_limb limb_1_2 (fun args s t => Cond.after_iff.mpr (by
  first | (rw [show limb_1_2 = Cond.eq .result (.int 1) from rfl, Cond.eq_ints (x := 1) (y := 1) rfl rfl]; simp; done) | (simp [limb_1_2, Cond.value, Term.eval]; done)))⟩


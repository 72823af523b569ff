section
-- begun from the skeleton and the printed names: the tables' words
-- ===== PART A: goes FIRST, ahead of the names: the tables' words, and 'selects' of the private methods out of them =====
/-- a private method of a class that the tables say can be made, by its rows of tables_1 -/
def lw_okq (q : MethodName × Nat) : Prop := (q.1.cls ≠ "java/lang/invoke/MethodHandle" ∧ q.1.cls ≠ "java/lang/invoke/VarHandle") ∧ Cond.instantiable q.1.cls q.2 ∈ tables_1 ∧ Cond.privateMethod q.1 ∈ tables_1 ∧ Cond.instanceMethod q.1 ∈ tables_1
theorem lw_p0 : lw_okq (⟨"PostRopes", "layPulled", "(LPostRopes$Word;)V"⟩, 9) := ⟨⟨by decide +kernel, by decide +kernel⟩, List.mem_of_getElem? (i := 9) (by decide +kernel), List.mem_of_getElem? (i := 176) (by decide +kernel), List.mem_of_getElem? (i := 177) (by decide +kernel)⟩
theorem lw_p1 : lw_okq (⟨"PostRopes", "layLoop", "(LPostRopes$Word;)V"⟩, 9) := ⟨⟨by decide +kernel, by decide +kernel⟩, List.mem_of_getElem? (i := 9) (by decide +kernel), List.mem_of_getElem? (i := 204) (by decide +kernel), List.mem_of_getElem? (i := 205) (by decide +kernel)⟩
theorem lw_p2 : lw_okq (⟨"PostRopes", "fallsWithout", "(LPostRopes$Word;I)Z"⟩, 9) := ⟨⟨by decide +kernel, by decide +kernel⟩, List.mem_of_getElem? (i := 9) (by decide +kernel), List.mem_of_getElem? (i := 230) (by decide +kernel), List.mem_of_getElem? (i := 231) (by decide +kernel)⟩
theorem lw_p3 : lw_okq (⟨"PostRopes", "layLeast", "(LPostRopes$Word;LPostRopes$Word;)V"⟩, 9) := ⟨⟨by decide +kernel, by decide +kernel⟩, List.mem_of_getElem? (i := 9) (by decide +kernel), List.mem_of_getElem? (i := 294) (by decide +kernel), List.mem_of_getElem? (i := 295) (by decide +kernel)⟩
theorem lw_p4 : lw_okq (⟨"PostRopes", "crossingsIfSwapped", "(II)I"⟩, 9) := ⟨⟨by decide +kernel, by decide +kernel⟩, List.mem_of_getElem? (i := 9) (by decide +kernel), List.mem_of_getElem? (i := 421) (by decide +kernel), List.mem_of_getElem? (i := 422) (by decide +kernel)⟩
theorem lw_p5 : lw_okq (⟨"PostRopes", "laySwapped", "(LPostRopes$Word;II)V"⟩, 9) := ⟨⟨by decide +kernel, by decide +kernel⟩, List.mem_of_getElem? (i := 9) (by decide +kernel), List.mem_of_getElem? (i := 425) (by decide +kernel), List.mem_of_getElem? (i := 426) (by decide +kernel)⟩
theorem lw_p6 : lw_okq (⟨"PostRopes", "addSwapped", "(III)V"⟩, 9) := ⟨⟨by decide +kernel, by decide +kernel⟩, List.mem_of_getElem? (i := 9) (by decide +kernel), List.mem_of_getElem? (i := 429) (by decide +kernel), List.mem_of_getElem? (i := 430) (by decide +kernel)⟩
def lw_privs_1 : List (MethodName × Nat) := [(⟨"PostRopes", "layPulled", "(LPostRopes$Word;)V"⟩, 9), (⟨"PostRopes", "layLoop", "(LPostRopes$Word;)V"⟩, 9), (⟨"PostRopes", "fallsWithout", "(LPostRopes$Word;I)Z"⟩, 9), (⟨"PostRopes", "layLeast", "(LPostRopes$Word;LPostRopes$Word;)V"⟩, 9), (⟨"PostRopes", "crossingsIfSwapped", "(II)I"⟩, 9), (⟨"PostRopes", "laySwapped", "(LPostRopes$Word;II)V"⟩, 9), (⟨"PostRopes", "addSwapped", "(III)V"⟩, 9)]
theorem lw_r1 : ∀ q ∈ lw_privs_1, lw_okq q := List.forall_mem_cons.mpr ⟨lw_p0, List.forall_mem_cons.mpr ⟨lw_p1, List.forall_mem_cons.mpr ⟨lw_p2, List.forall_mem_cons.mpr ⟨lw_p3, List.forall_mem_cons.mpr ⟨lw_p4, List.forall_mem_cons.mpr ⟨lw_p5, List.forall_mem_cons.mpr ⟨lw_p6, fun _ h => absurd h List.not_mem_nil⟩⟩⟩⟩⟩⟩⟩
def lw_privs : List (MethodName × Nat) := lw_privs_1
def lw_tbl : List Cond := k2_sels lw_privs ++ tables_1
theorem lw_privs_ok : ∀ q ∈ lw_privs, lw_okq q := lw_r1

def TB : List Cond := lw_tbl.filter goodWord
theorem gTB {w : Cond} (h : w ∈ TB) : (w.onTables && w.keeps) = true ∨ ∃ ty, w = .arrayClass ty := good_of_word (List.mem_filter.mp h).2
theorem tb_of {w : Cond} (i : Nat) (h : lw_tbl[i]? = some w) (g : goodWord w = true) : w ∈ TB := List.mem_filter.mpr ⟨List.mem_of_getElem? h, g⟩
def RX0 : String := "PostRopes$Pad"
def RX1 : String := "PostRopes$Past"
def RX2 : String := "PostRopes$Scissors"
def RX3 : String := "PostRopes$State"
def RX4 : String := "PostRopes$Word"
def RX5 : String := "PostRopes"
def RX6 : String := "PostRopesModel"
def RJ9 : String := "java/lang/Math"
def RL : String := "PostRopesLaw"
def TX0 : u_T := fun k => match k with
  | 0 => ("PostRopes$Pad", "codes", "[I", true)
  | 1 => ("PostRopes$Pad", "length", "I", false)
  | 2 => ("PostRopes$Pad", "signs", "[I", true)
  | 3 => ("PostRopes$Pad", "starts", "[I", true)
  | 4 => ("PostRopes$Pad", "middles", "[I", true)
  | _ => ("PostRopes$Pad", "depth", "I", false)
def tyX0 : Nat → FieldType := fun k => match k with
  | 0 => .array (.int)
  | 1 => .int
  | 2 => .array (.int)
  | 3 => .array (.int)
  | 4 => .array (.int)
  | _ => .int
theorem nmX0 : ∀ a, a < 6 → ∀ b, b < 6 → a ≠ b → (TX0 a).2.1 ≠ (TX0 b).2.1 := by decide +kernel
theorem tyX0_ok : ∀ k, k < 6 → parseFieldDescriptor (TX0 k).2.2.1 = some (tyX0 k) := by decide +kernel
theorem inX0 : ∀ w ∈ u_ws RX0 TX0 6, w ∈ TB := by decide +kernel
def TX1 : u_T := fun k => match k with
  | 0 => ("PostRopes$Past", "states", "[LPostRopes$State;", true)
  | 1 => ("PostRopes$Past", "next", "I", false)
  | _ => ("PostRopes$Past", "kept", "I", false)
def tyX1 : Nat → FieldType := fun k => match k with
  | 0 => .array (.object "PostRopes$State")
  | 1 => .int
  | _ => .int
theorem nmX1 : ∀ a, a < 3 → ∀ b, b < 3 → a ≠ b → (TX1 a).2.1 ≠ (TX1 b).2.1 := by decide +kernel
theorem tyX1_ok : ∀ k, k < 3 → parseFieldDescriptor (TX1 k).2.2.1 = some (tyX1 k) := by decide +kernel
theorem inX1 : ∀ w ∈ u_ws RX1 TX1 3, w ∈ TB := by decide +kernel
def TX2 : u_T := fun k => match k with
  | 0 => ("PostRopes$Scissors", "stays", "[I", true)
  | 1 => ("PostRopes$Scissors", "nextOpposite", "[I", true)
  | 2 => ("PostRopes$Scissors", "nextSame", "[I", true)
  | _ => ("PostRopes$Scissors", "nextOf", "[I", true)
def tyX2 : Nat → FieldType := fun k => match k with
  | 0 => .array (.int)
  | 1 => .array (.int)
  | 2 => .array (.int)
  | _ => .array (.int)
theorem nmX2 : ∀ a, a < 4 → ∀ b, b < 4 → a ≠ b → (TX2 a).2.1 ≠ (TX2 b).2.1 := by decide +kernel
theorem tyX2_ok : ∀ k, k < 4 → parseFieldDescriptor (TX2 k).2.2.1 = some (tyX2 k) := by decide +kernel
theorem inX2 : ∀ w ∈ u_ws RX2 TX2 4, w ∈ TB := by decide +kernel
def TX3 : u_T := fun k => match k with
  | 0 => ("PostRopes$State", "widths", "[I", true)
  | _ => ("PostRopes$State", "ropes", "[LPostRopes$Word;", true)
def tyX3 : Nat → FieldType := fun k => match k with
  | 0 => .array (.int)
  | _ => .array (.object "PostRopes$Word")
theorem nmX3 : ∀ a, a < 2 → ∀ b, b < 2 → a ≠ b → (TX3 a).2.1 ≠ (TX3 b).2.1 := by decide +kernel
theorem tyX3_ok : ∀ k, k < 2 → parseFieldDescriptor (TX3 k).2.2.1 = some (tyX3 k) := by decide +kernel
theorem inX3 : ∀ w ∈ u_ws RX3 TX3 2, w ∈ TB := by decide +kernel
def TX4 : u_T := fun k => match k with
  | 0 => ("PostRopes$Word", "crossings", "[I", true)
  | _ => ("PostRopes$Word", "length", "I", false)
def tyX4 : Nat → FieldType := fun k => match k with
  | 0 => .array (.int)
  | _ => .int
theorem nmX4 : ∀ a, a < 2 → ∀ b, b < 2 → a ≠ b → (TX4 a).2.1 ≠ (TX4 b).2.1 := by decide +kernel
theorem tyX4_ok : ∀ k, k < 2 → parseFieldDescriptor (TX4 k).2.2.1 = some (tyX4 k) := by decide +kernel
theorem inX4 : ∀ w ∈ u_ws RX4 TX4 2, w ∈ TB := by decide +kernel
def TX5 : u_T := fun k => match k with
  | 0 => ("PostRopes", "now", "LPostRopes$State;", true)
  | 1 => ("PostRopes", "past", "LPostRopes$Past;", true)
  | 2 => ("PostRopes", "slots", "[LPostRopes$State;", true)
  | 3 => ("PostRopes", "filled", "[Z", true)
  | 4 => ("PostRopes", "pad", "LPostRopes$Pad;", true)
  | 5 => ("PostRopes", "scissors", "LPostRopes$Scissors;", true)
  | 6 => ("PostRopes", "work", "LPostRopes$Word;", true)
  | 7 => ("PostRopes", "spare", "LPostRopes$Word;", true)
  | _ => ("PostRopes", "loop", "LPostRopes$Word;", true)
def tyX5 : Nat → FieldType := fun k => match k with
  | 0 => .object "PostRopes$State"
  | 1 => .object "PostRopes$Past"
  | 2 => .array (.object "PostRopes$State")
  | 3 => .array (.boolean)
  | 4 => .object "PostRopes$Pad"
  | 5 => .object "PostRopes$Scissors"
  | 6 => .object "PostRopes$Word"
  | 7 => .object "PostRopes$Word"
  | _ => .object "PostRopes$Word"
theorem nmX5 : ∀ a, a < 9 → ∀ b, b < 9 → a ≠ b → (TX5 a).2.1 ≠ (TX5 b).2.1 := by decide +kernel
theorem tyX5_ok : ∀ k, k < 9 → parseFieldDescriptor (TX5 k).2.2.1 = some (tyX5 k) := by decide +kernel
theorem inX5 : ∀ w ∈ u_ws RX5 TX5 9, w ∈ TB := by decide +kernel
abbrev classes : List vw_C := [(RX0, TX0, 6), (RX1, TX1, 3), (RX2, TX2, 4), (RX3, TX3, 2), (RX4, TX4, 2), (RX5, TX5, 9)]
abbrev Mu : Type := MethodName × ByteArray × Nat × Option FieldType × Nat × Nat
abbrev cX0_init : ByteArray := prog_2_method_1_code
def yX0_init : MethodName := ⟨RX0, "<init>", "()V"⟩
abbrev μX0_init : Mu := (yX0_init, cX0_init, 1, none, 1, 16)
abbrev cX1_init : ByteArray := prog_3_method_1_code
def yX1_init : MethodName := ⟨RX1, "<init>", "()V"⟩
abbrev μX1_init : Mu := (yX1_init, cX1_init, 2, none, 3, 63)
abbrev cX1_remember : ByteArray := prog_3_method_2_code
def yX1_remember : MethodName := ⟨RX1, "remember", "(LPostRopes$State;)V"⟩
abbrev μX1_remember : Mu := (yX1_remember, cX1_remember, 2, none, 4, 87)
abbrev cX2_init : ByteArray := prog_4_method_1_code
def yX2_init : MethodName := ⟨RX2, "<init>", "()V"⟩
abbrev μX2_init : Mu := (yX2_init, cX2_init, 1, none, 1, 16)
abbrev cX3_init : ByteArray := prog_5_method_1_code
def yX3_init : MethodName := ⟨RX3, "<init>", "()V"⟩
abbrev μX3_init : Mu := (yX3_init, cX3_init, 2, none, 2, 42)
abbrev cX3_copyFrom : ByteArray := prog_5_method_2_code
def yX3_copyFrom : MethodName := ⟨RX3, "copyFrom", "(LPostRopes$State;)V"⟩
abbrev μX3_copyFrom : Mu := (yX3_copyFrom, cX3_copyFrom, 3, none, 3, 65)
abbrev cX3_allCrossings : ByteArray := prog_5_method_3_code
def yX3_allCrossings : MethodName := ⟨RX3, "allCrossings", "()I"⟩
abbrev μX3_allCrossings : Mu := (yX3_allCrossings, cX3_allCrossings, 3, (some .int), 0, 0)
abbrev cX3_widthsAlong : ByteArray := prog_5_method_4_code
def yX3_widthsAlong : MethodName := ⟨RX3, "widthsAlong", "(LPostRopes$Word;)I"⟩
abbrev μX3_widthsAlong : Mu := (yX3_widthsAlong, cX3_widthsAlong, 5, (some .int), 1, 21)
abbrev cX4_init : ByteArray := prog_6_method_1_code
def yX4_init : MethodName := ⟨RX4, "<init>", "(I)V"⟩
abbrev μX4_init : Mu := (yX4_init, cX4_init, 2, none, 1, 21)
abbrev cX4_at : ByteArray := prog_6_method_2_code
def yX4_at : MethodName := ⟨RX4, "at", "(I)I"⟩
abbrev μX4_at : Mu := (yX4_at, cX4_at, 2, (some .int), 0, 0)
abbrev cX4_add : ByteArray := prog_6_method_3_code
def yX4_add : MethodName := ⟨RX4, "add", "(I)Z"⟩
abbrev μX4_add : Mu := (yX4_add, cX4_add, 2, (some .boolean), 0, 0)
abbrev cX4_addPulled : ByteArray := prog_6_method_4_code
def yX4_addPulled : MethodName := ⟨RX4, "addPulled", "(I)Z"⟩
abbrev μX4_addPulled : Mu := (yX4_addPulled, cX4_addPulled, 2, (some .boolean), 1, 21)
abbrev cX4_clear : ByteArray := prog_6_method_5_code
def yX4_clear : MethodName := ⟨RX4, "clear", "()V"⟩
abbrev μX4_clear : Mu := (yX4_clear, cX4_clear, 1, none, 0, 0)
abbrev cX4_dropLast : ByteArray := prog_6_method_6_code
def yX4_dropLast : MethodName := ⟨RX4, "dropLast", "(I)V"⟩
abbrev μX4_dropLast : Mu := (yX4_dropLast, cX4_dropLast, 2, none, 1, 21)
abbrev cX4_copyFrom : ByteArray := prog_6_method_7_code
def yX4_copyFrom : MethodName := ⟨RX4, "copyFrom", "(LPostRopes$Word;)V"⟩
abbrev μX4_copyFrom : Mu := (yX4_copyFrom, cX4_copyFrom, 2, none, 2, 44)
abbrev cX4_addWord : ByteArray := prog_6_method_8_code
def yX4_addWord : MethodName := ⟨RX4, "addWord", "(LPostRopes$Word;)V"⟩
abbrev μX4_addWord : Mu := (yX4_addWord, cX4_addWord, 4, none, 1, 21)
abbrev cX4_addTurned : ByteArray := prog_6_method_9_code
def yX4_addTurned : MethodName := ⟨RX4, "addTurned", "(LPostRopes$Word;)V"⟩
abbrev μX4_addTurned : Mu := (yX4_addTurned, cX4_addTurned, 2, none, 2, 45)
abbrev cX4_addTurnedPart : ByteArray := prog_6_method_10_code
def yX4_addTurnedPart : MethodName := ⟨RX4, "addTurnedPart", "(LPostRopes$Word;II)Z"⟩
abbrev μX4_addTurnedPart : Mu := (yX4_addTurnedPart, cX4_addTurnedPart, 5, (some .boolean), 1, 21)
abbrev cX4_turnFrom : ByteArray := prog_6_method_12_code
def yX4_turnFrom : MethodName := ⟨RX4, "turnFrom", "(I)V"⟩
abbrev μX4_turnFrom : Mu := (yX4_turnFrom, cX4_turnFrom, 5, none, 1, 21)
abbrev cX4_cancelPairs : ByteArray := prog_6_method_13_code
def yX4_cancelPairs : MethodName := ⟨RX4, "cancelPairs", "()I"⟩
abbrev μX4_cancelPairs : Mu := (yX4_cancelPairs, cX4_cancelPairs, 3, (some .int), 2, 42)
abbrev cX4_tighten : ByteArray := prog_6_method_14_code
def yX4_tighten : MethodName := ⟨RX4, "tighten", "()V"⟩
abbrev μX4_tighten : Mu := (yX4_tighten, cX4_tighten, 4, none, 3, 64)
abbrev cX4_atRound : ByteArray := prog_6_method_15_code
def yX4_atRound : MethodName := ⟨RX4, "atRound", "(I)I"⟩
abbrev μX4_atRound : Mu := (yX4_atRound, cX4_atRound, 2, (some .int), 1, 21)
abbrev cX4_leastStart : ByteArray := prog_6_method_16_code
def yX4_leastStart : MethodName := ⟨RX4, "leastStart", "()I"⟩
abbrev μX4_leastStart : Mu := (yX4_leastStart, cX4_leastStart, 3, (some .int), 3, 67)
abbrev cX4_isLessFrom : ByteArray := prog_6_method_17_code
def yX4_isLessFrom : MethodName := ⟨RX4, "isLessFrom", "(II)Z"⟩
abbrev μX4_isLessFrom : Mu := (yX4_isLessFrom, cX4_isLessFrom, 6, (some .boolean), 2, 42)
abbrev cX4_copyFromStart : ByteArray := prog_6_method_18_code
def yX4_copyFromStart : MethodName := ⟨RX4, "copyFromStart", "(LPostRopes$Word;I)V"⟩
abbrev μX4_copyFromStart : Mu := (yX4_copyFromStart, cX4_copyFromStart, 4, none, 2, 42)
abbrev cX4_power : ByteArray := prog_6_method_19_code
def yX4_power : MethodName := ⟨RX4, "power", "()I"⟩
abbrev μX4_power : Mu := (yX4_power, cX4_power, 2, (some .int), 2, 43)
abbrev cX4_repeatsAfter : ByteArray := prog_6_method_20_code
def yX4_repeatsAfter : MethodName := ⟨RX4, "repeatsAfter", "(I)Z"⟩
abbrev μX4_repeatsAfter : Mu := (yX4_repeatsAfter, cX4_repeatsAfter, 3, (some .boolean), 1, 21)
abbrev cX4_posts : ByteArray := prog_6_method_21_code
def yX4_posts : MethodName := ⟨RX4, "posts", "()I"⟩
abbrev μX4_posts : Mu := (yX4_posts, cX4_posts, 3, (some .int), 1, 20)
abbrev cX4_firstPair : ByteArray := prog_6_method_22_code
def yX4_firstPair : MethodName := ⟨RX4, "firstPair", "()I"⟩
abbrev μX4_firstPair : Mu := (yX4_firstPair, cX4_firstPair, 2, (some .int), 1, 20)
abbrev cX4_windings : ByteArray := prog_6_method_23_code
def yX4_windings : MethodName := ⟨RX4, "windings", "(I)I"⟩
abbrev μX4_windings : Mu := (yX4_windings, cX4_windings, 4, (some .int), 1, 20)
abbrev cX5_init : ByteArray := prog_1_method_1_code
def yX5_init : MethodName := ⟨RX5, "<init>", "()V"⟩
abbrev μX5_init : Mu := (yX5_init, cX5_init, 2, none, 4, 84)
abbrev cX5_width : ByteArray := prog_1_method_2_code
def yX5_width : MethodName := ⟨RX5, "width", "(II)I"⟩
abbrev μX5_width : Mu := (yX5_width, cX5_width, 4, (some .int), 5, 108)
abbrev cX5_cross : ByteArray := prog_1_method_3_code
def yX5_cross : MethodName := ⟨RX5, "cross", "(II)I"⟩
abbrev μX5_cross : Mu := (yX5_cross, cX5_cross, 4, (some .int), 5, 108)
abbrev cX5_back : ByteArray := prog_1_method_4_code
def yX5_back : MethodName := ⟨RX5, "back", "(II)I"⟩
abbrev μX5_back : Mu := (yX5_back, cX5_back, 4, (some .int), 5, 108)
abbrev cX5_pull : ByteArray := prog_1_method_5_code
def yX5_pull : MethodName := ⟨RX5, "pull", "(I)I"⟩
abbrev μX5_pull : Mu := (yX5_pull, cX5_pull, 2, (some .int), 5, 108)
abbrev cX5_join : ByteArray := prog_1_method_6_code
def yX5_join : MethodName := ⟨RX5, "join", "(II)I"⟩
abbrev μX5_join : Mu := (yX5_join, cX5_join, 4, (some .int), 5, 108)
abbrev cX5_turn : ByteArray := prog_1_method_7_code
def yX5_turn : MethodName := ⟨RX5, "turn", "(I)I"⟩
abbrev μX5_turn : Mu := (yX5_turn, cX5_turn, 3, (some .int), 5, 108)
abbrev cX5_weave : ByteArray := prog_1_method_8_code
def yX5_weave : MethodName := ⟨RX5, "weave", "(II)I"⟩
abbrev μX5_weave : Mu := (yX5_weave, cX5_weave, 4, (some .int), 5, 108)
abbrev cX5_swap : ByteArray := prog_1_method_9_code
def yX5_swap : MethodName := ⟨RX5, "swap", "(II)I"⟩
abbrev μX5_swap : Mu := (yX5_swap, cX5_swap, 4, (some .int), 5, 108)
abbrev cX5_crossing : ByteArray := prog_1_method_14_code
def yX5_crossing : MethodName := ⟨RX5, "crossing", "(II)I"⟩
abbrev μX5_crossing : Mu := (yX5_crossing, cX5_crossing, 3, (some .int), 2, 43)
abbrev cX5_ofRope : ByteArray := prog_1_method_15_code
def yX5_ofRope : MethodName := ⟨RX5, "ofRope", "(II)I"⟩
abbrev μX5_ofRope : Mu := (yX5_ofRope, cX5_ofRope, 4, (some .int), 5, 108)
abbrev cX5_winds : ByteArray := prog_1_method_16_code
def yX5_winds : MethodName := ⟨RX5, "winds", "(II)I"⟩
abbrev μX5_winds : Mu := (yX5_winds, cX5_winds, 3, (some .int), 2, 43)
abbrev cX5_least : ByteArray := prog_1_method_17_code
def yX5_least : MethodName := ⟨RX5, "least", "(II)I"⟩
abbrev μX5_least : Mu := (yX5_least, cX5_least, 3, (some .int), 5, 111)
abbrev cX5_count : ByteArray := prog_1_method_18_code
def yX5_count : MethodName := ⟨RX5, "count", "(I)I"⟩
abbrev μX5_count : Mu := (yX5_count, cX5_count, 2, (some .int), 1, 22)
abbrev cX5_falls : ByteArray := prog_1_method_19_code
def yX5_falls : MethodName := ⟨RX5, "falls", "(II)I"⟩
abbrev μX5_falls : Mu := (yX5_falls, cX5_falls, 3, (some .int), 3, 66)
abbrev cX5_ifSwapped : ByteArray := prog_1_method_23_code
def yX5_ifSwapped : MethodName := ⟨RX5, "ifSwapped", "(II)I"⟩
abbrev μX5_ifSwapped : Mu := (yX5_ifSwapped, cX5_ifSwapped, 3, (some .int), 5, 118)
abbrev cX5_isPost : ByteArray := prog_1_method_28_code
def yX5_isPost : MethodName := ⟨RX5, "isPost", "(I)Z"⟩
abbrev μX5_isPost : Mu := (yX5_isPost, cX5_isPost, 1, (some .boolean), 0, 0)
abbrev cX5_isRope : ByteArray := prog_1_method_29_code
def yX5_isRope : MethodName := ⟨RX5, "isRope", "(I)Z"⟩
abbrev μX5_isRope : Mu := (yX5_isRope, cX5_isRope, 1, (some .boolean), 0, 0)
abbrev cX5_isSwap : ByteArray := prog_1_method_30_code
def yX5_isSwap : MethodName := ⟨RX5, "isSwap", "(I)Z"⟩
abbrev μX5_isSwap : Mu := (yX5_isSwap, cX5_isSwap, 1, (some .boolean), 0, 0)
abbrev cX5_isBack : ByteArray := prog_1_method_31_code
def yX5_isBack : MethodName := ⟨RX5, "isBack", "(I)Z"⟩
abbrev μX5_isBack : Mu := (yX5_isBack, cX5_isBack, 1, (some .boolean), 0, 0)
abbrev cX5_postOf : ByteArray := prog_1_method_33_code
def yX5_postOf : MethodName := ⟨RX5, "postOf", "(I)I"⟩
abbrev μX5_postOf : Mu := (yX5_postOf, cX5_postOf, 1, (some .int), 0, 0)
abbrev cX5_opposite : ByteArray := prog_1_method_34_code
def yX5_opposite : MethodName := ⟨RX5, "opposite", "(I)I"⟩
abbrev μX5_opposite : Mu := (yX5_opposite, cX5_opposite, 1, (some .int), 0, 0)
abbrev cX5_oneIf : ByteArray := prog_1_method_35_code
def yX5_oneIf : MethodName := ⟨RX5, "oneIf", "(Z)I"⟩
abbrev μX5_oneIf : Mu := (yX5_oneIf, cX5_oneIf, 1, (some .int), 0, 0)
abbrev cX5_crossingOrNoSuch : ByteArray := prog_1_method_36_code
def yX5_crossingOrNoSuch : MethodName := ⟨RX5, "crossingOrNoSuch", "(LPostRopes$Word;I)I"⟩
abbrev μX5_crossingOrNoSuch : Mu := (yX5_crossingOrNoSuch, cX5_crossingOrNoSuch, 3, (some .int), 1, 21)
abbrev cX5_layPulled : ByteArray := prog_1_method_37_code
def yX5_layPulled : MethodName := ⟨RX5, "layPulled", "(LPostRopes$Word;)V"⟩
abbrev μX5_layPulled : Mu := (yX5_layPulled, cX5_layPulled, 2, none, 3, 65)
abbrev cX5_layLoop : ByteArray := prog_1_method_38_code
def yX5_layLoop : MethodName := ⟨RX5, "layLoop", "(LPostRopes$Word;)V"⟩
abbrev μX5_layLoop : Mu := (yX5_layLoop, cX5_layLoop, 2, none, 4, 87)
abbrev cX5_layLeast : ByteArray := prog_1_method_39_code
def yX5_layLeast : MethodName := ⟨RX5, "layLeast", "(LPostRopes$Word;LPostRopes$Word;)V"⟩
abbrev μX5_layLeast : Mu := (yX5_layLeast, cX5_layLeast, 3, none, 4, 89)
abbrev cX5_laySwapped : ByteArray := prog_1_method_40_code
def yX5_laySwapped : MethodName := ⟨RX5, "laySwapped", "(LPostRopes$Word;II)V"⟩
abbrev μX5_laySwapped : Mu := (yX5_laySwapped, cX5_laySwapped, 5, none, 3, 70)
abbrev cX5_addSwapped : ByteArray := prog_1_method_41_code
def yX5_addSwapped : MethodName := ⟨RX5, "addSwapped", "(III)V"⟩
abbrev μX5_addSwapped : Mu := (yX5_addSwapped, cX5_addSwapped, 9, none, 2, 42)
abbrev cX5_crossingsIfSwapped : ByteArray := prog_1_method_42_code
def yX5_crossingsIfSwapped : MethodName := ⟨RX5, "crossingsIfSwapped", "(II)I"⟩
abbrev μX5_crossingsIfSwapped : Mu := (yX5_crossingsIfSwapped, cX5_crossingsIfSwapped, 5, (some .int), 4, 94)
abbrev cX5_fallsWithout : ByteArray := prog_1_method_43_code
def yX5_fallsWithout : MethodName := ⟨RX5, "fallsWithout", "(LPostRopes$Word;I)Z"⟩
abbrev μX5_fallsWithout : Mu := (yX5_fallsWithout, cX5_fallsWithout, 5, (some .boolean), 2, 42)
abbrev cJ9_max_7cf53 : ByteArray := prog_9_method_65_code
def yJ9_max_7cf53 : MethodName := ⟨RJ9, "max", "(II)I"⟩
abbrev μJ9_max_7cf53 : Mu := (yJ9_max_7cf53, cJ9_max_7cf53, 2, (some .int), 0, 0)
abbrev cJ9_min_7cf53 : ByteArray := prog_9_method_69_code
def yJ9_min_7cf53 : MethodName := ⟨RJ9, "min", "(II)I"⟩
abbrev μJ9_min_7cf53 : Mu := (yJ9_min_7cf53, cJ9_min_7cf53, 2, (some .int), 0, 0)
abbrev cL_cell : ByteArray := method_2_code
def yL_cell : MethodName := ⟨RL, "cell", "([III)I"⟩
abbrev μL_cell : Mu := (yL_cell, cL_cell, 3, (some .int), 0, 0)
abbrev cL_cancel : ByteArray := method_3_code
def yL_cancel : MethodName := ⟨RL, "cancel", "(II)Z"⟩
abbrev μL_cancel : Mu := (yL_cancel, cL_cancel, 2, (some .boolean), 0, 0)
abbrev cL_otherSide : ByteArray := method_4_code
def yL_otherSide : MethodName := ⟨RL, "otherSide", "(I)I"⟩
abbrev μL_otherSide : Mu := (yL_otherSide, cL_otherSide, 1, (some .int), 0, 0)
abbrev cL_add : ByteArray := method_5_code
def yL_add : MethodName := ⟨RL, "add", "([II)V"⟩
abbrev μL_add : Mu := (yL_add, cL_add, 2, none, 0, 0)
abbrev cL_read : ByteArray := method_6_code
def yL_read : MethodName := ⟨RL, "read", "(LPostRopes;I[I)V"⟩
abbrev μL_read : Mu := (yL_read, cL_read, 4, none, 6, 131)
abbrev cL_isWord : ByteArray := method_7_code
def yL_isWord : MethodName := ⟨RL, "isWord", "(LPostRopes;I[I)Z"⟩
abbrev μL_isWord : Mu := (yL_isWord, cL_isWord, 5, (some .boolean), 6, 131)
abbrev cL_pull : ByteArray := method_8_code
def yL_pull : MethodName := ⟨RL, "pull", "([I)V"⟩
abbrev μL_pull : Mu := (yL_pull, cL_pull, 3, none, 1, 21)
abbrev cL_turn : ByteArray := method_9_code
def yL_turn : MethodName := ⟨RL, "turn", "([I)V"⟩
abbrev μL_turn : Mu := (yL_turn, cL_turn, 4, none, 1, 20)
abbrev cL_copy : ByteArray := method_10_code
def yL_copy : MethodName := ⟨RL, "copy", "([I[I)V"⟩
abbrev μL_copy : Mu := (yL_copy, cL_copy, 3, none, 0, 0)
abbrev cL_isTold : ByteArray := method_11_code
def yL_isTold : MethodName := ⟨RL, "isTold", "(LPostRopes;I)Z"⟩
abbrev μL_isTold : Mu := (yL_isTold, cL_isTold, 8, (some .boolean), 7, 165)
abbrev cL_isLeast : ByteArray := method_12_code
def yL_isLeast : MethodName := ⟨RL, "isLeast", "(LPostRopes;I[III)Z"⟩
abbrev μL_isLeast : Mu := (yL_isLeast, cL_isLeast, 13, (some .boolean), 6, 133)
abbrev cL_agree : ByteArray := method_13_code
def yL_agree : MethodName := ⟨RL, "agree", "(LPostRopes;)Z"⟩
abbrev μL_agree : Mu := (yL_agree, cL_agree, 3, (some .boolean), 8, 192)
abbrev cL_isCrossed : ByteArray := method_14_code
def yL_isCrossed : MethodName := ⟨RL, "isCrossed", "(LPostRopes;II)Z"⟩
abbrev μL_isCrossed : Mu := (yL_isCrossed, cL_isCrossed, 4, (some .boolean), 7, 155)
abbrev cL_isBack : ByteArray := method_15_code
def yL_isBack : MethodName := ⟨RL, "isBack", "(LPostRopes;II)Z"⟩
abbrev μL_isBack : Mu := (yL_isBack, cL_isBack, 5, (some .boolean), 7, 155)
abbrev cL_isPulled : ByteArray := method_16_code
def yL_isPulled : MethodName := ⟨RL, "isPulled", "(LPostRopes;I)Z"⟩
abbrev μL_isPulled : Mu := (yL_isPulled, cL_isPulled, 4, (some .boolean), 7, 155)
abbrev cL_isJoined : ByteArray := method_17_code
def yL_isJoined : MethodName := ⟨RL, "isJoined", "(LPostRopes;II)Z"⟩
abbrev μL_isJoined : Mu := (yL_isJoined, cL_isJoined, 6, (some .boolean), 7, 155)
abbrev cL_isTurned : ByteArray := method_18_code
def yL_isTurned : MethodName := ⟨RL, "isTurned", "(LPostRopes;I)Z"⟩
abbrev μL_isTurned : Mu := (yL_isTurned, cL_isTurned, 3, (some .boolean), 7, 155)
abbrev cL_isWoven : ByteArray := method_19_code
def yL_isWoven : MethodName := ⟨RL, "isWoven", "(LPostRopes;II)Z"⟩
abbrev μL_isWoven : Mu := (yL_isWoven, cL_isWoven, 7, (some .boolean), 7, 155)
abbrev cL_change : ByteArray := method_20_code
def yL_change : MethodName := ⟨RL, "change", "([III[I)V"⟩
abbrev μL_change : Mu := (yL_change, cL_change, 8, none, 2, 43)
abbrev cL_isSwapped : ByteArray := method_21_code
def yL_isSwapped : MethodName := ⟨RL, "isSwapped", "(LPostRopes;II)Z"⟩
abbrev μL_isSwapped : Mu := (yL_isSwapped, cL_isSwapped, 8, (some .boolean), 7, 155)
abbrev cL_isAct : ByteArray := method_22_code
def yL_isAct : MethodName := ⟨RL, "isAct", "(LPostRopes;[II)Z"⟩
abbrev μL_isAct : Mu := (yL_isAct, cL_isAct, 9, (some .boolean), 8, 182)
abbrev cL_law : ByteArray := code
def yL_law : MethodName := ⟨RL, "law", "([I)Z"⟩
end
section
/-! ONE WORLD AT FIXED PLACES: every object of the run stands at g.1 + i; what it is, says a layout; its numbers are a function of place and index -/
abbrev Mem : Type := Nat → Int → Int
abbrev FS : Type := Option (Option Nat)
abbrev LK : Type := (Nat × List FS) ⊕ (Nat × (Nat ⊕ List (Option Nat)))
abbrev Lay : Type := Nat → LK
abbrev GE : Type := Nat × va_G × (Nat → ClassId) × Nat
abbrev kO (ci : Nat) (fs : List FS) : LK := .inl (ci, fs)
abbrev kA (t n : Nat) : LK := .inr (t, .inl n)
abbrev kR (t : Nat) (qs : List (Option Nat)) : LK := .inr (t, .inr qs)
/-- numbers: an Int32 is the image of an Int -/
def zI (z : Int) : Int32 := Int32.ofInt z
theorem zI_add (a b : Int) : zI a + zI b = zI (a + b) := (Int32.ofInt_add a b).symm
theorem zI_sub (a b : Int) : zI a - zI b = zI (a - b) := (Int32.ofInt_sub a b).symm
theorem zI_mul (a b : Int) : zI a * zI b = zI (a * b) := (Int32.ofInt_mul a b).symm
theorem zI_neg (a : Int) : - zI a = zI (-a) := (Int32.ofInt_neg a).symm
theorem zI_int {z : Int} (h : -2147483648 ≤ z ∧ z < 2147483648) : (zI z).toInt = z := Int32.toInt_ofInt_of_le (by omega) (by omega)
theorem zI_of (x : Int32) : zI x.toInt = x := Int32.ofInt_toInt x
theorem i32_rg (x : Int32) : -2147483648 ≤ x.toInt ∧ x.toInt < 2147483648 := ⟨by have := Int32.le_toInt x; omega, by have := Int32.toInt_lt x; omega⟩
theorem zI_lt {a b : Int} (h : (-2147483648 ≤ a ∧ a < 2147483648) ∧ (-2147483648 ≤ b ∧ b < 2147483648)) : zI a < zI b ↔ a < b := by
  rw [Int32.lt_iff_toInt_lt, zI_int h.1, zI_int h.2]
theorem zI_le {a b : Int} (h : (-2147483648 ≤ a ∧ a < 2147483648) ∧ (-2147483648 ≤ b ∧ b < 2147483648)) : zI a ≤ zI b ↔ a ≤ b := by
  rw [Int32.le_iff_toInt_le, zI_int h.1, zI_int h.2]
theorem zI_eq {a b : Int} (h : (-2147483648 ≤ a ∧ a < 2147483648) ∧ (-2147483648 ≤ b ∧ b < 2147483648)) : zI a = zI b ↔ a = b := by
  rw [← Int32.toInt_inj, zI_int h.1, zI_int h.2]
theorem zI_0 : zI 0 = 0 := by decide +kernel
theorem zI_1 : zI 1 = 1 := by decide +kernel
theorem zI_clamp {z : Int} {N : Nat} (h0 : 0 ≤ z) (h : z < N) (hN : N ≤ 2147483647) : (((zI z).toNatClampNeg : Nat) : Int) = z := by
  have : (zI z).toNatClampNeg = (zI z).toInt.toNat := rfl
  rw [this, zI_int (by omega)]
  omega
theorem zI_in {z : Int} {N : Nat} (h0 : 0 ≤ z) (h : z < N) (hN : N ≤ 2147483647) : ¬ (zI z < 0 ∨ N ≤ (zI z).toNatClampNeg) := by
  intro q
  rcases q with q | q
  · rw [← zI_0, zI_lt (by omega)] at q
    omega
  · have := zI_clamp h0 h hN
    omega
theorem zI_irem {a b : Int} (ha : 0 ≤ a) (hb : 0 < b) (ha2 : a < 2147483648) (hb2 : b < 2147483648) : zI a - zI a / zI b * zI b = zI (a % b) := by
  have h1 : (zI a / zI b) = zI (a / b) := by
    apply Int32.toInt.inj
    rw [Int32.toInt_div_of_ne_right _ _ (fun q => by have := congrArg Int32.toInt q; rw [zI_int (by omega)] at this; have e : (-1 : Int32).toInt = -1 := by decide +kernel
                                                     omega), zI_int (by omega), zI_int (by omega), Int.tdiv_eq_ediv_of_nonneg ha, zI_int]
    have h1 := Int.ediv_nonneg ha (Int.le_of_lt hb)
    have h2 := Int.ediv_le_self b ha
    omega
  rw [h1, zI_mul, zI_sub, Int.emod_def, Int.mul_comm]
theorem zI_idiv {a b : Int} (ha : 0 ≤ a) (hb : 0 < b) (ha2 : a < 2147483648) (hb2 : b < 2147483648) : zI a / zI b = zI (a / b) := by
  apply Int32.toInt.inj
  rw [Int32.toInt_div_of_ne_right _ _ (fun q => by have := congrArg Int32.toInt q; rw [zI_int (by omega)] at this; have e : (-1 : Int32).toInt = -1 := by decide +kernel
                                                   omega), zI_int (by omega), zI_int (by omega), Int.tdiv_eq_ediv_of_nonneg ha, zI_int]
  have h1 := Int.ediv_nonneg ha (Int.le_of_lt hb)
  have h2 := Int.ediv_le_self b ha
  omega
abbrev vI (z : Int) : Value := .int (zI z)
abbrev vR (g : GE) (i : Nat) : Value := .ref (g.1 + i)
def fv (g : GE) (m : Int → Int) (k : Nat) : FS → Value
  | none => vI (m (k : Int))
  | some none => .null
  | some (some q) => vR g q
def cellAt (g : GE) (a : Nat) (m : Int → Int) (H : Heap) : LK → Prop
  | .inl (ci, fs) => ∃ r : vw_C, classes[ci]? = some r ∧ t_OB a (g.2.1.1 ci) r.2.2 (g.2.1.2 ci) H (fun k => fv g m k (fs.getD k none))
  | .inr (t, .inl n) => H[a]? = some (arrV (g.2.2.1 t) n (fun j => vI (m (j : Int))))
  | .inr (t, .inr qs) => H[a]? = some (arrV (g.2.2.1 t) qs.length (fun j => va_rf ((qs.getD j none).map (fun q => g.1 + q))))
theorem cellAt.kept {g : GE} {a : Nat} {m : Int → Int} {H H1 : Heap} {k : LK} (h : cellAt g a m H k) (hq : H1[a]? = H[a]?) : cellAt g a m H1 k := by
  match k, h with
  | .inl (ci, fs), ⟨r, h1, h2⟩ => exact ⟨r, h1, h2.kept hq⟩
  | .inr (t, .inl n), h => exact hq.trans h
  | .inr (t, .inr qs), h => exact hq.trans h
/-- n cells from g.1 on, and none behind them -/
def Rep (g : GE) (n : Nat) (L : Lay) (M : Mem) (H : Heap) : Prop := H.size = g.1 + n ∧ ∀ i, i < n → cellAt g (g.1 + i) (M i) H (L i)
def tyT : Nat → FieldType
  | 0 => .int
  | 1 => .boolean
  | 2 => .object RX3
  | _ => .object RX4
abbrev tysT (g : GE) : List (ClassId × FieldType) := [(g.2.2.1 0, tyT 0), (g.2.2.1 1, tyT 1), (g.2.2.1 2, tyT 2), (g.2.2.1 3, tyT 3)]
def nestQ : List (String × Nat × MethodName × String) := [(RX4, 25, yX5_opposite, RX5), (RX3, 36, yX5_postOf, RX5), (RX3, 39, yX5_isPost, RX5), (RX4, 61, yX5_postOf, RX5)]
/-- what is known of classes and links -/
def Kn (g : GE) (U : State) : Prop := va_K g.2.1 classes (tysT g) U ∧ (∀ q ∈ nestQ, va_Nw (.methodLinkNest q.1 q.2.1 q.2.2.1 q.2.2.2) U) ∧ va_AO RX3 U ∧ va_AO RX4 U
theorem Kn.eq {g : GE} {u U : State} (h : u.vm = U.vm) (k : Kn g u) : Kn g U := by
  have ha : u.vm.Alike U.vm := by rw [h]; exact Vm.Alike.refl _
  exact ⟨va_K.moved ha k.1, fun q hq => va_Nw.same rfl h (k.2.1 q hq), va_AO.moved ha k.2.2.1, va_AO.moved ha k.2.2.2⟩
theorem Kn.warm {g : GE} {s U : State} (hW : s.WarmedH U.vm) (k : Kn g s) : Kn g U :=
  ⟨va_K.moved hW.alike k.1, fun q hq => va_Nw.warmM hW (k.2.1 q hq), va_AO.moved hW.alike k.2.2.1, va_AO.moved hW.alike k.2.2.2⟩
abbrev Fx : Type := Program × Launch × Env × Room × State × MethodId × Array Value × List Frame × Method × Code × (State → Prop)
abbrev xP (x : Fx) : Program := x.1
abbrev xL (x : Fx) : Launch := x.2.1
abbrev xE (x : Fx) : Env := x.2.2.1
abbrev xR (x : Fx) : Room := x.2.2.2.1
abbrev xS (x : Fx) : State := x.2.2.2.2.1
abbrev xM (x : Fx) : MethodId := x.2.2.2.2.2.1
abbrev xA (x : Fx) : Array Value := x.2.2.2.2.2.2.1
abbrev xB (x : Fx) : List Frame := x.2.2.2.2.2.2.2.1
abbrev xT (x : Fx) : Method := x.2.2.2.2.2.2.2.2.1
abbrev xC (x : Fx) : Code := x.2.2.2.2.2.2.2.2.2.1
abbrev xQ (x : Fx) : State → Prop := x.2.2.2.2.2.2.2.2.2.2
/-- the walk's goal: at pc, with these locals and this stack, over this world -/
def K (x : Fx) (g : GE) (cs sl : Nat) (L : Lay) (n : Nat) (M : Mem) (pc : Nat) (ls : List (Nat × Value)) (st : List Value) : Prop :=
  ∀ (H : Heap) (locs : List Loc) (la : Array Slot), Rep g n L M H → va_S (fun q => g.1 ≤ q) (xS x).heap H locs → lv_has la (xC x).maxLocals ls →
    W (xP x) (xL x) (xE x) (xR x) (xS x) (xM x) (xA x) (xB x) (xT x) (xC x) H locs cs sl (xQ x) (F0 (xM x) pc la st)
/-- what the method stands on -/
def Cx (x : Fx) (g : GE) (cc : ByteArray) (own : String) (nL : Nat) (R : Room) : Prop :=
  (xP x).tables.exec = Jvm.exec ∧ (xC x).code = cc ∧ (xC x).maxLocals = nL ∧ (xS x).vm.findClass own = some (xM x).cls ∧ (∀ w ∈ TB, w.before (xA x) (xS x) = true) ∧ Kn g (xS x) ∧ xR x = R
def At (cc : ByteArray) (pc : Nat) (i : Instr) (len pc' : Nat) : Prop := decode cc pc = .ok (i, len) ∧ pc + len = pc'
def Br (cc : ByteArray) (pc : Nat) (f : Int → Instr) (pc' tgt : Nat) : Prop := ∃ off : Int, decode cc pc = .ok (f off, 3) ∧ pc + 3 = pc' ∧ (pc : Int) + off = (tgt : Int)
def insL (i : Nat) (v : Value) : List (Nat × Value) → List (Nat × Value)
  | [] => [(i, v)]
  | q :: t => bif Nat.blt i q.1 then (i, v) :: q :: t else q :: insL i v t
def setL (ls : List (Nat × Value)) (i : Nat) (v : Value) : List (Nat × Value) := insL i v (ls.filter (fun q => !(q.1 == i)))
def okL (ls : List (Nat × Value)) (i : Nat) : Bool := ls.all (fun q => !(q.1 + 1 == i && q.2.category == 2))
theorem insL_mem {i : Nat} {v : Value} {q : Nat × Value} : ∀ {ls : List (Nat × Value)}, q ∈ insL i v ls → q = (i, v) ∨ q ∈ ls
  | [], h => by simpa [insL] using h
  | a :: t, h => by
    unfold insL at h
    cases hb : Nat.blt i a.1
    · rw [hb] at h
      rcases List.mem_cons.mp h with h | h
      · exact Or.inr (by rw [h]; exact List.mem_cons_self)
      · rcases insL_mem h with h | h
        · exact Or.inl h
        · exact Or.inr (List.mem_cons_of_mem _ h)
    · rw [hb] at h
      rcases List.mem_cons.mp h with h | h
      · exact Or.inl h
      · exact Or.inr h
theorem setL_has {la : Array Slot} {nL i : Nat} {v : Value} {ls : List (Nat × Value)} (hok : okL ls i = true) (h : lv_has la nL ((i, v) :: ls.filter (fun q => !(q.1 == i) && !(q.1 + 1 == i && q.2.category == 2)))) : lv_has la nL (setL ls i v) := by
  refine ⟨h.1, h.2.1, fun q hq => ?_⟩
  rcases insL_mem hq with h1 | h1
  · rw [h1]; exact h.2.2 _ List.mem_cons_self
  · obtain ⟨h2, h3⟩ := List.mem_filter.mp h1
    refine h.2.2 q (List.mem_cons_of_mem _ (List.mem_filter.mpr ⟨h2, ?_⟩))
    have h4 := List.all_eq_true.mp hok q h2
    rw [h3, h4]
    rfl
/-- a long takes two places -/
def okL2 (ls : List (Nat × Value)) (i : Nat) : Bool := ls.all (fun q => !(q.1 == i + 1) && !(q.1 + 1 == i && q.2.category == 2))
theorem setL_has2 {la : Array Slot} {nL i : Nat} {v : Value} {ls : List (Nat × Value)} (hok : okL2 ls i = true) (h : lv_has la nL ((i, v) :: ls.filter (fun q => !(q.1 == i) && (!(q.1 == i + 1) && !(q.1 + 1 == i && q.2.category == 2))))) : lv_has la nL (setL ls i v) := by
  refine ⟨h.1, h.2.1, fun q hq => ?_⟩
  rcases insL_mem hq with h1 | h1
  · rw [h1]; exact h.2.2 _ List.mem_cons_self
  · obtain ⟨h2, h3⟩ := List.mem_filter.mp h1
    refine h.2.2 q (List.mem_cons_of_mem _ (List.mem_filter.mpr ⟨h2, ?_⟩))
    have h4 := List.all_eq_true.mp hok q h2
    rw [h3, h4]
    rfl
def up (M : Mem) (i : Nat) (k z : Int) : Mem := fun a b => if a = i ∧ b = k then z else M a b
theorem up_s {M : Mem} {i : Nat} {k z : Int} : up M i k z i k = z := if_pos ⟨rfl, rfl⟩
theorem up_k {M : Mem} {i : Nat} {k z : Int} {j : Int} (h : j ≠ k) : up M i k z i j = M i j := if_neg fun q => h q.2
theorem up_i {M : Mem} {i : Nat} {k z : Int} {a : Nat} (h : a ≠ i) : up M i k z a = M a := funext fun b => if_neg fun q => h q.1
section ROWS
variable {x : Fx} {g : GE} {cc : ByteArray} {own : String} {nL : Nat} {R : Room} {cs sl : Nat} {L : Lay} {n : Nat} {M : Mem} {pc pc' tgt : Nat} {ls : List (Nat × Value)} {st : List Value}
theorem K.sub {ls' : List (Nat × Value)} (ks : List Nat) (hl : lv_pick ls ks = ls') (k : K x g cs sl L n M pc ls' st) : K x g cs sl L n M pc ls st := fun H locs la hR hS h => k H locs la hR hS (lv_sub h ks hl)
theorem k_iconst (hx : Cx x g cc own nL R) {z : Int} (hd : At cc pc (.iconst z) 1 pc') (k : K x g cs sl L n M pc' ls (vI z :: st)) : K x g cs sl L n M pc ls st := by
  intro H locs la hR hS hl
  obtain ⟨h1, h2⟩ := hd; subst h2
  exact lv_iconst hx.1 hx.2.1 h1 rfl (k H locs la hR hS hl)
theorem k_bipush (hx : Cx x g cc own nL R) {z : Int} (hd : At cc pc (.bipush z) 2 pc') (hz : (Int8.ofInt z).toInt32 = zI z) (k : K x g cs sl L n M pc' ls (vI z :: st)) : K x g cs sl L n M pc ls st := by
  intro H locs la hR hS hl
  obtain ⟨h1, h2⟩ := hd; subst h2
  exact lv_bipush hx.1 hx.2.1 h1 hz (k H locs la hR hS hl)
theorem k_sipush (hx : Cx x g cc own nL R) {z : Int} (hd : At cc pc (.sipush z) 3 pc') (hz : (Int16.ofInt z).toInt32 = zI z) (k : K x g cs sl L n M pc' ls (vI z :: st)) : K x g cs sl L n M pc ls st := by
  intro H locs la hR hS hl
  obtain ⟨h1, h2⟩ := hd; subst h2
  exact lv_sipush hx.1 hx.2.1 h1 hz (k H locs la hR hS hl)
theorem k_lconst (hx : Cx x g cc own nL R) {z : Fin 2} {v : Int64} (hd : At cc pc (.lconst z) 1 pc') (hv : Int64.ofNat (z : Nat) = v) (k : K x g cs sl L n M pc' ls (.long v :: st)) : K x g cs sl L n M pc ls st := by
  intro H locs la hR hS hl
  obtain ⟨h1, h2⟩ := hd; subst h2
  exact lv_lconst hx.1 hx.2.1 h1 hv (k H locs la hR hS hl)
theorem k_iload_n (hx : Cx x g cc own nL R) {k : Fin 4} {v : Int32} (hd : At cc pc (.iload_n k) 1 pc') (j : Nat) (hj : ls[j]? = some ((k : Nat), .int v)) (kk : K x g cs sl L n M pc' ls (.int v :: st)) : K x g cs sl L n M pc ls st := by
  intro H locs la hR hS hl
  obtain ⟨h1, h2⟩ := hd; subst h2
  exact lv_iload_n hx.1 hx.2.1 h1 rfl (lv_at hl j hj) (kk H locs la hR hS hl)
theorem k_iload (hx : Cx x g cc own nL R) {k : Nat} {v : Int32} (hd : At cc pc (.iload k) 2 pc') (j : Nat) (hj : ls[j]? = some (k, .int v)) (kk : K x g cs sl L n M pc' ls (.int v :: st)) : K x g cs sl L n M pc ls st := by
  intro H locs la hR hS hl
  obtain ⟨h1, h2⟩ := hd; subst h2
  exact lv_iload hx.1 hx.2.1 h1 (lv_at hl j hj) (kk H locs la hR hS hl)
theorem k_lload_n (hx : Cx x g cc own nL R) {k : Fin 4} {v : Int64} (hd : At cc pc (.lload_n k) 1 pc') (j : Nat) (hj : ls[j]? = some ((k : Nat), .long v)) (kk : K x g cs sl L n M pc' ls (.long v :: st)) : K x g cs sl L n M pc ls st := by
  intro H locs la hR hS hl
  obtain ⟨h1, h2⟩ := hd; subst h2
  exact lv_lload_n hx.1 hx.2.1 h1 rfl (lv_at hl j hj) (kk H locs la hR hS hl)
theorem k_lload (hx : Cx x g cc own nL R) {k : Nat} {v : Int64} (hd : At cc pc (.lload k) 2 pc') (j : Nat) (hj : ls[j]? = some (k, .long v)) (kk : K x g cs sl L n M pc' ls (.long v :: st)) : K x g cs sl L n M pc ls st := by
  intro H locs la hR hS hl
  obtain ⟨h1, h2⟩ := hd; subst h2
  exact lv_lload hx.1 hx.2.1 h1 (lv_at hl j hj) (kk H locs la hR hS hl)
theorem k_aload_n (hx : Cx x g cc own nL R) {k : Fin 4} {v : Nat} (hd : At cc pc (.aload_n k) 1 pc') (j : Nat) (hj : ls[j]? = some ((k : Nat), .ref v)) (kk : K x g cs sl L n M pc' ls (.ref v :: st)) : K x g cs sl L n M pc ls st := by
  intro H locs la hR hS hl
  obtain ⟨h1, h2⟩ := hd; subst h2
  exact lv_aload_n hx.1 hx.2.1 h1 rfl (lv_at hl j hj) (kk H locs la hR hS hl)
theorem k_aload (hx : Cx x g cc own nL R) {k : Nat} {v : Nat} (hd : At cc pc (.aload k) 2 pc') (j : Nat) (hj : ls[j]? = some (k, .ref v)) (kk : K x g cs sl L n M pc' ls (.ref v :: st)) : K x g cs sl L n M pc ls st := by
  intro H locs la hR hS hl
  obtain ⟨h1, h2⟩ := hd; subst h2
  exact lv_aload hx.1 hx.2.1 h1 (lv_at hl j hj) (kk H locs la hR hS hl)
theorem k_istore_n (hx : Cx x g cc own nL R) {k : Fin 4} {v : Int32} (hd : At cc pc (.istore_n k) 1 pc') {ls' : List (Nat × Value)} (hs : setL ls (k : Nat) (.int v) = ls') (hok : okL ls (k : Nat) = true) (hk : (k : Nat) < nL) (kk : K x g cs sl L n M pc' ls' st) : K x g cs sl L n M pc ls (.int v :: st) := by
  intro H locs la hR hS hl
  obtain ⟨h1, h2⟩ := hd; subst h2; subst hs
  exact lv_istore_n hx.1 hx.2.1 h1 rfl hl (by rw [hx.2.2.1]; exact hk) rfl (fun la' hl' => kk H locs la' hR hS (setL_has hok hl'))
theorem k_istore (hx : Cx x g cc own nL R) {k : Nat} {v : Int32} (hd : At cc pc (.istore k) 2 pc') {ls' : List (Nat × Value)} (hs : setL ls k (.int v) = ls') (hok : okL ls k = true) (hk : k < nL) (kk : K x g cs sl L n M pc' ls' st) : K x g cs sl L n M pc ls (.int v :: st) := by
  intro H locs la hR hS hl
  obtain ⟨h1, h2⟩ := hd; subst h2; subst hs
  exact lv_istore hx.1 hx.2.1 h1 hl (by rw [hx.2.2.1]; exact hk) rfl (fun la' hl' => kk H locs la' hR hS (setL_has hok hl'))
theorem k_astore_n (hx : Cx x g cc own nL R) {k : Fin 4} {v : Nat} (hd : At cc pc (.astore_n k) 1 pc') {ls' : List (Nat × Value)} (hs : setL ls (k : Nat) (.ref v) = ls') (hok : okL ls (k : Nat) = true) (hk : (k : Nat) < nL) (kk : K x g cs sl L n M pc' ls' st) : K x g cs sl L n M pc ls (.ref v :: st) := by
  intro H locs la hR hS hl
  obtain ⟨h1, h2⟩ := hd; subst h2; subst hs
  exact lv_astore_n hx.1 hx.2.1 h1 rfl hl (by rw [hx.2.2.1]; exact hk) rfl (fun la' hl' => kk H locs la' hR hS (setL_has hok hl'))
theorem k_astore (hx : Cx x g cc own nL R) {k : Nat} {v : Nat} (hd : At cc pc (.astore k) 2 pc') {ls' : List (Nat × Value)} (hs : setL ls k (.ref v) = ls') (hok : okL ls k = true) (hk : k < nL) (kk : K x g cs sl L n M pc' ls' st) : K x g cs sl L n M pc ls (.ref v :: st) := by
  intro H locs la hR hS hl
  obtain ⟨h1, h2⟩ := hd; subst h2; subst hs
  exact lv_astore hx.1 hx.2.1 h1 hl (by rw [hx.2.2.1]; exact hk) rfl (fun la' hl' => kk H locs la' hR hS (setL_has hok hl'))
theorem k_lstore_n (hx : Cx x g cc own nL R) {k : Fin 4} {v : Int64} (hd : At cc pc (.lstore_n k) 1 pc') {ls' : List (Nat × Value)} (hs : setL ls (k : Nat) (.long v) = ls') (hok : okL2 ls (k : Nat) = true) (hk : (k : Nat) + 1 < nL) (kk : K x g cs sl L n M pc' ls' st) : K x g cs sl L n M pc ls (.long v :: st) := by
  intro H locs la hR hS hl
  obtain ⟨h1, h2⟩ := hd; subst h2; subst hs
  exact lv_lstore_n hx.1 hx.2.1 h1 rfl hl (by rw [hx.2.2.1]; exact hk) rfl (fun la' hl' => kk H locs la' hR hS (setL_has2 hok hl'))
theorem k_lstore (hx : Cx x g cc own nL R) {k : Nat} {v : Int64} (hd : At cc pc (.lstore k) 2 pc') {ls' : List (Nat × Value)} (hs : setL ls k (.long v) = ls') (hok : okL2 ls k = true) (hk : k + 1 < nL) (kk : K x g cs sl L n M pc' ls' st) : K x g cs sl L n M pc ls (.long v :: st) := by
  intro H locs la hR hS hl
  obtain ⟨h1, h2⟩ := hd; subst h2; subst hs
  exact lv_lstore hx.1 hx.2.1 h1 hl (by rw [hx.2.2.1]; exact hk) rfl (fun la' hl' => kk H locs la' hR hS (setL_has2 hok hl'))
theorem k_iinc (hx : Cx x g cc own nL R) {k : Nat} {c a : Int} (hd : At cc pc (.iinc k c) 3 pc') (j : Nat) (hj : ls[j]? = some (k, vI a)) {ls' : List (Nat × Value)} (hs : setL ls k (vI (a + c)) = ls') (hok : okL ls k = true) (hk : k < nL) (kk : K x g cs sl L n M pc' ls' st) : K x g cs sl L n M pc ls st := by
  intro H locs la hR hS hl
  obtain ⟨h1, h2⟩ := hd; subst h2; subst hs
  exact lv_iinc hx.1 hx.2.1 h1 hl hj (zI_add a c) (by rw [hx.2.2.1]; exact hk) rfl (fun la' hl' => kk H locs la' hR hS (setL_has hok hl'))
theorem k_iadd (hx : Cx x g cc own nL R) {a b : Int} (hd : At cc pc .iadd 1 pc') (k : K x g cs sl L n M pc' ls (vI (a + b) :: st)) : K x g cs sl L n M pc ls (vI b :: vI a :: st) := by
  intro H locs la hR hS hl
  obtain ⟨h1, h2⟩ := hd; subst h2
  refine lv_iadd hx.1 hx.2.1 h1 ?_
  rw [zI_add]
  exact k H locs la hR hS hl
theorem k_isub (hx : Cx x g cc own nL R) {a b : Int} (hd : At cc pc .isub 1 pc') (k : K x g cs sl L n M pc' ls (vI (a - b) :: st)) : K x g cs sl L n M pc ls (vI b :: vI a :: st) := by
  intro H locs la hR hS hl
  obtain ⟨h1, h2⟩ := hd; subst h2
  refine lv_isub hx.1 hx.2.1 h1 ?_
  rw [zI_sub]
  exact k H locs la hR hS hl
theorem k_imul (hx : Cx x g cc own nL R) {a b : Int} (hd : At cc pc .imul 1 pc') (k : K x g cs sl L n M pc' ls (vI (a * b) :: st)) : K x g cs sl L n M pc ls (vI b :: vI a :: st) := by
  intro H locs la hR hS hl
  obtain ⟨h1, h2⟩ := hd; subst h2
  refine lv_imul hx.1 hx.2.1 h1 ?_
  rw [zI_mul]
  exact k H locs la hR hS hl
theorem k_irem (hx : Cx x g cc own nL R) {a b : Int} (hd : At cc pc .irem 1 pc') (h : (0 ≤ a ∧ a < 2147483648) ∧ (0 < b ∧ b < 2147483648)) (k : K x g cs sl L n M pc' ls (vI (a % b) :: st)) : K x g cs sl L n M pc ls (vI b :: vI a :: st) := by
  intro H locs la hR hS hl
  obtain ⟨h1, h2⟩ := hd; subst h2
  refine lv_irem hx.1 hx.2.1 h1 (fun q => ?_) ?_
  · rw [← zI_0, zI_eq (by omega)] at q
    omega
  · rw [zI_irem h.1.1 h.2.1 h.1.2 h.2.2]
    exact k H locs la hR hS hl
theorem k_idiv (hx : Cx x g cc own nL R) {a b : Int} (hd : At cc pc .idiv 1 pc') (h : (0 ≤ a ∧ a < 2147483648) ∧ (0 < b ∧ b < 2147483648)) (k : K x g cs sl L n M pc' ls (vI (a / b) :: st)) : K x g cs sl L n M pc ls (vI b :: vI a :: st) := by
  intro H locs la hR hS hl
  obtain ⟨h1, h2⟩ := hd; subst h2
  refine lv_idiv hx.1 hx.2.1 h1 (fun q => ?_) ?_
  · rw [← zI_0, zI_eq (by omega)] at q
    omega
  · rw [zI_idiv h.1.1 h.2.1 h.1.2 h.2.2]
    exact k H locs la hR hS hl
theorem k_iand (hx : Cx x g cc own nL R) {a b : Int32} {v : Int32} (hd : At cc pc .iand 1 pc') (hv : a &&& b = v) (k : K x g cs sl L n M pc' ls (.int v :: st)) : K x g cs sl L n M pc ls (.int b :: .int a :: st) := by
  intro H locs la hR hS hl
  obtain ⟨h1, h2⟩ := hd; subst h2; subst hv
  exact lv_iand hx.1 hx.2.1 h1 (k H locs la hR hS hl)
theorem k_ior (hx : Cx x g cc own nL R) {a b : Int32} {v : Int32} (hd : At cc pc .ior 1 pc') (hv : a ||| b = v) (k : K x g cs sl L n M pc' ls (.int v :: st)) : K x g cs sl L n M pc ls (.int b :: .int a :: st) := by
  intro H locs la hR hS hl
  obtain ⟨h1, h2⟩ := hd; subst h2; subst hv
  exact lv_ior hx.1 hx.2.1 h1 (k H locs la hR hS hl)
theorem k_ixor (hx : Cx x g cc own nL R) {a b : Int32} {v : Int32} (hd : At cc pc .ixor 1 pc') (hv : a ^^^ b = v) (k : K x g cs sl L n M pc' ls (.int v :: st)) : K x g cs sl L n M pc ls (.int b :: .int a :: st) := by
  intro H locs la hR hS hl
  obtain ⟨h1, h2⟩ := hd; subst h2; subst hv
  exact lv_ixor hx.1 hx.2.1 h1 (k H locs la hR hS hl)
theorem k_ishl (hx : Cx x g cc own nL R) {a b : Int32} {v : Int32} (hd : At cc pc .ishl 1 pc') (hv : a <<< (b &&& 31) = v) (k : K x g cs sl L n M pc' ls (.int v :: st)) : K x g cs sl L n M pc ls (.int b :: .int a :: st) := by
  intro H locs la hR hS hl
  obtain ⟨h1, h2⟩ := hd; subst h2; subst hv
  exact lv_ishl hx.1 hx.2.1 h1 (k H locs la hR hS hl)
theorem k_ishr (hx : Cx x g cc own nL R) {a b : Int32} {v : Int32} (hd : At cc pc .ishr 1 pc') (hv : a >>> (b &&& 31) = v) (k : K x g cs sl L n M pc' ls (.int v :: st)) : K x g cs sl L n M pc ls (.int b :: .int a :: st) := by
  intro H locs la hR hS hl
  obtain ⟨h1, h2⟩ := hd; subst h2; subst hv
  exact lv_ishr hx.1 hx.2.1 h1 (k H locs la hR hS hl)
theorem k_iushr (hx : Cx x g cc own nL R) {a b : Int32} {v : Int32} (hd : At cc pc .iushr 1 pc') (hv : (a.toUInt32 >>> (b.toUInt32 &&& Int32.toUInt32 31)).toInt32 = v) (k : K x g cs sl L n M pc' ls (.int v :: st)) : K x g cs sl L n M pc ls (.int b :: .int a :: st) := by
  intro H locs la hR hS hl
  obtain ⟨h1, h2⟩ := hd; subst h2
  exact lv_iushr hx.1 hx.2.1 h1 hv (k H locs la hR hS hl)
theorem k_land (hx : Cx x g cc own nL R) {a b : Int64} (hd : At cc pc .land 1 pc') (k : K x g cs sl L n M pc' ls (.long (a &&& b) :: st)) : K x g cs sl L n M pc ls (.long b :: .long a :: st) := by
  intro H locs la hR hS hl
  obtain ⟨h1, h2⟩ := hd; subst h2
  exact lv_land hx.1 hx.2.1 h1 (k H locs la hR hS hl)
theorem k_lor (hx : Cx x g cc own nL R) {a b : Int64} (hd : At cc pc .lor 1 pc') (k : K x g cs sl L n M pc' ls (.long (a ||| b) :: st)) : K x g cs sl L n M pc ls (.long b :: .long a :: st) := by
  intro H locs la hR hS hl
  obtain ⟨h1, h2⟩ := hd; subst h2
  exact lv_lor hx.1 hx.2.1 h1 (k H locs la hR hS hl)
theorem k_lshl (hx : Cx x g cc own nL R) {a : Int64} {b : Int32} (hd : At cc pc .lshl 1 pc') (k : K x g cs sl L n M pc' ls (.long (a <<< (b.toInt64 &&& 63)) :: st)) : K x g cs sl L n M pc ls (.int b :: .long a :: st) := by
  intro H locs la hR hS hl
  obtain ⟨h1, h2⟩ := hd; subst h2
  exact lv_lshl hx.1 hx.2.1 h1 rfl (k H locs la hR hS hl)
theorem k_lshr (hx : Cx x g cc own nL R) {a : Int64} {b : Int32} (hd : At cc pc .lshr 1 pc') (k : K x g cs sl L n M pc' ls (.long (a >>> (b.toInt64 &&& 63)) :: st)) : K x g cs sl L n M pc ls (.int b :: .long a :: st) := by
  intro H locs la hR hS hl
  obtain ⟨h1, h2⟩ := hd; subst h2
  exact lv_lshr hx.1 hx.2.1 h1 rfl (k H locs la hR hS hl)
theorem k_lushr (hx : Cx x g cc own nL R) {a : Int64} {b : Int32} (hd : At cc pc .lushr 1 pc') (k : K x g cs sl L n M pc' ls (.long (a.toUInt64 >>> (b.toInt64.toUInt64 &&& Int64.toUInt64 63)).toInt64 :: st)) : K x g cs sl L n M pc ls (.int b :: .long a :: st) := by
  intro H locs la hR hS hl
  obtain ⟨h1, h2⟩ := hd; subst h2
  exact lv_lushr hx.1 hx.2.1 h1 rfl (k H locs la hR hS hl)
theorem k_i2l (hx : Cx x g cc own nL R) {a : Int32} (hd : At cc pc .i2l 1 pc') (k : K x g cs sl L n M pc' ls (.long a.toInt64 :: st)) : K x g cs sl L n M pc ls (.int a :: st) := by
  intro H locs la hR hS hl
  obtain ⟨h1, h2⟩ := hd; subst h2
  exact lv_i2l hx.1 hx.2.1 h1 rfl (k H locs la hR hS hl)
theorem k_l2i (hx : Cx x g cc own nL R) {a : Int64} {v : Int32} (hd : At cc pc .l2i 1 pc') (hv : a.toInt32 = v) (k : K x g cs sl L n M pc' ls (.int v :: st)) : K x g cs sl L n M pc ls (.long a :: st) := by
  intro H locs la hR hS hl
  obtain ⟨h1, h2⟩ := hd; subst h2
  exact lv_l2i hx.1 hx.2.1 h1 hv (k H locs la hR hS hl)
theorem k_lcmp (hx : Cx x g cc own nL R) {a b : Int64} (hd : At cc pc .lcmp 1 pc') (k : K x g cs sl L n M pc' ls (.int (lg_cmp a b) :: st)) : K x g cs sl L n M pc ls (.long b :: .long a :: st) := by
  intro H locs la hR hS hl
  obtain ⟨h1, h2⟩ := hd; subst h2
  exact W.lcmp hx.1 hx.2.1 h1 (k H locs la hR hS hl)
theorem k_dup (hx : Cx x g cc own nL R) {v : Value} (hd : At cc pc .dup 1 pc') (hv : v.category = 1) (k : K x g cs sl L n M pc' ls (v :: v :: st)) : K x g cs sl L n M pc ls (v :: st) := by
  intro H locs la hR hS hl
  obtain ⟨h1, h2⟩ := hd; subst h2
  exact lv_dup hx.1 hx.2.1 h1 hv (k H locs la hR hS hl)
theorem k_pop (hx : Cx x g cc own nL R) {v : Value} (hd : At cc pc .pop 1 pc') (hv : v.category = 1) (k : K x g cs sl L n M pc' ls st) : K x g cs sl L n M pc ls (v :: st) := by
  intro H locs la hR hS hl
  obtain ⟨h1, h2⟩ := hd; subst h2
  exact lv_pop hx.1 hx.2.1 h1 hv (k H locs la hR hS hl)
theorem k_dup2 (hx : Cx x g cc own nL R) {v w : Value} (hd : At cc pc .dup2 1 pc') (hv : v.category = 1) (hw : w.category = 1) (k : K x g cs sl L n M pc' ls (v :: w :: v :: w :: st)) : K x g cs sl L n M pc ls (v :: w :: st) := by
  intro H locs la hR hS hl
  obtain ⟨h1, h2⟩ := hd; subst h2
  exact lv_dup2_11 hx.1 hx.2.1 h1 hv hw (k H locs la hR hS hl)
theorem k_goto (hx : Cx x g cc own nL R) (hd : Br cc pc .goto pc' tgt) (k : K x g cs sl L n M tgt ls st) : K x g cs sl L n M pc ls st := by
  intro H locs la hR hS hl
  obtain ⟨off, h1, h2, h3⟩ := hd
  exact lv_goto hx.1 hx.2.1 h1 h3 (k H locs la hR hS hl)
theorem k_ifeq (hx : Cx x g cc own nL R) {a : Int} (hd : Br cc pc (.ifCond .eq) pc' tgt) (h : -2147483648 ≤ a ∧ a < 2147483648) (kt : a = 0 → K x g cs sl L n M tgt ls st) (kf : ¬ a = 0 → K x g cs sl L n M pc' ls st) : K x g cs sl L n M pc ls (vI a :: st) := by
  intro H locs la hR hS hl
  obtain ⟨off, h1, h2, h3⟩ := hd; subst h2
  exact lv_if_eq hx.1 hx.2.1 h1 h3 (fun q => kt ((zI_eq ⟨h, by omega⟩).mp (by rw [zI_0]; exact q)) H locs la hR hS hl) (fun q => kf (fun z => q (by rw [z]; exact zI_0)) H locs la hR hS hl)
theorem k_ifne (hx : Cx x g cc own nL R) {a : Int} (hd : Br cc pc (.ifCond .ne) pc' tgt) (h : -2147483648 ≤ a ∧ a < 2147483648) (kt : ¬ a = 0 → K x g cs sl L n M tgt ls st) (kf : a = 0 → K x g cs sl L n M pc' ls st) : K x g cs sl L n M pc ls (vI a :: st) := by
  intro H locs la hR hS hl
  obtain ⟨off, h1, h2, h3⟩ := hd; subst h2
  exact lv_if_ne hx.1 hx.2.1 h1 h3 (fun q => kt (fun z => q (by rw [z]; exact zI_0)) H locs la hR hS hl) (fun q => kf ((zI_eq ⟨h, by omega⟩).mp (by rw [zI_0]; exact q)) H locs la hR hS hl)
theorem k_iflt (hx : Cx x g cc own nL R) {a : Int} (hd : Br cc pc (.ifCond .lt) pc' tgt) (h : -2147483648 ≤ a ∧ a < 2147483648) (kt : a < 0 → K x g cs sl L n M tgt ls st) (kf : ¬ a < 0 → K x g cs sl L n M pc' ls st) : K x g cs sl L n M pc ls (vI a :: st) := by
  intro H locs la hR hS hl
  obtain ⟨off, h1, h2, h3⟩ := hd; subst h2
  have e : zI a < 0 ↔ a < 0 := by rw [← zI_0]; exact zI_lt ⟨h, by omega⟩
  exact lv_if_lt hx.1 hx.2.1 h1 h3 (fun q => kt (e.mp q) H locs la hR hS hl) (fun q => kf (fun z => q (e.mpr z)) H locs la hR hS hl)
theorem k_ifge (hx : Cx x g cc own nL R) {a : Int} (hd : Br cc pc (.ifCond .ge) pc' tgt) (h : -2147483648 ≤ a ∧ a < 2147483648) (kt : 0 ≤ a → K x g cs sl L n M tgt ls st) (kf : ¬ 0 ≤ a → K x g cs sl L n M pc' ls st) : K x g cs sl L n M pc ls (vI a :: st) := by
  intro H locs la hR hS hl
  obtain ⟨off, h1, h2, h3⟩ := hd; subst h2
  have e : 0 ≤ zI a ↔ 0 ≤ a := by rw [← zI_0]; exact zI_le ⟨by omega, h⟩
  exact lv_if_ge hx.1 hx.2.1 h1 h3 (fun q => kt (e.mp q) H locs la hR hS hl) (fun q => kf (fun z => q (e.mpr z)) H locs la hR hS hl)
theorem k_ifle (hx : Cx x g cc own nL R) {a : Int} (hd : Br cc pc (.ifCond .le) pc' tgt) (h : -2147483648 ≤ a ∧ a < 2147483648) (kt : a ≤ 0 → K x g cs sl L n M tgt ls st) (kf : ¬ a ≤ 0 → K x g cs sl L n M pc' ls st) : K x g cs sl L n M pc ls (vI a :: st) := by
  intro H locs la hR hS hl
  obtain ⟨off, h1, h2, h3⟩ := hd; subst h2
  have e : zI a ≤ 0 ↔ a ≤ 0 := by rw [← zI_0]; exact zI_le ⟨h, by omega⟩
  exact lv_if_le hx.1 hx.2.1 h1 h3 (fun q => kt (e.mp q) H locs la hR hS hl) (fun q => kf (fun z => q (e.mpr z)) H locs la hR hS hl)
theorem k_icmp_eq (hx : Cx x g cc own nL R) {a b : Int} (hd : Br cc pc (.if_icmp .eq) pc' tgt) (h : (-2147483648 ≤ a ∧ a < 2147483648) ∧ (-2147483648 ≤ b ∧ b < 2147483648)) (kt : a = b → K x g cs sl L n M tgt ls st) (kf : ¬ a = b → K x g cs sl L n M pc' ls st) : K x g cs sl L n M pc ls (vI b :: vI a :: st) := by
  intro H locs la hR hS hl
  obtain ⟨off, h1, h2, h3⟩ := hd; subst h2
  exact lv_icmp_eq hx.1 hx.2.1 h1 h3 (fun q => kt ((zI_eq h).mp q) H locs la hR hS hl) (fun q => kf (fun z => q ((zI_eq h).mpr z)) H locs la hR hS hl)
theorem k_icmp_ne (hx : Cx x g cc own nL R) {a b : Int} (hd : Br cc pc (.if_icmp .ne) pc' tgt) (h : (-2147483648 ≤ a ∧ a < 2147483648) ∧ (-2147483648 ≤ b ∧ b < 2147483648)) (kt : ¬ a = b → K x g cs sl L n M tgt ls st) (kf : a = b → K x g cs sl L n M pc' ls st) : K x g cs sl L n M pc ls (vI b :: vI a :: st) := by
  intro H locs la hR hS hl
  obtain ⟨off, h1, h2, h3⟩ := hd; subst h2
  exact lv_icmp_ne hx.1 hx.2.1 h1 h3 (fun q => kt (fun z => q ((zI_eq h).mpr z)) H locs la hR hS hl) (fun q => kf ((zI_eq h).mp q) H locs la hR hS hl)
theorem k_icmp_lt (hx : Cx x g cc own nL R) {a b : Int} (hd : Br cc pc (.if_icmp .lt) pc' tgt) (h : (-2147483648 ≤ a ∧ a < 2147483648) ∧ (-2147483648 ≤ b ∧ b < 2147483648)) (kt : a < b → K x g cs sl L n M tgt ls st) (kf : ¬ a < b → K x g cs sl L n M pc' ls st) : K x g cs sl L n M pc ls (vI b :: vI a :: st) := by
  intro H locs la hR hS hl
  obtain ⟨off, h1, h2, h3⟩ := hd; subst h2
  exact lv_icmp_lt hx.1 hx.2.1 h1 h3 (fun q => kt ((zI_lt h).mp q) H locs la hR hS hl) (fun q => kf (fun z => q ((zI_lt h).mpr z)) H locs la hR hS hl)
theorem k_icmp_ge (hx : Cx x g cc own nL R) {a b : Int} (hd : Br cc pc (.if_icmp .ge) pc' tgt) (h : (-2147483648 ≤ a ∧ a < 2147483648) ∧ (-2147483648 ≤ b ∧ b < 2147483648)) (kt : b ≤ a → K x g cs sl L n M tgt ls st) (kf : ¬ b ≤ a → K x g cs sl L n M pc' ls st) : K x g cs sl L n M pc ls (vI b :: vI a :: st) := by
  intro H locs la hR hS hl
  obtain ⟨off, h1, h2, h3⟩ := hd; subst h2
  exact lv_icmp_ge hx.1 hx.2.1 h1 h3 (fun q => kt ((zI_le ⟨h.2, h.1⟩).mp q) H locs la hR hS hl) (fun q => kf (fun z => q ((zI_le ⟨h.2, h.1⟩).mpr z)) H locs la hR hS hl)
theorem k_icmp_gt (hx : Cx x g cc own nL R) {a b : Int} (hd : Br cc pc (.if_icmp .gt) pc' tgt) (h : (-2147483648 ≤ a ∧ a < 2147483648) ∧ (-2147483648 ≤ b ∧ b < 2147483648)) (kt : b < a → K x g cs sl L n M tgt ls st) (kf : ¬ b < a → K x g cs sl L n M pc' ls st) : K x g cs sl L n M pc ls (vI b :: vI a :: st) := by
  intro H locs la hR hS hl
  obtain ⟨off, h1, h2, h3⟩ := hd; subst h2
  exact lv_icmp_gt hx.1 hx.2.1 h1 h3 (fun q => kt ((zI_lt ⟨h.2, h.1⟩).mp q) H locs la hR hS hl) (fun q => kf (fun z => q ((zI_lt ⟨h.2, h.1⟩).mpr z)) H locs la hR hS hl)
theorem k_icmp_le (hx : Cx x g cc own nL R) {a b : Int} (hd : Br cc pc (.if_icmp .le) pc' tgt) (h : (-2147483648 ≤ a ∧ a < 2147483648) ∧ (-2147483648 ≤ b ∧ b < 2147483648)) (kt : a ≤ b → K x g cs sl L n M tgt ls st) (kf : ¬ a ≤ b → K x g cs sl L n M pc' ls st) : K x g cs sl L n M pc ls (vI b :: vI a :: st) := by
  intro H locs la hR hS hl
  obtain ⟨off, h1, h2, h3⟩ := hd; subst h2
  exact lv_icmp_le hx.1 hx.2.1 h1 h3 (fun q => kt ((zI_le h).mp q) H locs la hR hS hl) (fun q => kf (fun z => q ((zI_le h).mpr z)) H locs la hR hS hl)
theorem k_tsOut (hx : Cx x g cc own nL R) {dflt lo hi : Int} {offs : Array Int} {len : Nat} {a : Int} (hd : decode cc pc = .ok (.tableswitch dflt lo hi offs, len)) (ht : (pc : Int) + dflt = (tgt : Int)) (h : -2147483648 ≤ a ∧ a < 2147483648) (h2 : a < lo ∨ hi < a) (k : K x g cs sl L n M tgt ls st) : K x g cs sl L n M pc ls (vI a :: st) := by
  intro H locs la hR hS hl
  exact lv_tableOut hx.1 hx.2.1 hd (by rw [zI_int h]; exact h2) ht (k H locs la hR hS hl)
theorem k_tsIn (hx : Cx x g cc own nL R) {dflt lo hi off : Int} {offs : Array Int} {len : Nat} {a : Int} (hd : decode cc pc = .ok (.tableswitch dflt lo hi offs, len)) (h : -2147483648 ≤ a ∧ a < 2147483648) (h1 : ¬ a < lo) (h2 : ¬ hi < a) (ho : offs[(a - lo).toNat]? = some off) (ht : (pc : Int) + off = (tgt : Int)) (k : K x g cs sl L n M tgt ls st) : K x g cs sl L n M pc ls (vI a :: st) := by
  intro H locs la hR hS hl
  exact lv_tableIn hx.1 hx.2.1 hd (by rw [zI_int h]; exact h1) (by rw [zI_int h]; exact h2) (by rw [zI_int h]; exact ho) ht (k H locs la hR hS hl)
end ROWS
end
section
/-! rows of fields and arrays, of calls and ends, over the world at fixed places -/
/-- the entry 'index' of 'own' is the field k of class ci -/
def FL (own : String) (index ci k : Nat) (fin : Bool) (ft : FieldType) : Prop := ∃ (C : String) (T : u_T) (N : Nat) (ty : Nat → FieldType), classes[ci]? = some (C, T, N) ∧ k < N ∧ Cond.fieldLink own index (T k).1 (T k).2.1 (T k).2.2.1 ∈ TB ∧ (∀ w ∈ u_ws C T N, w ∈ TB) ∧ (∀ k, k < N → parseFieldDescriptor (T k).2.2.1 = some (ty k)) ∧ (∀ a, a < N → ∀ b, b < N → a ≠ b → (T a).2.1 ≠ (T b).2.1) ∧ (T k).2.2.2 = fin ∧ ty k = ft ∧ (T k).1 = C
theorem Rep.up {g : GE} {n : Nat} {L : Lay} {M : Mem} {H H1 : Heap} {i : Nat} {k z : Int} (hR : Rep g n L M H) (hs : H1.size = H.size) (ho : ∀ q : Nat, q ≠ g.1 + i → H1[q]? = H[q]?) (hi : i < n) (hc : cellAt g (g.1 + i) (up M i k z i) H1 (L i)) : Rep g n L (up M i k z) H1 := by
  refine ⟨by rw [hs]; exact hR.1, fun j hj => ?_⟩
  by_cases hji : j = i
  · subst hji; exact hc
  · rw [up_i hji]
    exact (hR.2 j hj).kept (ho _ (fun q => hji (by omega)))
/-- the layout of one cell changes, its numbers stay (a reference is put) -/
def upL (L : Lay) (i : Nat) (k : LK) : Lay := fun a => if a = i then k else L a
theorem upL_s {L : Lay} {i : Nat} {k : LK} : upL L i k i = k := if_pos rfl
theorem upL_n {L : Lay} {i a : Nat} {k : LK} (h : a ≠ i) : upL L i k a = L a := if_neg h
theorem Rep.upL {g : GE} {n : Nat} {L : Lay} {M : Mem} {H H1 : Heap} {i : Nat} {k : LK} (hR : Rep g n L M H) (hs : H1.size = H.size) (ho : ∀ q : Nat, q ≠ g.1 + i → H1[q]? = H[q]?) (hi : i < n) (hc : cellAt g (g.1 + i) (M i) H1 k) : Rep g n (upL L i k) M H1 := by
  refine ⟨by rw [hs]; exact hR.1, fun j hj => ?_⟩
  by_cases hji : j = i
  · subst hji; rw [upL_s]; exact hc
  · rw [upL_n hji]
    exact (hR.2 j hj).kept (ho _ (fun q => hji (by omega)))
theorem cellAt.obj {g : GE} {a : Nat} {m : Int → Int} {H : Heap} {ci : Nat} {fs : List FS} {C : String} {T : u_T} {N : Nat} (hc : classes[ci]? = some (C, T, N)) (h : cellAt g a m H (kO ci fs)) : t_OB a (g.2.1.1 ci) N (g.2.1.2 ci) H (fun k => fv g m k (fs.getD k none)) := by
  obtain ⟨r, h1, h2⟩ := h
  have hr : r = (C, T, N) := Option.some.inj (h1.symm.trans hc)
  subst hr
  exact h2
section ROWS2
variable {x : Fx} {g : GE} {cc : ByteArray} {own : String} {nL : Nat} {R : Room} {cs sl : Nat} {L : Lay} {n : Nat} {M : Mem} {pc pc' tgt : Nat} {ls : List (Nat × Value)} {st : List Value}
theorem k_get (hx : Cx x g cc own nL R) {index ci k i : Nat} {fin : Bool} {ft : FieldType} {fs : List FS} {v : Value} (hf : FL own index ci k fin ft) (hd : At cc pc (.getfield index) 3 pc') (hi : i < n) (hL : L i = kO ci fs) (hv : fv g (M i) k (fs.getD k none) = v) (kk : K x g cs sl L n M pc' ls (v :: st)) : K x g cs sl L n M pc ls (vR g i :: st) := by
  intro H locs la hR hS hl
  obtain ⟨hex, hcc, hnl, how, hts, hK, -⟩ := hx
  obtain ⟨C, T, N, ty, hc, hk, hlk, hin, hty, hnm, -⟩ := hf
  obtain ⟨hd1, hd2⟩ := hd
  subst hd2
  have hcell := hR.2 i hi
  rw [hL] at hcell
  obtain ⟨cell, q1, q2, q3, q4⟩ := cellAt.obj hc hcell
  obtain ⟨hSl, hfc, kC, hkC, hkind⟩ := hK.1.1 ci _ hc
  obtain ⟨cf, kf, fi, f, hi', hsl⟩ := hSl k hk
  refine W.getf hex hcc how (hts _ hlk) hi' (u_facts hfc hkC (u_lays hts hin hk) hi').1 q1 (by rw [q3]; exact fun h => by cases h) (v := v) ?_ rfl rfl hd1 (kk H locs la hR hS hl)
  rw [hsl, q4 k hk]
  exact congrArg some hv
theorem k_put (hx : Cx x g cc own nL R) {index ci k i : Nat} {fs : List FS} {z : Int} {ft : FieldType} (hf : FL own index ci k false ft) (hd : At cc pc (.putfield index) 3 pc') (hi : i < n) (hL : L i = kO ci fs) (hn : fs.getD k none = none) (hz : narrow ft (vI z) = vI z ∧ fits ft (vI z) = true) (kk : K x g cs sl L n (up M i k z) pc' ls st) : K x g cs sl L n M pc ls (vI z :: vR g i :: st) := by
  intro H locs la hR hS hl
  obtain ⟨hex, hcc, hnl, how, hts, hK, -⟩ := hx
  obtain ⟨C, T, N, ty, hc, hk, hlk, hin, hty, hnm, hfin, hft, -⟩ := hf
  obtain ⟨hd1, hd2⟩ := hd
  subst hd2
  have hcell := hR.2 i hi
  rw [hL] at hcell
  obtain ⟨cell, q1, q2, q3, q4⟩ := cellAt.obj hc hcell
  have hap := va_apart (own := own) hts hin ty hty hnm hK.1 hc
  obtain ⟨hSl, hfc, kC, hkC, hkind⟩ := hK.1.1 ci _ hc
  obtain ⟨cf, kf, fi, f, hi', hsl⟩ := hSl k hk
  have hlay := hts _ (hin _ (u_in_lay hk))
  unfold u_lay at hlay
  rw [if_neg (by rw [hfin]; decide)] at hlay
  have hst := (u_facts hfc hkC (u_lays hts hin hk) hi').1
  have h6 := u_store (v := vI z) hfc hkC hkind hlay hi' (by rw [hty k hk, hft]) hz.1 hz.2
  refine W.putK hex hcc (f := f) ⟨how, hts _ hlk, ⟨_, _, _, hi'⟩, hst⟩ (by rw [q2]; exact h6) q1 q3 (by rw [hsl]; exact k2_hasslot (q4 k hk)) rfl rfl hd1 fun H' e1 e2 e3 => ?_
  rw [hsl] at e1
  refine kk H' _ la (hR.up e2 e3 hi ?_) (hS.put e2 e3 (Nat.le_add_right _ _)) hl
  rw [hL]
  refine ⟨_, hc, t_OB.to ⟨_, e1, q2, q3, t_set q4 hap hk (vI z)⟩ (fun j hj => ?_)⟩
  by_cases hjk : j = k
  · subst hjk
    rw [hn]
    simp [updV, fv, up_s]
  · have e : ∀ o : FS, fv g (M i) j o = fv g (up M i k z i) j o := fun o => by
      match o with
      | none => exact congrArg vI (up_k (show (j : Int) ≠ (k : Int) by omega)).symm
      | some none => rfl
      | some (some q) => rfl
    simp [updV, hjk]
    exact e _
/-- a reference (or null) is put: into a field that is final, in a constructor -/
theorem k_putF (hx : Cx x g cc own nL R) (hin2 : (xT x).name = "<init>") {index ci k i : Nat} {fs fs' : List FS} {v : Value} {o : FS} {ft : FieldType} (hf : FL own index ci k true ft) (hown : ∀ q : vw_C, classes[ci]? = some q → q.1 = own) (hd : At cc pc (.putfield index) 3 pc') (hi : i < n) (hL : L i = kO ci fs) (hv : ∀ m : Int → Int, fv g m k o = v) (hz : narrow ft v = v ∧ fits ft v = true) (hs : fs' = fs.set k o) (hk2 : k < fs.length) (kk : K x g cs sl (upL L i (kO ci fs')) n M pc' ls st) : K x g cs sl L n M pc ls (v :: vR g i :: st) := by
  intro H locs la hR hS hl
  obtain ⟨hex, hcc, hnl, how, hts, hK, -⟩ := hx
  obtain ⟨C, T, N, ty, hc, hk, hlk, hin, hty, hnm, hfin, hft, hdecl⟩ := hf
  obtain ⟨hd1, hd2⟩ := hd
  subst hd2
  have hcell := hR.2 i hi
  rw [hL] at hcell
  obtain ⟨cell, q1, q2, q3, q4⟩ := cellAt.obj hc hcell
  have hap := va_apart (own := own) hts hin ty hty hnm hK.1 hc
  obtain ⟨hSl, hfc, kC, hkC, hkind⟩ := hK.1.1 ci _ hc
  obtain ⟨cf, kf, fi, f, hi', hsl⟩ := hSl k hk
  have hlay := hts _ (hin _ (u_in_lay hk))
  unfold u_lay at hlay
  rw [if_pos hfin] at hlay
  have hst := (u_facts hfc hkC (u_lays hts hin hk) hi').1
  have hcf : (xM x).cls = cf := by
    obtain ⟨_, _, c', _, _, _, -, -, hf', -, -, -, hown2, -⟩ := Cond.laysFinal_spec hlay
    have e1 : c' = cf := by have := hi'.symm.trans hf'; simp at this; exact this.1.symm
    rw [hdecl, show C = own from hown _ hc] at hown2
    rw [← e1]; exact Option.some.inj (how.symm.trans hown2)
  have h6 := u_fits hfc hkC hkind (Or.inr hlay) hi' (by rw [hty k hk, hft]) hz.1 hz.2
  refine W.putFinK hex hcc how (hts _ hlk) hi' hst hcf hin2 (by rw [q2]; exact h6) q1 q3 (by rw [hsl]; exact k2_hasslot (q4 k hk)) rfl rfl hd1 fun H' e1 e2 e3 => ?_
  rw [hsl] at e1
  refine kk H' _ la (hR.upL e2 e3 hi ?_) (hS.put e2 e3 (Nat.le_add_right _ _)) hl
  subst hs
  refine ⟨_, hc, t_OB.to ⟨_, e1, q2, q3, t_set q4 hap hk v⟩ (fun j hj => ?_)⟩
  by_cases hjk : j = k
  · subst hjk
    simp [updV, List.getD_eq_getElem?_getD, List.getElem?_set, hk2, hv]
  · simp [updV, hjk, List.getD_eq_getElem?_getD, List.getElem?_set, Ne.symm hjk]
theorem k_iald (hx : Cx x g cc own nL R) {i N : Nat} {z v : Int} (hd : At cc pc .iaload 1 pc') (hi : i < n) (hL : L i = kA 0 N) (hz : 0 ≤ z ∧ z < N) (hN : N ≤ 2147483647) (hv : M i z = v) (kk : K x g cs sl L n M pc' ls (vI v :: st)) : K x g cs sl L n M pc ls (vI z :: vR g i :: st) := by
  intro H locs la hR hS hl
  obtain ⟨hex, hcc, hnl, how, hts, hK, -⟩ := hx
  obtain ⟨hd1, hd2⟩ := hd
  subst hd2; subst hv
  have hcell := hR.2 i hi
  rw [hL] at hcell
  have hc := zI_clamp hz.1 hz.2 hN
  have h1 := zI_in hz.1 hz.2 hN
  refine W.iald (v := vI (M i z)) hex hcc hcell ((hK.1.2 0 _ rfl).1 N (fun j => vI (M i (j : Int)))) (fun q => by cases q) (by rw [arrV_size]; exact h1) (by rw [arrV_read _ _ (by omega), hc]) rfl rfl hd1 (kk H locs la hR hS hl)
theorem k_iast (hx : Cx x g cc own nL R) {i N : Nat} {z v : Int} (hd : At cc pc .iastore 1 pc') (hi : i < n) (hL : L i = kA 0 N) (hz : 0 ≤ z ∧ z < N) (hN : N ≤ 2147483647) (kk : K x g cs sl L n (up M i z v) pc' ls st) : K x g cs sl L n M pc ls (vI v :: vI z :: vR g i :: st) := by
  intro H locs la hR hS hl
  obtain ⟨hex, hcc, hnl, how, hts, hK, -⟩ := hx
  obtain ⟨hd1, hd2⟩ := hd
  subst hd2
  have hcell := hR.2 i hi
  rw [hL] at hcell
  have hc := zI_clamp hz.1 hz.2 hN
  have h1 := zI_in hz.1 hz.2 hN
  refine W.iast hex hcc hcell ((hK.1.2 0 _ rfl).1 N (fun j => vI (M i (j : Int)))) (fun q => by cases q) (by rw [arrV_size]; exact h1) rfl rfl hd1 (fun H' e1 e2 e3 => ?_)
  refine kk H' _ la (hR.up e2 e3 hi ?_) (hS.put e2 e3 (Nat.le_add_right _ _)) hl
  rw [hL]
  show H'[g.1 + i]? = some (arrV (g.2.2.1 0) N (fun j => vI (up M i z v i (j : Int))))
  rw [e1, arrV_store]
  congr 2
  funext j
  by_cases hj : j = (zI z).toNatClampNeg
  · subst hj
    simp [updV, hc, up_s]
  · have : (j : Int) ≠ z := fun q => hj (by omega)
    simp [updV, hj, up_k this]
theorem k_zald (hx : Cx x g cc own nL R) {i N : Nat} {z v : Int} (hd : At cc pc .baload 1 pc') (hi : i < n) (hL : L i = kA 1 N) (hz : 0 ≤ z ∧ z < N) (hN : N ≤ 2147483647) (hv : M i z = v) (kk : K x g cs sl L n M pc' ls (vI v :: st)) : K x g cs sl L n M pc ls (vI z :: vR g i :: st) := by
  intro H locs la hR hS hl
  obtain ⟨hex, hcc, hnl, how, hts, hK, -⟩ := hx
  obtain ⟨hd1, hd2⟩ := hd
  subst hd2; subst hv
  have hcell := hR.2 i hi
  rw [hL] at hcell
  have hc := zI_clamp hz.1 hz.2 hN
  have h1 := zI_in hz.1 hz.2 hN
  refine W.zald (v := vI (M i z)) hex hcc hcell ((hK.1.2 1 _ rfl).1 N (fun j => vI (M i (j : Int)))) (fun q => by cases q) (by rw [arrV_size]; exact h1) (by rw [arrV_read _ _ (by omega), hc]) rfl rfl hd1 (kk H locs la hR hS hl)
theorem k_zast (hx : Cx x g cc own nL R) {i N : Nat} {z v : Int} (hd : At cc pc .bastore 1 pc') (hi : i < n) (hL : L i = kA 1 N) (hz : 0 ≤ z ∧ z < N) (hN : N ≤ 2147483647) (hv : v = 0 ∨ v = 1) (kk : K x g cs sl L n (up M i z v) pc' ls st) : K x g cs sl L n M pc ls (vI v :: vI z :: vR g i :: st) := by
  intro H locs la hR hS hl
  obtain ⟨hex, hcc, hnl, how, hts, hK, -⟩ := hx
  obtain ⟨hd1, hd2⟩ := hd
  subst hd2
  have hcell := hR.2 i hi
  rw [hL] at hcell
  have hc := zI_clamp hz.1 hz.2 hN
  have h1 := zI_in hz.1 hz.2 hN
  have hnar : narrow .boolean (vI v) = vI v := by rcases hv with rfl | rfl <;> decide +kernel
  refine W.zast hex hcc hcell ((hK.1.2 1 _ rfl).1 N (fun j => vI (M i (j : Int)))) (fun q => by cases q) (by rw [arrV_size]; exact h1) rfl rfl hd1 (fun H' e1 e2 e3 => ?_)
  refine kk H' _ la (hR.up e2 e3 hi ?_) (hS.put e2 e3 (Nat.le_add_right _ _)) hl
  rw [hL]
  show H'[g.1 + i]? = some (arrV (g.2.2.1 1) N (fun j => vI (up M i z v i (j : Int))))
  rw [e1, hnar, arrV_store]
  congr 2
  funext j
  by_cases hj : j = (zI z).toNatClampNeg
  · subst hj
    simp [updV, hc, up_s]
  · have : (j : Int) ≠ z := fun q => hj (by omega)
    simp [updV, hj, up_k this]
theorem k_aald (hx : Cx x g cc own nL R) {i t q : Nat} {qs : List (Option Nat)} {z : Int} (hd : At cc pc .aaload 1 pc') (hi : i < n) (hL : L i = kR t qs) (ht : t = 2 ∨ t = 3) (hz : 0 ≤ z ∧ z < qs.length) (hN : qs.length ≤ 2147483647) (hv : qs.getD z.toNat none = some q) (kk : K x g cs sl L n M pc' ls (vR g q :: st)) : K x g cs sl L n M pc ls (vI z :: vR g i :: st) := by
  intro H locs la hR hS hl
  obtain ⟨hex, hcc, hnl, how, hts, hK, -⟩ := hx
  obtain ⟨hd1, hd2⟩ := hd
  subst hd2
  have hcell := hR.2 i hi
  rw [hL] at hcell
  have hc := zI_clamp hz.1 hz.2 hN
  have h1 := zI_in hz.1 hz.2 hN
  have hidx : (zI z).toNatClampNeg = z.toNat := by omega
  have har : ∀ f, (xS x).isArrayOf (arrV (g.2.2.1 t) qs.length f) (tyT t) := fun f => by
    rcases ht with rfl | rfl
    · exact (hK.1.2 2 _ rfl).1 _ f
    · exact (hK.1.2 3 _ rfl).1 _ f
  refine W.aald (v := vR g q) hex hcc hcell (har _) (by rcases ht with rfl | rfl <;> rfl) (fun q => by cases q) (by rw [arrV_size]; exact h1) ?_ rfl rfl hd1 (kk H locs la hR hS hl)
  rw [arrV_read _ _ (by omega), hidx, hv]
  rfl
theorem k_alen (hx : Cx x g cc own nL R) {i t N : Nat} (hd : At cc pc .arraylength 1 pc') (hi : i < n) (hL : L i = kA t N) (ht : t = 0 ∨ t = 1) (kk : K x g cs sl L n M pc' ls (vI N :: st)) : K x g cs sl L n M pc ls (vR g i :: st) := by
  intro H locs la hR hS hl
  obtain ⟨hex, hcc, hnl, how, hts, hK, -⟩ := hx
  obtain ⟨hd1, hd2⟩ := hd
  subst hd2
  have hcell := hR.2 i hi
  rw [hL] at hcell
  have har : ∀ f, (xS x).isArrayOf (arrV (g.2.2.1 t) N f) (tyT t) := fun f => by
    rcases ht with rfl | rfl
    · exact (hK.1.2 0 _ rfl).1 _ f
    · exact (hK.1.2 1 _ rfl).1 _ f
  refine W.alen (n := zI N) hex hcc hcell (har _) ?_ rfl rfl hd1 (kk H locs la hR hS hl)
  rw [arrV_size]
  exact (Int32.ofInt_eq_ofNat (n := N)).symm
theorem k_ldc2 (hx : Cx x g cc own nL R) {index : Nat} {v : Int64} (hd : At cc pc (.ldc2_w index) 3 pc') (hc : Cond.constantLong own index v ∈ TB) (kk : K x g cs sl L n M pc' ls (.long v :: st)) : K x g cs sl L n M pc ls st := by
  intro H locs la hR hS hl
  obtain ⟨hex, hcc, hnl, how, hts, hK, -⟩ := hx
  obtain ⟨hd1, hd2⟩ := hd
  subst hd2
  exact lv_ldc2 hex hcc how (hts _ hc) hd1 (kk H locs la hR hS hl)
end ROWS2
/-! contracts -/
abbrev mW (μ : Mu) : List Cond := .code μ.1 μ.2.1 μ.2.2.1 μ.2.2.2.1 :: TB
abbrev mRm (μ : Mu) (mc ms : Nat) : Room := { frames := μ.2.2.2.2.1, cells := mc, slots := ms, locals := μ.2.2.2.2.2 }
def Qz (g : GE) (post : Option Value → Lay → Nat → Mem → Prop) : Array Value → State → Outcome → State → Prop := fun _ st o t => (∃ (r : Option Value) (L : Lay) (n : Nat) (M : Mem), o = .returned r ∧ post r L n M ∧ Rep g n L M t.heap) ∧ va_F (fun q => g.1 ≤ q) st t
def Pz (g : GE) (av : List Value) (L : Lay) (n : Nat) (M : Mem) : Array Value → State → Prop := va_Pc av (fun U => Rep g n L M U.heap ∧ Kn g U)
def Ct (g : GE) (l : Launch) (μ : Mu) (mc ms : Nat) (av : List Value) (L : Lay) (n : Nat) (M : Mem) (post : Option Value → Lay → Nat → Mem → Prop) : Prop :=
  Met l μ.1 (mW μ) (mRm μ mc ms) (Pz g av L n M) (Qz g post) mc ms (fun q => g.1 ≤ q)
theorem Pz.blind {g : GE} {av : List Value} {L : Lay} {n : Nat} {M : Mem} : FrameBlind (Pz g av L n M) := fun _ _ _ _ q => ⟨q.1, q.2.1, q.2.2.eq rfl⟩
theorem Pz.of {g : GE} {av : List Value} {L : Lay} {n : Nat} {M : Mem} {s U : State} {H : Heap} (hR : Rep g n L M H) (hK : Kn g s) (hU : U.heap = H) (hW : s.WarmedH U.vm) : Pz g av L n M av.toArray U := ⟨rfl, by rw [hU]; exact hR, hK.warm hW⟩
/-- how the method ends -/
def Rx (x : Fx) (g : GE) (mc ms : Nat) (ret : Option FieldType) (post : Option Value → Lay → Nat → Mem → Prop) : Prop := (xT x).locks = false ∧ (xT x).sig.returnType = ret ∧ xQ x = MQ (xB x) (Qz g post) (xA x) (xS x) mc ms (fun q => g.1 ≤ q)
theorem Ct.of {g : GE} {l : Launch} {μ : Mu} {mc ms : Nat} {av : List Value} {L : Lay} {n : Nat} {M : Mem} {post : Option Value → Lay → Nat → Mem → Prop} (hy : plainName μ.1.cls = true) (hav : Nat.ble (lg_sl av).length μ.2.2.1 = true)
    (body : ∀ x : Fx, xL x = l → Cx x g μ.2.1 μ.1.cls μ.2.2.1 (mRm μ mc ms) → (xT x).name = μ.1.name → Rx x g mc ms μ.2.2.2.1 post → K x g 0 0 L n M 0 (lv_args 0 av) []) : Ct g l μ mc ms av L n M post := by
  refine Met.ofW (cc := μ.2.1) (maxL := μ.2.2.1) (ret := μ.2.2.2.1) hy rfl ?_
  intro p e s m args below meth c s₁ B hml hv
  obtain ⟨rfl, hR, hK⟩ := hv
  have hts := atoms_spec (ws := mW μ) B.pre
  have hl := lv_entry av (n := μ.2.2.1) (Nat.le_of_ble_eq_true hav)
  have k := body (p, l, e, mRm μ mc ms, s, m, av.toArray, below, meth, c, MQ below (Qz g post) av.toArray s mc ms (fun q => g.1 ≤ q)) rfl
    ⟨B.exec, B.bytes, hml, findClass_of_methodNamed B.named, fun w h => hts w (List.mem_cons_of_mem _ h), hK, rfl⟩ (name_of_methodNamed B.named B.method).1 ⟨B.notSynchronized, B.returns, rfl⟩
  rw [lg_entry_eq]
  refine k s.heap [] _ hR va_S.rf ?_
  show lv_has _ c.maxLocals _
  rw [hml]
  exact hl
section ENDS
variable {x : Fx} {g : GE} {cc : ByteArray} {own : String} {nL : Nat} {R : Room} {mc ms : Nat} {L : Lay} {n : Nat} {M : Mem} {pc : Nat} {ls : List (Nat × Value)} {post : Option Value → Lay → Nat → Mem → Prop}
theorem k_iret (hx : Cx x g cc own nL R) (hm : Rx x g mc ms (some .int) post) {z : Int} (hd : At cc pc .ireturn 1 (pc + 1)) (hp : post (some (vI z)) L n M) : K x g mc ms L n M pc ls [vI z] := by
  intro H locs la hR hS hl
  obtain ⟨h1, h2, h3⟩ := hm
  rw [h3]
  exact W.iret hx.1 hx.2.1 h2 (fun t ht _ => ⟨⟨_, L, n, M, rfl, hp, by rw [ht]; exact hR⟩, hS.F ht⟩) (fun q hq => hS.2.2 q hq) hd.1 (hlocks := h1)
theorem k_zret (hx : Cx x g cc own nL R) (hm : Rx x g mc ms (some .boolean) post) {z : Int} (hd : At cc pc .ireturn 1 (pc + 1)) (hz : z = 0 ∨ z = 1) (hp : post (some (vI z)) L n M) : K x g mc ms L n M pc ls [vI z] := by
  intro H locs la hR hS hl
  obtain ⟨h1, h2, h3⟩ := hm
  rw [h3]
  exact W.zret hx.1 hx.2.1 h2 (by rcases hz with rfl | rfl <;> decide +kernel) (fun t ht _ => ⟨⟨_, L, n, M, rfl, hp, by rw [ht]; exact hR⟩, hS.F ht⟩) (fun q hq => hS.2.2 q hq) hd.1 (hlocks := h1)
theorem k_vret (hx : Cx x g cc own nL R) (hm : Rx x g mc ms none post) (hd : At cc pc .return_ 1 (pc + 1)) (hp : post none L n M) : K x g mc ms L n M pc ls [] := by
  intro H locs la hR hS hl
  obtain ⟨h1, h2, h3⟩ := hm
  rw [h3]
  exact W.vret hx.1 hx.2.1 h2 (fun t ht _ => ⟨⟨_, L, n, M, rfl, hp, by rw [ht]; exact hR⟩, hS.F ht⟩) (fun q hq => hS.2.2 q hq) hd.1 (hlocks := h1)
end ENDS
/-! calls: what the tables say of a call's entry -/
def lkV (own : String) (index : Nat) (μ : Mu) (ci na : Nat) : Prop := Cond.methodLink own index μ.1 ∈ TB ∧ Cond.instanceMethod μ.1 ∈ TB ∧ Cond.selects μ.1.cls μ.1 μ.1 ∈ TB ∧ Cond.initialized μ.1.cls ∈ TB ∧ Cond.code μ.1 μ.2.1 μ.2.2.1 μ.2.2.2.1 ∈ TB ∧ (μ.1.cls = μ.1.cls ∧ μ.1.cls ≠ "java/lang/invoke/MethodHandle" ∧ μ.1.cls ≠ "java/lang/invoke/VarHandle" ∧ (parseMethodDescriptor μ.1.desc).map (fun d => d.parameters.length) = some na) ∧ ∃ T N, classes[ci]? = some (μ.1.cls, T, N)
def lkS (own : String) (index : Nat) (μ : Mu) (na : Nat) : Prop := Cond.methodLink own index μ.1 ∈ TB ∧ Cond.static μ.1 ∈ TB ∧ Cond.initialized μ.1.cls ∈ TB ∧ Cond.code μ.1 μ.2.1 μ.2.2.1 μ.2.2.2.1 ∈ TB ∧ (μ.1.cls ≠ "java/lang/invoke/MethodHandle" ∧ μ.1.cls ≠ "java/lang/invoke/VarHandle" ∧ (parseMethodDescriptor μ.1.desc).map (fun d => d.parameters.length) = some na)
def lkN (own : String) (index : Nat) (μ : Mu) (host : String) (na : Nat) : Prop := (own, index, μ.1, host) ∈ nestQ ∧ Cond.static μ.1 ∈ TB ∧ Cond.initialized μ.1.cls ∈ TB ∧ Cond.code μ.1 μ.2.1 μ.2.2.1 μ.2.2.2.1 ∈ TB ∧ (μ.1.cls ≠ "java/lang/invoke/MethodHandle" ∧ μ.1.cls ≠ "java/lang/invoke/VarHandle" ∧ (parseMethodDescriptor μ.1.desc).map (fun d => d.parameters.length) = some na)
def lkI (own : String) (index : Nat) (μ : Mu) (na : Nat) : Prop := Cond.methodLink own index μ.1 ∈ TB ∧ Cond.instanceMethod μ.1 ∈ TB ∧ Cond.initialized μ.1.cls ∈ TB ∧ Cond.code μ.1 μ.2.1 μ.2.2.1 μ.2.2.2.1 ∈ TB ∧ (μ.1.cls ≠ "java/lang/invoke/MethodHandle" ∧ μ.1.cls ≠ "java/lang/invoke/VarHandle" ∧ (parseMethodDescriptor μ.1.desc).map (fun d => d.parameters.length) = some na) ∧ μ.1.name = "<init>" ∧ μ.2.2.2.1 = none
theorem gdTB {μ : Mu} (h : Cond.code μ.1 μ.2.1 μ.2.2.1 μ.2.2.2.1 ∈ TB) : GoodIn TB (mW μ) := by
  intro w hw
  rcases List.mem_cons.mp hw with rfl | hw
  · exact ⟨h, gTB h⟩
  · exact ⟨hw, gTB hw⟩
section CALLS
variable {x : Fx} {g : GE} {cc : ByteArray} {own : String} {nL : Nat} {R : Room} {cs sl mc ms : Nat} {L : Lay} {n : Nat} {M : Mem} {pc pc' index na ci i : Nat} {ls : List (Nat × Value)} {st rest As av : List Value} {μ : Mu} {post : Option Value → Lay → Nat → Mem → Prop}
theorem k_run {H : Heap} {locs : List Loc} {la : Array Slot} {a : Array Value} (hx : Cx x g cc own nL R) (hS : va_S (fun q => g.1 ≤ q) (xS x).heap H locs) (hl : lv_has la (xC x).maxLocals ls) (hr : va_Run (xP x) (xL x) (xE x) (xR x) (xS x) (xM x) (xA x) (xB x) (xT x) (xC x) H locs cs sl mc ms (F0 (xM x) pc la st) rest (Qz g post a) (fun q => g.1 ≤ q))
    (kk : ∀ (r : Option Value) (L' : Lay) (n' : Nat) (M' : Mem), post r L' n' M' → K x g (cs + mc) (sl + ms) L' n' M' (pc + 3) ls (r.toList ++ rest)) : W (xP x) (xL x) (xE x) (xR x) (xS x) (xM x) (xA x) (xB x) (xT x) (xC x) H locs cs sl (xQ x) (F0 (xM x) pc la st) := by
  intro T hT X
  obtain ⟨v, st₀, t, T', Lc, h0, X', hL, e1, e2, ⟨⟨r, L', n', M', hv, hp, hR'⟩, hz, hk⟩, stp⟩ := hr T hT X
  cases hv
  rw [h0] at hz hk
  rw [← e1] at hz hk hR'
  obtain ⟨t2, a1, b1⟩ := kk _ L' n' M' hp T'.heap (locs ++ Lc) la hR'
    ⟨Nat.le_trans hS.1 hz, fun q h1 h2 => (hk q (Nat.lt_of_lt_of_le h1 hS.1) h2).trans (hS.2.1 q h1 h2), fun q hq => by
      rcases List.mem_append.mp hq with h | h
      · exact hS.2.2 q h
      · exact hL q h⟩ hl T' rfl X'
  exact ⟨t2, stp t2 a1, b1⟩
theorem k_callV (hx : Cx x g cc own nL R) (hlk : lkV own index μ ci na) (hd : At cc pc (.invokevirtual index) 3 pc') (hC : Ct g (xL x) μ mc ms (vR g i :: As) L n M post) {fs : List FS} (hi : i < n) (hL : L i = kO ci fs) (hn : As.length = na) (hst : st = As.reverse ++ vR g i :: rest) (hcat : Nat.ble (rest.map fun v => v.category).sum 8 = true) (hroom : Nat.ble (μ.2.2.2.2.1 + 1) R.frames = true ∧ Nat.ble (8 + (μ.2.2.1 + 11) + μ.2.2.2.2.2) R.locals = true) (hcell : cs + mc ≤ R.cells ∧ sl + ms ≤ R.slots)
    (kk : ∀ (r : Option Value) (L' : Lay) (n' : Nat) (M' : Mem), post r L' n' M' → K x g (cs + mc) (sl + ms) L' n' M' pc' ls (r.toList ++ rest)) : K x g cs sl L n M pc ls st := by
  intro H locs la hR hS hl
  obtain ⟨hd1, hd2⟩ := hd
  subst hd2
  obtain ⟨w1, w2, w3, w4, w5, hdesc, T, N, hc⟩ := hlk
  have hts := hx.2.2.2.2.1
  have hRm : xR x = R := hx.2.2.2.2.2.2
  have hcell0 := hR.2 i hi
  rw [hL] at hcell0
  obtain ⟨cell, q1, q2, q3, q4⟩ := cellAt.obj hc hcell0
  have hfc := (hx.2.2.2.2.2.1.1.1 ci _ hc).2.1
  refine k_run (a := (vR g i :: As).toArray) hx hS hl ?_ kk
  refine va_runV (own := own) (C := μ.1.cls) (cc := cc) (nL := nL) (Ts := TB) (n := na) (ret := μ.2.2.2.1) (bytes := μ.2.1) (maxL := μ.2.2.1) ⟨hx.1, hx.2.1, hx.2.2.1, hx.2.2.2.1, hts⟩ hC ?_ ⟨Pz.blind, ⟨cell, q1, by rw [q3]; rfl, by rw [q2]; exact hfc⟩, fun U hU hW => Pz.of hR hx.2.2.2.2.2.1 hU hW⟩ rfl hn (hl.1.trans hx.2.2.1) hst (lv_room (pc := pc) (m := xM x) (ls := la) (rest := st) (Nat.le_of_ble_eq_true hcat)) hd1 (by rw [hRm]; exact hcell)
  refine cwV na hts ?_ rfl rfl rfl hdesc (by rw [hRm]; exact ⟨Nat.le_of_ble_eq_true hroom.1, Nat.le_of_ble_eq_true hroom.2⟩)
  intro w hw
  rcases List.mem_append.mp hw with h | h
  · have h2 : w ∈ TB := by
      rcases List.mem_cons.mp h with rfl | h; exact w1
      rcases List.mem_cons.mp h with rfl | h; exact w2
      rcases List.mem_cons.mp h with rfl | h; exact w3
      rcases List.mem_cons.mp h with rfl | h; exact w4
      cases h
    exact ⟨h2, gTB h2⟩
  · exact gdTB w5 w h
theorem k_callS (hx : Cx x g cc own nL R) (hlk : lkS own index μ na) (hd : At cc pc (.invokestatic index) 3 pc') (hC : Ct g (xL x) μ mc ms As L n M post) (hn : As.length = na) (hst : st = As.reverse ++ rest) (hcat : Nat.ble (rest.map fun v => v.category).sum 8 = true) (hroom : Nat.ble (μ.2.2.2.2.1 + 1) R.frames = true ∧ Nat.ble (8 + (μ.2.2.1 + 11) + μ.2.2.2.2.2) R.locals = true) (hcell : cs + mc ≤ R.cells ∧ sl + ms ≤ R.slots)
    (kk : ∀ (r : Option Value) (L' : Lay) (n' : Nat) (M' : Mem), post r L' n' M' → K x g (cs + mc) (sl + ms) L' n' M' pc' ls (r.toList ++ rest)) : K x g cs sl L n M pc ls st := by
  intro H locs la hR hS hl
  obtain ⟨hd1, hd2⟩ := hd
  subst hd2
  obtain ⟨w1, w2, w3, w4, hdesc⟩ := hlk
  have hts := hx.2.2.2.2.1
  have hRm : xR x = R := hx.2.2.2.2.2.2
  refine k_run (a := As.toArray) hx hS hl ?_ kk
  refine va_runS (own := own) (cc := cc) (nL := nL) (Ts := TB) (n := na) (ret := μ.2.2.2.1) (bytes := μ.2.1) (maxL := μ.2.2.1) ⟨hx.1, hx.2.1, hx.2.2.1, hx.2.2.2.1, hts⟩ hC ?_ ⟨Pz.blind, fun U hU hW => Pz.of hR hx.2.2.2.2.2.1 hU hW⟩ rfl hn (hl.1.trans hx.2.2.1) hst (lv_room (pc := pc) (m := xM x) (ls := la) (rest := st) (Nat.le_of_ble_eq_true hcat)) hd1 (by rw [hRm]; exact hcell)
  refine va_cwS na hts ?_ rfl rfl rfl hdesc (by rw [hRm]; exact ⟨Nat.le_of_ble_eq_true hroom.1, Nat.le_of_ble_eq_true hroom.2⟩)
  intro w hw
  rcases List.mem_append.mp hw with h | h
  · have h2 : w ∈ TB := by
      rcases List.mem_cons.mp h with rfl | h; exact w1
      rcases List.mem_cons.mp h with rfl | h; exact w2
      rcases List.mem_cons.mp h with rfl | h; exact w3
      cases h
    exact ⟨h2, gTB h2⟩
  · exact gdTB w4 w h
theorem k_callN {host : String} (hx : Cx x g cc own nL R) (hlk : lkN own index μ host na) (hd : At cc pc (.invokestatic index) 3 pc') (hC : Ct g (xL x) μ mc ms As L n M post) (hn : As.length = na) (hst : st = As.reverse ++ rest) (hcat : Nat.ble (rest.map fun v => v.category).sum 8 = true) (hroom : Nat.ble (μ.2.2.2.2.1 + 1) R.frames = true ∧ Nat.ble (8 + (μ.2.2.1 + 11) + μ.2.2.2.2.2) R.locals = true) (hcell : cs + mc ≤ R.cells ∧ sl + ms ≤ R.slots)
    (kk : ∀ (r : Option Value) (L' : Lay) (n' : Nat) (M' : Mem), post r L' n' M' → K x g (cs + mc) (sl + ms) L' n' M' pc' ls (r.toList ++ rest)) : K x g cs sl L n M pc ls st := by
  intro H locs la hR hS hl
  obtain ⟨hd1, hd2⟩ := hd
  subst hd2
  obtain ⟨w1, w2, w3, w4, hdesc⟩ := hlk
  have hts := hx.2.2.2.2.1
  have hRm : xR x = R := hx.2.2.2.2.2.2
  refine k_run (a := As.toArray) hx hS hl ?_ kk
  refine va_runSN (own := own) (host := host) (cc := cc) (nL := nL) (Ts := TB) (n := na) (ret := μ.2.2.2.1) (bytes := μ.2.1) (maxL := μ.2.2.1) ⟨hx.1, hx.2.1, hx.2.2.1, hx.2.2.2.1, hts⟩ hC ?_ ⟨Pz.blind, fun U hU hW => Pz.of hR hx.2.2.2.2.2.1 hU hW⟩ rfl hn (hl.1.trans hx.2.2.1) hst (lv_room (pc := pc) (m := xM x) (ls := la) (rest := st) (Nat.le_of_ble_eq_true hcat)) hd1 (by rw [hRm]; exact hcell)
  exact ⟨va_cnB na hts (gdTB w4) rfl rfl rfl (hx.2.2.2.2.2.1.2.1 _ w1) (hts _ w3) hdesc (by rw [hRm]; exact ⟨Nat.le_of_ble_eq_true hroom.1, Nat.le_of_ble_eq_true hroom.2⟩), hts _ w2, trivial⟩
theorem k_callI (hx : Cx x g cc own nL R) (hlk : lkI own index μ na) (hd : At cc pc (.invokespecial index) 3 pc') (hC : Ct g (xL x) μ mc ms (vR g i :: As) L n M post) (hn : As.length = na) (hst : st = As.reverse ++ vR g i :: rest) (hcat : Nat.ble (rest.map fun v => v.category).sum 8 = true) (hroom : Nat.ble (μ.2.2.2.2.1 + 1) R.frames = true ∧ Nat.ble (8 + (μ.2.2.1 + 11) + μ.2.2.2.2.2) R.locals = true) (hcell : cs + mc ≤ R.cells ∧ sl + ms ≤ R.slots)
    (kk : ∀ (r : Option Value) (L' : Lay) (n' : Nat) (M' : Mem), post r L' n' M' → K x g (cs + mc) (sl + ms) L' n' M' pc' ls (r.toList ++ rest)) : K x g cs sl L n M pc ls st := by
  intro H locs la hR hS hl
  obtain ⟨hd1, hd2⟩ := hd
  subst hd2
  obtain ⟨w1, w2, w3, w4, hdesc, hnm, hret⟩ := hlk
  have hts := hx.2.2.2.2.1
  have hRm : xR x = R := hx.2.2.2.2.2.2
  refine k_run (a := (vR g i :: As).toArray) hx hS hl ?_ kk
  obtain ⟨y, by', mL, rt, fr, lo⟩ := μ
  dsimp only at hret
  subst hret
  refine va_runI (own := own) (cc := cc) (nL := nL) (Ts := TB) (n := na) (bytes := by') (maxL := mL) ⟨hx.1, hx.2.1, hx.2.2.1, hx.2.2.2.1, hts⟩ hC ?_ ⟨Pz.blind, fun U hU hW => Pz.of hR hx.2.2.2.2.2.1 hU hW⟩ rfl hn (hl.1.trans hx.2.2.1) hst (lv_room (pc := pc) (m := xM x) (ls := la) (rest := st) (Nat.le_of_ble_eq_true hcat)) hd1 (by rw [hRm]; exact hcell)
  exact cwI na hts (gdTB w4) rfl rfl rfl (hts _ w3) (hts _ w1) (hts _ w2) hnm hdesc (by rw [hRm]; exact ⟨Nat.le_of_ble_eq_true hroom.1, Nat.le_of_ble_eq_true hroom.2⟩)
end CALLS
end
section
theorem dX0_init_0 : At cX0_init 0 (.aload_n 0) 1 1 := ⟨by decide +kernel, rfl⟩
theorem dX0_init_1 : At cX0_init 1 (.invokespecial 3) 3 4 := ⟨by decide +kernel, rfl⟩
theorem dX0_init_4 : At cX0_init 4 (.aload_n 0) 1 5 := ⟨by decide +kernel, rfl⟩
theorem dX0_init_5 : At cX0_init 5 (.bipush 60) 2 7 := ⟨by decide +kernel, rfl⟩
theorem dX0_init_7 : At cX0_init 7 (.newarray .int) 2 9 := ⟨by decide +kernel, rfl⟩
theorem dX0_init_9 : At cX0_init 9 (.putfield 9) 3 12 := ⟨by decide +kernel, rfl⟩
theorem dX0_init_12 : At cX0_init 12 (.aload_n 0) 1 13 := ⟨by decide +kernel, rfl⟩
theorem dX0_init_13 : At cX0_init 13 (.iconst 0) 1 14 := ⟨by decide +kernel, rfl⟩
theorem dX0_init_14 : At cX0_init 14 (.putfield 15) 3 17 := ⟨by decide +kernel, rfl⟩
theorem dX0_init_17 : At cX0_init 17 (.aload_n 0) 1 18 := ⟨by decide +kernel, rfl⟩
theorem dX0_init_18 : At cX0_init 18 (.iconst 4) 1 19 := ⟨by decide +kernel, rfl⟩
theorem dX0_init_19 : At cX0_init 19 (.newarray .int) 2 21 := ⟨by decide +kernel, rfl⟩
theorem dX0_init_21 : At cX0_init 21 (.putfield 19) 3 24 := ⟨by decide +kernel, rfl⟩
theorem dX0_init_24 : At cX0_init 24 (.aload_n 0) 1 25 := ⟨by decide +kernel, rfl⟩
theorem dX0_init_25 : At cX0_init 25 (.iconst 4) 1 26 := ⟨by decide +kernel, rfl⟩
theorem dX0_init_26 : At cX0_init 26 (.newarray .int) 2 28 := ⟨by decide +kernel, rfl⟩
theorem dX0_init_28 : At cX0_init 28 (.putfield 22) 3 31 := ⟨by decide +kernel, rfl⟩
theorem dX0_init_31 : At cX0_init 31 (.aload_n 0) 1 32 := ⟨by decide +kernel, rfl⟩
theorem dX0_init_32 : At cX0_init 32 (.iconst 4) 1 33 := ⟨by decide +kernel, rfl⟩
theorem dX0_init_33 : At cX0_init 33 (.newarray .int) 2 35 := ⟨by decide +kernel, rfl⟩
theorem dX0_init_35 : At cX0_init 35 (.putfield 25) 3 38 := ⟨by decide +kernel, rfl⟩
theorem dX0_init_38 : At cX0_init 38 (.aload_n 0) 1 39 := ⟨by decide +kernel, rfl⟩
theorem dX0_init_39 : At cX0_init 39 (.iconst 0) 1 40 := ⟨by decide +kernel, rfl⟩
theorem dX0_init_40 : At cX0_init 40 (.putfield 28) 3 43 := ⟨by decide +kernel, rfl⟩
theorem dX0_init_43 : At cX0_init 43 (.return_) 1 44 := ⟨by decide +kernel, rfl⟩
theorem dX1_init_0 : At cX1_init 0 (.aload_n 0) 1 1 := ⟨by decide +kernel, rfl⟩
theorem dX1_init_1 : At cX1_init 1 (.invokespecial 3) 3 4 := ⟨by decide +kernel, rfl⟩
theorem dX1_init_4 : At cX1_init 4 (.aload_n 0) 1 5 := ⟨by decide +kernel, rfl⟩
theorem dX1_init_5 : At cX1_init 5 (.bipush 6) 2 7 := ⟨by decide +kernel, rfl⟩
theorem dX1_init_7 : At cX1_init 7 (.anewarray 9) 3 10 := ⟨by decide +kernel, rfl⟩
theorem dX1_init_10 : At cX1_init 10 (.putfield 11) 3 13 := ⟨by decide +kernel, rfl⟩
theorem dX1_init_13 : At cX1_init 13 (.iconst 0) 1 14 := ⟨by decide +kernel, rfl⟩
theorem dX1_init_14 : At cX1_init 14 (.istore_n 1) 1 15 := ⟨by decide +kernel, rfl⟩
theorem dX1_init_15 : At cX1_init 15 (.iload_n 1) 1 16 := ⟨by decide +kernel, rfl⟩
theorem dX1_init_16 : At cX1_init 16 (.bipush 6) 2 18 := ⟨by decide +kernel, rfl⟩
theorem dX1_init_18 : Br cX1_init 18 (.if_icmp .ge) 21 40 := ⟨(22), by decide +kernel, rfl, by decide⟩
theorem dX1_init_21 : At cX1_init 21 (.aload_n 0) 1 22 := ⟨by decide +kernel, rfl⟩
theorem dX1_init_22 : At cX1_init 22 (.getfield 11) 3 25 := ⟨by decide +kernel, rfl⟩
theorem dX1_init_25 : At cX1_init 25 (.iload_n 1) 1 26 := ⟨by decide +kernel, rfl⟩
theorem dX1_init_26 : At cX1_init 26 (.new 9) 3 29 := ⟨by decide +kernel, rfl⟩
theorem dX1_init_29 : At cX1_init 29 (.dup) 1 30 := ⟨by decide +kernel, rfl⟩
theorem dX1_init_30 : At cX1_init 30 (.invokespecial 17) 3 33 := ⟨by decide +kernel, rfl⟩
theorem dX1_init_33 : At cX1_init 33 (.aastore) 1 34 := ⟨by decide +kernel, rfl⟩
theorem dX1_init_34 : At cX1_init 34 (.iinc 1 1) 3 37 := ⟨by decide +kernel, rfl⟩
theorem dX1_init_37 : Br cX1_init 37 .goto 40 15 := ⟨(-22), by decide +kernel, rfl, by decide⟩
theorem dX1_init_40 : At cX1_init 40 (.aload_n 0) 1 41 := ⟨by decide +kernel, rfl⟩
theorem dX1_init_41 : At cX1_init 41 (.iconst 0) 1 42 := ⟨by decide +kernel, rfl⟩
theorem dX1_init_42 : At cX1_init 42 (.putfield 18) 3 45 := ⟨by decide +kernel, rfl⟩
theorem dX1_init_45 : At cX1_init 45 (.aload_n 0) 1 46 := ⟨by decide +kernel, rfl⟩
theorem dX1_init_46 : At cX1_init 46 (.iconst 0) 1 47 := ⟨by decide +kernel, rfl⟩
theorem dX1_init_47 : At cX1_init 47 (.putfield 22) 3 50 := ⟨by decide +kernel, rfl⟩
theorem dX1_init_50 : At cX1_init 50 (.return_) 1 51 := ⟨by decide +kernel, rfl⟩
theorem dX1_remember_0 : At cX1_remember 0 (.aload_n 0) 1 1 := ⟨by decide +kernel, rfl⟩
theorem dX1_remember_1 : At cX1_remember 1 (.getfield 11) 3 4 := ⟨by decide +kernel, rfl⟩
theorem dX1_remember_4 : At cX1_remember 4 (.aload_n 0) 1 5 := ⟨by decide +kernel, rfl⟩
theorem dX1_remember_5 : At cX1_remember 5 (.getfield 18) 3 8 := ⟨by decide +kernel, rfl⟩
theorem dX1_remember_8 : At cX1_remember 8 (.aaload) 1 9 := ⟨by decide +kernel, rfl⟩
theorem dX1_remember_9 : At cX1_remember 9 (.aload_n 1) 1 10 := ⟨by decide +kernel, rfl⟩
theorem dX1_remember_10 : At cX1_remember 10 (.invokevirtual 25) 3 13 := ⟨by decide +kernel, rfl⟩
theorem dX1_remember_13 : At cX1_remember 13 (.aload_n 0) 1 14 := ⟨by decide +kernel, rfl⟩
theorem dX1_remember_14 : At cX1_remember 14 (.aload_n 0) 1 15 := ⟨by decide +kernel, rfl⟩
theorem dX1_remember_15 : At cX1_remember 15 (.getfield 18) 3 18 := ⟨by decide +kernel, rfl⟩
theorem dX1_remember_18 : At cX1_remember 18 (.iconst 1) 1 19 := ⟨by decide +kernel, rfl⟩
theorem dX1_remember_19 : At cX1_remember 19 (.iadd) 1 20 := ⟨by decide +kernel, rfl⟩
theorem dX1_remember_20 : At cX1_remember 20 (.bipush 6) 2 22 := ⟨by decide +kernel, rfl⟩
theorem dX1_remember_22 : At cX1_remember 22 (.irem) 1 23 := ⟨by decide +kernel, rfl⟩
theorem dX1_remember_23 : At cX1_remember 23 (.putfield 18) 3 26 := ⟨by decide +kernel, rfl⟩
theorem dX1_remember_26 : At cX1_remember 26 (.aload_n 0) 1 27 := ⟨by decide +kernel, rfl⟩
theorem dX1_remember_27 : At cX1_remember 27 (.aload_n 0) 1 28 := ⟨by decide +kernel, rfl⟩
theorem dX1_remember_28 : At cX1_remember 28 (.getfield 22) 3 31 := ⟨by decide +kernel, rfl⟩
theorem dX1_remember_31 : At cX1_remember 31 (.iconst 1) 1 32 := ⟨by decide +kernel, rfl⟩
theorem dX1_remember_32 : At cX1_remember 32 (.iadd) 1 33 := ⟨by decide +kernel, rfl⟩
theorem dX1_remember_33 : At cX1_remember 33 (.bipush 6) 2 35 := ⟨by decide +kernel, rfl⟩
theorem dX1_remember_35 : At cX1_remember 35 (.invokestatic 29) 3 38 := ⟨by decide +kernel, rfl⟩
theorem dX1_remember_38 : At cX1_remember 38 (.putfield 22) 3 41 := ⟨by decide +kernel, rfl⟩
theorem dX1_remember_41 : At cX1_remember 41 (.return_) 1 42 := ⟨by decide +kernel, rfl⟩
theorem dX2_init_0 : At cX2_init 0 (.aload_n 0) 1 1 := ⟨by decide +kernel, rfl⟩
theorem dX2_init_1 : At cX2_init 1 (.invokespecial 3) 3 4 := ⟨by decide +kernel, rfl⟩
theorem dX2_init_4 : At cX2_init 4 (.aload_n 0) 1 5 := ⟨by decide +kernel, rfl⟩
theorem dX2_init_5 : At cX2_init 5 (.sipush 7260) 3 8 := ⟨by decide +kernel, rfl⟩
theorem dX2_init_8 : At cX2_init 8 (.newarray .int) 2 10 := ⟨by decide +kernel, rfl⟩
theorem dX2_init_10 : At cX2_init 10 (.putfield 9) 3 13 := ⟨by decide +kernel, rfl⟩
theorem dX2_init_13 : At cX2_init 13 (.aload_n 0) 1 14 := ⟨by decide +kernel, rfl⟩
theorem dX2_init_14 : At cX2_init 14 (.bipush 120) 2 16 := ⟨by decide +kernel, rfl⟩
theorem dX2_init_16 : At cX2_init 16 (.newarray .int) 2 18 := ⟨by decide +kernel, rfl⟩
theorem dX2_init_18 : At cX2_init 18 (.putfield 15) 3 21 := ⟨by decide +kernel, rfl⟩
theorem dX2_init_21 : At cX2_init 21 (.aload_n 0) 1 22 := ⟨by decide +kernel, rfl⟩
theorem dX2_init_22 : At cX2_init 22 (.bipush 120) 2 24 := ⟨by decide +kernel, rfl⟩
theorem dX2_init_24 : At cX2_init 24 (.newarray .int) 2 26 := ⟨by decide +kernel, rfl⟩
theorem dX2_init_26 : At cX2_init 26 (.putfield 18) 3 29 := ⟨by decide +kernel, rfl⟩
theorem dX2_init_29 : At cX2_init 29 (.aload_n 0) 1 30 := ⟨by decide +kernel, rfl⟩
theorem dX2_init_30 : At cX2_init 30 (.bipush 12) 2 32 := ⟨by decide +kernel, rfl⟩
theorem dX2_init_32 : At cX2_init 32 (.newarray .int) 2 34 := ⟨by decide +kernel, rfl⟩
theorem dX2_init_34 : At cX2_init 34 (.putfield 21) 3 37 := ⟨by decide +kernel, rfl⟩
theorem dX2_init_37 : At cX2_init 37 (.return_) 1 38 := ⟨by decide +kernel, rfl⟩
theorem dX3_init_0 : At cX3_init 0 (.aload_n 0) 1 1 := ⟨by decide +kernel, rfl⟩
theorem dX3_init_1 : At cX3_init 1 (.invokespecial 3) 3 4 := ⟨by decide +kernel, rfl⟩
theorem dX3_init_4 : At cX3_init 4 (.aload_n 0) 1 5 := ⟨by decide +kernel, rfl⟩
theorem dX3_init_5 : At cX3_init 5 (.bipush 6) 2 7 := ⟨by decide +kernel, rfl⟩
theorem dX3_init_7 : At cX3_init 7 (.newarray .int) 2 9 := ⟨by decide +kernel, rfl⟩
theorem dX3_init_9 : At cX3_init 9 (.putfield 9) 3 12 := ⟨by decide +kernel, rfl⟩
theorem dX3_init_12 : At cX3_init 12 (.iconst 0) 1 13 := ⟨by decide +kernel, rfl⟩
theorem dX3_init_13 : At cX3_init 13 (.istore_n 1) 1 14 := ⟨by decide +kernel, rfl⟩
theorem dX3_init_14 : At cX3_init 14 (.iload_n 1) 1 15 := ⟨by decide +kernel, rfl⟩
theorem dX3_init_15 : At cX3_init 15 (.bipush 6) 2 17 := ⟨by decide +kernel, rfl⟩
theorem dX3_init_17 : Br cX3_init 17 (.if_icmp .ge) 20 33 := ⟨(16), by decide +kernel, rfl, by decide⟩
theorem dX3_init_20 : At cX3_init 20 (.aload_n 0) 1 21 := ⟨by decide +kernel, rfl⟩
theorem dX3_init_21 : At cX3_init 21 (.getfield 9) 3 24 := ⟨by decide +kernel, rfl⟩
theorem dX3_init_24 : At cX3_init 24 (.iload_n 1) 1 25 := ⟨by decide +kernel, rfl⟩
theorem dX3_init_25 : At cX3_init 25 (.iconst 1) 1 26 := ⟨by decide +kernel, rfl⟩
theorem dX3_init_26 : At cX3_init 26 (.iastore) 1 27 := ⟨by decide +kernel, rfl⟩
theorem dX3_init_27 : At cX3_init 27 (.iinc 1 1) 3 30 := ⟨by decide +kernel, rfl⟩
theorem dX3_init_30 : Br cX3_init 30 .goto 33 14 := ⟨(-16), by decide +kernel, rfl, by decide⟩
theorem dX3_init_33 : At cX3_init 33 (.aload_n 0) 1 34 := ⟨by decide +kernel, rfl⟩
theorem dX3_init_34 : At cX3_init 34 (.iconst 4) 1 35 := ⟨by decide +kernel, rfl⟩
theorem dX3_init_35 : At cX3_init 35 (.anewarray 15) 3 38 := ⟨by decide +kernel, rfl⟩
theorem dX3_init_38 : At cX3_init 38 (.putfield 17) 3 41 := ⟨by decide +kernel, rfl⟩
theorem dX3_init_41 : At cX3_init 41 (.iconst 0) 1 42 := ⟨by decide +kernel, rfl⟩
theorem dX3_init_42 : At cX3_init 42 (.istore_n 1) 1 43 := ⟨by decide +kernel, rfl⟩
theorem dX3_init_43 : At cX3_init 43 (.iload_n 1) 1 44 := ⟨by decide +kernel, rfl⟩
theorem dX3_init_44 : At cX3_init 44 (.iconst 4) 1 45 := ⟨by decide +kernel, rfl⟩
theorem dX3_init_45 : Br cX3_init 45 (.if_icmp .ge) 48 69 := ⟨(24), by decide +kernel, rfl, by decide⟩
theorem dX3_init_48 : At cX3_init 48 (.aload_n 0) 1 49 := ⟨by decide +kernel, rfl⟩
theorem dX3_init_49 : At cX3_init 49 (.getfield 17) 3 52 := ⟨by decide +kernel, rfl⟩
theorem dX3_init_52 : At cX3_init 52 (.iload_n 1) 1 53 := ⟨by decide +kernel, rfl⟩
theorem dX3_init_53 : At cX3_init 53 (.new 15) 3 56 := ⟨by decide +kernel, rfl⟩
theorem dX3_init_56 : At cX3_init 56 (.dup) 1 57 := ⟨by decide +kernel, rfl⟩
theorem dX3_init_57 : At cX3_init 57 (.bipush 120) 2 59 := ⟨by decide +kernel, rfl⟩
theorem dX3_init_59 : At cX3_init 59 (.invokespecial 21) 3 62 := ⟨by decide +kernel, rfl⟩
theorem dX3_init_62 : At cX3_init 62 (.aastore) 1 63 := ⟨by decide +kernel, rfl⟩
theorem dX3_init_63 : At cX3_init 63 (.iinc 1 1) 3 66 := ⟨by decide +kernel, rfl⟩
theorem dX3_init_66 : Br cX3_init 66 .goto 69 43 := ⟨(-23), by decide +kernel, rfl, by decide⟩
theorem dX3_init_69 : At cX3_init 69 (.return_) 1 70 := ⟨by decide +kernel, rfl⟩
theorem dX3_copyFrom_0 : At cX3_copyFrom 0 (.iconst 0) 1 1 := ⟨by decide +kernel, rfl⟩
theorem dX3_copyFrom_1 : At cX3_copyFrom 1 (.istore_n 2) 1 2 := ⟨by decide +kernel, rfl⟩
theorem dX3_copyFrom_2 : At cX3_copyFrom 2 (.iload_n 2) 1 3 := ⟨by decide +kernel, rfl⟩
theorem dX3_copyFrom_3 : At cX3_copyFrom 3 (.bipush 6) 2 5 := ⟨by decide +kernel, rfl⟩
theorem dX3_copyFrom_5 : Br cX3_copyFrom 5 (.if_icmp .ge) 8 26 := ⟨(21), by decide +kernel, rfl, by decide⟩
theorem dX3_copyFrom_8 : At cX3_copyFrom 8 (.aload_n 0) 1 9 := ⟨by decide +kernel, rfl⟩
theorem dX3_copyFrom_9 : At cX3_copyFrom 9 (.getfield 9) 3 12 := ⟨by decide +kernel, rfl⟩
theorem dX3_copyFrom_12 : At cX3_copyFrom 12 (.iload_n 2) 1 13 := ⟨by decide +kernel, rfl⟩
theorem dX3_copyFrom_13 : At cX3_copyFrom 13 (.aload_n 1) 1 14 := ⟨by decide +kernel, rfl⟩
theorem dX3_copyFrom_14 : At cX3_copyFrom 14 (.getfield 9) 3 17 := ⟨by decide +kernel, rfl⟩
theorem dX3_copyFrom_17 : At cX3_copyFrom 17 (.iload_n 2) 1 18 := ⟨by decide +kernel, rfl⟩
theorem dX3_copyFrom_18 : At cX3_copyFrom 18 (.iaload) 1 19 := ⟨by decide +kernel, rfl⟩
theorem dX3_copyFrom_19 : At cX3_copyFrom 19 (.iastore) 1 20 := ⟨by decide +kernel, rfl⟩
theorem dX3_copyFrom_20 : At cX3_copyFrom 20 (.iinc 2 1) 3 23 := ⟨by decide +kernel, rfl⟩
theorem dX3_copyFrom_23 : Br cX3_copyFrom 23 .goto 26 2 := ⟨(-21), by decide +kernel, rfl, by decide⟩
theorem dX3_copyFrom_26 : At cX3_copyFrom 26 (.iconst 0) 1 27 := ⟨by decide +kernel, rfl⟩
theorem dX3_copyFrom_27 : At cX3_copyFrom 27 (.istore_n 2) 1 28 := ⟨by decide +kernel, rfl⟩
theorem dX3_copyFrom_28 : At cX3_copyFrom 28 (.iload_n 2) 1 29 := ⟨by decide +kernel, rfl⟩
theorem dX3_copyFrom_29 : At cX3_copyFrom 29 (.iconst 4) 1 30 := ⟨by decide +kernel, rfl⟩
theorem dX3_copyFrom_30 : Br cX3_copyFrom 30 (.if_icmp .ge) 33 54 := ⟨(24), by decide +kernel, rfl, by decide⟩
theorem dX3_copyFrom_33 : At cX3_copyFrom 33 (.aload_n 0) 1 34 := ⟨by decide +kernel, rfl⟩
theorem dX3_copyFrom_34 : At cX3_copyFrom 34 (.getfield 17) 3 37 := ⟨by decide +kernel, rfl⟩
theorem dX3_copyFrom_37 : At cX3_copyFrom 37 (.iload_n 2) 1 38 := ⟨by decide +kernel, rfl⟩
theorem dX3_copyFrom_38 : At cX3_copyFrom 38 (.aaload) 1 39 := ⟨by decide +kernel, rfl⟩
theorem dX3_copyFrom_39 : At cX3_copyFrom 39 (.aload_n 1) 1 40 := ⟨by decide +kernel, rfl⟩
theorem dX3_copyFrom_40 : At cX3_copyFrom 40 (.getfield 17) 3 43 := ⟨by decide +kernel, rfl⟩
theorem dX3_copyFrom_43 : At cX3_copyFrom 43 (.iload_n 2) 1 44 := ⟨by decide +kernel, rfl⟩
theorem dX3_copyFrom_44 : At cX3_copyFrom 44 (.aaload) 1 45 := ⟨by decide +kernel, rfl⟩
theorem dX3_copyFrom_45 : At cX3_copyFrom 45 (.invokevirtual 24) 3 48 := ⟨by decide +kernel, rfl⟩
theorem dX3_copyFrom_48 : At cX3_copyFrom 48 (.iinc 2 1) 3 51 := ⟨by decide +kernel, rfl⟩
theorem dX3_copyFrom_51 : Br cX3_copyFrom 51 .goto 54 28 := ⟨(-23), by decide +kernel, rfl, by decide⟩
theorem dX3_copyFrom_54 : At cX3_copyFrom 54 (.return_) 1 55 := ⟨by decide +kernel, rfl⟩
theorem dX3_allCrossings_0 : At cX3_allCrossings 0 (.iconst 0) 1 1 := ⟨by decide +kernel, rfl⟩
theorem dX3_allCrossings_1 : At cX3_allCrossings 1 (.istore_n 1) 1 2 := ⟨by decide +kernel, rfl⟩
theorem dX3_allCrossings_2 : At cX3_allCrossings 2 (.iconst 0) 1 3 := ⟨by decide +kernel, rfl⟩
theorem dX3_allCrossings_3 : At cX3_allCrossings 3 (.istore_n 2) 1 4 := ⟨by decide +kernel, rfl⟩
theorem dX3_allCrossings_4 : At cX3_allCrossings 4 (.iload_n 2) 1 5 := ⟨by decide +kernel, rfl⟩
theorem dX3_allCrossings_5 : At cX3_allCrossings 5 (.iconst 4) 1 6 := ⟨by decide +kernel, rfl⟩
theorem dX3_allCrossings_6 : Br cX3_allCrossings 6 (.if_icmp .ge) 9 27 := ⟨(21), by decide +kernel, rfl, by decide⟩
theorem dX3_allCrossings_9 : At cX3_allCrossings 9 (.iload_n 1) 1 10 := ⟨by decide +kernel, rfl⟩
theorem dX3_allCrossings_10 : At cX3_allCrossings 10 (.aload_n 0) 1 11 := ⟨by decide +kernel, rfl⟩
theorem dX3_allCrossings_11 : At cX3_allCrossings 11 (.getfield 17) 3 14 := ⟨by decide +kernel, rfl⟩
theorem dX3_allCrossings_14 : At cX3_allCrossings 14 (.iload_n 2) 1 15 := ⟨by decide +kernel, rfl⟩
theorem dX3_allCrossings_15 : At cX3_allCrossings 15 (.aaload) 1 16 := ⟨by decide +kernel, rfl⟩
theorem dX3_allCrossings_16 : At cX3_allCrossings 16 (.getfield 28) 3 19 := ⟨by decide +kernel, rfl⟩
theorem dX3_allCrossings_19 : At cX3_allCrossings 19 (.iadd) 1 20 := ⟨by decide +kernel, rfl⟩
theorem dX3_allCrossings_20 : At cX3_allCrossings 20 (.istore_n 1) 1 21 := ⟨by decide +kernel, rfl⟩
theorem dX3_allCrossings_21 : At cX3_allCrossings 21 (.iinc 2 1) 3 24 := ⟨by decide +kernel, rfl⟩
theorem dX3_allCrossings_24 : Br cX3_allCrossings 24 .goto 27 4 := ⟨(-20), by decide +kernel, rfl, by decide⟩
theorem dX3_allCrossings_27 : At cX3_allCrossings 27 (.iload_n 1) 1 28 := ⟨by decide +kernel, rfl⟩
theorem dX3_allCrossings_28 : At cX3_allCrossings 28 (.ireturn) 1 29 := ⟨by decide +kernel, rfl⟩
theorem dX3_widthsAlong_0 : At cX3_widthsAlong 0 (.iconst 0) 1 1 := ⟨by decide +kernel, rfl⟩
theorem dX3_widthsAlong_1 : At cX3_widthsAlong 1 (.istore_n 2) 1 2 := ⟨by decide +kernel, rfl⟩
theorem dX3_widthsAlong_2 : At cX3_widthsAlong 2 (.iconst 0) 1 3 := ⟨by decide +kernel, rfl⟩
theorem dX3_widthsAlong_3 : At cX3_widthsAlong 3 (.istore_n 3) 1 4 := ⟨by decide +kernel, rfl⟩
theorem dX3_widthsAlong_4 : At cX3_widthsAlong 4 (.iload_n 3) 1 5 := ⟨by decide +kernel, rfl⟩
theorem dX3_widthsAlong_5 : At cX3_widthsAlong 5 (.aload_n 1) 1 6 := ⟨by decide +kernel, rfl⟩
theorem dX3_widthsAlong_6 : At cX3_widthsAlong 6 (.getfield 28) 3 9 := ⟨by decide +kernel, rfl⟩
theorem dX3_widthsAlong_9 : Br cX3_widthsAlong 9 (.if_icmp .ge) 12 50 := ⟨(41), by decide +kernel, rfl, by decide⟩
theorem dX3_widthsAlong_12 : At cX3_widthsAlong 12 (.aload_n 1) 1 13 := ⟨by decide +kernel, rfl⟩
theorem dX3_widthsAlong_13 : At cX3_widthsAlong 13 (.iload_n 3) 1 14 := ⟨by decide +kernel, rfl⟩
theorem dX3_widthsAlong_14 : At cX3_widthsAlong 14 (.invokevirtual 32) 3 17 := ⟨by decide +kernel, rfl⟩
theorem dX3_widthsAlong_17 : At cX3_widthsAlong 17 (.invokestatic 36) 3 20 := ⟨by decide +kernel, rfl⟩
theorem dX3_widthsAlong_20 : At cX3_widthsAlong 20 (.istore 4) 2 22 := ⟨by decide +kernel, rfl⟩
theorem dX3_widthsAlong_22 : At cX3_widthsAlong 22 (.iload_n 2) 1 23 := ⟨by decide +kernel, rfl⟩
theorem dX3_widthsAlong_23 : At cX3_widthsAlong 23 (.iload 4) 2 25 := ⟨by decide +kernel, rfl⟩
theorem dX3_widthsAlong_25 : At cX3_widthsAlong 25 (.invokestatic 39) 3 28 := ⟨by decide +kernel, rfl⟩
theorem dX3_widthsAlong_28 : Br cX3_widthsAlong 28 (.ifCond .eq) 31 41 := ⟨(13), by decide +kernel, rfl, by decide⟩
theorem dX3_widthsAlong_31 : At cX3_widthsAlong 31 (.aload_n 0) 1 32 := ⟨by decide +kernel, rfl⟩
theorem dX3_widthsAlong_32 : At cX3_widthsAlong 32 (.getfield 9) 3 35 := ⟨by decide +kernel, rfl⟩
theorem dX3_widthsAlong_35 : At cX3_widthsAlong 35 (.iload 4) 2 37 := ⟨by decide +kernel, rfl⟩
theorem dX3_widthsAlong_37 : At cX3_widthsAlong 37 (.iaload) 1 38 := ⟨by decide +kernel, rfl⟩
theorem dX3_widthsAlong_38 : Br cX3_widthsAlong 38 .goto 41 42 := ⟨(4), by decide +kernel, rfl, by decide⟩
theorem dX3_widthsAlong_41 : At cX3_widthsAlong 41 (.iconst 0) 1 42 := ⟨by decide +kernel, rfl⟩
theorem dX3_widthsAlong_42 : At cX3_widthsAlong 42 (.iadd) 1 43 := ⟨by decide +kernel, rfl⟩
theorem dX3_widthsAlong_43 : At cX3_widthsAlong 43 (.istore_n 2) 1 44 := ⟨by decide +kernel, rfl⟩
theorem dX3_widthsAlong_44 : At cX3_widthsAlong 44 (.iinc 3 1) 3 47 := ⟨by decide +kernel, rfl⟩
theorem dX3_widthsAlong_47 : Br cX3_widthsAlong 47 .goto 50 4 := ⟨(-43), by decide +kernel, rfl, by decide⟩
theorem dX3_widthsAlong_50 : At cX3_widthsAlong 50 (.iload_n 2) 1 51 := ⟨by decide +kernel, rfl⟩
theorem dX3_widthsAlong_51 : At cX3_widthsAlong 51 (.ireturn) 1 52 := ⟨by decide +kernel, rfl⟩
theorem dX4_init_0 : At cX4_init 0 (.aload_n 0) 1 1 := ⟨by decide +kernel, rfl⟩
theorem dX4_init_1 : At cX4_init 1 (.invokespecial 3) 3 4 := ⟨by decide +kernel, rfl⟩
theorem dX4_init_4 : At cX4_init 4 (.aload_n 0) 1 5 := ⟨by decide +kernel, rfl⟩
theorem dX4_init_5 : At cX4_init 5 (.iload_n 1) 1 6 := ⟨by decide +kernel, rfl⟩
theorem dX4_init_6 : At cX4_init 6 (.iconst 0) 1 7 := ⟨by decide +kernel, rfl⟩
theorem dX4_init_7 : At cX4_init 7 (.invokestatic 9) 3 10 := ⟨by decide +kernel, rfl⟩
theorem dX4_init_10 : At cX4_init 10 (.newarray .int) 2 12 := ⟨by decide +kernel, rfl⟩
theorem dX4_init_12 : At cX4_init 12 (.putfield 15) 3 15 := ⟨by decide +kernel, rfl⟩
theorem dX4_init_15 : At cX4_init 15 (.aload_n 0) 1 16 := ⟨by decide +kernel, rfl⟩
theorem dX4_init_16 : At cX4_init 16 (.iconst 0) 1 17 := ⟨by decide +kernel, rfl⟩
theorem dX4_init_17 : At cX4_init 17 (.putfield 21) 3 20 := ⟨by decide +kernel, rfl⟩
theorem dX4_init_20 : At cX4_init 20 (.return_) 1 21 := ⟨by decide +kernel, rfl⟩
theorem dX4_at_0 : At cX4_at 0 (.iload_n 1) 1 1 := ⟨by decide +kernel, rfl⟩
theorem dX4_at_1 : Br cX4_at 1 (.ifCond .lt) 4 21 := ⟨(20), by decide +kernel, rfl, by decide⟩
theorem dX4_at_4 : At cX4_at 4 (.iload_n 1) 1 5 := ⟨by decide +kernel, rfl⟩
theorem dX4_at_5 : At cX4_at 5 (.aload_n 0) 1 6 := ⟨by decide +kernel, rfl⟩
theorem dX4_at_6 : At cX4_at 6 (.getfield 21) 3 9 := ⟨by decide +kernel, rfl⟩
theorem dX4_at_9 : Br cX4_at 9 (.if_icmp .ge) 12 21 := ⟨(12), by decide +kernel, rfl, by decide⟩
theorem dX4_at_12 : At cX4_at 12 (.aload_n 0) 1 13 := ⟨by decide +kernel, rfl⟩
theorem dX4_at_13 : At cX4_at 13 (.getfield 15) 3 16 := ⟨by decide +kernel, rfl⟩
theorem dX4_at_16 : At cX4_at 16 (.iload_n 1) 1 17 := ⟨by decide +kernel, rfl⟩
theorem dX4_at_17 : At cX4_at 17 (.iaload) 1 18 := ⟨by decide +kernel, rfl⟩
theorem dX4_at_18 : Br cX4_at 18 .goto 21 22 := ⟨(4), by decide +kernel, rfl, by decide⟩
theorem dX4_at_21 : At cX4_at 21 (.iconst (-1)) 1 22 := ⟨by decide +kernel, rfl⟩
theorem dX4_at_22 : At cX4_at 22 (.ireturn) 1 23 := ⟨by decide +kernel, rfl⟩
theorem dX4_add_0 : At cX4_add 0 (.aload_n 0) 1 1 := ⟨by decide +kernel, rfl⟩
theorem dX4_add_1 : At cX4_add 1 (.getfield 21) 3 4 := ⟨by decide +kernel, rfl⟩
theorem dX4_add_4 : At cX4_add 4 (.aload_n 0) 1 5 := ⟨by decide +kernel, rfl⟩
theorem dX4_add_5 : At cX4_add 5 (.getfield 15) 3 8 := ⟨by decide +kernel, rfl⟩
theorem dX4_add_8 : At cX4_add 8 (.arraylength) 1 9 := ⟨by decide +kernel, rfl⟩
theorem dX4_add_9 : Br cX4_add 9 (.if_icmp .lt) 12 14 := ⟨(5), by decide +kernel, rfl, by decide⟩
theorem dX4_add_12 : At cX4_add 12 (.iconst 0) 1 13 := ⟨by decide +kernel, rfl⟩
theorem dX4_add_13 : At cX4_add 13 (.ireturn) 1 14 := ⟨by decide +kernel, rfl⟩
theorem dX4_add_14 : At cX4_add 14 (.aload_n 0) 1 15 := ⟨by decide +kernel, rfl⟩
theorem dX4_add_15 : At cX4_add 15 (.getfield 15) 3 18 := ⟨by decide +kernel, rfl⟩
theorem dX4_add_18 : At cX4_add 18 (.aload_n 0) 1 19 := ⟨by decide +kernel, rfl⟩
theorem dX4_add_19 : At cX4_add 19 (.getfield 21) 3 22 := ⟨by decide +kernel, rfl⟩
theorem dX4_add_22 : At cX4_add 22 (.iload_n 1) 1 23 := ⟨by decide +kernel, rfl⟩
theorem dX4_add_23 : At cX4_add 23 (.iastore) 1 24 := ⟨by decide +kernel, rfl⟩
theorem dX4_add_24 : At cX4_add 24 (.aload_n 0) 1 25 := ⟨by decide +kernel, rfl⟩
theorem dX4_add_25 : At cX4_add 25 (.dup) 1 26 := ⟨by decide +kernel, rfl⟩
theorem dX4_add_26 : At cX4_add 26 (.getfield 21) 3 29 := ⟨by decide +kernel, rfl⟩
theorem dX4_add_29 : At cX4_add 29 (.iconst 1) 1 30 := ⟨by decide +kernel, rfl⟩
theorem dX4_add_30 : At cX4_add 30 (.iadd) 1 31 := ⟨by decide +kernel, rfl⟩
theorem dX4_add_31 : At cX4_add 31 (.putfield 21) 3 34 := ⟨by decide +kernel, rfl⟩
theorem dX4_add_34 : At cX4_add 34 (.iconst 1) 1 35 := ⟨by decide +kernel, rfl⟩
theorem dX4_add_35 : At cX4_add 35 (.ireturn) 1 36 := ⟨by decide +kernel, rfl⟩
theorem dX4_addPulled_0 : At cX4_addPulled 0 (.aload_n 0) 1 1 := ⟨by decide +kernel, rfl⟩
theorem dX4_addPulled_1 : At cX4_addPulled 1 (.getfield 21) 3 4 := ⟨by decide +kernel, rfl⟩
theorem dX4_addPulled_4 : Br cX4_addPulled 4 (.ifCond .le) 7 37 := ⟨(33), by decide +kernel, rfl, by decide⟩
theorem dX4_addPulled_7 : At cX4_addPulled 7 (.aload_n 0) 1 8 := ⟨by decide +kernel, rfl⟩
theorem dX4_addPulled_8 : At cX4_addPulled 8 (.getfield 15) 3 11 := ⟨by decide +kernel, rfl⟩
theorem dX4_addPulled_11 : At cX4_addPulled 11 (.aload_n 0) 1 12 := ⟨by decide +kernel, rfl⟩
theorem dX4_addPulled_12 : At cX4_addPulled 12 (.getfield 21) 3 15 := ⟨by decide +kernel, rfl⟩
theorem dX4_addPulled_15 : At cX4_addPulled 15 (.iconst 1) 1 16 := ⟨by decide +kernel, rfl⟩
theorem dX4_addPulled_16 : At cX4_addPulled 16 (.isub) 1 17 := ⟨by decide +kernel, rfl⟩
theorem dX4_addPulled_17 : At cX4_addPulled 17 (.iaload) 1 18 := ⟨by decide +kernel, rfl⟩
theorem dX4_addPulled_18 : At cX4_addPulled 18 (.iload_n 1) 1 19 := ⟨by decide +kernel, rfl⟩
theorem dX4_addPulled_19 : At cX4_addPulled 19 (.invokestatic 25) 3 22 := ⟨by decide +kernel, rfl⟩
theorem dX4_addPulled_22 : Br cX4_addPulled 22 (.if_icmp .ne) 25 37 := ⟨(15), by decide +kernel, rfl, by decide⟩
theorem dX4_addPulled_25 : At cX4_addPulled 25 (.aload_n 0) 1 26 := ⟨by decide +kernel, rfl⟩
theorem dX4_addPulled_26 : At cX4_addPulled 26 (.dup) 1 27 := ⟨by decide +kernel, rfl⟩
theorem dX4_addPulled_27 : At cX4_addPulled 27 (.getfield 21) 3 30 := ⟨by decide +kernel, rfl⟩
theorem dX4_addPulled_30 : At cX4_addPulled 30 (.iconst 1) 1 31 := ⟨by decide +kernel, rfl⟩
theorem dX4_addPulled_31 : At cX4_addPulled 31 (.isub) 1 32 := ⟨by decide +kernel, rfl⟩
theorem dX4_addPulled_32 : At cX4_addPulled 32 (.putfield 21) 3 35 := ⟨by decide +kernel, rfl⟩
theorem dX4_addPulled_35 : At cX4_addPulled 35 (.iconst 1) 1 36 := ⟨by decide +kernel, rfl⟩
theorem dX4_addPulled_36 : At cX4_addPulled 36 (.ireturn) 1 37 := ⟨by decide +kernel, rfl⟩
theorem dX4_addPulled_37 : At cX4_addPulled 37 (.aload_n 0) 1 38 := ⟨by decide +kernel, rfl⟩
theorem dX4_addPulled_38 : At cX4_addPulled 38 (.iload_n 1) 1 39 := ⟨by decide +kernel, rfl⟩
theorem dX4_addPulled_39 : At cX4_addPulled 39 (.invokevirtual 29) 3 42 := ⟨by decide +kernel, rfl⟩
theorem dX4_addPulled_42 : At cX4_addPulled 42 (.ireturn) 1 43 := ⟨by decide +kernel, rfl⟩
theorem dX4_clear_0 : At cX4_clear 0 (.aload_n 0) 1 1 := ⟨by decide +kernel, rfl⟩
theorem dX4_clear_1 : At cX4_clear 1 (.iconst 0) 1 2 := ⟨by decide +kernel, rfl⟩
theorem dX4_clear_2 : At cX4_clear 2 (.putfield 21) 3 5 := ⟨by decide +kernel, rfl⟩
theorem dX4_clear_5 : At cX4_clear 5 (.return_) 1 6 := ⟨by decide +kernel, rfl⟩
theorem dX4_dropLast_0 : At cX4_dropLast 0 (.aload_n 0) 1 1 := ⟨by decide +kernel, rfl⟩
theorem dX4_dropLast_1 : At cX4_dropLast 1 (.iconst 0) 1 2 := ⟨by decide +kernel, rfl⟩
theorem dX4_dropLast_2 : At cX4_dropLast 2 (.aload_n 0) 1 3 := ⟨by decide +kernel, rfl⟩
theorem dX4_dropLast_3 : At cX4_dropLast 3 (.getfield 21) 3 6 := ⟨by decide +kernel, rfl⟩
theorem dX4_dropLast_6 : At cX4_dropLast 6 (.iload_n 1) 1 7 := ⟨by decide +kernel, rfl⟩
theorem dX4_dropLast_7 : At cX4_dropLast 7 (.isub) 1 8 := ⟨by decide +kernel, rfl⟩
theorem dX4_dropLast_8 : At cX4_dropLast 8 (.invokestatic 9) 3 11 := ⟨by decide +kernel, rfl⟩
theorem dX4_dropLast_11 : At cX4_dropLast 11 (.putfield 21) 3 14 := ⟨by decide +kernel, rfl⟩
theorem dX4_dropLast_14 : At cX4_dropLast 14 (.return_) 1 15 := ⟨by decide +kernel, rfl⟩
theorem dX4_copyFrom_0 : At cX4_copyFrom 0 (.aload_n 0) 1 1 := ⟨by decide +kernel, rfl⟩
theorem dX4_copyFrom_1 : At cX4_copyFrom 1 (.iconst 0) 1 2 := ⟨by decide +kernel, rfl⟩
theorem dX4_copyFrom_2 : At cX4_copyFrom 2 (.putfield 21) 3 5 := ⟨by decide +kernel, rfl⟩
theorem dX4_copyFrom_5 : At cX4_copyFrom 5 (.aload_n 0) 1 6 := ⟨by decide +kernel, rfl⟩
theorem dX4_copyFrom_6 : At cX4_copyFrom 6 (.aload_n 1) 1 7 := ⟨by decide +kernel, rfl⟩
theorem dX4_copyFrom_7 : At cX4_copyFrom 7 (.invokevirtual 33) 3 10 := ⟨by decide +kernel, rfl⟩
theorem dX4_copyFrom_10 : At cX4_copyFrom 10 (.return_) 1 11 := ⟨by decide +kernel, rfl⟩
theorem dX4_addWord_0 : At cX4_addWord 0 (.aload_n 1) 1 1 := ⟨by decide +kernel, rfl⟩
theorem dX4_addWord_1 : At cX4_addWord 1 (.getfield 21) 3 4 := ⟨by decide +kernel, rfl⟩
theorem dX4_addWord_4 : At cX4_addWord 4 (.istore_n 2) 1 5 := ⟨by decide +kernel, rfl⟩
theorem dX4_addWord_5 : At cX4_addWord 5 (.iconst 0) 1 6 := ⟨by decide +kernel, rfl⟩
theorem dX4_addWord_6 : At cX4_addWord 6 (.istore_n 3) 1 7 := ⟨by decide +kernel, rfl⟩
theorem dX4_addWord_7 : At cX4_addWord 7 (.iload_n 3) 1 8 := ⟨by decide +kernel, rfl⟩
theorem dX4_addWord_8 : At cX4_addWord 8 (.iload_n 2) 1 9 := ⟨by decide +kernel, rfl⟩
theorem dX4_addWord_9 : Br cX4_addWord 9 (.if_icmp .ge) 12 28 := ⟨(19), by decide +kernel, rfl, by decide⟩
theorem dX4_addWord_12 : At cX4_addWord 12 (.aload_n 0) 1 13 := ⟨by decide +kernel, rfl⟩
theorem dX4_addWord_13 : At cX4_addWord 13 (.aload_n 1) 1 14 := ⟨by decide +kernel, rfl⟩
theorem dX4_addWord_14 : At cX4_addWord 14 (.iload_n 3) 1 15 := ⟨by decide +kernel, rfl⟩
theorem dX4_addWord_15 : At cX4_addWord 15 (.invokevirtual 37) 3 18 := ⟨by decide +kernel, rfl⟩
theorem dX4_addWord_18 : At cX4_addWord 18 (.invokevirtual 29) 3 21 := ⟨by decide +kernel, rfl⟩
theorem dX4_addWord_21 : At cX4_addWord 21 (.pop) 1 22 := ⟨by decide +kernel, rfl⟩
theorem dX4_addWord_22 : At cX4_addWord 22 (.iinc 3 1) 3 25 := ⟨by decide +kernel, rfl⟩
theorem dX4_addWord_25 : Br cX4_addWord 25 .goto 28 7 := ⟨(-18), by decide +kernel, rfl, by decide⟩
theorem dX4_addWord_28 : At cX4_addWord 28 (.return_) 1 29 := ⟨by decide +kernel, rfl⟩
theorem dX4_addTurned_0 : At cX4_addTurned 0 (.aload_n 0) 1 1 := ⟨by decide +kernel, rfl⟩
theorem dX4_addTurned_1 : At cX4_addTurned 1 (.aload_n 1) 1 2 := ⟨by decide +kernel, rfl⟩
theorem dX4_addTurned_2 : At cX4_addTurned 2 (.iconst 0) 1 3 := ⟨by decide +kernel, rfl⟩
theorem dX4_addTurned_3 : At cX4_addTurned 3 (.aload_n 1) 1 4 := ⟨by decide +kernel, rfl⟩
theorem dX4_addTurned_4 : At cX4_addTurned 4 (.getfield 21) 3 7 := ⟨by decide +kernel, rfl⟩
theorem dX4_addTurned_7 : At cX4_addTurned 7 (.invokevirtual 40) 3 10 := ⟨by decide +kernel, rfl⟩
theorem dX4_addTurned_10 : At cX4_addTurned 10 (.pop) 1 11 := ⟨by decide +kernel, rfl⟩
theorem dX4_addTurned_11 : At cX4_addTurned 11 (.return_) 1 12 := ⟨by decide +kernel, rfl⟩
theorem dX4_addTurnedPart_0 : At cX4_addTurnedPart 0 (.iload_n 3) 1 1 := ⟨by decide +kernel, rfl⟩
theorem dX4_addTurnedPart_1 : At cX4_addTurnedPart 1 (.iconst 1) 1 2 := ⟨by decide +kernel, rfl⟩
theorem dX4_addTurnedPart_2 : At cX4_addTurnedPart 2 (.isub) 1 3 := ⟨by decide +kernel, rfl⟩
theorem dX4_addTurnedPart_3 : At cX4_addTurnedPart 3 (.istore 4) 2 5 := ⟨by decide +kernel, rfl⟩
theorem dX4_addTurnedPart_5 : At cX4_addTurnedPart 5 (.iload 4) 2 7 := ⟨by decide +kernel, rfl⟩
theorem dX4_addTurnedPart_7 : At cX4_addTurnedPart 7 (.iload_n 2) 1 8 := ⟨by decide +kernel, rfl⟩
theorem dX4_addTurnedPart_8 : Br cX4_addTurnedPart 8 (.if_icmp .lt) 11 35 := ⟨(27), by decide +kernel, rfl, by decide⟩
theorem dX4_addTurnedPart_11 : At cX4_addTurnedPart 11 (.aload_n 0) 1 12 := ⟨by decide +kernel, rfl⟩
theorem dX4_addTurnedPart_12 : At cX4_addTurnedPart 12 (.aload_n 1) 1 13 := ⟨by decide +kernel, rfl⟩
theorem dX4_addTurnedPart_13 : At cX4_addTurnedPart 13 (.iload 4) 2 15 := ⟨by decide +kernel, rfl⟩
theorem dX4_addTurnedPart_15 : At cX4_addTurnedPart 15 (.invokevirtual 37) 3 18 := ⟨by decide +kernel, rfl⟩
theorem dX4_addTurnedPart_18 : At cX4_addTurnedPart 18 (.invokestatic 25) 3 21 := ⟨by decide +kernel, rfl⟩
theorem dX4_addTurnedPart_21 : At cX4_addTurnedPart 21 (.invokevirtual 29) 3 24 := ⟨by decide +kernel, rfl⟩
theorem dX4_addTurnedPart_24 : Br cX4_addTurnedPart 24 (.ifCond .ne) 27 29 := ⟨(5), by decide +kernel, rfl, by decide⟩
theorem dX4_addTurnedPart_27 : At cX4_addTurnedPart 27 (.iconst 0) 1 28 := ⟨by decide +kernel, rfl⟩
theorem dX4_addTurnedPart_28 : At cX4_addTurnedPart 28 (.ireturn) 1 29 := ⟨by decide +kernel, rfl⟩
theorem dX4_addTurnedPart_29 : At cX4_addTurnedPart 29 (.iinc 4 (-1)) 3 32 := ⟨by decide +kernel, rfl⟩
theorem dX4_addTurnedPart_32 : Br cX4_addTurnedPart 32 .goto 35 5 := ⟨(-27), by decide +kernel, rfl, by decide⟩
theorem dX4_addTurnedPart_35 : At cX4_addTurnedPart 35 (.iconst 1) 1 36 := ⟨by decide +kernel, rfl⟩
theorem dX4_addTurnedPart_36 : At cX4_addTurnedPart 36 (.ireturn) 1 37 := ⟨by decide +kernel, rfl⟩
theorem dX4_turnFrom_0 : At cX4_turnFrom 0 (.iload_n 1) 1 1 := ⟨by decide +kernel, rfl⟩
theorem dX4_turnFrom_1 : At cX4_turnFrom 1 (.iconst 0) 1 2 := ⟨by decide +kernel, rfl⟩
theorem dX4_turnFrom_2 : At cX4_turnFrom 2 (.invokestatic 9) 3 5 := ⟨by decide +kernel, rfl⟩
theorem dX4_turnFrom_5 : At cX4_turnFrom 5 (.istore_n 2) 1 6 := ⟨by decide +kernel, rfl⟩
theorem dX4_turnFrom_6 : At cX4_turnFrom 6 (.aload_n 0) 1 7 := ⟨by decide +kernel, rfl⟩
theorem dX4_turnFrom_7 : At cX4_turnFrom 7 (.getfield 21) 3 10 := ⟨by decide +kernel, rfl⟩
theorem dX4_turnFrom_10 : At cX4_turnFrom 10 (.iconst 1) 1 11 := ⟨by decide +kernel, rfl⟩
theorem dX4_turnFrom_11 : At cX4_turnFrom 11 (.isub) 1 12 := ⟨by decide +kernel, rfl⟩
theorem dX4_turnFrom_12 : At cX4_turnFrom 12 (.istore_n 3) 1 13 := ⟨by decide +kernel, rfl⟩
theorem dX4_turnFrom_13 : At cX4_turnFrom 13 (.iload_n 2) 1 14 := ⟨by decide +kernel, rfl⟩
theorem dX4_turnFrom_14 : At cX4_turnFrom 14 (.iload_n 3) 1 15 := ⟨by decide +kernel, rfl⟩
theorem dX4_turnFrom_15 : Br cX4_turnFrom 15 (.if_icmp .ge) 18 61 := ⟨(46), by decide +kernel, rfl, by decide⟩
theorem dX4_turnFrom_18 : At cX4_turnFrom 18 (.aload_n 0) 1 19 := ⟨by decide +kernel, rfl⟩
theorem dX4_turnFrom_19 : At cX4_turnFrom 19 (.getfield 15) 3 22 := ⟨by decide +kernel, rfl⟩
theorem dX4_turnFrom_22 : At cX4_turnFrom 22 (.iload_n 2) 1 23 := ⟨by decide +kernel, rfl⟩
theorem dX4_turnFrom_23 : At cX4_turnFrom 23 (.iaload) 1 24 := ⟨by decide +kernel, rfl⟩
theorem dX4_turnFrom_24 : At cX4_turnFrom 24 (.istore 4) 2 26 := ⟨by decide +kernel, rfl⟩
theorem dX4_turnFrom_26 : At cX4_turnFrom 26 (.aload_n 0) 1 27 := ⟨by decide +kernel, rfl⟩
theorem dX4_turnFrom_27 : At cX4_turnFrom 27 (.getfield 15) 3 30 := ⟨by decide +kernel, rfl⟩
theorem dX4_turnFrom_30 : At cX4_turnFrom 30 (.iload_n 2) 1 31 := ⟨by decide +kernel, rfl⟩
theorem dX4_turnFrom_31 : At cX4_turnFrom 31 (.aload_n 0) 1 32 := ⟨by decide +kernel, rfl⟩
theorem dX4_turnFrom_32 : At cX4_turnFrom 32 (.getfield 15) 3 35 := ⟨by decide +kernel, rfl⟩
theorem dX4_turnFrom_35 : At cX4_turnFrom 35 (.iload_n 3) 1 36 := ⟨by decide +kernel, rfl⟩
theorem dX4_turnFrom_36 : At cX4_turnFrom 36 (.iaload) 1 37 := ⟨by decide +kernel, rfl⟩
theorem dX4_turnFrom_37 : At cX4_turnFrom 37 (.invokestatic 25) 3 40 := ⟨by decide +kernel, rfl⟩
theorem dX4_turnFrom_40 : At cX4_turnFrom 40 (.iastore) 1 41 := ⟨by decide +kernel, rfl⟩
theorem dX4_turnFrom_41 : At cX4_turnFrom 41 (.aload_n 0) 1 42 := ⟨by decide +kernel, rfl⟩
theorem dX4_turnFrom_42 : At cX4_turnFrom 42 (.getfield 15) 3 45 := ⟨by decide +kernel, rfl⟩
theorem dX4_turnFrom_45 : At cX4_turnFrom 45 (.iload_n 3) 1 46 := ⟨by decide +kernel, rfl⟩
theorem dX4_turnFrom_46 : At cX4_turnFrom 46 (.iload 4) 2 48 := ⟨by decide +kernel, rfl⟩
theorem dX4_turnFrom_48 : At cX4_turnFrom 48 (.invokestatic 25) 3 51 := ⟨by decide +kernel, rfl⟩
theorem dX4_turnFrom_51 : At cX4_turnFrom 51 (.iastore) 1 52 := ⟨by decide +kernel, rfl⟩
theorem dX4_turnFrom_52 : At cX4_turnFrom 52 (.iinc 2 1) 3 55 := ⟨by decide +kernel, rfl⟩
theorem dX4_turnFrom_55 : At cX4_turnFrom 55 (.iinc 3 (-1)) 3 58 := ⟨by decide +kernel, rfl⟩
theorem dX4_turnFrom_58 : Br cX4_turnFrom 58 .goto 61 13 := ⟨(-45), by decide +kernel, rfl, by decide⟩
theorem dX4_turnFrom_61 : At cX4_turnFrom 61 (.iload_n 2) 1 62 := ⟨by decide +kernel, rfl⟩
theorem dX4_turnFrom_62 : At cX4_turnFrom 62 (.iload_n 3) 1 63 := ⟨by decide +kernel, rfl⟩
theorem dX4_turnFrom_63 : Br cX4_turnFrom 63 (.if_icmp .ne) 66 81 := ⟨(18), by decide +kernel, rfl, by decide⟩
theorem dX4_turnFrom_66 : At cX4_turnFrom 66 (.aload_n 0) 1 67 := ⟨by decide +kernel, rfl⟩
theorem dX4_turnFrom_67 : At cX4_turnFrom 67 (.getfield 15) 3 70 := ⟨by decide +kernel, rfl⟩
theorem dX4_turnFrom_70 : At cX4_turnFrom 70 (.iload_n 2) 1 71 := ⟨by decide +kernel, rfl⟩
theorem dX4_turnFrom_71 : At cX4_turnFrom 71 (.aload_n 0) 1 72 := ⟨by decide +kernel, rfl⟩
theorem dX4_turnFrom_72 : At cX4_turnFrom 72 (.getfield 15) 3 75 := ⟨by decide +kernel, rfl⟩
theorem dX4_turnFrom_75 : At cX4_turnFrom 75 (.iload_n 2) 1 76 := ⟨by decide +kernel, rfl⟩
theorem dX4_turnFrom_76 : At cX4_turnFrom 76 (.iaload) 1 77 := ⟨by decide +kernel, rfl⟩
theorem dX4_turnFrom_77 : At cX4_turnFrom 77 (.invokestatic 25) 3 80 := ⟨by decide +kernel, rfl⟩
theorem dX4_turnFrom_80 : At cX4_turnFrom 80 (.iastore) 1 81 := ⟨by decide +kernel, rfl⟩
theorem dX4_turnFrom_81 : At cX4_turnFrom 81 (.return_) 1 82 := ⟨by decide +kernel, rfl⟩
theorem dX4_cancelPairs_0 : At cX4_cancelPairs 0 (.aload_n 0) 1 1 := ⟨by decide +kernel, rfl⟩
theorem dX4_cancelPairs_1 : At cX4_cancelPairs 1 (.getfield 21) 3 4 := ⟨by decide +kernel, rfl⟩
theorem dX4_cancelPairs_4 : At cX4_cancelPairs 4 (.istore_n 1) 1 5 := ⟨by decide +kernel, rfl⟩
theorem dX4_cancelPairs_5 : At cX4_cancelPairs 5 (.aload_n 0) 1 6 := ⟨by decide +kernel, rfl⟩
theorem dX4_cancelPairs_6 : At cX4_cancelPairs 6 (.iconst 0) 1 7 := ⟨by decide +kernel, rfl⟩
theorem dX4_cancelPairs_7 : At cX4_cancelPairs 7 (.putfield 21) 3 10 := ⟨by decide +kernel, rfl⟩
theorem dX4_cancelPairs_10 : At cX4_cancelPairs 10 (.iconst 0) 1 11 := ⟨by decide +kernel, rfl⟩
theorem dX4_cancelPairs_11 : At cX4_cancelPairs 11 (.istore_n 2) 1 12 := ⟨by decide +kernel, rfl⟩
theorem dX4_cancelPairs_12 : At cX4_cancelPairs 12 (.iload_n 2) 1 13 := ⟨by decide +kernel, rfl⟩
theorem dX4_cancelPairs_13 : At cX4_cancelPairs 13 (.iload_n 1) 1 14 := ⟨by decide +kernel, rfl⟩
theorem dX4_cancelPairs_14 : Br cX4_cancelPairs 14 (.if_icmp .ge) 17 34 := ⟨(20), by decide +kernel, rfl, by decide⟩
theorem dX4_cancelPairs_17 : At cX4_cancelPairs 17 (.aload_n 0) 1 18 := ⟨by decide +kernel, rfl⟩
theorem dX4_cancelPairs_18 : At cX4_cancelPairs 18 (.aload_n 0) 1 19 := ⟨by decide +kernel, rfl⟩
theorem dX4_cancelPairs_19 : At cX4_cancelPairs 19 (.getfield 15) 3 22 := ⟨by decide +kernel, rfl⟩
theorem dX4_cancelPairs_22 : At cX4_cancelPairs 22 (.iload_n 2) 1 23 := ⟨by decide +kernel, rfl⟩
theorem dX4_cancelPairs_23 : At cX4_cancelPairs 23 (.iaload) 1 24 := ⟨by decide +kernel, rfl⟩
theorem dX4_cancelPairs_24 : At cX4_cancelPairs 24 (.invokevirtual 44) 3 27 := ⟨by decide +kernel, rfl⟩
theorem dX4_cancelPairs_27 : At cX4_cancelPairs 27 (.pop) 1 28 := ⟨by decide +kernel, rfl⟩
theorem dX4_cancelPairs_28 : At cX4_cancelPairs 28 (.iinc 2 1) 3 31 := ⟨by decide +kernel, rfl⟩
theorem dX4_cancelPairs_31 : Br cX4_cancelPairs 31 .goto 34 12 := ⟨(-19), by decide +kernel, rfl, by decide⟩
theorem dX4_cancelPairs_34 : At cX4_cancelPairs 34 (.iload_n 1) 1 35 := ⟨by decide +kernel, rfl⟩
theorem dX4_cancelPairs_35 : At cX4_cancelPairs 35 (.aload_n 0) 1 36 := ⟨by decide +kernel, rfl⟩
theorem dX4_cancelPairs_36 : At cX4_cancelPairs 36 (.getfield 21) 3 39 := ⟨by decide +kernel, rfl⟩
theorem dX4_cancelPairs_39 : At cX4_cancelPairs 39 (.isub) 1 40 := ⟨by decide +kernel, rfl⟩
theorem dX4_cancelPairs_40 : At cX4_cancelPairs 40 (.iconst 2) 1 41 := ⟨by decide +kernel, rfl⟩
theorem dX4_cancelPairs_41 : At cX4_cancelPairs 41 (.idiv) 1 42 := ⟨by decide +kernel, rfl⟩
theorem dX4_cancelPairs_42 : At cX4_cancelPairs 42 (.ireturn) 1 43 := ⟨by decide +kernel, rfl⟩
theorem dX4_tighten_0 : At cX4_tighten 0 (.aload_n 0) 1 1 := ⟨by decide +kernel, rfl⟩
theorem dX4_tighten_1 : At cX4_tighten 1 (.invokevirtual 47) 3 4 := ⟨by decide +kernel, rfl⟩
theorem dX4_tighten_4 : At cX4_tighten 4 (.pop) 1 5 := ⟨by decide +kernel, rfl⟩
theorem dX4_tighten_5 : At cX4_tighten 5 (.iconst 0) 1 6 := ⟨by decide +kernel, rfl⟩
theorem dX4_tighten_6 : At cX4_tighten 6 (.istore_n 1) 1 7 := ⟨by decide +kernel, rfl⟩
theorem dX4_tighten_7 : At cX4_tighten 7 (.aload_n 0) 1 8 := ⟨by decide +kernel, rfl⟩
theorem dX4_tighten_8 : At cX4_tighten 8 (.getfield 21) 3 11 := ⟨by decide +kernel, rfl⟩
theorem dX4_tighten_11 : At cX4_tighten 11 (.iconst 1) 1 12 := ⟨by decide +kernel, rfl⟩
theorem dX4_tighten_12 : At cX4_tighten 12 (.isub) 1 13 := ⟨by decide +kernel, rfl⟩
theorem dX4_tighten_13 : At cX4_tighten 13 (.istore_n 2) 1 14 := ⟨by decide +kernel, rfl⟩
theorem dX4_tighten_14 : At cX4_tighten 14 (.iload_n 1) 1 15 := ⟨by decide +kernel, rfl⟩
theorem dX4_tighten_15 : At cX4_tighten 15 (.iload_n 2) 1 16 := ⟨by decide +kernel, rfl⟩
theorem dX4_tighten_16 : Br cX4_tighten 16 (.if_icmp .ge) 19 46 := ⟨(30), by decide +kernel, rfl, by decide⟩
theorem dX4_tighten_19 : At cX4_tighten 19 (.aload_n 0) 1 20 := ⟨by decide +kernel, rfl⟩
theorem dX4_tighten_20 : At cX4_tighten 20 (.getfield 15) 3 23 := ⟨by decide +kernel, rfl⟩
theorem dX4_tighten_23 : At cX4_tighten 23 (.iload_n 1) 1 24 := ⟨by decide +kernel, rfl⟩
theorem dX4_tighten_24 : At cX4_tighten 24 (.iaload) 1 25 := ⟨by decide +kernel, rfl⟩
theorem dX4_tighten_25 : At cX4_tighten 25 (.aload_n 0) 1 26 := ⟨by decide +kernel, rfl⟩
theorem dX4_tighten_26 : At cX4_tighten 26 (.getfield 15) 3 29 := ⟨by decide +kernel, rfl⟩
theorem dX4_tighten_29 : At cX4_tighten 29 (.iload_n 2) 1 30 := ⟨by decide +kernel, rfl⟩
theorem dX4_tighten_30 : At cX4_tighten 30 (.iaload) 1 31 := ⟨by decide +kernel, rfl⟩
theorem dX4_tighten_31 : At cX4_tighten 31 (.invokestatic 25) 3 34 := ⟨by decide +kernel, rfl⟩
theorem dX4_tighten_34 : Br cX4_tighten 34 (.if_icmp .ne) 37 46 := ⟨(12), by decide +kernel, rfl, by decide⟩
theorem dX4_tighten_37 : At cX4_tighten 37 (.iinc 1 1) 3 40 := ⟨by decide +kernel, rfl⟩
theorem dX4_tighten_40 : At cX4_tighten 40 (.iinc 2 (-1)) 3 43 := ⟨by decide +kernel, rfl⟩
theorem dX4_tighten_43 : Br cX4_tighten 43 .goto 46 14 := ⟨(-29), by decide +kernel, rfl, by decide⟩
theorem dX4_tighten_46 : At cX4_tighten 46 (.aload_n 0) 1 47 := ⟨by decide +kernel, rfl⟩
theorem dX4_tighten_47 : At cX4_tighten 47 (.iconst 0) 1 48 := ⟨by decide +kernel, rfl⟩
theorem dX4_tighten_48 : At cX4_tighten 48 (.putfield 21) 3 51 := ⟨by decide +kernel, rfl⟩
theorem dX4_tighten_51 : At cX4_tighten 51 (.iload_n 1) 1 52 := ⟨by decide +kernel, rfl⟩
theorem dX4_tighten_52 : At cX4_tighten 52 (.istore_n 3) 1 53 := ⟨by decide +kernel, rfl⟩
theorem dX4_tighten_53 : At cX4_tighten 53 (.iload_n 3) 1 54 := ⟨by decide +kernel, rfl⟩
theorem dX4_tighten_54 : At cX4_tighten 54 (.iload_n 2) 1 55 := ⟨by decide +kernel, rfl⟩
theorem dX4_tighten_55 : Br cX4_tighten 55 (.if_icmp .gt) 58 75 := ⟨(20), by decide +kernel, rfl, by decide⟩
theorem dX4_tighten_58 : At cX4_tighten 58 (.aload_n 0) 1 59 := ⟨by decide +kernel, rfl⟩
theorem dX4_tighten_59 : At cX4_tighten 59 (.aload_n 0) 1 60 := ⟨by decide +kernel, rfl⟩
theorem dX4_tighten_60 : At cX4_tighten 60 (.getfield 15) 3 63 := ⟨by decide +kernel, rfl⟩
theorem dX4_tighten_63 : At cX4_tighten 63 (.iload_n 3) 1 64 := ⟨by decide +kernel, rfl⟩
theorem dX4_tighten_64 : At cX4_tighten 64 (.iaload) 1 65 := ⟨by decide +kernel, rfl⟩
theorem dX4_tighten_65 : At cX4_tighten 65 (.invokevirtual 29) 3 68 := ⟨by decide +kernel, rfl⟩
theorem dX4_tighten_68 : At cX4_tighten 68 (.pop) 1 69 := ⟨by decide +kernel, rfl⟩
theorem dX4_tighten_69 : At cX4_tighten 69 (.iinc 3 1) 3 72 := ⟨by decide +kernel, rfl⟩
theorem dX4_tighten_72 : Br cX4_tighten 72 .goto 75 53 := ⟨(-19), by decide +kernel, rfl, by decide⟩
theorem dX4_tighten_75 : At cX4_tighten 75 (.return_) 1 76 := ⟨by decide +kernel, rfl⟩
theorem dX4_atRound_0 : At cX4_atRound 0 (.aload_n 0) 1 1 := ⟨by decide +kernel, rfl⟩
theorem dX4_atRound_1 : At cX4_atRound 1 (.iload_n 1) 1 2 := ⟨by decide +kernel, rfl⟩
theorem dX4_atRound_2 : At cX4_atRound 2 (.aload_n 0) 1 3 := ⟨by decide +kernel, rfl⟩
theorem dX4_atRound_3 : At cX4_atRound 3 (.getfield 21) 3 6 := ⟨by decide +kernel, rfl⟩
theorem dX4_atRound_6 : Br cX4_atRound 6 (.if_icmp .ge) 9 13 := ⟨(7), by decide +kernel, rfl, by decide⟩
theorem dX4_atRound_9 : At cX4_atRound 9 (.iload_n 1) 1 10 := ⟨by decide +kernel, rfl⟩
theorem dX4_atRound_10 : Br cX4_atRound 10 .goto 13 19 := ⟨(9), by decide +kernel, rfl, by decide⟩
theorem dX4_atRound_13 : At cX4_atRound 13 (.iload_n 1) 1 14 := ⟨by decide +kernel, rfl⟩
theorem dX4_atRound_14 : At cX4_atRound 14 (.aload_n 0) 1 15 := ⟨by decide +kernel, rfl⟩
theorem dX4_atRound_15 : At cX4_atRound 15 (.getfield 21) 3 18 := ⟨by decide +kernel, rfl⟩
theorem dX4_atRound_18 : At cX4_atRound 18 (.isub) 1 19 := ⟨by decide +kernel, rfl⟩
theorem dX4_atRound_19 : At cX4_atRound 19 (.invokevirtual 37) 3 22 := ⟨by decide +kernel, rfl⟩
theorem dX4_atRound_22 : At cX4_atRound 22 (.ireturn) 1 23 := ⟨by decide +kernel, rfl⟩
theorem dX4_leastStart_0 : At cX4_leastStart 0 (.iconst 0) 1 1 := ⟨by decide +kernel, rfl⟩
theorem dX4_leastStart_1 : At cX4_leastStart 1 (.istore_n 1) 1 2 := ⟨by decide +kernel, rfl⟩
theorem dX4_leastStart_2 : At cX4_leastStart 2 (.iconst 1) 1 3 := ⟨by decide +kernel, rfl⟩
theorem dX4_leastStart_3 : At cX4_leastStart 3 (.istore_n 2) 1 4 := ⟨by decide +kernel, rfl⟩
theorem dX4_leastStart_4 : At cX4_leastStart 4 (.iload_n 2) 1 5 := ⟨by decide +kernel, rfl⟩
theorem dX4_leastStart_5 : At cX4_leastStart 5 (.aload_n 0) 1 6 := ⟨by decide +kernel, rfl⟩
theorem dX4_leastStart_6 : At cX4_leastStart 6 (.getfield 21) 3 9 := ⟨by decide +kernel, rfl⟩
theorem dX4_leastStart_9 : Br cX4_leastStart 9 (.if_icmp .ge) 12 29 := ⟨(20), by decide +kernel, rfl, by decide⟩
theorem dX4_leastStart_12 : At cX4_leastStart 12 (.aload_n 0) 1 13 := ⟨by decide +kernel, rfl⟩
theorem dX4_leastStart_13 : At cX4_leastStart 13 (.iload_n 2) 1 14 := ⟨by decide +kernel, rfl⟩
theorem dX4_leastStart_14 : At cX4_leastStart 14 (.iload_n 1) 1 15 := ⟨by decide +kernel, rfl⟩
theorem dX4_leastStart_15 : At cX4_leastStart 15 (.invokevirtual 51) 3 18 := ⟨by decide +kernel, rfl⟩
theorem dX4_leastStart_18 : Br cX4_leastStart 18 (.ifCond .eq) 21 23 := ⟨(5), by decide +kernel, rfl, by decide⟩
theorem dX4_leastStart_21 : At cX4_leastStart 21 (.iload_n 2) 1 22 := ⟨by decide +kernel, rfl⟩
theorem dX4_leastStart_22 : At cX4_leastStart 22 (.istore_n 1) 1 23 := ⟨by decide +kernel, rfl⟩
theorem dX4_leastStart_23 : At cX4_leastStart 23 (.iinc 2 1) 3 26 := ⟨by decide +kernel, rfl⟩
theorem dX4_leastStart_26 : Br cX4_leastStart 26 .goto 29 4 := ⟨(-22), by decide +kernel, rfl, by decide⟩
theorem dX4_leastStart_29 : At cX4_leastStart 29 (.iload_n 1) 1 30 := ⟨by decide +kernel, rfl⟩
theorem dX4_leastStart_30 : At cX4_leastStart 30 (.ireturn) 1 31 := ⟨by decide +kernel, rfl⟩
theorem dX4_isLessFrom_0 : At cX4_isLessFrom 0 (.iconst 0) 1 1 := ⟨by decide +kernel, rfl⟩
theorem dX4_isLessFrom_1 : At cX4_isLessFrom 1 (.istore_n 3) 1 2 := ⟨by decide +kernel, rfl⟩
theorem dX4_isLessFrom_2 : At cX4_isLessFrom 2 (.iload_n 3) 1 3 := ⟨by decide +kernel, rfl⟩
theorem dX4_isLessFrom_3 : At cX4_isLessFrom 3 (.aload_n 0) 1 4 := ⟨by decide +kernel, rfl⟩
theorem dX4_isLessFrom_4 : At cX4_isLessFrom 4 (.getfield 21) 3 7 := ⟨by decide +kernel, rfl⟩
theorem dX4_isLessFrom_7 : Br cX4_isLessFrom 7 (.if_icmp .ge) 10 54 := ⟨(47), by decide +kernel, rfl, by decide⟩
theorem dX4_isLessFrom_10 : At cX4_isLessFrom 10 (.aload_n 0) 1 11 := ⟨by decide +kernel, rfl⟩
theorem dX4_isLessFrom_11 : At cX4_isLessFrom 11 (.iload_n 1) 1 12 := ⟨by decide +kernel, rfl⟩
theorem dX4_isLessFrom_12 : At cX4_isLessFrom 12 (.iload_n 3) 1 13 := ⟨by decide +kernel, rfl⟩
theorem dX4_isLessFrom_13 : At cX4_isLessFrom 13 (.iadd) 1 14 := ⟨by decide +kernel, rfl⟩
theorem dX4_isLessFrom_14 : At cX4_isLessFrom 14 (.invokevirtual 55) 3 17 := ⟨by decide +kernel, rfl⟩
theorem dX4_isLessFrom_17 : At cX4_isLessFrom 17 (.istore 4) 2 19 := ⟨by decide +kernel, rfl⟩
theorem dX4_isLessFrom_19 : At cX4_isLessFrom 19 (.aload_n 0) 1 20 := ⟨by decide +kernel, rfl⟩
theorem dX4_isLessFrom_20 : At cX4_isLessFrom 20 (.iload_n 2) 1 21 := ⟨by decide +kernel, rfl⟩
theorem dX4_isLessFrom_21 : At cX4_isLessFrom 21 (.iload_n 3) 1 22 := ⟨by decide +kernel, rfl⟩
theorem dX4_isLessFrom_22 : At cX4_isLessFrom 22 (.iadd) 1 23 := ⟨by decide +kernel, rfl⟩
theorem dX4_isLessFrom_23 : At cX4_isLessFrom 23 (.invokevirtual 55) 3 26 := ⟨by decide +kernel, rfl⟩
theorem dX4_isLessFrom_26 : At cX4_isLessFrom 26 (.istore 5) 2 28 := ⟨by decide +kernel, rfl⟩
theorem dX4_isLessFrom_28 : At cX4_isLessFrom 28 (.iload 4) 2 30 := ⟨by decide +kernel, rfl⟩
theorem dX4_isLessFrom_30 : At cX4_isLessFrom 30 (.iload 5) 2 32 := ⟨by decide +kernel, rfl⟩
theorem dX4_isLessFrom_32 : Br cX4_isLessFrom 32 (.if_icmp .eq) 35 48 := ⟨(16), by decide +kernel, rfl, by decide⟩
theorem dX4_isLessFrom_35 : At cX4_isLessFrom 35 (.iload 4) 2 37 := ⟨by decide +kernel, rfl⟩
theorem dX4_isLessFrom_37 : At cX4_isLessFrom 37 (.iload 5) 2 39 := ⟨by decide +kernel, rfl⟩
theorem dX4_isLessFrom_39 : Br cX4_isLessFrom 39 (.if_icmp .ge) 42 46 := ⟨(7), by decide +kernel, rfl, by decide⟩
theorem dX4_isLessFrom_42 : At cX4_isLessFrom 42 (.iconst 1) 1 43 := ⟨by decide +kernel, rfl⟩
theorem dX4_isLessFrom_43 : Br cX4_isLessFrom 43 .goto 46 47 := ⟨(4), by decide +kernel, rfl, by decide⟩
theorem dX4_isLessFrom_46 : At cX4_isLessFrom 46 (.iconst 0) 1 47 := ⟨by decide +kernel, rfl⟩
theorem dX4_isLessFrom_47 : At cX4_isLessFrom 47 (.ireturn) 1 48 := ⟨by decide +kernel, rfl⟩
theorem dX4_isLessFrom_48 : At cX4_isLessFrom 48 (.iinc 3 1) 3 51 := ⟨by decide +kernel, rfl⟩
theorem dX4_isLessFrom_51 : Br cX4_isLessFrom 51 .goto 54 2 := ⟨(-49), by decide +kernel, rfl, by decide⟩
theorem dX4_isLessFrom_54 : At cX4_isLessFrom 54 (.iconst 0) 1 55 := ⟨by decide +kernel, rfl⟩
theorem dX4_isLessFrom_55 : At cX4_isLessFrom 55 (.ireturn) 1 56 := ⟨by decide +kernel, rfl⟩
theorem dX4_copyFromStart_0 : At cX4_copyFromStart 0 (.aload_n 0) 1 1 := ⟨by decide +kernel, rfl⟩
theorem dX4_copyFromStart_1 : At cX4_copyFromStart 1 (.iconst 0) 1 2 := ⟨by decide +kernel, rfl⟩
theorem dX4_copyFromStart_2 : At cX4_copyFromStart 2 (.putfield 21) 3 5 := ⟨by decide +kernel, rfl⟩
theorem dX4_copyFromStart_5 : At cX4_copyFromStart 5 (.iconst 0) 1 6 := ⟨by decide +kernel, rfl⟩
theorem dX4_copyFromStart_6 : At cX4_copyFromStart 6 (.istore_n 3) 1 7 := ⟨by decide +kernel, rfl⟩
theorem dX4_copyFromStart_7 : At cX4_copyFromStart 7 (.iload_n 3) 1 8 := ⟨by decide +kernel, rfl⟩
theorem dX4_copyFromStart_8 : At cX4_copyFromStart 8 (.aload_n 1) 1 9 := ⟨by decide +kernel, rfl⟩
theorem dX4_copyFromStart_9 : At cX4_copyFromStart 9 (.getfield 21) 3 12 := ⟨by decide +kernel, rfl⟩
theorem dX4_copyFromStart_12 : Br cX4_copyFromStart 12 (.if_icmp .ge) 15 33 := ⟨(21), by decide +kernel, rfl, by decide⟩
theorem dX4_copyFromStart_15 : At cX4_copyFromStart 15 (.aload_n 0) 1 16 := ⟨by decide +kernel, rfl⟩
theorem dX4_copyFromStart_16 : At cX4_copyFromStart 16 (.aload_n 1) 1 17 := ⟨by decide +kernel, rfl⟩
theorem dX4_copyFromStart_17 : At cX4_copyFromStart 17 (.iload_n 2) 1 18 := ⟨by decide +kernel, rfl⟩
theorem dX4_copyFromStart_18 : At cX4_copyFromStart 18 (.iload_n 3) 1 19 := ⟨by decide +kernel, rfl⟩
theorem dX4_copyFromStart_19 : At cX4_copyFromStart 19 (.iadd) 1 20 := ⟨by decide +kernel, rfl⟩
theorem dX4_copyFromStart_20 : At cX4_copyFromStart 20 (.invokevirtual 55) 3 23 := ⟨by decide +kernel, rfl⟩
theorem dX4_copyFromStart_23 : At cX4_copyFromStart 23 (.invokevirtual 29) 3 26 := ⟨by decide +kernel, rfl⟩
theorem dX4_copyFromStart_26 : At cX4_copyFromStart 26 (.pop) 1 27 := ⟨by decide +kernel, rfl⟩
theorem dX4_copyFromStart_27 : At cX4_copyFromStart 27 (.iinc 3 1) 3 30 := ⟨by decide +kernel, rfl⟩
theorem dX4_copyFromStart_30 : Br cX4_copyFromStart 30 .goto 33 7 := ⟨(-23), by decide +kernel, rfl, by decide⟩
theorem dX4_copyFromStart_33 : At cX4_copyFromStart 33 (.return_) 1 34 := ⟨by decide +kernel, rfl⟩
theorem dX4_power_0 : At cX4_power 0 (.iconst 1) 1 1 := ⟨by decide +kernel, rfl⟩
theorem dX4_power_1 : At cX4_power 1 (.istore_n 1) 1 2 := ⟨by decide +kernel, rfl⟩
theorem dX4_power_2 : At cX4_power 2 (.iload_n 1) 1 3 := ⟨by decide +kernel, rfl⟩
theorem dX4_power_3 : At cX4_power 3 (.aload_n 0) 1 4 := ⟨by decide +kernel, rfl⟩
theorem dX4_power_4 : At cX4_power 4 (.getfield 21) 3 7 := ⟨by decide +kernel, rfl⟩
theorem dX4_power_7 : Br cX4_power 7 (.if_icmp .gt) 10 40 := ⟨(33), by decide +kernel, rfl, by decide⟩
theorem dX4_power_10 : At cX4_power 10 (.aload_n 0) 1 11 := ⟨by decide +kernel, rfl⟩
theorem dX4_power_11 : At cX4_power 11 (.getfield 21) 3 14 := ⟨by decide +kernel, rfl⟩
theorem dX4_power_14 : At cX4_power 14 (.iload_n 1) 1 15 := ⟨by decide +kernel, rfl⟩
theorem dX4_power_15 : At cX4_power 15 (.irem) 1 16 := ⟨by decide +kernel, rfl⟩
theorem dX4_power_16 : Br cX4_power 16 (.ifCond .ne) 19 34 := ⟨(18), by decide +kernel, rfl, by decide⟩
theorem dX4_power_19 : At cX4_power 19 (.aload_n 0) 1 20 := ⟨by decide +kernel, rfl⟩
theorem dX4_power_20 : At cX4_power 20 (.iload_n 1) 1 21 := ⟨by decide +kernel, rfl⟩
theorem dX4_power_21 : At cX4_power 21 (.invokevirtual 58) 3 24 := ⟨by decide +kernel, rfl⟩
theorem dX4_power_24 : Br cX4_power 24 (.ifCond .eq) 27 34 := ⟨(10), by decide +kernel, rfl, by decide⟩
theorem dX4_power_27 : At cX4_power 27 (.aload_n 0) 1 28 := ⟨by decide +kernel, rfl⟩
theorem dX4_power_28 : At cX4_power 28 (.getfield 21) 3 31 := ⟨by decide +kernel, rfl⟩
theorem dX4_power_31 : At cX4_power 31 (.iload_n 1) 1 32 := ⟨by decide +kernel, rfl⟩
theorem dX4_power_32 : At cX4_power 32 (.idiv) 1 33 := ⟨by decide +kernel, rfl⟩
theorem dX4_power_33 : At cX4_power 33 (.ireturn) 1 34 := ⟨by decide +kernel, rfl⟩
theorem dX4_power_34 : At cX4_power 34 (.iinc 1 1) 3 37 := ⟨by decide +kernel, rfl⟩
theorem dX4_power_37 : Br cX4_power 37 .goto 40 2 := ⟨(-35), by decide +kernel, rfl, by decide⟩
theorem dX4_power_40 : At cX4_power 40 (.iconst 0) 1 41 := ⟨by decide +kernel, rfl⟩
theorem dX4_power_41 : At cX4_power 41 (.ireturn) 1 42 := ⟨by decide +kernel, rfl⟩
theorem dX4_repeatsAfter_0 : At cX4_repeatsAfter 0 (.iload_n 1) 1 1 := ⟨by decide +kernel, rfl⟩
theorem dX4_repeatsAfter_1 : At cX4_repeatsAfter 1 (.istore_n 2) 1 2 := ⟨by decide +kernel, rfl⟩
theorem dX4_repeatsAfter_2 : At cX4_repeatsAfter 2 (.iload_n 2) 1 3 := ⟨by decide +kernel, rfl⟩
theorem dX4_repeatsAfter_3 : At cX4_repeatsAfter 3 (.aload_n 0) 1 4 := ⟨by decide +kernel, rfl⟩
theorem dX4_repeatsAfter_4 : At cX4_repeatsAfter 4 (.getfield 21) 3 7 := ⟨by decide +kernel, rfl⟩
theorem dX4_repeatsAfter_7 : Br cX4_repeatsAfter 7 (.if_icmp .ge) 10 33 := ⟨(26), by decide +kernel, rfl, by decide⟩
theorem dX4_repeatsAfter_10 : At cX4_repeatsAfter 10 (.aload_n 0) 1 11 := ⟨by decide +kernel, rfl⟩
theorem dX4_repeatsAfter_11 : At cX4_repeatsAfter 11 (.iload_n 2) 1 12 := ⟨by decide +kernel, rfl⟩
theorem dX4_repeatsAfter_12 : At cX4_repeatsAfter 12 (.invokevirtual 37) 3 15 := ⟨by decide +kernel, rfl⟩
theorem dX4_repeatsAfter_15 : At cX4_repeatsAfter 15 (.aload_n 0) 1 16 := ⟨by decide +kernel, rfl⟩
theorem dX4_repeatsAfter_16 : At cX4_repeatsAfter 16 (.iload_n 2) 1 17 := ⟨by decide +kernel, rfl⟩
theorem dX4_repeatsAfter_17 : At cX4_repeatsAfter 17 (.iload_n 1) 1 18 := ⟨by decide +kernel, rfl⟩
theorem dX4_repeatsAfter_18 : At cX4_repeatsAfter 18 (.isub) 1 19 := ⟨by decide +kernel, rfl⟩
theorem dX4_repeatsAfter_19 : At cX4_repeatsAfter 19 (.invokevirtual 37) 3 22 := ⟨by decide +kernel, rfl⟩
theorem dX4_repeatsAfter_22 : Br cX4_repeatsAfter 22 (.if_icmp .eq) 25 27 := ⟨(5), by decide +kernel, rfl, by decide⟩
theorem dX4_repeatsAfter_25 : At cX4_repeatsAfter 25 (.iconst 0) 1 26 := ⟨by decide +kernel, rfl⟩
theorem dX4_repeatsAfter_26 : At cX4_repeatsAfter 26 (.ireturn) 1 27 := ⟨by decide +kernel, rfl⟩
theorem dX4_repeatsAfter_27 : At cX4_repeatsAfter 27 (.iinc 2 1) 3 30 := ⟨by decide +kernel, rfl⟩
theorem dX4_repeatsAfter_30 : Br cX4_repeatsAfter 30 .goto 33 2 := ⟨(-28), by decide +kernel, rfl, by decide⟩
theorem dX4_repeatsAfter_33 : At cX4_repeatsAfter 33 (.iconst 1) 1 34 := ⟨by decide +kernel, rfl⟩
theorem dX4_repeatsAfter_34 : At cX4_repeatsAfter 34 (.ireturn) 1 35 := ⟨by decide +kernel, rfl⟩
theorem dX4_posts_0 : At cX4_posts 0 (.iconst 0) 1 1 := ⟨by decide +kernel, rfl⟩
theorem dX4_posts_1 : At cX4_posts 1 (.istore_n 1) 1 2 := ⟨by decide +kernel, rfl⟩
theorem dX4_posts_2 : At cX4_posts 2 (.iconst 0) 1 3 := ⟨by decide +kernel, rfl⟩
theorem dX4_posts_3 : At cX4_posts 3 (.istore_n 2) 1 4 := ⟨by decide +kernel, rfl⟩
theorem dX4_posts_4 : At cX4_posts 4 (.iload_n 2) 1 5 := ⟨by decide +kernel, rfl⟩
theorem dX4_posts_5 : At cX4_posts 5 (.aload_n 0) 1 6 := ⟨by decide +kernel, rfl⟩
theorem dX4_posts_6 : At cX4_posts 6 (.getfield 21) 3 9 := ⟨by decide +kernel, rfl⟩
theorem dX4_posts_9 : Br cX4_posts 9 (.if_icmp .ge) 12 32 := ⟨(23), by decide +kernel, rfl, by decide⟩
theorem dX4_posts_12 : At cX4_posts 12 (.iload_n 1) 1 13 := ⟨by decide +kernel, rfl⟩
theorem dX4_posts_13 : At cX4_posts 13 (.iconst 1) 1 14 := ⟨by decide +kernel, rfl⟩
theorem dX4_posts_14 : At cX4_posts 14 (.aload_n 0) 1 15 := ⟨by decide +kernel, rfl⟩
theorem dX4_posts_15 : At cX4_posts 15 (.getfield 15) 3 18 := ⟨by decide +kernel, rfl⟩
theorem dX4_posts_18 : At cX4_posts 18 (.iload_n 2) 1 19 := ⟨by decide +kernel, rfl⟩
theorem dX4_posts_19 : At cX4_posts 19 (.iaload) 1 20 := ⟨by decide +kernel, rfl⟩
theorem dX4_posts_20 : At cX4_posts 20 (.invokestatic 61) 3 23 := ⟨by decide +kernel, rfl⟩
theorem dX4_posts_23 : At cX4_posts 23 (.ishl) 1 24 := ⟨by decide +kernel, rfl⟩
theorem dX4_posts_24 : At cX4_posts 24 (.ior) 1 25 := ⟨by decide +kernel, rfl⟩
theorem dX4_posts_25 : At cX4_posts 25 (.istore_n 1) 1 26 := ⟨by decide +kernel, rfl⟩
theorem dX4_posts_26 : At cX4_posts 26 (.iinc 2 1) 3 29 := ⟨by decide +kernel, rfl⟩
theorem dX4_posts_29 : Br cX4_posts 29 .goto 32 4 := ⟨(-25), by decide +kernel, rfl, by decide⟩
theorem dX4_posts_32 : At cX4_posts 32 (.iload_n 1) 1 33 := ⟨by decide +kernel, rfl⟩
theorem dX4_posts_33 : At cX4_posts 33 (.ireturn) 1 34 := ⟨by decide +kernel, rfl⟩
theorem dX4_firstPair_0 : At cX4_firstPair 0 (.iconst 0) 1 1 := ⟨by decide +kernel, rfl⟩
theorem dX4_firstPair_1 : At cX4_firstPair 1 (.istore_n 1) 1 2 := ⟨by decide +kernel, rfl⟩
theorem dX4_firstPair_2 : At cX4_firstPair 2 (.iload_n 1) 1 3 := ⟨by decide +kernel, rfl⟩
theorem dX4_firstPair_3 : At cX4_firstPair 3 (.iconst 1) 1 4 := ⟨by decide +kernel, rfl⟩
theorem dX4_firstPair_4 : At cX4_firstPair 4 (.iadd) 1 5 := ⟨by decide +kernel, rfl⟩
theorem dX4_firstPair_5 : At cX4_firstPair 5 (.aload_n 0) 1 6 := ⟨by decide +kernel, rfl⟩
theorem dX4_firstPair_6 : At cX4_firstPair 6 (.getfield 21) 3 9 := ⟨by decide +kernel, rfl⟩
theorem dX4_firstPair_9 : Br cX4_firstPair 9 (.if_icmp .ge) 12 40 := ⟨(31), by decide +kernel, rfl, by decide⟩
theorem dX4_firstPair_12 : At cX4_firstPair 12 (.aload_n 0) 1 13 := ⟨by decide +kernel, rfl⟩
theorem dX4_firstPair_13 : At cX4_firstPair 13 (.getfield 15) 3 16 := ⟨by decide +kernel, rfl⟩
theorem dX4_firstPair_16 : At cX4_firstPair 16 (.iload_n 1) 1 17 := ⟨by decide +kernel, rfl⟩
theorem dX4_firstPair_17 : At cX4_firstPair 17 (.iaload) 1 18 := ⟨by decide +kernel, rfl⟩
theorem dX4_firstPair_18 : At cX4_firstPair 18 (.aload_n 0) 1 19 := ⟨by decide +kernel, rfl⟩
theorem dX4_firstPair_19 : At cX4_firstPair 19 (.getfield 15) 3 22 := ⟨by decide +kernel, rfl⟩
theorem dX4_firstPair_22 : At cX4_firstPair 22 (.iload_n 1) 1 23 := ⟨by decide +kernel, rfl⟩
theorem dX4_firstPair_23 : At cX4_firstPair 23 (.iconst 1) 1 24 := ⟨by decide +kernel, rfl⟩
theorem dX4_firstPair_24 : At cX4_firstPair 24 (.iadd) 1 25 := ⟨by decide +kernel, rfl⟩
theorem dX4_firstPair_25 : At cX4_firstPair 25 (.iaload) 1 26 := ⟨by decide +kernel, rfl⟩
theorem dX4_firstPair_26 : At cX4_firstPair 26 (.invokestatic 25) 3 29 := ⟨by decide +kernel, rfl⟩
theorem dX4_firstPair_29 : Br cX4_firstPair 29 (.if_icmp .ne) 32 34 := ⟨(5), by decide +kernel, rfl, by decide⟩
theorem dX4_firstPair_32 : At cX4_firstPair 32 (.iload_n 1) 1 33 := ⟨by decide +kernel, rfl⟩
theorem dX4_firstPair_33 : At cX4_firstPair 33 (.ireturn) 1 34 := ⟨by decide +kernel, rfl⟩
theorem dX4_firstPair_34 : At cX4_firstPair 34 (.iinc 1 1) 3 37 := ⟨by decide +kernel, rfl⟩
theorem dX4_firstPair_37 : Br cX4_firstPair 37 .goto 40 2 := ⟨(-35), by decide +kernel, rfl, by decide⟩
theorem dX4_firstPair_40 : At cX4_firstPair 40 (.bipush (-6)) 2 42 := ⟨by decide +kernel, rfl⟩
theorem dX4_firstPair_42 : At cX4_firstPair 42 (.ireturn) 1 43 := ⟨by decide +kernel, rfl⟩
theorem dX4_windings_0 : At cX4_windings 0 (.iconst 0) 1 1 := ⟨by decide +kernel, rfl⟩
theorem dX4_windings_1 : At cX4_windings 1 (.istore_n 2) 1 2 := ⟨by decide +kernel, rfl⟩
theorem dX4_windings_2 : At cX4_windings 2 (.iconst 0) 1 3 := ⟨by decide +kernel, rfl⟩
theorem dX4_windings_3 : At cX4_windings 3 (.istore_n 3) 1 4 := ⟨by decide +kernel, rfl⟩
theorem dX4_windings_4 : At cX4_windings 4 (.iload_n 3) 1 5 := ⟨by decide +kernel, rfl⟩
theorem dX4_windings_5 : At cX4_windings 5 (.aload_n 0) 1 6 := ⟨by decide +kernel, rfl⟩
theorem dX4_windings_6 : At cX4_windings 6 (.getfield 21) 3 9 := ⟨by decide +kernel, rfl⟩
theorem dX4_windings_9 : Br cX4_windings 9 (.if_icmp .ge) 12 50 := ⟨(41), by decide +kernel, rfl, by decide⟩
theorem dX4_windings_12 : At cX4_windings 12 (.aload_n 0) 1 13 := ⟨by decide +kernel, rfl⟩
theorem dX4_windings_13 : At cX4_windings 13 (.getfield 15) 3 16 := ⟨by decide +kernel, rfl⟩
theorem dX4_windings_16 : At cX4_windings 16 (.iload_n 3) 1 17 := ⟨by decide +kernel, rfl⟩
theorem dX4_windings_17 : At cX4_windings 17 (.iaload) 1 18 := ⟨by decide +kernel, rfl⟩
theorem dX4_windings_18 : At cX4_windings 18 (.iload_n 1) 1 19 := ⟨by decide +kernel, rfl⟩
theorem dX4_windings_19 : Br cX4_windings 19 (.if_icmp .ne) 22 28 := ⟨(9), by decide +kernel, rfl, by decide⟩
theorem dX4_windings_22 : At cX4_windings 22 (.iinc 2 1) 3 25 := ⟨by decide +kernel, rfl⟩
theorem dX4_windings_25 : Br cX4_windings 25 .goto 28 44 := ⟨(19), by decide +kernel, rfl, by decide⟩
theorem dX4_windings_28 : At cX4_windings 28 (.aload_n 0) 1 29 := ⟨by decide +kernel, rfl⟩
theorem dX4_windings_29 : At cX4_windings 29 (.getfield 15) 3 32 := ⟨by decide +kernel, rfl⟩
theorem dX4_windings_32 : At cX4_windings 32 (.iload_n 3) 1 33 := ⟨by decide +kernel, rfl⟩
theorem dX4_windings_33 : At cX4_windings 33 (.iaload) 1 34 := ⟨by decide +kernel, rfl⟩
theorem dX4_windings_34 : At cX4_windings 34 (.iload_n 1) 1 35 := ⟨by decide +kernel, rfl⟩
theorem dX4_windings_35 : At cX4_windings 35 (.invokestatic 25) 3 38 := ⟨by decide +kernel, rfl⟩
theorem dX4_windings_38 : Br cX4_windings 38 (.if_icmp .ne) 41 44 := ⟨(6), by decide +kernel, rfl, by decide⟩
theorem dX4_windings_41 : At cX4_windings 41 (.iinc 2 (-1)) 3 44 := ⟨by decide +kernel, rfl⟩
theorem dX4_windings_44 : At cX4_windings 44 (.iinc 3 1) 3 47 := ⟨by decide +kernel, rfl⟩
theorem dX4_windings_47 : Br cX4_windings 47 .goto 50 4 := ⟨(-43), by decide +kernel, rfl, by decide⟩
theorem dX4_windings_50 : At cX4_windings 50 (.iload_n 2) 1 51 := ⟨by decide +kernel, rfl⟩
theorem dX4_windings_51 : At cX4_windings 51 (.ireturn) 1 52 := ⟨by decide +kernel, rfl⟩
theorem dX5_init_0 : At cX5_init 0 (.aload_n 0) 1 1 := ⟨by decide +kernel, rfl⟩
theorem dX5_init_1 : At cX5_init 1 (.invokespecial 3) 3 4 := ⟨by decide +kernel, rfl⟩
theorem dX5_init_4 : At cX5_init 4 (.aload_n 0) 1 5 := ⟨by decide +kernel, rfl⟩
theorem dX5_init_5 : At cX5_init 5 (.new 9) 3 8 := ⟨by decide +kernel, rfl⟩
theorem dX5_init_8 : At cX5_init 8 (.dup) 1 9 := ⟨by decide +kernel, rfl⟩
theorem dX5_init_9 : At cX5_init 9 (.invokespecial 11) 3 12 := ⟨by decide +kernel, rfl⟩
theorem dX5_init_12 : At cX5_init 12 (.putfield 12) 3 15 := ⟨by decide +kernel, rfl⟩
theorem dX5_init_15 : At cX5_init 15 (.aload_n 0) 1 16 := ⟨by decide +kernel, rfl⟩
theorem dX5_init_16 : At cX5_init 16 (.new 16) 3 19 := ⟨by decide +kernel, rfl⟩
theorem dX5_init_19 : At cX5_init 19 (.dup) 1 20 := ⟨by decide +kernel, rfl⟩
theorem dX5_init_20 : At cX5_init 20 (.invokespecial 18) 3 23 := ⟨by decide +kernel, rfl⟩
theorem dX5_init_23 : At cX5_init 23 (.putfield 19) 3 26 := ⟨by decide +kernel, rfl⟩
theorem dX5_init_26 : At cX5_init 26 (.aload_n 0) 1 27 := ⟨by decide +kernel, rfl⟩
theorem dX5_init_27 : At cX5_init 27 (.iconst 2) 1 28 := ⟨by decide +kernel, rfl⟩
theorem dX5_init_28 : At cX5_init 28 (.anewarray 9) 3 31 := ⟨by decide +kernel, rfl⟩
theorem dX5_init_31 : At cX5_init 31 (.putfield 23) 3 34 := ⟨by decide +kernel, rfl⟩
theorem dX5_init_34 : At cX5_init 34 (.iconst 0) 1 35 := ⟨by decide +kernel, rfl⟩
theorem dX5_init_35 : At cX5_init 35 (.istore_n 1) 1 36 := ⟨by decide +kernel, rfl⟩
theorem dX5_init_36 : At cX5_init 36 (.iload_n 1) 1 37 := ⟨by decide +kernel, rfl⟩
theorem dX5_init_37 : At cX5_init 37 (.iconst 2) 1 38 := ⟨by decide +kernel, rfl⟩
theorem dX5_init_38 : Br cX5_init 38 (.if_icmp .ge) 41 60 := ⟨(22), by decide +kernel, rfl, by decide⟩
theorem dX5_init_41 : At cX5_init 41 (.aload_n 0) 1 42 := ⟨by decide +kernel, rfl⟩
theorem dX5_init_42 : At cX5_init 42 (.getfield 23) 3 45 := ⟨by decide +kernel, rfl⟩
theorem dX5_init_45 : At cX5_init 45 (.iload_n 1) 1 46 := ⟨by decide +kernel, rfl⟩
theorem dX5_init_46 : At cX5_init 46 (.new 9) 3 49 := ⟨by decide +kernel, rfl⟩
theorem dX5_init_49 : At cX5_init 49 (.dup) 1 50 := ⟨by decide +kernel, rfl⟩
theorem dX5_init_50 : At cX5_init 50 (.invokespecial 11) 3 53 := ⟨by decide +kernel, rfl⟩
theorem dX5_init_53 : At cX5_init 53 (.aastore) 1 54 := ⟨by decide +kernel, rfl⟩
theorem dX5_init_54 : At cX5_init 54 (.iinc 1 1) 3 57 := ⟨by decide +kernel, rfl⟩
theorem dX5_init_57 : Br cX5_init 57 .goto 60 36 := ⟨(-21), by decide +kernel, rfl, by decide⟩
theorem dX5_init_60 : At cX5_init 60 (.aload_n 0) 1 61 := ⟨by decide +kernel, rfl⟩
theorem dX5_init_61 : At cX5_init 61 (.iconst 2) 1 62 := ⟨by decide +kernel, rfl⟩
theorem dX5_init_62 : At cX5_init 62 (.newarray .boolean) 2 64 := ⟨by decide +kernel, rfl⟩
theorem dX5_init_64 : At cX5_init 64 (.putfield 27) 3 67 := ⟨by decide +kernel, rfl⟩
theorem dX5_init_67 : At cX5_init 67 (.aload_n 0) 1 68 := ⟨by decide +kernel, rfl⟩
theorem dX5_init_68 : At cX5_init 68 (.new 31) 3 71 := ⟨by decide +kernel, rfl⟩
theorem dX5_init_71 : At cX5_init 71 (.dup) 1 72 := ⟨by decide +kernel, rfl⟩
theorem dX5_init_72 : At cX5_init 72 (.invokespecial 33) 3 75 := ⟨by decide +kernel, rfl⟩
theorem dX5_init_75 : At cX5_init 75 (.putfield 34) 3 78 := ⟨by decide +kernel, rfl⟩
theorem dX5_init_78 : At cX5_init 78 (.aload_n 0) 1 79 := ⟨by decide +kernel, rfl⟩
theorem dX5_init_79 : At cX5_init 79 (.new 38) 3 82 := ⟨by decide +kernel, rfl⟩
theorem dX5_init_82 : At cX5_init 82 (.dup) 1 83 := ⟨by decide +kernel, rfl⟩
theorem dX5_init_83 : At cX5_init 83 (.invokespecial 40) 3 86 := ⟨by decide +kernel, rfl⟩
theorem dX5_init_86 : At cX5_init 86 (.putfield 41) 3 89 := ⟨by decide +kernel, rfl⟩
theorem dX5_init_89 : At cX5_init 89 (.aload_n 0) 1 90 := ⟨by decide +kernel, rfl⟩
theorem dX5_init_90 : At cX5_init 90 (.new 45) 3 93 := ⟨by decide +kernel, rfl⟩
theorem dX5_init_93 : At cX5_init 93 (.dup) 1 94 := ⟨by decide +kernel, rfl⟩
theorem dX5_init_94 : At cX5_init 94 (.sipush 480) 3 97 := ⟨by decide +kernel, rfl⟩
theorem dX5_init_97 : At cX5_init 97 (.invokespecial 47) 3 100 := ⟨by decide +kernel, rfl⟩
theorem dX5_init_100 : At cX5_init 100 (.putfield 50) 3 103 := ⟨by decide +kernel, rfl⟩
theorem dX5_init_103 : At cX5_init 103 (.aload_n 0) 1 104 := ⟨by decide +kernel, rfl⟩
theorem dX5_init_104 : At cX5_init 104 (.new 45) 3 107 := ⟨by decide +kernel, rfl⟩
theorem dX5_init_107 : At cX5_init 107 (.dup) 1 108 := ⟨by decide +kernel, rfl⟩
theorem dX5_init_108 : At cX5_init 108 (.sipush 480) 3 111 := ⟨by decide +kernel, rfl⟩
theorem dX5_init_111 : At cX5_init 111 (.invokespecial 47) 3 114 := ⟨by decide +kernel, rfl⟩
theorem dX5_init_114 : At cX5_init 114 (.putfield 54) 3 117 := ⟨by decide +kernel, rfl⟩
theorem dX5_init_117 : At cX5_init 117 (.aload_n 0) 1 118 := ⟨by decide +kernel, rfl⟩
theorem dX5_init_118 : At cX5_init 118 (.new 45) 3 121 := ⟨by decide +kernel, rfl⟩
theorem dX5_init_121 : At cX5_init 121 (.dup) 1 122 := ⟨by decide +kernel, rfl⟩
theorem dX5_init_122 : At cX5_init 122 (.sipush 480) 3 125 := ⟨by decide +kernel, rfl⟩
theorem dX5_init_125 : At cX5_init 125 (.invokespecial 47) 3 128 := ⟨by decide +kernel, rfl⟩
theorem dX5_init_128 : At cX5_init 128 (.putfield 57) 3 131 := ⟨by decide +kernel, rfl⟩
theorem dX5_init_131 : At cX5_init 131 (.return_) 1 132 := ⟨by decide +kernel, rfl⟩
theorem dX5_width_0 : At cX5_width 0 (.iload_n 1) 1 1 := ⟨by decide +kernel, rfl⟩
theorem dX5_width_1 : At cX5_width 1 (.invokestatic 60) 3 4 := ⟨by decide +kernel, rfl⟩
theorem dX5_width_4 : Br cX5_width 4 (.ifCond .ne) 7 9 := ⟨(5), by decide +kernel, rfl, by decide⟩
theorem dX5_width_7 : At cX5_width 7 (.iconst (-1)) 1 8 := ⟨by decide +kernel, rfl⟩
theorem dX5_width_8 : At cX5_width 8 (.ireturn) 1 9 := ⟨by decide +kernel, rfl⟩
theorem dX5_width_9 : At cX5_width 9 (.iload_n 2) 1 10 := ⟨by decide +kernel, rfl⟩
theorem dX5_width_10 : At cX5_width 10 (.iconst 1) 1 11 := ⟨by decide +kernel, rfl⟩
theorem dX5_width_11 : Br cX5_width 11 (.if_icmp .lt) 14 20 := ⟨(9), by decide +kernel, rfl, by decide⟩
theorem dX5_width_14 : At cX5_width 14 (.iload_n 2) 1 15 := ⟨by decide +kernel, rfl⟩
theorem dX5_width_15 : At cX5_width 15 (.bipush 99) 2 17 := ⟨by decide +kernel, rfl⟩
theorem dX5_width_17 : Br cX5_width 17 (.if_icmp .le) 20 23 := ⟨(6), by decide +kernel, rfl, by decide⟩
theorem dX5_width_20 : At cX5_width 20 (.bipush (-2)) 2 22 := ⟨by decide +kernel, rfl⟩
theorem dX5_width_22 : At cX5_width 22 (.ireturn) 1 23 := ⟨by decide +kernel, rfl⟩
theorem dX5_width_23 : At cX5_width 23 (.aload_n 0) 1 24 := ⟨by decide +kernel, rfl⟩
theorem dX5_width_24 : At cX5_width 24 (.getfield 19) 3 27 := ⟨by decide +kernel, rfl⟩
theorem dX5_width_27 : At cX5_width 27 (.aload_n 0) 1 28 := ⟨by decide +kernel, rfl⟩
theorem dX5_width_28 : At cX5_width 28 (.getfield 12) 3 31 := ⟨by decide +kernel, rfl⟩
theorem dX5_width_31 : At cX5_width 31 (.invokevirtual 64) 3 34 := ⟨by decide +kernel, rfl⟩
theorem dX5_width_34 : At cX5_width 34 (.aload_n 0) 1 35 := ⟨by decide +kernel, rfl⟩
theorem dX5_width_35 : At cX5_width 35 (.getfield 12) 3 38 := ⟨by decide +kernel, rfl⟩
theorem dX5_width_38 : At cX5_width 38 (.getfield 68) 3 41 := ⟨by decide +kernel, rfl⟩
theorem dX5_width_41 : At cX5_width 41 (.iload_n 1) 1 42 := ⟨by decide +kernel, rfl⟩
theorem dX5_width_42 : At cX5_width 42 (.iaload) 1 43 := ⟨by decide +kernel, rfl⟩
theorem dX5_width_43 : At cX5_width 43 (.istore_n 3) 1 44 := ⟨by decide +kernel, rfl⟩
theorem dX5_width_44 : At cX5_width 44 (.aload_n 0) 1 45 := ⟨by decide +kernel, rfl⟩
theorem dX5_width_45 : At cX5_width 45 (.getfield 12) 3 48 := ⟨by decide +kernel, rfl⟩
theorem dX5_width_48 : At cX5_width 48 (.getfield 68) 3 51 := ⟨by decide +kernel, rfl⟩
theorem dX5_width_51 : At cX5_width 51 (.iload_n 1) 1 52 := ⟨by decide +kernel, rfl⟩
theorem dX5_width_52 : At cX5_width 52 (.iload_n 2) 1 53 := ⟨by decide +kernel, rfl⟩
theorem dX5_width_53 : At cX5_width 53 (.iastore) 1 54 := ⟨by decide +kernel, rfl⟩
theorem dX5_width_54 : At cX5_width 54 (.iload_n 3) 1 55 := ⟨by decide +kernel, rfl⟩
theorem dX5_width_55 : At cX5_width 55 (.ireturn) 1 56 := ⟨by decide +kernel, rfl⟩
theorem dX5_cross_0 : At cX5_cross 0 (.iload_n 1) 1 1 := ⟨by decide +kernel, rfl⟩
theorem dX5_cross_1 : At cX5_cross 1 (.invokestatic 72) 3 4 := ⟨by decide +kernel, rfl⟩
theorem dX5_cross_4 : Br cX5_cross 4 (.ifCond .ne) 7 9 := ⟨(5), by decide +kernel, rfl, by decide⟩
theorem dX5_cross_7 : At cX5_cross 7 (.iconst (-1)) 1 8 := ⟨by decide +kernel, rfl⟩
theorem dX5_cross_8 : At cX5_cross 8 (.ireturn) 1 9 := ⟨by decide +kernel, rfl⟩
theorem dX5_cross_9 : At cX5_cross 9 (.iload_n 2) 1 10 := ⟨by decide +kernel, rfl⟩
theorem dX5_cross_10 : Br cX5_cross 10 (.ifCond .lt) 13 19 := ⟨(9), by decide +kernel, rfl, by decide⟩
theorem dX5_cross_13 : At cX5_cross 13 (.iload_n 2) 1 14 := ⟨by decide +kernel, rfl⟩
theorem dX5_cross_14 : At cX5_cross 14 (.bipush 12) 2 16 := ⟨by decide +kernel, rfl⟩
theorem dX5_cross_16 : Br cX5_cross 16 (.if_icmp .lt) 19 22 := ⟨(6), by decide +kernel, rfl, by decide⟩
theorem dX5_cross_19 : At cX5_cross 19 (.bipush (-2)) 2 21 := ⟨by decide +kernel, rfl⟩
theorem dX5_cross_21 : At cX5_cross 21 (.ireturn) 1 22 := ⟨by decide +kernel, rfl⟩
theorem dX5_cross_22 : At cX5_cross 22 (.aload_n 0) 1 23 := ⟨by decide +kernel, rfl⟩
theorem dX5_cross_23 : At cX5_cross 23 (.getfield 12) 3 26 := ⟨by decide +kernel, rfl⟩
theorem dX5_cross_26 : At cX5_cross 26 (.getfield 75) 3 29 := ⟨by decide +kernel, rfl⟩
theorem dX5_cross_29 : At cX5_cross 29 (.iload_n 1) 1 30 := ⟨by decide +kernel, rfl⟩
theorem dX5_cross_30 : At cX5_cross 30 (.aaload) 1 31 := ⟨by decide +kernel, rfl⟩
theorem dX5_cross_31 : At cX5_cross 31 (.astore_n 3) 1 32 := ⟨by decide +kernel, rfl⟩
theorem dX5_cross_32 : At cX5_cross 32 (.aload_n 3) 1 33 := ⟨by decide +kernel, rfl⟩
theorem dX5_cross_33 : At cX5_cross 33 (.getfield 79) 3 36 := ⟨by decide +kernel, rfl⟩
theorem dX5_cross_36 : At cX5_cross 36 (.bipush 120) 2 38 := ⟨by decide +kernel, rfl⟩
theorem dX5_cross_38 : Br cX5_cross 38 (.if_icmp .lt) 41 44 := ⟨(6), by decide +kernel, rfl, by decide⟩
theorem dX5_cross_41 : At cX5_cross 41 (.bipush (-4)) 2 43 := ⟨by decide +kernel, rfl⟩
theorem dX5_cross_43 : At cX5_cross 43 (.ireturn) 1 44 := ⟨by decide +kernel, rfl⟩
theorem dX5_cross_44 : At cX5_cross 44 (.aload_n 0) 1 45 := ⟨by decide +kernel, rfl⟩
theorem dX5_cross_45 : At cX5_cross 45 (.getfield 19) 3 48 := ⟨by decide +kernel, rfl⟩
theorem dX5_cross_48 : At cX5_cross 48 (.aload_n 0) 1 49 := ⟨by decide +kernel, rfl⟩
theorem dX5_cross_49 : At cX5_cross 49 (.getfield 12) 3 52 := ⟨by decide +kernel, rfl⟩
theorem dX5_cross_52 : At cX5_cross 52 (.invokevirtual 64) 3 55 := ⟨by decide +kernel, rfl⟩
theorem dX5_cross_55 : At cX5_cross 55 (.aload_n 3) 1 56 := ⟨by decide +kernel, rfl⟩
theorem dX5_cross_56 : At cX5_cross 56 (.iload_n 2) 1 57 := ⟨by decide +kernel, rfl⟩
theorem dX5_cross_57 : At cX5_cross 57 (.invokevirtual 83) 3 60 := ⟨by decide +kernel, rfl⟩
theorem dX5_cross_60 : At cX5_cross 60 (.pop) 1 61 := ⟨by decide +kernel, rfl⟩
theorem dX5_cross_61 : At cX5_cross 61 (.aload_n 3) 1 62 := ⟨by decide +kernel, rfl⟩
theorem dX5_cross_62 : At cX5_cross 62 (.getfield 79) 3 65 := ⟨by decide +kernel, rfl⟩
theorem dX5_cross_65 : At cX5_cross 65 (.ireturn) 1 66 := ⟨by decide +kernel, rfl⟩
theorem dX5_back_0 : At cX5_back 0 (.iload_n 1) 1 1 := ⟨by decide +kernel, rfl⟩
theorem dX5_back_1 : At cX5_back 1 (.invokestatic 72) 3 4 := ⟨by decide +kernel, rfl⟩
theorem dX5_back_4 : Br cX5_back 4 (.ifCond .ne) 7 9 := ⟨(5), by decide +kernel, rfl, by decide⟩
theorem dX5_back_7 : At cX5_back 7 (.iconst (-1)) 1 8 := ⟨by decide +kernel, rfl⟩
theorem dX5_back_8 : At cX5_back 8 (.ireturn) 1 9 := ⟨by decide +kernel, rfl⟩
theorem dX5_back_9 : At cX5_back 9 (.iload_n 2) 1 10 := ⟨by decide +kernel, rfl⟩
theorem dX5_back_10 : At cX5_back 10 (.iconst 1) 1 11 := ⟨by decide +kernel, rfl⟩
theorem dX5_back_11 : Br cX5_back 11 (.if_icmp .lt) 14 20 := ⟨(9), by decide +kernel, rfl, by decide⟩
theorem dX5_back_14 : At cX5_back 14 (.iload_n 2) 1 15 := ⟨by decide +kernel, rfl⟩
theorem dX5_back_15 : At cX5_back 15 (.bipush 120) 2 17 := ⟨by decide +kernel, rfl⟩
theorem dX5_back_17 : Br cX5_back 17 (.if_icmp .le) 20 23 := ⟨(6), by decide +kernel, rfl, by decide⟩
theorem dX5_back_20 : At cX5_back 20 (.bipush (-2)) 2 22 := ⟨by decide +kernel, rfl⟩
theorem dX5_back_22 : At cX5_back 22 (.ireturn) 1 23 := ⟨by decide +kernel, rfl⟩
theorem dX5_back_23 : At cX5_back 23 (.aload_n 0) 1 24 := ⟨by decide +kernel, rfl⟩
theorem dX5_back_24 : At cX5_back 24 (.getfield 12) 3 27 := ⟨by decide +kernel, rfl⟩
theorem dX5_back_27 : At cX5_back 27 (.getfield 75) 3 30 := ⟨by decide +kernel, rfl⟩
theorem dX5_back_30 : At cX5_back 30 (.iload_n 1) 1 31 := ⟨by decide +kernel, rfl⟩
theorem dX5_back_31 : At cX5_back 31 (.aaload) 1 32 := ⟨by decide +kernel, rfl⟩
theorem dX5_back_32 : At cX5_back 32 (.astore_n 3) 1 33 := ⟨by decide +kernel, rfl⟩
theorem dX5_back_33 : At cX5_back 33 (.iload_n 2) 1 34 := ⟨by decide +kernel, rfl⟩
theorem dX5_back_34 : At cX5_back 34 (.aload_n 3) 1 35 := ⟨by decide +kernel, rfl⟩
theorem dX5_back_35 : At cX5_back 35 (.getfield 79) 3 38 := ⟨by decide +kernel, rfl⟩
theorem dX5_back_38 : Br cX5_back 38 (.if_icmp .le) 41 44 := ⟨(6), by decide +kernel, rfl, by decide⟩
theorem dX5_back_41 : At cX5_back 41 (.bipush (-5)) 2 43 := ⟨by decide +kernel, rfl⟩
theorem dX5_back_43 : At cX5_back 43 (.ireturn) 1 44 := ⟨by decide +kernel, rfl⟩
theorem dX5_back_44 : At cX5_back 44 (.aload_n 0) 1 45 := ⟨by decide +kernel, rfl⟩
theorem dX5_back_45 : At cX5_back 45 (.getfield 19) 3 48 := ⟨by decide +kernel, rfl⟩
theorem dX5_back_48 : At cX5_back 48 (.aload_n 0) 1 49 := ⟨by decide +kernel, rfl⟩
theorem dX5_back_49 : At cX5_back 49 (.getfield 12) 3 52 := ⟨by decide +kernel, rfl⟩
theorem dX5_back_52 : At cX5_back 52 (.invokevirtual 64) 3 55 := ⟨by decide +kernel, rfl⟩
theorem dX5_back_55 : At cX5_back 55 (.aload_n 3) 1 56 := ⟨by decide +kernel, rfl⟩
theorem dX5_back_56 : At cX5_back 56 (.iload_n 2) 1 57 := ⟨by decide +kernel, rfl⟩
theorem dX5_back_57 : At cX5_back 57 (.invokevirtual 86) 3 60 := ⟨by decide +kernel, rfl⟩
theorem dX5_back_60 : At cX5_back 60 (.aload_n 3) 1 61 := ⟨by decide +kernel, rfl⟩
theorem dX5_back_61 : At cX5_back 61 (.getfield 79) 3 64 := ⟨by decide +kernel, rfl⟩
theorem dX5_back_64 : At cX5_back 64 (.ireturn) 1 65 := ⟨by decide +kernel, rfl⟩
theorem dX5_pull_0 : At cX5_pull 0 (.iload_n 1) 1 1 := ⟨by decide +kernel, rfl⟩
theorem dX5_pull_1 : At cX5_pull 1 (.invokestatic 72) 3 4 := ⟨by decide +kernel, rfl⟩
theorem dX5_pull_4 : Br cX5_pull 4 (.ifCond .ne) 7 9 := ⟨(5), by decide +kernel, rfl, by decide⟩
theorem dX5_pull_7 : At cX5_pull 7 (.iconst (-1)) 1 8 := ⟨by decide +kernel, rfl⟩
theorem dX5_pull_8 : At cX5_pull 8 (.ireturn) 1 9 := ⟨by decide +kernel, rfl⟩
theorem dX5_pull_9 : At cX5_pull 9 (.aload_n 0) 1 10 := ⟨by decide +kernel, rfl⟩
theorem dX5_pull_10 : At cX5_pull 10 (.getfield 19) 3 13 := ⟨by decide +kernel, rfl⟩
theorem dX5_pull_13 : At cX5_pull 13 (.aload_n 0) 1 14 := ⟨by decide +kernel, rfl⟩
theorem dX5_pull_14 : At cX5_pull 14 (.getfield 12) 3 17 := ⟨by decide +kernel, rfl⟩
theorem dX5_pull_17 : At cX5_pull 17 (.invokevirtual 64) 3 20 := ⟨by decide +kernel, rfl⟩
theorem dX5_pull_20 : At cX5_pull 20 (.aload_n 0) 1 21 := ⟨by decide +kernel, rfl⟩
theorem dX5_pull_21 : At cX5_pull 21 (.getfield 12) 3 24 := ⟨by decide +kernel, rfl⟩
theorem dX5_pull_24 : At cX5_pull 24 (.getfield 75) 3 27 := ⟨by decide +kernel, rfl⟩
theorem dX5_pull_27 : At cX5_pull 27 (.iload_n 1) 1 28 := ⟨by decide +kernel, rfl⟩
theorem dX5_pull_28 : At cX5_pull 28 (.aaload) 1 29 := ⟨by decide +kernel, rfl⟩
theorem dX5_pull_29 : At cX5_pull 29 (.invokevirtual 89) 3 32 := ⟨by decide +kernel, rfl⟩
theorem dX5_pull_32 : At cX5_pull 32 (.ireturn) 1 33 := ⟨by decide +kernel, rfl⟩
theorem dX5_join_0 : At cX5_join 0 (.iload_n 1) 1 1 := ⟨by decide +kernel, rfl⟩
theorem dX5_join_1 : At cX5_join 1 (.invokestatic 72) 3 4 := ⟨by decide +kernel, rfl⟩
theorem dX5_join_4 : Br cX5_join 4 (.ifCond .eq) 7 14 := ⟨(10), by decide +kernel, rfl, by decide⟩
theorem dX5_join_7 : At cX5_join 7 (.iload_n 2) 1 8 := ⟨by decide +kernel, rfl⟩
theorem dX5_join_8 : At cX5_join 8 (.invokestatic 72) 3 11 := ⟨by decide +kernel, rfl⟩
theorem dX5_join_11 : Br cX5_join 11 (.ifCond .ne) 14 16 := ⟨(5), by decide +kernel, rfl, by decide⟩
theorem dX5_join_14 : At cX5_join 14 (.iconst (-1)) 1 15 := ⟨by decide +kernel, rfl⟩
theorem dX5_join_15 : At cX5_join 15 (.ireturn) 1 16 := ⟨by decide +kernel, rfl⟩
theorem dX5_join_16 : At cX5_join 16 (.aload_n 0) 1 17 := ⟨by decide +kernel, rfl⟩
theorem dX5_join_17 : At cX5_join 17 (.getfield 12) 3 20 := ⟨by decide +kernel, rfl⟩
theorem dX5_join_20 : At cX5_join 20 (.getfield 75) 3 23 := ⟨by decide +kernel, rfl⟩
theorem dX5_join_23 : At cX5_join 23 (.iload_n 1) 1 24 := ⟨by decide +kernel, rfl⟩
theorem dX5_join_24 : At cX5_join 24 (.aaload) 1 25 := ⟨by decide +kernel, rfl⟩
theorem dX5_join_25 : At cX5_join 25 (.astore_n 3) 1 26 := ⟨by decide +kernel, rfl⟩
theorem dX5_join_26 : At cX5_join 26 (.aload_n 3) 1 27 := ⟨by decide +kernel, rfl⟩
theorem dX5_join_27 : At cX5_join 27 (.getfield 79) 3 30 := ⟨by decide +kernel, rfl⟩
theorem dX5_join_30 : At cX5_join 30 (.aload_n 0) 1 31 := ⟨by decide +kernel, rfl⟩
theorem dX5_join_31 : At cX5_join 31 (.getfield 12) 3 34 := ⟨by decide +kernel, rfl⟩
theorem dX5_join_34 : At cX5_join 34 (.getfield 75) 3 37 := ⟨by decide +kernel, rfl⟩
theorem dX5_join_37 : At cX5_join 37 (.iload_n 2) 1 38 := ⟨by decide +kernel, rfl⟩
theorem dX5_join_38 : At cX5_join 38 (.aaload) 1 39 := ⟨by decide +kernel, rfl⟩
theorem dX5_join_39 : At cX5_join 39 (.getfield 79) 3 42 := ⟨by decide +kernel, rfl⟩
theorem dX5_join_42 : At cX5_join 42 (.iadd) 1 43 := ⟨by decide +kernel, rfl⟩
theorem dX5_join_43 : At cX5_join 43 (.bipush 120) 2 45 := ⟨by decide +kernel, rfl⟩
theorem dX5_join_45 : Br cX5_join 45 (.if_icmp .le) 48 51 := ⟨(6), by decide +kernel, rfl, by decide⟩
theorem dX5_join_48 : At cX5_join 48 (.bipush (-4)) 2 50 := ⟨by decide +kernel, rfl⟩
theorem dX5_join_50 : At cX5_join 50 (.ireturn) 1 51 := ⟨by decide +kernel, rfl⟩
theorem dX5_join_51 : At cX5_join 51 (.aload_n 0) 1 52 := ⟨by decide +kernel, rfl⟩
theorem dX5_join_52 : At cX5_join 52 (.getfield 19) 3 55 := ⟨by decide +kernel, rfl⟩
theorem dX5_join_55 : At cX5_join 55 (.aload_n 0) 1 56 := ⟨by decide +kernel, rfl⟩
theorem dX5_join_56 : At cX5_join 56 (.getfield 12) 3 59 := ⟨by decide +kernel, rfl⟩
theorem dX5_join_59 : At cX5_join 59 (.invokevirtual 64) 3 62 := ⟨by decide +kernel, rfl⟩
theorem dX5_join_62 : At cX5_join 62 (.aload_n 3) 1 63 := ⟨by decide +kernel, rfl⟩
theorem dX5_join_63 : At cX5_join 63 (.aload_n 0) 1 64 := ⟨by decide +kernel, rfl⟩
theorem dX5_join_64 : At cX5_join 64 (.getfield 12) 3 67 := ⟨by decide +kernel, rfl⟩
theorem dX5_join_67 : At cX5_join 67 (.getfield 75) 3 70 := ⟨by decide +kernel, rfl⟩
theorem dX5_join_70 : At cX5_join 70 (.iload_n 2) 1 71 := ⟨by decide +kernel, rfl⟩
theorem dX5_join_71 : At cX5_join 71 (.aaload) 1 72 := ⟨by decide +kernel, rfl⟩
theorem dX5_join_72 : At cX5_join 72 (.invokevirtual 93) 3 75 := ⟨by decide +kernel, rfl⟩
theorem dX5_join_75 : At cX5_join 75 (.aload_n 3) 1 76 := ⟨by decide +kernel, rfl⟩
theorem dX5_join_76 : At cX5_join 76 (.getfield 79) 3 79 := ⟨by decide +kernel, rfl⟩
theorem dX5_join_79 : At cX5_join 79 (.ireturn) 1 80 := ⟨by decide +kernel, rfl⟩
theorem dX5_turn_0 : At cX5_turn 0 (.iload_n 1) 1 1 := ⟨by decide +kernel, rfl⟩
theorem dX5_turn_1 : At cX5_turn 1 (.invokestatic 72) 3 4 := ⟨by decide +kernel, rfl⟩
theorem dX5_turn_4 : Br cX5_turn 4 (.ifCond .ne) 7 9 := ⟨(5), by decide +kernel, rfl, by decide⟩
theorem dX5_turn_7 : At cX5_turn 7 (.iconst (-1)) 1 8 := ⟨by decide +kernel, rfl⟩
theorem dX5_turn_8 : At cX5_turn 8 (.ireturn) 1 9 := ⟨by decide +kernel, rfl⟩
theorem dX5_turn_9 : At cX5_turn 9 (.aload_n 0) 1 10 := ⟨by decide +kernel, rfl⟩
theorem dX5_turn_10 : At cX5_turn 10 (.getfield 19) 3 13 := ⟨by decide +kernel, rfl⟩
theorem dX5_turn_13 : At cX5_turn 13 (.aload_n 0) 1 14 := ⟨by decide +kernel, rfl⟩
theorem dX5_turn_14 : At cX5_turn 14 (.getfield 12) 3 17 := ⟨by decide +kernel, rfl⟩
theorem dX5_turn_17 : At cX5_turn 17 (.invokevirtual 64) 3 20 := ⟨by decide +kernel, rfl⟩
theorem dX5_turn_20 : At cX5_turn 20 (.aload_n 0) 1 21 := ⟨by decide +kernel, rfl⟩
theorem dX5_turn_21 : At cX5_turn 21 (.getfield 12) 3 24 := ⟨by decide +kernel, rfl⟩
theorem dX5_turn_24 : At cX5_turn 24 (.getfield 75) 3 27 := ⟨by decide +kernel, rfl⟩
theorem dX5_turn_27 : At cX5_turn 27 (.iload_n 1) 1 28 := ⟨by decide +kernel, rfl⟩
theorem dX5_turn_28 : At cX5_turn 28 (.aaload) 1 29 := ⟨by decide +kernel, rfl⟩
theorem dX5_turn_29 : At cX5_turn 29 (.astore_n 2) 1 30 := ⟨by decide +kernel, rfl⟩
theorem dX5_turn_30 : At cX5_turn 30 (.aload_n 2) 1 31 := ⟨by decide +kernel, rfl⟩
theorem dX5_turn_31 : At cX5_turn 31 (.iconst 0) 1 32 := ⟨by decide +kernel, rfl⟩
theorem dX5_turn_32 : At cX5_turn 32 (.invokevirtual 97) 3 35 := ⟨by decide +kernel, rfl⟩
theorem dX5_turn_35 : At cX5_turn 35 (.aload_n 2) 1 36 := ⟨by decide +kernel, rfl⟩
theorem dX5_turn_36 : At cX5_turn 36 (.getfield 79) 3 39 := ⟨by decide +kernel, rfl⟩
theorem dX5_turn_39 : At cX5_turn 39 (.ireturn) 1 40 := ⟨by decide +kernel, rfl⟩
theorem dX5_weave_0 : At cX5_weave 0 (.iload_n 1) 1 1 := ⟨by decide +kernel, rfl⟩
theorem dX5_weave_1 : At cX5_weave 1 (.invokestatic 72) 3 4 := ⟨by decide +kernel, rfl⟩
theorem dX5_weave_4 : Br cX5_weave 4 (.ifCond .eq) 7 19 := ⟨(15), by decide +kernel, rfl, by decide⟩
theorem dX5_weave_7 : At cX5_weave 7 (.iload_n 2) 1 8 := ⟨by decide +kernel, rfl⟩
theorem dX5_weave_8 : At cX5_weave 8 (.invokestatic 72) 3 11 := ⟨by decide +kernel, rfl⟩
theorem dX5_weave_11 : Br cX5_weave 11 (.ifCond .eq) 14 19 := ⟨(8), by decide +kernel, rfl, by decide⟩
theorem dX5_weave_14 : At cX5_weave 14 (.iload_n 1) 1 15 := ⟨by decide +kernel, rfl⟩
theorem dX5_weave_15 : At cX5_weave 15 (.iload_n 2) 1 16 := ⟨by decide +kernel, rfl⟩
theorem dX5_weave_16 : Br cX5_weave 16 (.if_icmp .ne) 19 21 := ⟨(5), by decide +kernel, rfl, by decide⟩
theorem dX5_weave_19 : At cX5_weave 19 (.iconst (-1)) 1 20 := ⟨by decide +kernel, rfl⟩
theorem dX5_weave_20 : At cX5_weave 20 (.ireturn) 1 21 := ⟨by decide +kernel, rfl⟩
theorem dX5_weave_21 : At cX5_weave 21 (.aload_n 0) 1 22 := ⟨by decide +kernel, rfl⟩
theorem dX5_weave_22 : At cX5_weave 22 (.getfield 12) 3 25 := ⟨by decide +kernel, rfl⟩
theorem dX5_weave_25 : At cX5_weave 25 (.getfield 75) 3 28 := ⟨by decide +kernel, rfl⟩
theorem dX5_weave_28 : At cX5_weave 28 (.iload_n 1) 1 29 := ⟨by decide +kernel, rfl⟩
theorem dX5_weave_29 : At cX5_weave 29 (.aaload) 1 30 := ⟨by decide +kernel, rfl⟩
theorem dX5_weave_30 : At cX5_weave 30 (.astore_n 3) 1 31 := ⟨by decide +kernel, rfl⟩
theorem dX5_weave_31 : At cX5_weave 31 (.aload_n 0) 1 32 := ⟨by decide +kernel, rfl⟩
theorem dX5_weave_32 : At cX5_weave 32 (.getfield 50) 3 35 := ⟨by decide +kernel, rfl⟩
theorem dX5_weave_35 : At cX5_weave 35 (.invokevirtual 100) 3 38 := ⟨by decide +kernel, rfl⟩
theorem dX5_weave_38 : At cX5_weave 38 (.aload_n 0) 1 39 := ⟨by decide +kernel, rfl⟩
theorem dX5_weave_39 : At cX5_weave 39 (.getfield 50) 3 42 := ⟨by decide +kernel, rfl⟩
theorem dX5_weave_42 : At cX5_weave 42 (.aload_n 3) 1 43 := ⟨by decide +kernel, rfl⟩
theorem dX5_weave_43 : At cX5_weave 43 (.invokevirtual 93) 3 46 := ⟨by decide +kernel, rfl⟩
theorem dX5_weave_46 : At cX5_weave 46 (.aload_n 0) 1 47 := ⟨by decide +kernel, rfl⟩
theorem dX5_weave_47 : At cX5_weave 47 (.getfield 50) 3 50 := ⟨by decide +kernel, rfl⟩
theorem dX5_weave_50 : At cX5_weave 50 (.aload_n 0) 1 51 := ⟨by decide +kernel, rfl⟩
theorem dX5_weave_51 : At cX5_weave 51 (.getfield 12) 3 54 := ⟨by decide +kernel, rfl⟩
theorem dX5_weave_54 : At cX5_weave 54 (.getfield 75) 3 57 := ⟨by decide +kernel, rfl⟩
theorem dX5_weave_57 : At cX5_weave 57 (.iload_n 2) 1 58 := ⟨by decide +kernel, rfl⟩
theorem dX5_weave_58 : At cX5_weave 58 (.aaload) 1 59 := ⟨by decide +kernel, rfl⟩
theorem dX5_weave_59 : At cX5_weave 59 (.invokevirtual 93) 3 62 := ⟨by decide +kernel, rfl⟩
theorem dX5_weave_62 : At cX5_weave 62 (.aload_n 0) 1 63 := ⟨by decide +kernel, rfl⟩
theorem dX5_weave_63 : At cX5_weave 63 (.getfield 50) 3 66 := ⟨by decide +kernel, rfl⟩
theorem dX5_weave_66 : At cX5_weave 66 (.aload_n 3) 1 67 := ⟨by decide +kernel, rfl⟩
theorem dX5_weave_67 : At cX5_weave 67 (.invokevirtual 103) 3 70 := ⟨by decide +kernel, rfl⟩
theorem dX5_weave_70 : At cX5_weave 70 (.aload_n 0) 1 71 := ⟨by decide +kernel, rfl⟩
theorem dX5_weave_71 : At cX5_weave 71 (.getfield 50) 3 74 := ⟨by decide +kernel, rfl⟩
theorem dX5_weave_74 : At cX5_weave 74 (.aload_n 0) 1 75 := ⟨by decide +kernel, rfl⟩
theorem dX5_weave_75 : At cX5_weave 75 (.getfield 12) 3 78 := ⟨by decide +kernel, rfl⟩
theorem dX5_weave_78 : At cX5_weave 78 (.getfield 75) 3 81 := ⟨by decide +kernel, rfl⟩
theorem dX5_weave_81 : At cX5_weave 81 (.iload_n 2) 1 82 := ⟨by decide +kernel, rfl⟩
theorem dX5_weave_82 : At cX5_weave 82 (.aaload) 1 83 := ⟨by decide +kernel, rfl⟩
theorem dX5_weave_83 : At cX5_weave 83 (.invokevirtual 103) 3 86 := ⟨by decide +kernel, rfl⟩
theorem dX5_weave_86 : At cX5_weave 86 (.aload_n 0) 1 87 := ⟨by decide +kernel, rfl⟩
theorem dX5_weave_87 : At cX5_weave 87 (.getfield 50) 3 90 := ⟨by decide +kernel, rfl⟩
theorem dX5_weave_90 : At cX5_weave 90 (.invokevirtual 89) 3 93 := ⟨by decide +kernel, rfl⟩
theorem dX5_weave_93 : At cX5_weave 93 (.pop) 1 94 := ⟨by decide +kernel, rfl⟩
theorem dX5_weave_94 : At cX5_weave 94 (.aload_n 0) 1 95 := ⟨by decide +kernel, rfl⟩
theorem dX5_weave_95 : At cX5_weave 95 (.getfield 50) 3 98 := ⟨by decide +kernel, rfl⟩
theorem dX5_weave_98 : At cX5_weave 98 (.getfield 79) 3 101 := ⟨by decide +kernel, rfl⟩
theorem dX5_weave_101 : At cX5_weave 101 (.bipush 120) 2 103 := ⟨by decide +kernel, rfl⟩
theorem dX5_weave_103 : Br cX5_weave 103 (.if_icmp .le) 106 109 := ⟨(6), by decide +kernel, rfl, by decide⟩
theorem dX5_weave_106 : At cX5_weave 106 (.bipush (-4)) 2 108 := ⟨by decide +kernel, rfl⟩
theorem dX5_weave_108 : At cX5_weave 108 (.ireturn) 1 109 := ⟨by decide +kernel, rfl⟩
theorem dX5_weave_109 : At cX5_weave 109 (.aload_n 0) 1 110 := ⟨by decide +kernel, rfl⟩
theorem dX5_weave_110 : At cX5_weave 110 (.getfield 19) 3 113 := ⟨by decide +kernel, rfl⟩
theorem dX5_weave_113 : At cX5_weave 113 (.aload_n 0) 1 114 := ⟨by decide +kernel, rfl⟩
theorem dX5_weave_114 : At cX5_weave 114 (.getfield 12) 3 117 := ⟨by decide +kernel, rfl⟩
theorem dX5_weave_117 : At cX5_weave 117 (.invokevirtual 64) 3 120 := ⟨by decide +kernel, rfl⟩
theorem dX5_weave_120 : At cX5_weave 120 (.aload_n 3) 1 121 := ⟨by decide +kernel, rfl⟩
theorem dX5_weave_121 : At cX5_weave 121 (.aload_n 0) 1 122 := ⟨by decide +kernel, rfl⟩
theorem dX5_weave_122 : At cX5_weave 122 (.getfield 50) 3 125 := ⟨by decide +kernel, rfl⟩
theorem dX5_weave_125 : At cX5_weave 125 (.invokevirtual 106) 3 128 := ⟨by decide +kernel, rfl⟩
theorem dX5_weave_128 : At cX5_weave 128 (.aload_n 3) 1 129 := ⟨by decide +kernel, rfl⟩
theorem dX5_weave_129 : At cX5_weave 129 (.getfield 79) 3 132 := ⟨by decide +kernel, rfl⟩
theorem dX5_weave_132 : At cX5_weave 132 (.ireturn) 1 133 := ⟨by decide +kernel, rfl⟩
theorem dX5_swap_0 : At cX5_swap 0 (.iload_n 1) 1 1 := ⟨by decide +kernel, rfl⟩
theorem dX5_swap_1 : At cX5_swap 1 (.invokestatic 109) 3 4 := ⟨by decide +kernel, rfl⟩
theorem dX5_swap_4 : Br cX5_swap 4 (.ifCond .ne) 7 9 := ⟨(5), by decide +kernel, rfl, by decide⟩
theorem dX5_swap_7 : At cX5_swap 7 (.iconst (-1)) 1 8 := ⟨by decide +kernel, rfl⟩
theorem dX5_swap_8 : At cX5_swap 8 (.ireturn) 1 9 := ⟨by decide +kernel, rfl⟩
theorem dX5_swap_9 : At cX5_swap 9 (.iload_n 2) 1 10 := ⟨by decide +kernel, rfl⟩
theorem dX5_swap_10 : At cX5_swap 10 (.invokestatic 112) 3 13 := ⟨by decide +kernel, rfl⟩
theorem dX5_swap_13 : Br cX5_swap 13 (.ifCond .ne) 16 19 := ⟨(6), by decide +kernel, rfl, by decide⟩
theorem dX5_swap_16 : At cX5_swap 16 (.bipush (-2)) 2 18 := ⟨by decide +kernel, rfl⟩
theorem dX5_swap_18 : At cX5_swap 18 (.ireturn) 1 19 := ⟨by decide +kernel, rfl⟩
theorem dX5_swap_19 : At cX5_swap 19 (.iconst 0) 1 20 := ⟨by decide +kernel, rfl⟩
theorem dX5_swap_20 : At cX5_swap 20 (.istore_n 3) 1 21 := ⟨by decide +kernel, rfl⟩
theorem dX5_swap_21 : At cX5_swap 21 (.iload_n 3) 1 22 := ⟨by decide +kernel, rfl⟩
theorem dX5_swap_22 : At cX5_swap 22 (.iconst 4) 1 23 := ⟨by decide +kernel, rfl⟩
theorem dX5_swap_23 : Br cX5_swap 23 (.if_icmp .ge) 26 62 := ⟨(39), by decide +kernel, rfl, by decide⟩
theorem dX5_swap_26 : At cX5_swap 26 (.aload_n 0) 1 27 := ⟨by decide +kernel, rfl⟩
theorem dX5_swap_27 : At cX5_swap 27 (.aload_n 0) 1 28 := ⟨by decide +kernel, rfl⟩
theorem dX5_swap_28 : At cX5_swap 28 (.getfield 12) 3 31 := ⟨by decide +kernel, rfl⟩
theorem dX5_swap_31 : At cX5_swap 31 (.getfield 75) 3 34 := ⟨by decide +kernel, rfl⟩
theorem dX5_swap_34 : At cX5_swap 34 (.iload_n 3) 1 35 := ⟨by decide +kernel, rfl⟩
theorem dX5_swap_35 : At cX5_swap 35 (.aaload) 1 36 := ⟨by decide +kernel, rfl⟩
theorem dX5_swap_36 : At cX5_swap 36 (.iload_n 1) 1 37 := ⟨by decide +kernel, rfl⟩
theorem dX5_swap_37 : At cX5_swap 37 (.iload_n 2) 1 38 := ⟨by decide +kernel, rfl⟩
theorem dX5_swap_38 : At cX5_swap 38 (.invokevirtual 115) 3 41 := ⟨by decide +kernel, rfl⟩
theorem dX5_swap_41 : At cX5_swap 41 (.aload_n 0) 1 42 := ⟨by decide +kernel, rfl⟩
theorem dX5_swap_42 : At cX5_swap 42 (.getfield 50) 3 45 := ⟨by decide +kernel, rfl⟩
theorem dX5_swap_45 : At cX5_swap 45 (.getfield 79) 3 48 := ⟨by decide +kernel, rfl⟩
theorem dX5_swap_48 : At cX5_swap 48 (.bipush 120) 2 50 := ⟨by decide +kernel, rfl⟩
theorem dX5_swap_50 : Br cX5_swap 50 (.if_icmp .le) 53 56 := ⟨(6), by decide +kernel, rfl, by decide⟩
theorem dX5_swap_53 : At cX5_swap 53 (.bipush (-4)) 2 55 := ⟨by decide +kernel, rfl⟩
theorem dX5_swap_55 : At cX5_swap 55 (.ireturn) 1 56 := ⟨by decide +kernel, rfl⟩
theorem dX5_swap_56 : At cX5_swap 56 (.iinc 3 1) 3 59 := ⟨by decide +kernel, rfl⟩
theorem dX5_swap_59 : Br cX5_swap 59 .goto 62 21 := ⟨(-38), by decide +kernel, rfl, by decide⟩
theorem dX5_swap_62 : At cX5_swap 62 (.aload_n 0) 1 63 := ⟨by decide +kernel, rfl⟩
theorem dX5_swap_63 : At cX5_swap 63 (.getfield 19) 3 66 := ⟨by decide +kernel, rfl⟩
theorem dX5_swap_66 : At cX5_swap 66 (.aload_n 0) 1 67 := ⟨by decide +kernel, rfl⟩
theorem dX5_swap_67 : At cX5_swap 67 (.getfield 12) 3 70 := ⟨by decide +kernel, rfl⟩
theorem dX5_swap_70 : At cX5_swap 70 (.invokevirtual 64) 3 73 := ⟨by decide +kernel, rfl⟩
theorem dX5_swap_73 : At cX5_swap 73 (.iconst 0) 1 74 := ⟨by decide +kernel, rfl⟩
theorem dX5_swap_74 : At cX5_swap 74 (.istore_n 3) 1 75 := ⟨by decide +kernel, rfl⟩
theorem dX5_swap_75 : At cX5_swap 75 (.iload_n 3) 1 76 := ⟨by decide +kernel, rfl⟩
theorem dX5_swap_76 : At cX5_swap 76 (.iconst 4) 1 77 := ⟨by decide +kernel, rfl⟩
theorem dX5_swap_77 : Br cX5_swap 77 (.if_icmp .ge) 80 117 := ⟨(40), by decide +kernel, rfl, by decide⟩
theorem dX5_swap_80 : At cX5_swap 80 (.aload_n 0) 1 81 := ⟨by decide +kernel, rfl⟩
theorem dX5_swap_81 : At cX5_swap 81 (.aload_n 0) 1 82 := ⟨by decide +kernel, rfl⟩
theorem dX5_swap_82 : At cX5_swap 82 (.getfield 12) 3 85 := ⟨by decide +kernel, rfl⟩
theorem dX5_swap_85 : At cX5_swap 85 (.getfield 75) 3 88 := ⟨by decide +kernel, rfl⟩
theorem dX5_swap_88 : At cX5_swap 88 (.iload_n 3) 1 89 := ⟨by decide +kernel, rfl⟩
theorem dX5_swap_89 : At cX5_swap 89 (.aaload) 1 90 := ⟨by decide +kernel, rfl⟩
theorem dX5_swap_90 : At cX5_swap 90 (.iload_n 1) 1 91 := ⟨by decide +kernel, rfl⟩
theorem dX5_swap_91 : At cX5_swap 91 (.iload_n 2) 1 92 := ⟨by decide +kernel, rfl⟩
theorem dX5_swap_92 : At cX5_swap 92 (.invokevirtual 115) 3 95 := ⟨by decide +kernel, rfl⟩
theorem dX5_swap_95 : At cX5_swap 95 (.aload_n 0) 1 96 := ⟨by decide +kernel, rfl⟩
theorem dX5_swap_96 : At cX5_swap 96 (.getfield 12) 3 99 := ⟨by decide +kernel, rfl⟩
theorem dX5_swap_99 : At cX5_swap 99 (.getfield 75) 3 102 := ⟨by decide +kernel, rfl⟩
theorem dX5_swap_102 : At cX5_swap 102 (.iload_n 3) 1 103 := ⟨by decide +kernel, rfl⟩
theorem dX5_swap_103 : At cX5_swap 103 (.aaload) 1 104 := ⟨by decide +kernel, rfl⟩
theorem dX5_swap_104 : At cX5_swap 104 (.aload_n 0) 1 105 := ⟨by decide +kernel, rfl⟩
theorem dX5_swap_105 : At cX5_swap 105 (.getfield 50) 3 108 := ⟨by decide +kernel, rfl⟩
theorem dX5_swap_108 : At cX5_swap 108 (.invokevirtual 106) 3 111 := ⟨by decide +kernel, rfl⟩
theorem dX5_swap_111 : At cX5_swap 111 (.iinc 3 1) 3 114 := ⟨by decide +kernel, rfl⟩
theorem dX5_swap_114 : Br cX5_swap 114 .goto 117 75 := ⟨(-39), by decide +kernel, rfl, by decide⟩
theorem dX5_swap_117 : At cX5_swap 117 (.aload_n 0) 1 118 := ⟨by decide +kernel, rfl⟩
theorem dX5_swap_118 : At cX5_swap 118 (.getfield 12) 3 121 := ⟨by decide +kernel, rfl⟩
theorem dX5_swap_121 : At cX5_swap 121 (.invokevirtual 119) 3 124 := ⟨by decide +kernel, rfl⟩
theorem dX5_swap_124 : At cX5_swap 124 (.ireturn) 1 125 := ⟨by decide +kernel, rfl⟩
theorem dX5_crossing_0 : At cX5_crossing 0 (.iload_n 1) 1 1 := ⟨by decide +kernel, rfl⟩
theorem dX5_crossing_1 : At cX5_crossing 1 (.invokestatic 72) 3 4 := ⟨by decide +kernel, rfl⟩
theorem dX5_crossing_4 : Br cX5_crossing 4 (.ifCond .ne) 7 9 := ⟨(5), by decide +kernel, rfl, by decide⟩
theorem dX5_crossing_7 : At cX5_crossing 7 (.iconst (-1)) 1 8 := ⟨by decide +kernel, rfl⟩
theorem dX5_crossing_8 : At cX5_crossing 8 (.ireturn) 1 9 := ⟨by decide +kernel, rfl⟩
theorem dX5_crossing_9 : At cX5_crossing 9 (.aload_n 0) 1 10 := ⟨by decide +kernel, rfl⟩
theorem dX5_crossing_10 : At cX5_crossing 10 (.getfield 12) 3 13 := ⟨by decide +kernel, rfl⟩
theorem dX5_crossing_13 : At cX5_crossing 13 (.getfield 75) 3 16 := ⟨by decide +kernel, rfl⟩
theorem dX5_crossing_16 : At cX5_crossing 16 (.iload_n 1) 1 17 := ⟨by decide +kernel, rfl⟩
theorem dX5_crossing_17 : At cX5_crossing 17 (.aaload) 1 18 := ⟨by decide +kernel, rfl⟩
theorem dX5_crossing_18 : At cX5_crossing 18 (.iload_n 2) 1 19 := ⟨by decide +kernel, rfl⟩
theorem dX5_crossing_19 : At cX5_crossing 19 (.invokestatic 139) 3 22 := ⟨by decide +kernel, rfl⟩
theorem dX5_crossing_22 : At cX5_crossing 22 (.ireturn) 1 23 := ⟨by decide +kernel, rfl⟩
theorem dX5_ofRope_0 : At cX5_ofRope 0 (.iload_n 1) 1 1 := ⟨by decide +kernel, rfl⟩
theorem dX5_ofRope_1 : At cX5_ofRope 1 (.invokestatic 72) 3 4 := ⟨by decide +kernel, rfl⟩
theorem dX5_ofRope_4 : Br cX5_ofRope 4 (.ifCond .ne) 7 9 := ⟨(5), by decide +kernel, rfl, by decide⟩
theorem dX5_ofRope_7 : At cX5_ofRope 7 (.iconst (-1)) 1 8 := ⟨by decide +kernel, rfl⟩
theorem dX5_ofRope_8 : At cX5_ofRope 8 (.ireturn) 1 9 := ⟨by decide +kernel, rfl⟩
theorem dX5_ofRope_9 : At cX5_ofRope 9 (.aload_n 0) 1 10 := ⟨by decide +kernel, rfl⟩
theorem dX5_ofRope_10 : At cX5_ofRope 10 (.getfield 12) 3 13 := ⟨by decide +kernel, rfl⟩
theorem dX5_ofRope_13 : At cX5_ofRope 13 (.getfield 75) 3 16 := ⟨by decide +kernel, rfl⟩
theorem dX5_ofRope_16 : At cX5_ofRope 16 (.iload_n 1) 1 17 := ⟨by decide +kernel, rfl⟩
theorem dX5_ofRope_17 : At cX5_ofRope 17 (.aaload) 1 18 := ⟨by decide +kernel, rfl⟩
theorem dX5_ofRope_18 : At cX5_ofRope 18 (.astore_n 3) 1 19 := ⟨by decide +kernel, rfl⟩
theorem dX5_ofRope_19 : At cX5_ofRope 19 (.iload_n 2) 1 20 := ⟨by decide +kernel, rfl⟩
theorem dX5_ofRope_20 : decode cX5_ofRope 20 = .ok (.tableswitch 150 0 8 #[52, 57, 66, 79, 96, 109, 122, 135, 140], 52) := by decide +kernel
theorem dX5_ofRope_72 : At cX5_ofRope 72 (.aload_n 3) 1 73 := ⟨by decide +kernel, rfl⟩
theorem dX5_ofRope_73 : At cX5_ofRope 73 (.getfield 79) 3 76 := ⟨by decide +kernel, rfl⟩
theorem dX5_ofRope_76 : At cX5_ofRope 76 (.ireturn) 1 77 := ⟨by decide +kernel, rfl⟩
theorem dX5_ofRope_77 : At cX5_ofRope 77 (.aload_n 0) 1 78 := ⟨by decide +kernel, rfl⟩
theorem dX5_ofRope_78 : At cX5_ofRope 78 (.getfield 12) 3 81 := ⟨by decide +kernel, rfl⟩
theorem dX5_ofRope_81 : At cX5_ofRope 81 (.aload_n 3) 1 82 := ⟨by decide +kernel, rfl⟩
theorem dX5_ofRope_82 : At cX5_ofRope 82 (.invokevirtual 143) 3 85 := ⟨by decide +kernel, rfl⟩
theorem dX5_ofRope_85 : At cX5_ofRope 85 (.ireturn) 1 86 := ⟨by decide +kernel, rfl⟩
theorem dX5_ofRope_86 : At cX5_ofRope 86 (.aload_n 0) 1 87 := ⟨by decide +kernel, rfl⟩
theorem dX5_ofRope_87 : At cX5_ofRope 87 (.aload_n 3) 1 88 := ⟨by decide +kernel, rfl⟩
theorem dX5_ofRope_88 : At cX5_ofRope 88 (.invokevirtual 147) 3 91 := ⟨by decide +kernel, rfl⟩
theorem dX5_ofRope_91 : At cX5_ofRope 91 (.aload_n 0) 1 92 := ⟨by decide +kernel, rfl⟩
theorem dX5_ofRope_92 : At cX5_ofRope 92 (.getfield 50) 3 95 := ⟨by decide +kernel, rfl⟩
theorem dX5_ofRope_95 : At cX5_ofRope 95 (.getfield 79) 3 98 := ⟨by decide +kernel, rfl⟩
theorem dX5_ofRope_98 : At cX5_ofRope 98 (.ireturn) 1 99 := ⟨by decide +kernel, rfl⟩
theorem dX5_ofRope_99 : At cX5_ofRope 99 (.aload_n 0) 1 100 := ⟨by decide +kernel, rfl⟩
theorem dX5_ofRope_100 : At cX5_ofRope 100 (.aload_n 3) 1 101 := ⟨by decide +kernel, rfl⟩
theorem dX5_ofRope_101 : At cX5_ofRope 101 (.invokevirtual 147) 3 104 := ⟨by decide +kernel, rfl⟩
theorem dX5_ofRope_104 : At cX5_ofRope 104 (.aload_n 0) 1 105 := ⟨by decide +kernel, rfl⟩
theorem dX5_ofRope_105 : At cX5_ofRope 105 (.getfield 12) 3 108 := ⟨by decide +kernel, rfl⟩
theorem dX5_ofRope_108 : At cX5_ofRope 108 (.aload_n 0) 1 109 := ⟨by decide +kernel, rfl⟩
theorem dX5_ofRope_109 : At cX5_ofRope 109 (.getfield 50) 3 112 := ⟨by decide +kernel, rfl⟩
theorem dX5_ofRope_112 : At cX5_ofRope 112 (.invokevirtual 143) 3 115 := ⟨by decide +kernel, rfl⟩
theorem dX5_ofRope_115 : At cX5_ofRope 115 (.ireturn) 1 116 := ⟨by decide +kernel, rfl⟩
theorem dX5_ofRope_116 : At cX5_ofRope 116 (.aload_n 0) 1 117 := ⟨by decide +kernel, rfl⟩
theorem dX5_ofRope_117 : At cX5_ofRope 117 (.aload_n 3) 1 118 := ⟨by decide +kernel, rfl⟩
theorem dX5_ofRope_118 : At cX5_ofRope 118 (.invokevirtual 150) 3 121 := ⟨by decide +kernel, rfl⟩
theorem dX5_ofRope_121 : At cX5_ofRope 121 (.aload_n 0) 1 122 := ⟨by decide +kernel, rfl⟩
theorem dX5_ofRope_122 : At cX5_ofRope 122 (.getfield 57) 3 125 := ⟨by decide +kernel, rfl⟩
theorem dX5_ofRope_125 : At cX5_ofRope 125 (.getfield 79) 3 128 := ⟨by decide +kernel, rfl⟩
theorem dX5_ofRope_128 : At cX5_ofRope 128 (.ireturn) 1 129 := ⟨by decide +kernel, rfl⟩
theorem dX5_ofRope_129 : At cX5_ofRope 129 (.aload_n 0) 1 130 := ⟨by decide +kernel, rfl⟩
theorem dX5_ofRope_130 : At cX5_ofRope 130 (.aload_n 3) 1 131 := ⟨by decide +kernel, rfl⟩
theorem dX5_ofRope_131 : At cX5_ofRope 131 (.invokevirtual 150) 3 134 := ⟨by decide +kernel, rfl⟩
theorem dX5_ofRope_134 : At cX5_ofRope 134 (.aload_n 0) 1 135 := ⟨by decide +kernel, rfl⟩
theorem dX5_ofRope_135 : At cX5_ofRope 135 (.getfield 57) 3 138 := ⟨by decide +kernel, rfl⟩
theorem dX5_ofRope_138 : At cX5_ofRope 138 (.invokevirtual 153) 3 141 := ⟨by decide +kernel, rfl⟩
theorem dX5_ofRope_141 : At cX5_ofRope 141 (.ireturn) 1 142 := ⟨by decide +kernel, rfl⟩
theorem dX5_ofRope_142 : At cX5_ofRope 142 (.aload_n 0) 1 143 := ⟨by decide +kernel, rfl⟩
theorem dX5_ofRope_143 : At cX5_ofRope 143 (.aload_n 3) 1 144 := ⟨by decide +kernel, rfl⟩
theorem dX5_ofRope_144 : At cX5_ofRope 144 (.invokevirtual 150) 3 147 := ⟨by decide +kernel, rfl⟩
theorem dX5_ofRope_147 : At cX5_ofRope 147 (.aload_n 0) 1 148 := ⟨by decide +kernel, rfl⟩
theorem dX5_ofRope_148 : At cX5_ofRope 148 (.getfield 57) 3 151 := ⟨by decide +kernel, rfl⟩
theorem dX5_ofRope_151 : At cX5_ofRope 151 (.invokevirtual 156) 3 154 := ⟨by decide +kernel, rfl⟩
theorem dX5_ofRope_154 : At cX5_ofRope 154 (.ireturn) 1 155 := ⟨by decide +kernel, rfl⟩
theorem dX5_ofRope_155 : At cX5_ofRope 155 (.aload_n 3) 1 156 := ⟨by decide +kernel, rfl⟩
theorem dX5_ofRope_156 : At cX5_ofRope 156 (.invokevirtual 159) 3 159 := ⟨by decide +kernel, rfl⟩
theorem dX5_ofRope_159 : At cX5_ofRope 159 (.ireturn) 1 160 := ⟨by decide +kernel, rfl⟩
theorem dX5_ofRope_160 : At cX5_ofRope 160 (.aload_n 0) 1 161 := ⟨by decide +kernel, rfl⟩
theorem dX5_ofRope_161 : At cX5_ofRope 161 (.aload_n 3) 1 162 := ⟨by decide +kernel, rfl⟩
theorem dX5_ofRope_162 : At cX5_ofRope 162 (.iconst 0) 1 163 := ⟨by decide +kernel, rfl⟩
theorem dX5_ofRope_163 : At cX5_ofRope 163 (.invokevirtual 162) 3 166 := ⟨by decide +kernel, rfl⟩
theorem dX5_ofRope_166 : At cX5_ofRope 166 (.invokestatic 166) 3 169 := ⟨by decide +kernel, rfl⟩
theorem dX5_ofRope_169 : At cX5_ofRope 169 (.ireturn) 1 170 := ⟨by decide +kernel, rfl⟩
theorem dX5_ofRope_170 : At cX5_ofRope 170 (.bipush (-2)) 2 172 := ⟨by decide +kernel, rfl⟩
theorem dX5_ofRope_172 : At cX5_ofRope 172 (.ireturn) 1 173 := ⟨by decide +kernel, rfl⟩
theorem dX5_winds_0 : At cX5_winds 0 (.iload_n 1) 1 1 := ⟨by decide +kernel, rfl⟩
theorem dX5_winds_1 : At cX5_winds 1 (.invokestatic 72) 3 4 := ⟨by decide +kernel, rfl⟩
theorem dX5_winds_4 : Br cX5_winds 4 (.ifCond .eq) 7 14 := ⟨(10), by decide +kernel, rfl, by decide⟩
theorem dX5_winds_7 : At cX5_winds 7 (.iload_n 2) 1 8 := ⟨by decide +kernel, rfl⟩
theorem dX5_winds_8 : At cX5_winds 8 (.invokestatic 60) 3 11 := ⟨by decide +kernel, rfl⟩
theorem dX5_winds_11 : Br cX5_winds 11 (.ifCond .ne) 14 16 := ⟨(5), by decide +kernel, rfl, by decide⟩
theorem dX5_winds_14 : At cX5_winds 14 (.iconst (-1)) 1 15 := ⟨by decide +kernel, rfl⟩
theorem dX5_winds_15 : At cX5_winds 15 (.ireturn) 1 16 := ⟨by decide +kernel, rfl⟩
theorem dX5_winds_16 : At cX5_winds 16 (.sipush 1000) 3 19 := ⟨by decide +kernel, rfl⟩
theorem dX5_winds_19 : At cX5_winds 19 (.aload_n 0) 1 20 := ⟨by decide +kernel, rfl⟩
theorem dX5_winds_20 : At cX5_winds 20 (.getfield 12) 3 23 := ⟨by decide +kernel, rfl⟩
theorem dX5_winds_23 : At cX5_winds 23 (.getfield 75) 3 26 := ⟨by decide +kernel, rfl⟩
theorem dX5_winds_26 : At cX5_winds 26 (.iload_n 1) 1 27 := ⟨by decide +kernel, rfl⟩
theorem dX5_winds_27 : At cX5_winds 27 (.aaload) 1 28 := ⟨by decide +kernel, rfl⟩
theorem dX5_winds_28 : At cX5_winds 28 (.iload_n 2) 1 29 := ⟨by decide +kernel, rfl⟩
theorem dX5_winds_29 : At cX5_winds 29 (.invokevirtual 170) 3 32 := ⟨by decide +kernel, rfl⟩
theorem dX5_winds_32 : At cX5_winds 32 (.iadd) 1 33 := ⟨by decide +kernel, rfl⟩
theorem dX5_winds_33 : At cX5_winds 33 (.ireturn) 1 34 := ⟨by decide +kernel, rfl⟩
theorem dX5_least_0 : At cX5_least 0 (.iload_n 1) 1 1 := ⟨by decide +kernel, rfl⟩
theorem dX5_least_1 : At cX5_least 1 (.invokestatic 72) 3 4 := ⟨by decide +kernel, rfl⟩
theorem dX5_least_4 : Br cX5_least 4 (.ifCond .ne) 7 9 := ⟨(5), by decide +kernel, rfl, by decide⟩
theorem dX5_least_7 : At cX5_least 7 (.iconst (-1)) 1 8 := ⟨by decide +kernel, rfl⟩
theorem dX5_least_8 : At cX5_least 8 (.ireturn) 1 9 := ⟨by decide +kernel, rfl⟩
theorem dX5_least_9 : At cX5_least 9 (.aload_n 0) 1 10 := ⟨by decide +kernel, rfl⟩
theorem dX5_least_10 : At cX5_least 10 (.aload_n 0) 1 11 := ⟨by decide +kernel, rfl⟩
theorem dX5_least_11 : At cX5_least 11 (.getfield 12) 3 14 := ⟨by decide +kernel, rfl⟩
theorem dX5_least_14 : At cX5_least 14 (.getfield 75) 3 17 := ⟨by decide +kernel, rfl⟩
theorem dX5_least_17 : At cX5_least 17 (.iload_n 1) 1 18 := ⟨by decide +kernel, rfl⟩
theorem dX5_least_18 : At cX5_least 18 (.aaload) 1 19 := ⟨by decide +kernel, rfl⟩
theorem dX5_least_19 : At cX5_least 19 (.aload_n 0) 1 20 := ⟨by decide +kernel, rfl⟩
theorem dX5_least_20 : At cX5_least 20 (.getfield 50) 3 23 := ⟨by decide +kernel, rfl⟩
theorem dX5_least_23 : At cX5_least 23 (.invokevirtual 174) 3 26 := ⟨by decide +kernel, rfl⟩
theorem dX5_least_26 : At cX5_least 26 (.aload_n 0) 1 27 := ⟨by decide +kernel, rfl⟩
theorem dX5_least_27 : At cX5_least 27 (.getfield 50) 3 30 := ⟨by decide +kernel, rfl⟩
theorem dX5_least_30 : At cX5_least 30 (.iload_n 2) 1 31 := ⟨by decide +kernel, rfl⟩
theorem dX5_least_31 : At cX5_least 31 (.invokestatic 139) 3 34 := ⟨by decide +kernel, rfl⟩
theorem dX5_least_34 : At cX5_least 34 (.ireturn) 1 35 := ⟨by decide +kernel, rfl⟩
theorem dX5_count_0 : At cX5_count 0 (.iload_n 1) 1 1 := ⟨by decide +kernel, rfl⟩
theorem dX5_count_1 : At cX5_count 1 (.invokestatic 60) 3 4 := ⟨by decide +kernel, rfl⟩
theorem dX5_count_4 : Br cX5_count 4 (.ifCond .eq) 7 17 := ⟨(13), by decide +kernel, rfl, by decide⟩
theorem dX5_count_7 : At cX5_count 7 (.aload_n 0) 1 8 := ⟨by decide +kernel, rfl⟩
theorem dX5_count_8 : At cX5_count 8 (.getfield 12) 3 11 := ⟨by decide +kernel, rfl⟩
theorem dX5_count_11 : At cX5_count 11 (.getfield 68) 3 14 := ⟨by decide +kernel, rfl⟩
theorem dX5_count_14 : At cX5_count 14 (.iload_n 1) 1 15 := ⟨by decide +kernel, rfl⟩
theorem dX5_count_15 : At cX5_count 15 (.iaload) 1 16 := ⟨by decide +kernel, rfl⟩
theorem dX5_count_16 : At cX5_count 16 (.ireturn) 1 17 := ⟨by decide +kernel, rfl⟩
theorem dX5_count_17 : At cX5_count 17 (.iload_n 1) 1 18 := ⟨by decide +kernel, rfl⟩
theorem dX5_count_18 : decode cX5_count 18 = .ok (.tableswitch 50 6 8 #[26, 34, 42], 26) := by decide +kernel
theorem dX5_count_44 : At cX5_count 44 (.aload_n 0) 1 45 := ⟨by decide +kernel, rfl⟩
theorem dX5_count_45 : At cX5_count 45 (.getfield 12) 3 48 := ⟨by decide +kernel, rfl⟩
theorem dX5_count_48 : At cX5_count 48 (.invokevirtual 119) 3 51 := ⟨by decide +kernel, rfl⟩
theorem dX5_count_51 : At cX5_count 51 (.ireturn) 1 52 := ⟨by decide +kernel, rfl⟩
theorem dX5_count_52 : At cX5_count 52 (.aload_n 0) 1 53 := ⟨by decide +kernel, rfl⟩
theorem dX5_count_53 : At cX5_count 53 (.getfield 34) 3 56 := ⟨by decide +kernel, rfl⟩
theorem dX5_count_56 : At cX5_count 56 (.getfield 126) 3 59 := ⟨by decide +kernel, rfl⟩
theorem dX5_count_59 : At cX5_count 59 (.ireturn) 1 60 := ⟨by decide +kernel, rfl⟩
theorem dX5_count_60 : At cX5_count 60 (.aload_n 0) 1 61 := ⟨by decide +kernel, rfl⟩
theorem dX5_count_61 : At cX5_count 61 (.getfield 19) 3 64 := ⟨by decide +kernel, rfl⟩
theorem dX5_count_64 : At cX5_count 64 (.getfield 178) 3 67 := ⟨by decide +kernel, rfl⟩
theorem dX5_count_67 : At cX5_count 67 (.ireturn) 1 68 := ⟨by decide +kernel, rfl⟩
theorem dX5_count_68 : At cX5_count 68 (.bipush (-2)) 2 70 := ⟨by decide +kernel, rfl⟩
theorem dX5_count_70 : At cX5_count 70 (.ireturn) 1 71 := ⟨by decide +kernel, rfl⟩
theorem dX5_falls_0 : At cX5_falls 0 (.iload_n 1) 1 1 := ⟨by decide +kernel, rfl⟩
theorem dX5_falls_1 : At cX5_falls 1 (.invokestatic 72) 3 4 := ⟨by decide +kernel, rfl⟩
theorem dX5_falls_4 : Br cX5_falls 4 (.ifCond .eq) 7 17 := ⟨(13), by decide +kernel, rfl, by decide⟩
theorem dX5_falls_7 : At cX5_falls 7 (.iload_n 2) 1 8 := ⟨by decide +kernel, rfl⟩
theorem dX5_falls_8 : Br cX5_falls 8 (.ifCond .lt) 11 17 := ⟨(9), by decide +kernel, rfl, by decide⟩
theorem dX5_falls_11 : At cX5_falls 11 (.iload_n 2) 1 12 := ⟨by decide +kernel, rfl⟩
theorem dX5_falls_12 : At cX5_falls 12 (.bipush 64) 2 14 := ⟨by decide +kernel, rfl⟩
theorem dX5_falls_14 : Br cX5_falls 14 (.if_icmp .lt) 17 19 := ⟨(5), by decide +kernel, rfl, by decide⟩
theorem dX5_falls_17 : At cX5_falls 17 (.iconst (-1)) 1 18 := ⟨by decide +kernel, rfl⟩
theorem dX5_falls_18 : At cX5_falls 18 (.ireturn) 1 19 := ⟨by decide +kernel, rfl⟩
theorem dX5_falls_19 : At cX5_falls 19 (.aload_n 0) 1 20 := ⟨by decide +kernel, rfl⟩
theorem dX5_falls_20 : At cX5_falls 20 (.aload_n 0) 1 21 := ⟨by decide +kernel, rfl⟩
theorem dX5_falls_21 : At cX5_falls 21 (.getfield 12) 3 24 := ⟨by decide +kernel, rfl⟩
theorem dX5_falls_24 : At cX5_falls 24 (.getfield 75) 3 27 := ⟨by decide +kernel, rfl⟩
theorem dX5_falls_27 : At cX5_falls 27 (.iload_n 1) 1 28 := ⟨by decide +kernel, rfl⟩
theorem dX5_falls_28 : At cX5_falls 28 (.aaload) 1 29 := ⟨by decide +kernel, rfl⟩
theorem dX5_falls_29 : At cX5_falls 29 (.iload_n 2) 1 30 := ⟨by decide +kernel, rfl⟩
theorem dX5_falls_30 : At cX5_falls 30 (.invokevirtual 162) 3 33 := ⟨by decide +kernel, rfl⟩
theorem dX5_falls_33 : At cX5_falls 33 (.invokestatic 166) 3 36 := ⟨by decide +kernel, rfl⟩
theorem dX5_falls_36 : At cX5_falls 36 (.ireturn) 1 37 := ⟨by decide +kernel, rfl⟩
theorem dX5_ifSwapped_0 : At cX5_ifSwapped 0 (.iload_n 1) 1 1 := ⟨by decide +kernel, rfl⟩
theorem dX5_ifSwapped_1 : At cX5_ifSwapped 1 (.invokestatic 109) 3 4 := ⟨by decide +kernel, rfl⟩
theorem dX5_ifSwapped_4 : Br cX5_ifSwapped 4 (.ifCond .ne) 7 9 := ⟨(5), by decide +kernel, rfl, by decide⟩
theorem dX5_ifSwapped_7 : At cX5_ifSwapped 7 (.iconst (-1)) 1 8 := ⟨by decide +kernel, rfl⟩
theorem dX5_ifSwapped_8 : At cX5_ifSwapped 8 (.ireturn) 1 9 := ⟨by decide +kernel, rfl⟩
theorem dX5_ifSwapped_9 : At cX5_ifSwapped 9 (.iload_n 2) 1 10 := ⟨by decide +kernel, rfl⟩
theorem dX5_ifSwapped_10 : At cX5_ifSwapped 10 (.invokestatic 112) 3 13 := ⟨by decide +kernel, rfl⟩
theorem dX5_ifSwapped_13 : Br cX5_ifSwapped 13 (.ifCond .ne) 16 19 := ⟨(6), by decide +kernel, rfl, by decide⟩
theorem dX5_ifSwapped_16 : At cX5_ifSwapped 16 (.bipush (-2)) 2 18 := ⟨by decide +kernel, rfl⟩
theorem dX5_ifSwapped_18 : At cX5_ifSwapped 18 (.ireturn) 1 19 := ⟨by decide +kernel, rfl⟩
theorem dX5_ifSwapped_19 : At cX5_ifSwapped 19 (.aload_n 0) 1 20 := ⟨by decide +kernel, rfl⟩
theorem dX5_ifSwapped_20 : At cX5_ifSwapped 20 (.iload_n 1) 1 21 := ⟨by decide +kernel, rfl⟩
theorem dX5_ifSwapped_21 : At cX5_ifSwapped 21 (.iload_n 2) 1 22 := ⟨by decide +kernel, rfl⟩
theorem dX5_ifSwapped_22 : At cX5_ifSwapped 22 (.invokevirtual 203) 3 25 := ⟨by decide +kernel, rfl⟩
theorem dX5_ifSwapped_25 : At cX5_ifSwapped 25 (.ireturn) 1 26 := ⟨by decide +kernel, rfl⟩
theorem dX5_isPost_0 : At cX5_isPost 0 (.iload_n 0) 1 1 := ⟨by decide +kernel, rfl⟩
theorem dX5_isPost_1 : Br cX5_isPost 1 (.ifCond .lt) 4 14 := ⟨(13), by decide +kernel, rfl, by decide⟩
theorem dX5_isPost_4 : At cX5_isPost 4 (.iload_n 0) 1 5 := ⟨by decide +kernel, rfl⟩
theorem dX5_isPost_5 : At cX5_isPost 5 (.bipush 6) 2 7 := ⟨by decide +kernel, rfl⟩
theorem dX5_isPost_7 : Br cX5_isPost 7 (.if_icmp .ge) 10 14 := ⟨(7), by decide +kernel, rfl, by decide⟩
theorem dX5_isPost_10 : At cX5_isPost 10 (.iconst 1) 1 11 := ⟨by decide +kernel, rfl⟩
theorem dX5_isPost_11 : Br cX5_isPost 11 .goto 14 15 := ⟨(4), by decide +kernel, rfl, by decide⟩
theorem dX5_isPost_14 : At cX5_isPost 14 (.iconst 0) 1 15 := ⟨by decide +kernel, rfl⟩
theorem dX5_isPost_15 : At cX5_isPost 15 (.ireturn) 1 16 := ⟨by decide +kernel, rfl⟩
theorem dX5_isRope_0 : At cX5_isRope 0 (.iload_n 0) 1 1 := ⟨by decide +kernel, rfl⟩
theorem dX5_isRope_1 : Br cX5_isRope 1 (.ifCond .lt) 4 13 := ⟨(12), by decide +kernel, rfl, by decide⟩
theorem dX5_isRope_4 : At cX5_isRope 4 (.iload_n 0) 1 5 := ⟨by decide +kernel, rfl⟩
theorem dX5_isRope_5 : At cX5_isRope 5 (.iconst 4) 1 6 := ⟨by decide +kernel, rfl⟩
theorem dX5_isRope_6 : Br cX5_isRope 6 (.if_icmp .ge) 9 13 := ⟨(7), by decide +kernel, rfl, by decide⟩
theorem dX5_isRope_9 : At cX5_isRope 9 (.iconst 1) 1 10 := ⟨by decide +kernel, rfl⟩
theorem dX5_isRope_10 : Br cX5_isRope 10 .goto 13 14 := ⟨(4), by decide +kernel, rfl, by decide⟩
theorem dX5_isRope_13 : At cX5_isRope 13 (.iconst 0) 1 14 := ⟨by decide +kernel, rfl⟩
theorem dX5_isRope_14 : At cX5_isRope 14 (.ireturn) 1 15 := ⟨by decide +kernel, rfl⟩
theorem dX5_isSwap_0 : At cX5_isSwap 0 (.iload_n 0) 1 1 := ⟨by decide +kernel, rfl⟩
theorem dX5_isSwap_1 : Br cX5_isSwap 1 (.ifCond .lt) 4 13 := ⟨(12), by decide +kernel, rfl, by decide⟩
theorem dX5_isSwap_4 : At cX5_isSwap 4 (.iload_n 0) 1 5 := ⟨by decide +kernel, rfl⟩
theorem dX5_isSwap_5 : At cX5_isSwap 5 (.iconst 5) 1 6 := ⟨by decide +kernel, rfl⟩
theorem dX5_isSwap_6 : Br cX5_isSwap 6 (.if_icmp .ge) 9 13 := ⟨(7), by decide +kernel, rfl, by decide⟩
theorem dX5_isSwap_9 : At cX5_isSwap 9 (.iconst 1) 1 10 := ⟨by decide +kernel, rfl⟩
theorem dX5_isSwap_10 : Br cX5_isSwap 10 .goto 13 14 := ⟨(4), by decide +kernel, rfl, by decide⟩
theorem dX5_isSwap_13 : At cX5_isSwap 13 (.iconst 0) 1 14 := ⟨by decide +kernel, rfl⟩
theorem dX5_isSwap_14 : At cX5_isSwap 14 (.ireturn) 1 15 := ⟨by decide +kernel, rfl⟩
theorem dX5_isBack_0 : At cX5_isBack 0 (.iload_n 0) 1 1 := ⟨by decide +kernel, rfl⟩
theorem dX5_isBack_1 : Br cX5_isBack 1 (.ifCond .eq) 4 9 := ⟨(8), by decide +kernel, rfl, by decide⟩
theorem dX5_isBack_4 : At cX5_isBack 4 (.iload_n 0) 1 5 := ⟨by decide +kernel, rfl⟩
theorem dX5_isBack_5 : At cX5_isBack 5 (.iconst 1) 1 6 := ⟨by decide +kernel, rfl⟩
theorem dX5_isBack_6 : Br cX5_isBack 6 (.if_icmp .ne) 9 13 := ⟨(7), by decide +kernel, rfl, by decide⟩
theorem dX5_isBack_9 : At cX5_isBack 9 (.iconst 1) 1 10 := ⟨by decide +kernel, rfl⟩
theorem dX5_isBack_10 : Br cX5_isBack 10 .goto 13 14 := ⟨(4), by decide +kernel, rfl, by decide⟩
theorem dX5_isBack_13 : At cX5_isBack 13 (.iconst 0) 1 14 := ⟨by decide +kernel, rfl⟩
theorem dX5_isBack_14 : At cX5_isBack 14 (.ireturn) 1 15 := ⟨by decide +kernel, rfl⟩
theorem dX5_postOf_0 : At cX5_postOf 0 (.iload_n 0) 1 1 := ⟨by decide +kernel, rfl⟩
theorem dX5_postOf_1 : At cX5_postOf 1 (.bipush 6) 2 3 := ⟨by decide +kernel, rfl⟩
theorem dX5_postOf_3 : Br cX5_postOf 3 (.if_icmp .ge) 6 10 := ⟨(7), by decide +kernel, rfl, by decide⟩
theorem dX5_postOf_6 : At cX5_postOf 6 (.iload_n 0) 1 7 := ⟨by decide +kernel, rfl⟩
theorem dX5_postOf_7 : Br cX5_postOf 7 .goto 10 14 := ⟨(7), by decide +kernel, rfl, by decide⟩
theorem dX5_postOf_10 : At cX5_postOf 10 (.iload_n 0) 1 11 := ⟨by decide +kernel, rfl⟩
theorem dX5_postOf_11 : At cX5_postOf 11 (.bipush 6) 2 13 := ⟨by decide +kernel, rfl⟩
theorem dX5_postOf_13 : At cX5_postOf 13 (.isub) 1 14 := ⟨by decide +kernel, rfl⟩
theorem dX5_postOf_14 : At cX5_postOf 14 (.ireturn) 1 15 := ⟨by decide +kernel, rfl⟩
theorem dX5_opposite_0 : At cX5_opposite 0 (.iload_n 0) 1 1 := ⟨by decide +kernel, rfl⟩
theorem dX5_opposite_1 : At cX5_opposite 1 (.bipush 6) 2 3 := ⟨by decide +kernel, rfl⟩
theorem dX5_opposite_3 : Br cX5_opposite 3 (.if_icmp .ge) 6 13 := ⟨(10), by decide +kernel, rfl, by decide⟩
theorem dX5_opposite_6 : At cX5_opposite 6 (.iload_n 0) 1 7 := ⟨by decide +kernel, rfl⟩
theorem dX5_opposite_7 : At cX5_opposite 7 (.bipush 6) 2 9 := ⟨by decide +kernel, rfl⟩
theorem dX5_opposite_9 : At cX5_opposite 9 (.iadd) 1 10 := ⟨by decide +kernel, rfl⟩
theorem dX5_opposite_10 : Br cX5_opposite 10 .goto 13 17 := ⟨(7), by decide +kernel, rfl, by decide⟩
theorem dX5_opposite_13 : At cX5_opposite 13 (.iload_n 0) 1 14 := ⟨by decide +kernel, rfl⟩
theorem dX5_opposite_14 : At cX5_opposite 14 (.bipush 6) 2 16 := ⟨by decide +kernel, rfl⟩
theorem dX5_opposite_16 : At cX5_opposite 16 (.isub) 1 17 := ⟨by decide +kernel, rfl⟩
theorem dX5_opposite_17 : At cX5_opposite 17 (.ireturn) 1 18 := ⟨by decide +kernel, rfl⟩
theorem dX5_oneIf_0 : At cX5_oneIf 0 (.iload_n 0) 1 1 := ⟨by decide +kernel, rfl⟩
theorem dX5_oneIf_1 : Br cX5_oneIf 1 (.ifCond .eq) 4 8 := ⟨(7), by decide +kernel, rfl, by decide⟩
theorem dX5_oneIf_4 : At cX5_oneIf 4 (.iconst 1) 1 5 := ⟨by decide +kernel, rfl⟩
theorem dX5_oneIf_5 : Br cX5_oneIf 5 .goto 8 9 := ⟨(4), by decide +kernel, rfl, by decide⟩
theorem dX5_oneIf_8 : At cX5_oneIf 8 (.iconst 0) 1 9 := ⟨by decide +kernel, rfl⟩
theorem dX5_oneIf_9 : At cX5_oneIf 9 (.ireturn) 1 10 := ⟨by decide +kernel, rfl⟩
theorem dX5_crossingOrNoSuch_0 : At cX5_crossingOrNoSuch 0 (.aload_n 0) 1 1 := ⟨by decide +kernel, rfl⟩
theorem dX5_crossingOrNoSuch_1 : At cX5_crossingOrNoSuch 1 (.iload_n 1) 1 2 := ⟨by decide +kernel, rfl⟩
theorem dX5_crossingOrNoSuch_2 : At cX5_crossingOrNoSuch 2 (.invokevirtual 215) 3 5 := ⟨by decide +kernel, rfl⟩
theorem dX5_crossingOrNoSuch_5 : At cX5_crossingOrNoSuch 5 (.istore_n 2) 1 6 := ⟨by decide +kernel, rfl⟩
theorem dX5_crossingOrNoSuch_6 : At cX5_crossingOrNoSuch 6 (.iload_n 2) 1 7 := ⟨by decide +kernel, rfl⟩
theorem dX5_crossingOrNoSuch_7 : At cX5_crossingOrNoSuch 7 (.iconst (-1)) 1 8 := ⟨by decide +kernel, rfl⟩
theorem dX5_crossingOrNoSuch_8 : Br cX5_crossingOrNoSuch 8 (.if_icmp .ne) 11 15 := ⟨(7), by decide +kernel, rfl, by decide⟩
theorem dX5_crossingOrNoSuch_11 : At cX5_crossingOrNoSuch 11 (.iconst (-1)) 1 12 := ⟨by decide +kernel, rfl⟩
theorem dX5_crossingOrNoSuch_12 : Br cX5_crossingOrNoSuch 12 .goto 15 16 := ⟨(4), by decide +kernel, rfl, by decide⟩
theorem dX5_crossingOrNoSuch_15 : At cX5_crossingOrNoSuch 15 (.iload_n 2) 1 16 := ⟨by decide +kernel, rfl⟩
theorem dX5_crossingOrNoSuch_16 : At cX5_crossingOrNoSuch 16 (.ireturn) 1 17 := ⟨by decide +kernel, rfl⟩
theorem dX5_layPulled_0 : At cX5_layPulled 0 (.aload_n 0) 1 1 := ⟨by decide +kernel, rfl⟩
theorem dX5_layPulled_1 : At cX5_layPulled 1 (.getfield 50) 3 4 := ⟨by decide +kernel, rfl⟩
theorem dX5_layPulled_4 : At cX5_layPulled 4 (.aload_n 1) 1 5 := ⟨by decide +kernel, rfl⟩
theorem dX5_layPulled_5 : At cX5_layPulled 5 (.invokevirtual 106) 3 8 := ⟨by decide +kernel, rfl⟩
theorem dX5_layPulled_8 : At cX5_layPulled 8 (.aload_n 0) 1 9 := ⟨by decide +kernel, rfl⟩
theorem dX5_layPulled_9 : At cX5_layPulled 9 (.getfield 50) 3 12 := ⟨by decide +kernel, rfl⟩
theorem dX5_layPulled_12 : At cX5_layPulled 12 (.invokevirtual 89) 3 15 := ⟨by decide +kernel, rfl⟩
theorem dX5_layPulled_15 : At cX5_layPulled 15 (.pop) 1 16 := ⟨by decide +kernel, rfl⟩
theorem dX5_layPulled_16 : At cX5_layPulled 16 (.return_) 1 17 := ⟨by decide +kernel, rfl⟩
theorem dX5_layLoop_0 : At cX5_layLoop 0 (.aload_n 0) 1 1 := ⟨by decide +kernel, rfl⟩
theorem dX5_layLoop_1 : At cX5_layLoop 1 (.getfield 57) 3 4 := ⟨by decide +kernel, rfl⟩
theorem dX5_layLoop_4 : At cX5_layLoop 4 (.aload_n 1) 1 5 := ⟨by decide +kernel, rfl⟩
theorem dX5_layLoop_5 : At cX5_layLoop 5 (.invokevirtual 106) 3 8 := ⟨by decide +kernel, rfl⟩
theorem dX5_layLoop_8 : At cX5_layLoop 8 (.aload_n 0) 1 9 := ⟨by decide +kernel, rfl⟩
theorem dX5_layLoop_9 : At cX5_layLoop 9 (.getfield 57) 3 12 := ⟨by decide +kernel, rfl⟩
theorem dX5_layLoop_12 : At cX5_layLoop 12 (.invokevirtual 218) 3 15 := ⟨by decide +kernel, rfl⟩
theorem dX5_layLoop_15 : At cX5_layLoop 15 (.return_) 1 16 := ⟨by decide +kernel, rfl⟩
theorem dX5_layLeast_0 : At cX5_layLeast 0 (.aload_n 0) 1 1 := ⟨by decide +kernel, rfl⟩
theorem dX5_layLeast_1 : At cX5_layLeast 1 (.getfield 57) 3 4 := ⟨by decide +kernel, rfl⟩
theorem dX5_layLeast_4 : At cX5_layLeast 4 (.aload_n 1) 1 5 := ⟨by decide +kernel, rfl⟩
theorem dX5_layLeast_5 : At cX5_layLeast 5 (.invokevirtual 106) 3 8 := ⟨by decide +kernel, rfl⟩
theorem dX5_layLeast_8 : At cX5_layLeast 8 (.aload_n 0) 1 9 := ⟨by decide +kernel, rfl⟩
theorem dX5_layLeast_9 : At cX5_layLeast 9 (.getfield 57) 3 12 := ⟨by decide +kernel, rfl⟩
theorem dX5_layLeast_12 : At cX5_layLeast 12 (.invokevirtual 218) 3 15 := ⟨by decide +kernel, rfl⟩
theorem dX5_layLeast_15 : At cX5_layLeast 15 (.aload_n 2) 1 16 := ⟨by decide +kernel, rfl⟩
theorem dX5_layLeast_16 : At cX5_layLeast 16 (.aload_n 0) 1 17 := ⟨by decide +kernel, rfl⟩
theorem dX5_layLeast_17 : At cX5_layLeast 17 (.getfield 57) 3 20 := ⟨by decide +kernel, rfl⟩
theorem dX5_layLeast_20 : At cX5_layLeast 20 (.aload_n 0) 1 21 := ⟨by decide +kernel, rfl⟩
theorem dX5_layLeast_21 : At cX5_layLeast 21 (.getfield 57) 3 24 := ⟨by decide +kernel, rfl⟩
theorem dX5_layLeast_24 : At cX5_layLeast 24 (.invokevirtual 221) 3 27 := ⟨by decide +kernel, rfl⟩
theorem dX5_layLeast_27 : At cX5_layLeast 27 (.invokevirtual 224) 3 30 := ⟨by decide +kernel, rfl⟩
theorem dX5_layLeast_30 : At cX5_layLeast 30 (.return_) 1 31 := ⟨by decide +kernel, rfl⟩
theorem dX5_laySwapped_0 : At cX5_laySwapped 0 (.aload_n 0) 1 1 := ⟨by decide +kernel, rfl⟩
theorem dX5_laySwapped_1 : At cX5_laySwapped 1 (.getfield 50) 3 4 := ⟨by decide +kernel, rfl⟩
theorem dX5_laySwapped_4 : At cX5_laySwapped 4 (.invokevirtual 100) 3 7 := ⟨by decide +kernel, rfl⟩
theorem dX5_laySwapped_7 : At cX5_laySwapped 7 (.iconst 0) 1 8 := ⟨by decide +kernel, rfl⟩
theorem dX5_laySwapped_8 : At cX5_laySwapped 8 (.istore 4) 2 10 := ⟨by decide +kernel, rfl⟩
theorem dX5_laySwapped_10 : At cX5_laySwapped 10 (.iload 4) 2 12 := ⟨by decide +kernel, rfl⟩
theorem dX5_laySwapped_12 : At cX5_laySwapped 12 (.aload_n 1) 1 13 := ⟨by decide +kernel, rfl⟩
theorem dX5_laySwapped_13 : At cX5_laySwapped 13 (.getfield 79) 3 16 := ⟨by decide +kernel, rfl⟩
theorem dX5_laySwapped_16 : Br cX5_laySwapped 16 (.if_icmp .ge) 19 37 := ⟨(21), by decide +kernel, rfl, by decide⟩
theorem dX5_laySwapped_19 : At cX5_laySwapped 19 (.aload_n 0) 1 20 := ⟨by decide +kernel, rfl⟩
theorem dX5_laySwapped_20 : At cX5_laySwapped 20 (.aload_n 1) 1 21 := ⟨by decide +kernel, rfl⟩
theorem dX5_laySwapped_21 : At cX5_laySwapped 21 (.iload 4) 2 23 := ⟨by decide +kernel, rfl⟩
theorem dX5_laySwapped_23 : At cX5_laySwapped 23 (.invokevirtual 215) 3 26 := ⟨by decide +kernel, rfl⟩
theorem dX5_laySwapped_26 : At cX5_laySwapped 26 (.iload_n 2) 1 27 := ⟨by decide +kernel, rfl⟩
theorem dX5_laySwapped_27 : At cX5_laySwapped 27 (.iload_n 3) 1 28 := ⟨by decide +kernel, rfl⟩
theorem dX5_laySwapped_28 : At cX5_laySwapped 28 (.invokevirtual 228) 3 31 := ⟨by decide +kernel, rfl⟩
theorem dX5_laySwapped_31 : At cX5_laySwapped 31 (.iinc 4 1) 3 34 := ⟨by decide +kernel, rfl⟩
theorem dX5_laySwapped_34 : Br cX5_laySwapped 34 .goto 37 10 := ⟨(-24), by decide +kernel, rfl, by decide⟩
theorem dX5_laySwapped_37 : At cX5_laySwapped 37 (.return_) 1 38 := ⟨by decide +kernel, rfl⟩
theorem dX5_addSwapped_0 : At cX5_addSwapped 0 (.iload_n 2) 1 1 := ⟨by decide +kernel, rfl⟩
theorem dX5_addSwapped_1 : At cX5_addSwapped 1 (.iload_n 3) 1 2 := ⟨by decide +kernel, rfl⟩
theorem dX5_addSwapped_2 : At cX5_addSwapped 2 (.iadd) 1 3 := ⟨by decide +kernel, rfl⟩
theorem dX5_addSwapped_3 : At cX5_addSwapped 3 (.istore 4) 2 5 := ⟨by decide +kernel, rfl⟩
theorem dX5_addSwapped_5 : At cX5_addSwapped 5 (.iload_n 2) 1 6 := ⟨by decide +kernel, rfl⟩
theorem dX5_addSwapped_6 : At cX5_addSwapped 6 (.iconst 1) 1 7 := ⟨by decide +kernel, rfl⟩
theorem dX5_addSwapped_7 : At cX5_addSwapped 7 (.iadd) 1 8 := ⟨by decide +kernel, rfl⟩
theorem dX5_addSwapped_8 : At cX5_addSwapped 8 (.iload_n 3) 1 9 := ⟨by decide +kernel, rfl⟩
theorem dX5_addSwapped_9 : At cX5_addSwapped 9 (.isub) 1 10 := ⟨by decide +kernel, rfl⟩
theorem dX5_addSwapped_10 : At cX5_addSwapped 10 (.istore 5) 2 12 := ⟨by decide +kernel, rfl⟩
theorem dX5_addSwapped_12 : At cX5_addSwapped 12 (.iload_n 1) 1 13 := ⟨by decide +kernel, rfl⟩
theorem dX5_addSwapped_13 : At cX5_addSwapped 13 (.invokestatic 232) 3 16 := ⟨by decide +kernel, rfl⟩
theorem dX5_addSwapped_16 : At cX5_addSwapped 16 (.istore 6) 2 18 := ⟨by decide +kernel, rfl⟩
theorem dX5_addSwapped_18 : At cX5_addSwapped 18 (.iload_n 1) 1 19 := ⟨by decide +kernel, rfl⟩
theorem dX5_addSwapped_19 : At cX5_addSwapped 19 (.iload 6) 2 21 := ⟨by decide +kernel, rfl⟩
theorem dX5_addSwapped_21 : At cX5_addSwapped 21 (.isub) 1 22 := ⟨by decide +kernel, rfl⟩
theorem dX5_addSwapped_22 : At cX5_addSwapped 22 (.istore 7) 2 24 := ⟨by decide +kernel, rfl⟩
theorem dX5_addSwapped_24 : At cX5_addSwapped 24 (.iload 6) 2 26 := ⟨by decide +kernel, rfl⟩
theorem dX5_addSwapped_26 : At cX5_addSwapped 26 (.iload 4) 2 28 := ⟨by decide +kernel, rfl⟩
theorem dX5_addSwapped_28 : Br cX5_addSwapped 28 (.if_icmp .ne) 31 86 := ⟨(58), by decide +kernel, rfl, by decide⟩
theorem dX5_addSwapped_31 : At cX5_addSwapped 31 (.iload_n 3) 1 32 := ⟨by decide +kernel, rfl⟩
theorem dX5_addSwapped_32 : Br cX5_addSwapped 32 (.ifCond .ne) 35 40 := ⟨(8), by decide +kernel, rfl, by decide⟩
theorem dX5_addSwapped_35 : At cX5_addSwapped 35 (.iload 4) 2 37 := ⟨by decide +kernel, rfl⟩
theorem dX5_addSwapped_37 : Br cX5_addSwapped 37 .goto 40 45 := ⟨(8), by decide +kernel, rfl, by decide⟩
theorem dX5_addSwapped_40 : At cX5_addSwapped 40 (.iload 4) 2 42 := ⟨by decide +kernel, rfl⟩
theorem dX5_addSwapped_42 : At cX5_addSwapped 42 (.invokestatic 235) 3 45 := ⟨by decide +kernel, rfl⟩
theorem dX5_addSwapped_45 : At cX5_addSwapped 45 (.istore 8) 2 47 := ⟨by decide +kernel, rfl⟩
theorem dX5_addSwapped_47 : At cX5_addSwapped 47 (.aload_n 0) 1 48 := ⟨by decide +kernel, rfl⟩
theorem dX5_addSwapped_48 : At cX5_addSwapped 48 (.getfield 50) 3 51 := ⟨by decide +kernel, rfl⟩
theorem dX5_addSwapped_51 : At cX5_addSwapped 51 (.iload 8) 2 53 := ⟨by decide +kernel, rfl⟩
theorem dX5_addSwapped_53 : At cX5_addSwapped 53 (.invokevirtual 238) 3 56 := ⟨by decide +kernel, rfl⟩
theorem dX5_addSwapped_56 : At cX5_addSwapped 56 (.pop) 1 57 := ⟨by decide +kernel, rfl⟩
theorem dX5_addSwapped_57 : At cX5_addSwapped 57 (.aload_n 0) 1 58 := ⟨by decide +kernel, rfl⟩
theorem dX5_addSwapped_58 : At cX5_addSwapped 58 (.getfield 50) 3 61 := ⟨by decide +kernel, rfl⟩
theorem dX5_addSwapped_61 : At cX5_addSwapped 61 (.iload 5) 2 63 := ⟨by decide +kernel, rfl⟩
theorem dX5_addSwapped_63 : At cX5_addSwapped 63 (.iload 7) 2 65 := ⟨by decide +kernel, rfl⟩
theorem dX5_addSwapped_65 : At cX5_addSwapped 65 (.iadd) 1 66 := ⟨by decide +kernel, rfl⟩
theorem dX5_addSwapped_66 : At cX5_addSwapped 66 (.invokevirtual 238) 3 69 := ⟨by decide +kernel, rfl⟩
theorem dX5_addSwapped_69 : At cX5_addSwapped 69 (.pop) 1 70 := ⟨by decide +kernel, rfl⟩
theorem dX5_addSwapped_70 : At cX5_addSwapped 70 (.aload_n 0) 1 71 := ⟨by decide +kernel, rfl⟩
theorem dX5_addSwapped_71 : At cX5_addSwapped 71 (.getfield 50) 3 74 := ⟨by decide +kernel, rfl⟩
theorem dX5_addSwapped_74 : At cX5_addSwapped 74 (.iload 8) 2 76 := ⟨by decide +kernel, rfl⟩
theorem dX5_addSwapped_76 : At cX5_addSwapped 76 (.invokestatic 235) 3 79 := ⟨by decide +kernel, rfl⟩
theorem dX5_addSwapped_79 : At cX5_addSwapped 79 (.invokevirtual 238) 3 82 := ⟨by decide +kernel, rfl⟩
theorem dX5_addSwapped_82 : At cX5_addSwapped 82 (.pop) 1 83 := ⟨by decide +kernel, rfl⟩
theorem dX5_addSwapped_83 : Br cX5_addSwapped 83 .goto 86 118 := ⟨(35), by decide +kernel, rfl, by decide⟩
theorem dX5_addSwapped_86 : At cX5_addSwapped 86 (.iload 6) 2 88 := ⟨by decide +kernel, rfl⟩
theorem dX5_addSwapped_88 : At cX5_addSwapped 88 (.iload 5) 2 90 := ⟨by decide +kernel, rfl⟩
theorem dX5_addSwapped_90 : Br cX5_addSwapped 90 (.if_icmp .ne) 93 109 := ⟨(19), by decide +kernel, rfl, by decide⟩
theorem dX5_addSwapped_93 : At cX5_addSwapped 93 (.aload_n 0) 1 94 := ⟨by decide +kernel, rfl⟩
theorem dX5_addSwapped_94 : At cX5_addSwapped 94 (.getfield 50) 3 97 := ⟨by decide +kernel, rfl⟩
theorem dX5_addSwapped_97 : At cX5_addSwapped 97 (.iload 4) 2 99 := ⟨by decide +kernel, rfl⟩
theorem dX5_addSwapped_99 : At cX5_addSwapped 99 (.iload 7) 2 101 := ⟨by decide +kernel, rfl⟩
theorem dX5_addSwapped_101 : At cX5_addSwapped 101 (.iadd) 1 102 := ⟨by decide +kernel, rfl⟩
theorem dX5_addSwapped_102 : At cX5_addSwapped 102 (.invokevirtual 238) 3 105 := ⟨by decide +kernel, rfl⟩
theorem dX5_addSwapped_105 : At cX5_addSwapped 105 (.pop) 1 106 := ⟨by decide +kernel, rfl⟩
theorem dX5_addSwapped_106 : Br cX5_addSwapped 106 .goto 109 118 := ⟨(12), by decide +kernel, rfl, by decide⟩
theorem dX5_addSwapped_109 : At cX5_addSwapped 109 (.aload_n 0) 1 110 := ⟨by decide +kernel, rfl⟩
theorem dX5_addSwapped_110 : At cX5_addSwapped 110 (.getfield 50) 3 113 := ⟨by decide +kernel, rfl⟩
theorem dX5_addSwapped_113 : At cX5_addSwapped 113 (.iload_n 1) 1 114 := ⟨by decide +kernel, rfl⟩
theorem dX5_addSwapped_114 : At cX5_addSwapped 114 (.invokevirtual 238) 3 117 := ⟨by decide +kernel, rfl⟩
theorem dX5_addSwapped_117 : At cX5_addSwapped 117 (.pop) 1 118 := ⟨by decide +kernel, rfl⟩
theorem dX5_addSwapped_118 : At cX5_addSwapped 118 (.return_) 1 119 := ⟨by decide +kernel, rfl⟩
theorem dX5_crossingsIfSwapped_0 : At cX5_crossingsIfSwapped 0 (.iconst 0) 1 1 := ⟨by decide +kernel, rfl⟩
theorem dX5_crossingsIfSwapped_1 : At cX5_crossingsIfSwapped 1 (.istore_n 3) 1 2 := ⟨by decide +kernel, rfl⟩
theorem dX5_crossingsIfSwapped_2 : At cX5_crossingsIfSwapped 2 (.iconst 0) 1 3 := ⟨by decide +kernel, rfl⟩
theorem dX5_crossingsIfSwapped_3 : At cX5_crossingsIfSwapped 3 (.istore 4) 2 5 := ⟨by decide +kernel, rfl⟩
theorem dX5_crossingsIfSwapped_5 : At cX5_crossingsIfSwapped 5 (.iload 4) 2 7 := ⟨by decide +kernel, rfl⟩
theorem dX5_crossingsIfSwapped_7 : At cX5_crossingsIfSwapped 7 (.iconst 4) 1 8 := ⟨by decide +kernel, rfl⟩
theorem dX5_crossingsIfSwapped_8 : Br cX5_crossingsIfSwapped 8 (.if_icmp .ge) 11 43 := ⟨(35), by decide +kernel, rfl, by decide⟩
theorem dX5_crossingsIfSwapped_11 : At cX5_crossingsIfSwapped 11 (.aload_n 0) 1 12 := ⟨by decide +kernel, rfl⟩
theorem dX5_crossingsIfSwapped_12 : At cX5_crossingsIfSwapped 12 (.aload_n 0) 1 13 := ⟨by decide +kernel, rfl⟩
theorem dX5_crossingsIfSwapped_13 : At cX5_crossingsIfSwapped 13 (.getfield 12) 3 16 := ⟨by decide +kernel, rfl⟩
theorem dX5_crossingsIfSwapped_16 : At cX5_crossingsIfSwapped 16 (.getfield 75) 3 19 := ⟨by decide +kernel, rfl⟩
theorem dX5_crossingsIfSwapped_19 : At cX5_crossingsIfSwapped 19 (.iload 4) 2 21 := ⟨by decide +kernel, rfl⟩
theorem dX5_crossingsIfSwapped_21 : At cX5_crossingsIfSwapped 21 (.aaload) 1 22 := ⟨by decide +kernel, rfl⟩
theorem dX5_crossingsIfSwapped_22 : At cX5_crossingsIfSwapped 22 (.iload_n 1) 1 23 := ⟨by decide +kernel, rfl⟩
theorem dX5_crossingsIfSwapped_23 : At cX5_crossingsIfSwapped 23 (.iload_n 2) 1 24 := ⟨by decide +kernel, rfl⟩
theorem dX5_crossingsIfSwapped_24 : At cX5_crossingsIfSwapped 24 (.invokevirtual 115) 3 27 := ⟨by decide +kernel, rfl⟩
theorem dX5_crossingsIfSwapped_27 : At cX5_crossingsIfSwapped 27 (.iload_n 3) 1 28 := ⟨by decide +kernel, rfl⟩
theorem dX5_crossingsIfSwapped_28 : At cX5_crossingsIfSwapped 28 (.aload_n 0) 1 29 := ⟨by decide +kernel, rfl⟩
theorem dX5_crossingsIfSwapped_29 : At cX5_crossingsIfSwapped 29 (.getfield 50) 3 32 := ⟨by decide +kernel, rfl⟩
theorem dX5_crossingsIfSwapped_32 : At cX5_crossingsIfSwapped 32 (.getfield 79) 3 35 := ⟨by decide +kernel, rfl⟩
theorem dX5_crossingsIfSwapped_35 : At cX5_crossingsIfSwapped 35 (.iadd) 1 36 := ⟨by decide +kernel, rfl⟩
theorem dX5_crossingsIfSwapped_36 : At cX5_crossingsIfSwapped 36 (.istore_n 3) 1 37 := ⟨by decide +kernel, rfl⟩
theorem dX5_crossingsIfSwapped_37 : At cX5_crossingsIfSwapped 37 (.iinc 4 1) 3 40 := ⟨by decide +kernel, rfl⟩
theorem dX5_crossingsIfSwapped_40 : Br cX5_crossingsIfSwapped 40 .goto 43 5 := ⟨(-35), by decide +kernel, rfl, by decide⟩
theorem dX5_crossingsIfSwapped_43 : At cX5_crossingsIfSwapped 43 (.iload_n 3) 1 44 := ⟨by decide +kernel, rfl⟩
theorem dX5_crossingsIfSwapped_44 : At cX5_crossingsIfSwapped 44 (.ireturn) 1 45 := ⟨by decide +kernel, rfl⟩
theorem dX5_fallsWithout_0 : At cX5_fallsWithout 0 (.aload_n 0) 1 1 := ⟨by decide +kernel, rfl⟩
theorem dX5_fallsWithout_1 : At cX5_fallsWithout 1 (.getfield 50) 3 4 := ⟨by decide +kernel, rfl⟩
theorem dX5_fallsWithout_4 : At cX5_fallsWithout 4 (.invokevirtual 100) 3 7 := ⟨by decide +kernel, rfl⟩
theorem dX5_fallsWithout_7 : At cX5_fallsWithout 7 (.iconst 0) 1 8 := ⟨by decide +kernel, rfl⟩
theorem dX5_fallsWithout_8 : At cX5_fallsWithout 8 (.istore_n 3) 1 9 := ⟨by decide +kernel, rfl⟩
theorem dX5_fallsWithout_9 : At cX5_fallsWithout 9 (.iload_n 3) 1 10 := ⟨by decide +kernel, rfl⟩
theorem dX5_fallsWithout_10 : At cX5_fallsWithout 10 (.aload_n 1) 1 11 := ⟨by decide +kernel, rfl⟩
theorem dX5_fallsWithout_11 : At cX5_fallsWithout 11 (.getfield 79) 3 14 := ⟨by decide +kernel, rfl⟩
theorem dX5_fallsWithout_14 : Br cX5_fallsWithout 14 (.if_icmp .ge) 17 52 := ⟨(38), by decide +kernel, rfl, by decide⟩
theorem dX5_fallsWithout_17 : At cX5_fallsWithout 17 (.aload_n 1) 1 18 := ⟨by decide +kernel, rfl⟩
theorem dX5_fallsWithout_18 : At cX5_fallsWithout 18 (.iload_n 3) 1 19 := ⟨by decide +kernel, rfl⟩
theorem dX5_fallsWithout_19 : At cX5_fallsWithout 19 (.invokevirtual 215) 3 22 := ⟨by decide +kernel, rfl⟩
theorem dX5_fallsWithout_22 : At cX5_fallsWithout 22 (.istore 4) 2 24 := ⟨by decide +kernel, rfl⟩
theorem dX5_fallsWithout_24 : At cX5_fallsWithout 24 (.iload_n 2) 1 25 := ⟨by decide +kernel, rfl⟩
theorem dX5_fallsWithout_25 : At cX5_fallsWithout 25 (.iload 4) 2 27 := ⟨by decide +kernel, rfl⟩
theorem dX5_fallsWithout_27 : At cX5_fallsWithout 27 (.invokestatic 232) 3 30 := ⟨by decide +kernel, rfl⟩
theorem dX5_fallsWithout_30 : At cX5_fallsWithout 30 (.ishr) 1 31 := ⟨by decide +kernel, rfl⟩
theorem dX5_fallsWithout_31 : At cX5_fallsWithout 31 (.iconst 1) 1 32 := ⟨by decide +kernel, rfl⟩
theorem dX5_fallsWithout_32 : At cX5_fallsWithout 32 (.iand) 1 33 := ⟨by decide +kernel, rfl⟩
theorem dX5_fallsWithout_33 : Br cX5_fallsWithout 33 (.ifCond .ne) 36 46 := ⟨(13), by decide +kernel, rfl, by decide⟩
theorem dX5_fallsWithout_36 : At cX5_fallsWithout 36 (.aload_n 0) 1 37 := ⟨by decide +kernel, rfl⟩
theorem dX5_fallsWithout_37 : At cX5_fallsWithout 37 (.getfield 50) 3 40 := ⟨by decide +kernel, rfl⟩
theorem dX5_fallsWithout_40 : At cX5_fallsWithout 40 (.iload 4) 2 42 := ⟨by decide +kernel, rfl⟩
theorem dX5_fallsWithout_42 : At cX5_fallsWithout 42 (.invokevirtual 238) 3 45 := ⟨by decide +kernel, rfl⟩
theorem dX5_fallsWithout_45 : At cX5_fallsWithout 45 (.pop) 1 46 := ⟨by decide +kernel, rfl⟩
theorem dX5_fallsWithout_46 : At cX5_fallsWithout 46 (.iinc 3 1) 3 49 := ⟨by decide +kernel, rfl⟩
theorem dX5_fallsWithout_49 : Br cX5_fallsWithout 49 .goto 52 9 := ⟨(-40), by decide +kernel, rfl, by decide⟩
theorem dX5_fallsWithout_52 : At cX5_fallsWithout 52 (.aload_n 0) 1 53 := ⟨by decide +kernel, rfl⟩
theorem dX5_fallsWithout_53 : At cX5_fallsWithout 53 (.getfield 50) 3 56 := ⟨by decide +kernel, rfl⟩
theorem dX5_fallsWithout_56 : At cX5_fallsWithout 56 (.getfield 79) 3 59 := ⟨by decide +kernel, rfl⟩
theorem dX5_fallsWithout_59 : Br cX5_fallsWithout 59 (.ifCond .ne) 62 66 := ⟨(7), by decide +kernel, rfl, by decide⟩
theorem dX5_fallsWithout_62 : At cX5_fallsWithout 62 (.iconst 1) 1 63 := ⟨by decide +kernel, rfl⟩
theorem dX5_fallsWithout_63 : Br cX5_fallsWithout 63 .goto 66 67 := ⟨(4), by decide +kernel, rfl, by decide⟩
theorem dX5_fallsWithout_66 : At cX5_fallsWithout 66 (.iconst 0) 1 67 := ⟨by decide +kernel, rfl⟩
theorem dX5_fallsWithout_67 : At cX5_fallsWithout 67 (.ireturn) 1 68 := ⟨by decide +kernel, rfl⟩
theorem dJ9_max_7cf53_0 : At cJ9_max_7cf53 0 (.iload_n 0) 1 1 := ⟨by decide +kernel, rfl⟩
theorem dJ9_max_7cf53_1 : At cJ9_max_7cf53 1 (.iload_n 1) 1 2 := ⟨by decide +kernel, rfl⟩
theorem dJ9_max_7cf53_2 : Br cJ9_max_7cf53 2 (.if_icmp .lt) 5 9 := ⟨(7), by decide +kernel, rfl, by decide⟩
theorem dJ9_max_7cf53_5 : At cJ9_max_7cf53 5 (.iload_n 0) 1 6 := ⟨by decide +kernel, rfl⟩
theorem dJ9_max_7cf53_6 : Br cJ9_max_7cf53 6 .goto 9 10 := ⟨(4), by decide +kernel, rfl, by decide⟩
theorem dJ9_max_7cf53_9 : At cJ9_max_7cf53 9 (.iload_n 1) 1 10 := ⟨by decide +kernel, rfl⟩
theorem dJ9_max_7cf53_10 : At cJ9_max_7cf53 10 (.ireturn) 1 11 := ⟨by decide +kernel, rfl⟩
theorem dJ9_min_7cf53_0 : At cJ9_min_7cf53 0 (.iload_n 0) 1 1 := ⟨by decide +kernel, rfl⟩
theorem dJ9_min_7cf53_1 : At cJ9_min_7cf53 1 (.iload_n 1) 1 2 := ⟨by decide +kernel, rfl⟩
theorem dJ9_min_7cf53_2 : Br cJ9_min_7cf53 2 (.if_icmp .gt) 5 9 := ⟨(7), by decide +kernel, rfl, by decide⟩
theorem dJ9_min_7cf53_5 : At cJ9_min_7cf53 5 (.iload_n 0) 1 6 := ⟨by decide +kernel, rfl⟩
theorem dJ9_min_7cf53_6 : Br cJ9_min_7cf53 6 .goto 9 10 := ⟨(4), by decide +kernel, rfl, by decide⟩
theorem dJ9_min_7cf53_9 : At cJ9_min_7cf53 9 (.iload_n 1) 1 10 := ⟨by decide +kernel, rfl⟩
theorem dJ9_min_7cf53_10 : At cJ9_min_7cf53 10 (.ireturn) 1 11 := ⟨by decide +kernel, rfl⟩
theorem dL_cell_0 : At cL_cell 0 (.aload_n 0) 1 1 := ⟨by decide +kernel, rfl⟩
theorem dL_cell_1 : At cL_cell 1 (.arraylength) 1 2 := ⟨by decide +kernel, rfl⟩
theorem dL_cell_2 : Br cL_cell 2 (.ifCond .ne) 5 14 := ⟨(12), by decide +kernel, rfl, by decide⟩
theorem dL_cell_5 : At cL_cell 5 (.iload_n 1) 1 6 := ⟨by decide +kernel, rfl⟩
theorem dL_cell_6 : At cL_cell 6 (.bipush 37) 2 8 := ⟨by decide +kernel, rfl⟩
theorem dL_cell_8 : At cL_cell 8 (.imul) 1 9 := ⟨by decide +kernel, rfl⟩
theorem dL_cell_9 : At cL_cell 9 (.iconst 5) 1 10 := ⟨by decide +kernel, rfl⟩
theorem dL_cell_10 : At cL_cell 10 (.iadd) 1 11 := ⟨by decide +kernel, rfl⟩
theorem dL_cell_11 : Br cL_cell 11 .goto 14 28 := ⟨(17), by decide +kernel, rfl, by decide⟩
theorem dL_cell_14 : At cL_cell 14 (.aload_n 0) 1 15 := ⟨by decide +kernel, rfl⟩
theorem dL_cell_15 : At cL_cell 15 (.iload_n 1) 1 16 := ⟨by decide +kernel, rfl⟩
theorem dL_cell_16 : At cL_cell 16 (.aload_n 0) 1 17 := ⟨by decide +kernel, rfl⟩
theorem dL_cell_17 : At cL_cell 17 (.arraylength) 1 18 := ⟨by decide +kernel, rfl⟩
theorem dL_cell_18 : At cL_cell 18 (.irem) 1 19 := ⟨by decide +kernel, rfl⟩
theorem dL_cell_19 : At cL_cell 19 (.iaload) 1 20 := ⟨by decide +kernel, rfl⟩
theorem dL_cell_20 : At cL_cell 20 (.iload_n 1) 1 21 := ⟨by decide +kernel, rfl⟩
theorem dL_cell_21 : At cL_cell 21 (.bipush 7) 2 23 := ⟨by decide +kernel, rfl⟩
theorem dL_cell_23 : At cL_cell 23 (.irem) 1 24 := ⟨by decide +kernel, rfl⟩
theorem dL_cell_24 : At cL_cell 24 (.ishr) 1 25 := ⟨by decide +kernel, rfl⟩
theorem dL_cell_25 : At cL_cell 25 (.ldc 7) 2 27 := ⟨by decide +kernel, rfl⟩
theorem dL_cell_27 : At cL_cell 27 (.iand) 1 28 := ⟨by decide +kernel, rfl⟩
theorem dL_cell_28 : At cL_cell 28 (.iload_n 2) 1 29 := ⟨by decide +kernel, rfl⟩
theorem dL_cell_29 : At cL_cell 29 (.irem) 1 30 := ⟨by decide +kernel, rfl⟩
theorem dL_cell_30 : At cL_cell 30 (.ireturn) 1 31 := ⟨by decide +kernel, rfl⟩
theorem dL_cancel_0 : At cL_cancel 0 (.iload_n 0) 1 1 := ⟨by decide +kernel, rfl⟩
theorem dL_cancel_1 : At cL_cancel 1 (.iload_n 1) 1 2 := ⟨by decide +kernel, rfl⟩
theorem dL_cancel_2 : At cL_cancel 2 (.isub) 1 3 := ⟨by decide +kernel, rfl⟩
theorem dL_cancel_3 : At cL_cancel 3 (.bipush 6) 2 5 := ⟨by decide +kernel, rfl⟩
theorem dL_cancel_5 : Br cL_cancel 5 (.if_icmp .eq) 8 16 := ⟨(11), by decide +kernel, rfl, by decide⟩
theorem dL_cancel_8 : At cL_cancel 8 (.iload_n 1) 1 9 := ⟨by decide +kernel, rfl⟩
theorem dL_cancel_9 : At cL_cancel 9 (.iload_n 0) 1 10 := ⟨by decide +kernel, rfl⟩
theorem dL_cancel_10 : At cL_cancel 10 (.isub) 1 11 := ⟨by decide +kernel, rfl⟩
theorem dL_cancel_11 : At cL_cancel 11 (.bipush 6) 2 13 := ⟨by decide +kernel, rfl⟩
theorem dL_cancel_13 : Br cL_cancel 13 (.if_icmp .ne) 16 20 := ⟨(7), by decide +kernel, rfl, by decide⟩
theorem dL_cancel_16 : At cL_cancel 16 (.iconst 1) 1 17 := ⟨by decide +kernel, rfl⟩
theorem dL_cancel_17 : Br cL_cancel 17 .goto 20 21 := ⟨(4), by decide +kernel, rfl, by decide⟩
theorem dL_cancel_20 : At cL_cancel 20 (.iconst 0) 1 21 := ⟨by decide +kernel, rfl⟩
theorem dL_cancel_21 : At cL_cancel 21 (.ireturn) 1 22 := ⟨by decide +kernel, rfl⟩
theorem dL_otherSide_0 : At cL_otherSide 0 (.iload_n 0) 1 1 := ⟨by decide +kernel, rfl⟩
theorem dL_otherSide_1 : At cL_otherSide 1 (.bipush 6) 2 3 := ⟨by decide +kernel, rfl⟩
theorem dL_otherSide_3 : Br cL_otherSide 3 (.if_icmp .ge) 6 13 := ⟨(10), by decide +kernel, rfl, by decide⟩
theorem dL_otherSide_6 : At cL_otherSide 6 (.iload_n 0) 1 7 := ⟨by decide +kernel, rfl⟩
theorem dL_otherSide_7 : At cL_otherSide 7 (.bipush 6) 2 9 := ⟨by decide +kernel, rfl⟩
theorem dL_otherSide_9 : At cL_otherSide 9 (.iadd) 1 10 := ⟨by decide +kernel, rfl⟩
theorem dL_otherSide_10 : Br cL_otherSide 10 .goto 13 17 := ⟨(7), by decide +kernel, rfl, by decide⟩
theorem dL_otherSide_13 : At cL_otherSide 13 (.iload_n 0) 1 14 := ⟨by decide +kernel, rfl⟩
theorem dL_otherSide_14 : At cL_otherSide 14 (.bipush 6) 2 16 := ⟨by decide +kernel, rfl⟩
theorem dL_otherSide_16 : At cL_otherSide 16 (.isub) 1 17 := ⟨by decide +kernel, rfl⟩
theorem dL_otherSide_17 : At cL_otherSide 17 (.ireturn) 1 18 := ⟨by decide +kernel, rfl⟩
theorem dL_add_0 : At cL_add 0 (.aload_n 0) 1 1 := ⟨by decide +kernel, rfl⟩
theorem dL_add_1 : At cL_add 1 (.iconst 0) 1 2 := ⟨by decide +kernel, rfl⟩
theorem dL_add_2 : At cL_add 2 (.dup2) 1 3 := ⟨by decide +kernel, rfl⟩
theorem dL_add_3 : At cL_add 3 (.iaload) 1 4 := ⟨by decide +kernel, rfl⟩
theorem dL_add_4 : At cL_add 4 (.iconst 1) 1 5 := ⟨by decide +kernel, rfl⟩
theorem dL_add_5 : At cL_add 5 (.iadd) 1 6 := ⟨by decide +kernel, rfl⟩
theorem dL_add_6 : At cL_add 6 (.iastore) 1 7 := ⟨by decide +kernel, rfl⟩
theorem dL_add_7 : At cL_add 7 (.aload_n 0) 1 8 := ⟨by decide +kernel, rfl⟩
theorem dL_add_8 : At cL_add 8 (.aload_n 0) 1 9 := ⟨by decide +kernel, rfl⟩
theorem dL_add_9 : At cL_add 9 (.iconst 0) 1 10 := ⟨by decide +kernel, rfl⟩
theorem dL_add_10 : At cL_add 10 (.iaload) 1 11 := ⟨by decide +kernel, rfl⟩
theorem dL_add_11 : At cL_add 11 (.iload_n 1) 1 12 := ⟨by decide +kernel, rfl⟩
theorem dL_add_12 : At cL_add 12 (.iastore) 1 13 := ⟨by decide +kernel, rfl⟩
theorem dL_add_13 : At cL_add 13 (.return_) 1 14 := ⟨by decide +kernel, rfl⟩
theorem dL_read_0 : At cL_read 0 (.aload_n 2) 1 1 := ⟨by decide +kernel, rfl⟩
theorem dL_read_1 : At cL_read 1 (.iconst 0) 1 2 := ⟨by decide +kernel, rfl⟩
theorem dL_read_2 : At cL_read 2 (.iconst 0) 1 3 := ⟨by decide +kernel, rfl⟩
theorem dL_read_3 : At cL_read 3 (.iastore) 1 4 := ⟨by decide +kernel, rfl⟩
theorem dL_read_4 : At cL_read 4 (.iconst 0) 1 5 := ⟨by decide +kernel, rfl⟩
theorem dL_read_5 : At cL_read 5 (.istore_n 3) 1 6 := ⟨by decide +kernel, rfl⟩
theorem dL_read_6 : At cL_read 6 (.iload_n 3) 1 7 := ⟨by decide +kernel, rfl⟩
theorem dL_read_7 : At cL_read 7 (.aload_n 0) 1 8 := ⟨by decide +kernel, rfl⟩
theorem dL_read_8 : At cL_read 8 (.iload_n 1) 1 9 := ⟨by decide +kernel, rfl⟩
theorem dL_read_9 : At cL_read 9 (.iconst 0) 1 10 := ⟨by decide +kernel, rfl⟩
theorem dL_read_10 : At cL_read 10 (.invokevirtual 8) 3 13 := ⟨by decide +kernel, rfl⟩
theorem dL_read_13 : Br cL_read 13 (.if_icmp .ge) 16 32 := ⟨(19), by decide +kernel, rfl, by decide⟩
theorem dL_read_16 : At cL_read 16 (.aload_n 2) 1 17 := ⟨by decide +kernel, rfl⟩
theorem dL_read_17 : At cL_read 17 (.aload_n 0) 1 18 := ⟨by decide +kernel, rfl⟩
theorem dL_read_18 : At cL_read 18 (.iload_n 1) 1 19 := ⟨by decide +kernel, rfl⟩
theorem dL_read_19 : At cL_read 19 (.iload_n 3) 1 20 := ⟨by decide +kernel, rfl⟩
theorem dL_read_20 : At cL_read 20 (.invokevirtual 14) 3 23 := ⟨by decide +kernel, rfl⟩
theorem dL_read_23 : At cL_read 23 (.invokestatic 17) 3 26 := ⟨by decide +kernel, rfl⟩
theorem dL_read_26 : At cL_read 26 (.iinc 3 1) 3 29 := ⟨by decide +kernel, rfl⟩
theorem dL_read_29 : Br cL_read 29 .goto 32 6 := ⟨(-23), by decide +kernel, rfl, by decide⟩
theorem dL_read_32 : At cL_read 32 (.return_) 1 33 := ⟨by decide +kernel, rfl⟩
theorem dL_isWord_0 : At cL_isWord 0 (.aload_n 0) 1 1 := ⟨by decide +kernel, rfl⟩
theorem dL_isWord_1 : At cL_isWord 1 (.iload_n 1) 1 2 := ⟨by decide +kernel, rfl⟩
theorem dL_isWord_2 : At cL_isWord 2 (.iconst 0) 1 3 := ⟨by decide +kernel, rfl⟩
theorem dL_isWord_3 : At cL_isWord 3 (.invokevirtual 8) 3 6 := ⟨by decide +kernel, rfl⟩
theorem dL_isWord_6 : At cL_isWord 6 (.aload_n 2) 1 7 := ⟨by decide +kernel, rfl⟩
theorem dL_isWord_7 : At cL_isWord 7 (.iconst 0) 1 8 := ⟨by decide +kernel, rfl⟩
theorem dL_isWord_8 : At cL_isWord 8 (.iaload) 1 9 := ⟨by decide +kernel, rfl⟩
theorem dL_isWord_9 : Br cL_isWord 9 (.if_icmp .ne) 12 38 := ⟨(29), by decide +kernel, rfl, by decide⟩
theorem dL_isWord_12 : At cL_isWord 12 (.aload_n 0) 1 13 := ⟨by decide +kernel, rfl⟩
theorem dL_isWord_13 : At cL_isWord 13 (.iload_n 1) 1 14 := ⟨by decide +kernel, rfl⟩
theorem dL_isWord_14 : At cL_isWord 14 (.aload_n 2) 1 15 := ⟨by decide +kernel, rfl⟩
theorem dL_isWord_15 : At cL_isWord 15 (.iconst 0) 1 16 := ⟨by decide +kernel, rfl⟩
theorem dL_isWord_16 : At cL_isWord 16 (.iaload) 1 17 := ⟨by decide +kernel, rfl⟩
theorem dL_isWord_17 : At cL_isWord 17 (.invokevirtual 14) 3 20 := ⟨by decide +kernel, rfl⟩
theorem dL_isWord_20 : At cL_isWord 20 (.iconst (-1)) 1 21 := ⟨by decide +kernel, rfl⟩
theorem dL_isWord_21 : Br cL_isWord 21 (.if_icmp .ne) 24 38 := ⟨(17), by decide +kernel, rfl, by decide⟩
theorem dL_isWord_24 : At cL_isWord 24 (.aload_n 0) 1 25 := ⟨by decide +kernel, rfl⟩
theorem dL_isWord_25 : At cL_isWord 25 (.iload_n 1) 1 26 := ⟨by decide +kernel, rfl⟩
theorem dL_isWord_26 : At cL_isWord 26 (.iconst (-1)) 1 27 := ⟨by decide +kernel, rfl⟩
theorem dL_isWord_27 : At cL_isWord 27 (.invokevirtual 14) 3 30 := ⟨by decide +kernel, rfl⟩
theorem dL_isWord_30 : At cL_isWord 30 (.iconst (-1)) 1 31 := ⟨by decide +kernel, rfl⟩
theorem dL_isWord_31 : Br cL_isWord 31 (.if_icmp .ne) 34 38 := ⟨(7), by decide +kernel, rfl, by decide⟩
theorem dL_isWord_34 : At cL_isWord 34 (.iconst 1) 1 35 := ⟨by decide +kernel, rfl⟩
theorem dL_isWord_35 : Br cL_isWord 35 .goto 38 39 := ⟨(4), by decide +kernel, rfl, by decide⟩
theorem dL_isWord_38 : At cL_isWord 38 (.iconst 0) 1 39 := ⟨by decide +kernel, rfl⟩
theorem dL_isWord_39 : At cL_isWord 39 (.istore_n 3) 1 40 := ⟨by decide +kernel, rfl⟩
theorem dL_isWord_40 : At cL_isWord 40 (.iconst 0) 1 41 := ⟨by decide +kernel, rfl⟩
theorem dL_isWord_41 : At cL_isWord 41 (.istore 4) 2 43 := ⟨by decide +kernel, rfl⟩
theorem dL_isWord_43 : At cL_isWord 43 (.iload 4) 2 45 := ⟨by decide +kernel, rfl⟩
theorem dL_isWord_45 : At cL_isWord 45 (.aload_n 2) 1 46 := ⟨by decide +kernel, rfl⟩
theorem dL_isWord_46 : At cL_isWord 46 (.iconst 0) 1 47 := ⟨by decide +kernel, rfl⟩
theorem dL_isWord_47 : At cL_isWord 47 (.iaload) 1 48 := ⟨by decide +kernel, rfl⟩
theorem dL_isWord_48 : Br cL_isWord 48 (.if_icmp .ge) 51 83 := ⟨(35), by decide +kernel, rfl, by decide⟩
theorem dL_isWord_51 : At cL_isWord 51 (.iload_n 3) 1 52 := ⟨by decide +kernel, rfl⟩
theorem dL_isWord_52 : Br cL_isWord 52 (.ifCond .eq) 55 83 := ⟨(31), by decide +kernel, rfl, by decide⟩
theorem dL_isWord_55 : At cL_isWord 55 (.aload_n 0) 1 56 := ⟨by decide +kernel, rfl⟩
theorem dL_isWord_56 : At cL_isWord 56 (.iload_n 1) 1 57 := ⟨by decide +kernel, rfl⟩
theorem dL_isWord_57 : At cL_isWord 57 (.iload 4) 2 59 := ⟨by decide +kernel, rfl⟩
theorem dL_isWord_59 : At cL_isWord 59 (.invokevirtual 14) 3 62 := ⟨by decide +kernel, rfl⟩
theorem dL_isWord_62 : At cL_isWord 62 (.aload_n 2) 1 63 := ⟨by decide +kernel, rfl⟩
theorem dL_isWord_63 : At cL_isWord 63 (.iconst 1) 1 64 := ⟨by decide +kernel, rfl⟩
theorem dL_isWord_64 : At cL_isWord 64 (.iload 4) 2 66 := ⟨by decide +kernel, rfl⟩
theorem dL_isWord_66 : At cL_isWord 66 (.iadd) 1 67 := ⟨by decide +kernel, rfl⟩
theorem dL_isWord_67 : At cL_isWord 67 (.iaload) 1 68 := ⟨by decide +kernel, rfl⟩
theorem dL_isWord_68 : Br cL_isWord 68 (.if_icmp .ne) 71 75 := ⟨(7), by decide +kernel, rfl, by decide⟩
theorem dL_isWord_71 : At cL_isWord 71 (.iconst 1) 1 72 := ⟨by decide +kernel, rfl⟩
theorem dL_isWord_72 : Br cL_isWord 72 .goto 75 76 := ⟨(4), by decide +kernel, rfl, by decide⟩
theorem dL_isWord_75 : At cL_isWord 75 (.iconst 0) 1 76 := ⟨by decide +kernel, rfl⟩
theorem dL_isWord_76 : At cL_isWord 76 (.istore_n 3) 1 77 := ⟨by decide +kernel, rfl⟩
theorem dL_isWord_77 : At cL_isWord 77 (.iinc 4 1) 3 80 := ⟨by decide +kernel, rfl⟩
theorem dL_isWord_80 : Br cL_isWord 80 .goto 83 43 := ⟨(-37), by decide +kernel, rfl, by decide⟩
theorem dL_isWord_83 : At cL_isWord 83 (.iload_n 3) 1 84 := ⟨by decide +kernel, rfl⟩
theorem dL_isWord_84 : At cL_isWord 84 (.ireturn) 1 85 := ⟨by decide +kernel, rfl⟩
theorem dL_pull_0 : At cL_pull 0 (.iconst 1) 1 1 := ⟨by decide +kernel, rfl⟩
theorem dL_pull_1 : At cL_pull 1 (.istore_n 1) 1 2 := ⟨by decide +kernel, rfl⟩
theorem dL_pull_2 : At cL_pull 2 (.iload_n 1) 1 3 := ⟨by decide +kernel, rfl⟩
theorem dL_pull_3 : At cL_pull 3 (.aload_n 0) 1 4 := ⟨by decide +kernel, rfl⟩
theorem dL_pull_4 : At cL_pull 4 (.iconst 0) 1 5 := ⟨by decide +kernel, rfl⟩
theorem dL_pull_5 : At cL_pull 5 (.iaload) 1 6 := ⟨by decide +kernel, rfl⟩
theorem dL_pull_6 : Br cL_pull 6 (.if_icmp .ge) 9 77 := ⟨(71), by decide +kernel, rfl, by decide⟩
theorem dL_pull_9 : At cL_pull 9 (.aload_n 0) 1 10 := ⟨by decide +kernel, rfl⟩
theorem dL_pull_10 : At cL_pull 10 (.iload_n 1) 1 11 := ⟨by decide +kernel, rfl⟩
theorem dL_pull_11 : At cL_pull 11 (.iaload) 1 12 := ⟨by decide +kernel, rfl⟩
theorem dL_pull_12 : At cL_pull 12 (.aload_n 0) 1 13 := ⟨by decide +kernel, rfl⟩
theorem dL_pull_13 : At cL_pull 13 (.iload_n 1) 1 14 := ⟨by decide +kernel, rfl⟩
theorem dL_pull_14 : At cL_pull 14 (.iconst 1) 1 15 := ⟨by decide +kernel, rfl⟩
theorem dL_pull_15 : At cL_pull 15 (.iadd) 1 16 := ⟨by decide +kernel, rfl⟩
theorem dL_pull_16 : At cL_pull 16 (.iaload) 1 17 := ⟨by decide +kernel, rfl⟩
theorem dL_pull_17 : At cL_pull 17 (.invokestatic 23) 3 20 := ⟨by decide +kernel, rfl⟩
theorem dL_pull_20 : Br cL_pull 20 (.ifCond .eq) 23 71 := ⟨(51), by decide +kernel, rfl, by decide⟩
theorem dL_pull_23 : At cL_pull 23 (.iload_n 1) 1 24 := ⟨by decide +kernel, rfl⟩
theorem dL_pull_24 : At cL_pull 24 (.istore_n 2) 1 25 := ⟨by decide +kernel, rfl⟩
theorem dL_pull_25 : At cL_pull 25 (.iload_n 2) 1 26 := ⟨by decide +kernel, rfl⟩
theorem dL_pull_26 : At cL_pull 26 (.iconst 2) 1 27 := ⟨by decide +kernel, rfl⟩
theorem dL_pull_27 : At cL_pull 27 (.iadd) 1 28 := ⟨by decide +kernel, rfl⟩
theorem dL_pull_28 : At cL_pull 28 (.aload_n 0) 1 29 := ⟨by decide +kernel, rfl⟩
theorem dL_pull_29 : At cL_pull 29 (.iconst 0) 1 30 := ⟨by decide +kernel, rfl⟩
theorem dL_pull_30 : At cL_pull 30 (.iaload) 1 31 := ⟨by decide +kernel, rfl⟩
theorem dL_pull_31 : Br cL_pull 31 (.if_icmp .gt) 34 48 := ⟨(17), by decide +kernel, rfl, by decide⟩
theorem dL_pull_34 : At cL_pull 34 (.aload_n 0) 1 35 := ⟨by decide +kernel, rfl⟩
theorem dL_pull_35 : At cL_pull 35 (.iload_n 2) 1 36 := ⟨by decide +kernel, rfl⟩
theorem dL_pull_36 : At cL_pull 36 (.aload_n 0) 1 37 := ⟨by decide +kernel, rfl⟩
theorem dL_pull_37 : At cL_pull 37 (.iload_n 2) 1 38 := ⟨by decide +kernel, rfl⟩
theorem dL_pull_38 : At cL_pull 38 (.iconst 2) 1 39 := ⟨by decide +kernel, rfl⟩
theorem dL_pull_39 : At cL_pull 39 (.iadd) 1 40 := ⟨by decide +kernel, rfl⟩
theorem dL_pull_40 : At cL_pull 40 (.iaload) 1 41 := ⟨by decide +kernel, rfl⟩
theorem dL_pull_41 : At cL_pull 41 (.iastore) 1 42 := ⟨by decide +kernel, rfl⟩
theorem dL_pull_42 : At cL_pull 42 (.iinc 2 1) 3 45 := ⟨by decide +kernel, rfl⟩
theorem dL_pull_45 : Br cL_pull 45 .goto 48 25 := ⟨(-20), by decide +kernel, rfl, by decide⟩
theorem dL_pull_48 : At cL_pull 48 (.aload_n 0) 1 49 := ⟨by decide +kernel, rfl⟩
theorem dL_pull_49 : At cL_pull 49 (.iconst 0) 1 50 := ⟨by decide +kernel, rfl⟩
theorem dL_pull_50 : At cL_pull 50 (.dup2) 1 51 := ⟨by decide +kernel, rfl⟩
theorem dL_pull_51 : At cL_pull 51 (.iaload) 1 52 := ⟨by decide +kernel, rfl⟩
theorem dL_pull_52 : At cL_pull 52 (.iconst 2) 1 53 := ⟨by decide +kernel, rfl⟩
theorem dL_pull_53 : At cL_pull 53 (.isub) 1 54 := ⟨by decide +kernel, rfl⟩
theorem dL_pull_54 : At cL_pull 54 (.iastore) 1 55 := ⟨by decide +kernel, rfl⟩
theorem dL_pull_55 : At cL_pull 55 (.iload_n 1) 1 56 := ⟨by decide +kernel, rfl⟩
theorem dL_pull_56 : At cL_pull 56 (.iconst 1) 1 57 := ⟨by decide +kernel, rfl⟩
theorem dL_pull_57 : Br cL_pull 57 (.if_icmp .le) 60 66 := ⟨(9), by decide +kernel, rfl, by decide⟩
theorem dL_pull_60 : At cL_pull 60 (.iload_n 1) 1 61 := ⟨by decide +kernel, rfl⟩
theorem dL_pull_61 : At cL_pull 61 (.iconst 1) 1 62 := ⟨by decide +kernel, rfl⟩
theorem dL_pull_62 : At cL_pull 62 (.isub) 1 63 := ⟨by decide +kernel, rfl⟩
theorem dL_pull_63 : Br cL_pull 63 .goto 66 67 := ⟨(4), by decide +kernel, rfl, by decide⟩
theorem dL_pull_66 : At cL_pull 66 (.iconst 1) 1 67 := ⟨by decide +kernel, rfl⟩
theorem dL_pull_67 : At cL_pull 67 (.istore_n 1) 1 68 := ⟨by decide +kernel, rfl⟩
theorem dL_pull_68 : Br cL_pull 68 .goto 71 2 := ⟨(-66), by decide +kernel, rfl, by decide⟩
theorem dL_pull_71 : At cL_pull 71 (.iinc 1 1) 3 74 := ⟨by decide +kernel, rfl⟩
theorem dL_pull_74 : Br cL_pull 74 .goto 77 2 := ⟨(-72), by decide +kernel, rfl, by decide⟩
theorem dL_pull_77 : At cL_pull 77 (.return_) 1 78 := ⟨by decide +kernel, rfl⟩
theorem dL_turn_0 : At cL_turn 0 (.iconst 1) 1 1 := ⟨by decide +kernel, rfl⟩
theorem dL_turn_1 : At cL_turn 1 (.istore_n 1) 1 2 := ⟨by decide +kernel, rfl⟩
theorem dL_turn_2 : At cL_turn 2 (.aload_n 0) 1 3 := ⟨by decide +kernel, rfl⟩
theorem dL_turn_3 : At cL_turn 3 (.iconst 0) 1 4 := ⟨by decide +kernel, rfl⟩
theorem dL_turn_4 : At cL_turn 4 (.iaload) 1 5 := ⟨by decide +kernel, rfl⟩
theorem dL_turn_5 : At cL_turn 5 (.istore_n 2) 1 6 := ⟨by decide +kernel, rfl⟩
theorem dL_turn_6 : At cL_turn 6 (.iload_n 1) 1 7 := ⟨by decide +kernel, rfl⟩
theorem dL_turn_7 : At cL_turn 7 (.iload_n 2) 1 8 := ⟨by decide +kernel, rfl⟩
theorem dL_turn_8 : Br cL_turn 8 (.if_icmp .gt) 11 40 := ⟨(32), by decide +kernel, rfl, by decide⟩
theorem dL_turn_11 : At cL_turn 11 (.aload_n 0) 1 12 := ⟨by decide +kernel, rfl⟩
theorem dL_turn_12 : At cL_turn 12 (.iload_n 1) 1 13 := ⟨by decide +kernel, rfl⟩
theorem dL_turn_13 : At cL_turn 13 (.iaload) 1 14 := ⟨by decide +kernel, rfl⟩
theorem dL_turn_14 : At cL_turn 14 (.istore_n 3) 1 15 := ⟨by decide +kernel, rfl⟩
theorem dL_turn_15 : At cL_turn 15 (.aload_n 0) 1 16 := ⟨by decide +kernel, rfl⟩
theorem dL_turn_16 : At cL_turn 16 (.iload_n 1) 1 17 := ⟨by decide +kernel, rfl⟩
theorem dL_turn_17 : At cL_turn 17 (.aload_n 0) 1 18 := ⟨by decide +kernel, rfl⟩
theorem dL_turn_18 : At cL_turn 18 (.iload_n 2) 1 19 := ⟨by decide +kernel, rfl⟩
theorem dL_turn_19 : At cL_turn 19 (.iaload) 1 20 := ⟨by decide +kernel, rfl⟩
theorem dL_turn_20 : At cL_turn 20 (.invokestatic 27) 3 23 := ⟨by decide +kernel, rfl⟩
theorem dL_turn_23 : At cL_turn 23 (.iastore) 1 24 := ⟨by decide +kernel, rfl⟩
theorem dL_turn_24 : At cL_turn 24 (.aload_n 0) 1 25 := ⟨by decide +kernel, rfl⟩
theorem dL_turn_25 : At cL_turn 25 (.iload_n 2) 1 26 := ⟨by decide +kernel, rfl⟩
theorem dL_turn_26 : At cL_turn 26 (.iload_n 3) 1 27 := ⟨by decide +kernel, rfl⟩
theorem dL_turn_27 : At cL_turn 27 (.invokestatic 27) 3 30 := ⟨by decide +kernel, rfl⟩
theorem dL_turn_30 : At cL_turn 30 (.iastore) 1 31 := ⟨by decide +kernel, rfl⟩
theorem dL_turn_31 : At cL_turn 31 (.iinc 1 1) 3 34 := ⟨by decide +kernel, rfl⟩
theorem dL_turn_34 : At cL_turn 34 (.iinc 2 (-1)) 3 37 := ⟨by decide +kernel, rfl⟩
theorem dL_turn_37 : Br cL_turn 37 .goto 40 6 := ⟨(-31), by decide +kernel, rfl, by decide⟩
theorem dL_turn_40 : At cL_turn 40 (.return_) 1 41 := ⟨by decide +kernel, rfl⟩
theorem dL_copy_0 : At cL_copy 0 (.iconst 0) 1 1 := ⟨by decide +kernel, rfl⟩
theorem dL_copy_1 : At cL_copy 1 (.istore_n 2) 1 2 := ⟨by decide +kernel, rfl⟩
theorem dL_copy_2 : At cL_copy 2 (.iload_n 2) 1 3 := ⟨by decide +kernel, rfl⟩
theorem dL_copy_3 : At cL_copy 3 (.aload_n 0) 1 4 := ⟨by decide +kernel, rfl⟩
theorem dL_copy_4 : At cL_copy 4 (.iconst 0) 1 5 := ⟨by decide +kernel, rfl⟩
theorem dL_copy_5 : At cL_copy 5 (.iaload) 1 6 := ⟨by decide +kernel, rfl⟩
theorem dL_copy_6 : Br cL_copy 6 (.if_icmp .gt) 9 21 := ⟨(15), by decide +kernel, rfl, by decide⟩
theorem dL_copy_9 : At cL_copy 9 (.aload_n 1) 1 10 := ⟨by decide +kernel, rfl⟩
theorem dL_copy_10 : At cL_copy 10 (.iload_n 2) 1 11 := ⟨by decide +kernel, rfl⟩
theorem dL_copy_11 : At cL_copy 11 (.aload_n 0) 1 12 := ⟨by decide +kernel, rfl⟩
theorem dL_copy_12 : At cL_copy 12 (.iload_n 2) 1 13 := ⟨by decide +kernel, rfl⟩
theorem dL_copy_13 : At cL_copy 13 (.iaload) 1 14 := ⟨by decide +kernel, rfl⟩
theorem dL_copy_14 : At cL_copy 14 (.iastore) 1 15 := ⟨by decide +kernel, rfl⟩
theorem dL_copy_15 : At cL_copy 15 (.iinc 2 1) 3 18 := ⟨by decide +kernel, rfl⟩
theorem dL_copy_18 : Br cL_copy 18 .goto 21 2 := ⟨(-16), by decide +kernel, rfl, by decide⟩
theorem dL_copy_21 : At cL_copy 21 (.return_) 1 22 := ⟨by decide +kernel, rfl⟩
theorem dL_isTold_0 : At cL_isTold 0 (.bipush 64) 2 2 := ⟨by decide +kernel, rfl⟩
theorem dL_isTold_2 : At cL_isTold 2 (.newarray .int) 2 4 := ⟨by decide +kernel, rfl⟩
theorem dL_isTold_4 : At cL_isTold 4 (.astore_n 2) 1 5 := ⟨by decide +kernel, rfl⟩
theorem dL_isTold_5 : At cL_isTold 5 (.aload_n 0) 1 6 := ⟨by decide +kernel, rfl⟩
theorem dL_isTold_6 : At cL_isTold 6 (.iload_n 1) 1 7 := ⟨by decide +kernel, rfl⟩
theorem dL_isTold_7 : At cL_isTold 7 (.aload_n 2) 1 8 := ⟨by decide +kernel, rfl⟩
theorem dL_isTold_8 : At cL_isTold 8 (.invokestatic 31) 3 11 := ⟨by decide +kernel, rfl⟩
theorem dL_isTold_11 : At cL_isTold 11 (.iconst 0) 1 12 := ⟨by decide +kernel, rfl⟩
theorem dL_isTold_12 : At cL_isTold 12 (.istore_n 3) 1 13 := ⟨by decide +kernel, rfl⟩
theorem dL_isTold_13 : At cL_isTold 13 (.bipush (-6)) 2 15 := ⟨by decide +kernel, rfl⟩
theorem dL_isTold_15 : At cL_isTold 15 (.istore 4) 2 17 := ⟨by decide +kernel, rfl⟩
theorem dL_isTold_17 : At cL_isTold 17 (.aload_n 2) 1 18 := ⟨by decide +kernel, rfl⟩
theorem dL_isTold_18 : At cL_isTold 18 (.iconst 0) 1 19 := ⟨by decide +kernel, rfl⟩
theorem dL_isTold_19 : At cL_isTold 19 (.iaload) 1 20 := ⟨by decide +kernel, rfl⟩
theorem dL_isTold_20 : At cL_isTold 20 (.istore 5) 2 22 := ⟨by decide +kernel, rfl⟩
theorem dL_isTold_22 : At cL_isTold 22 (.iload 5) 2 24 := ⟨by decide +kernel, rfl⟩
theorem dL_isTold_24 : Br cL_isTold 24 (.ifCond .le) 27 82 := ⟨(58), by decide +kernel, rfl, by decide⟩
theorem dL_isTold_27 : At cL_isTold 27 (.iload_n 3) 1 28 := ⟨by decide +kernel, rfl⟩
theorem dL_isTold_28 : At cL_isTold 28 (.aload_n 0) 1 29 := ⟨by decide +kernel, rfl⟩
theorem dL_isTold_29 : At cL_isTold 29 (.aload_n 2) 1 30 := ⟨by decide +kernel, rfl⟩
theorem dL_isTold_30 : At cL_isTold 30 (.iload 5) 2 32 := ⟨by decide +kernel, rfl⟩
theorem dL_isTold_32 : At cL_isTold 32 (.iaload) 1 33 := ⟨by decide +kernel, rfl⟩
theorem dL_isTold_33 : At cL_isTold 33 (.bipush 6) 2 35 := ⟨by decide +kernel, rfl⟩
theorem dL_isTold_35 : At cL_isTold 35 (.irem) 1 36 := ⟨by decide +kernel, rfl⟩
theorem dL_isTold_36 : At cL_isTold 36 (.invokevirtual 35) 3 39 := ⟨by decide +kernel, rfl⟩
theorem dL_isTold_39 : At cL_isTold 39 (.iadd) 1 40 := ⟨by decide +kernel, rfl⟩
theorem dL_isTold_40 : At cL_isTold 40 (.istore_n 3) 1 41 := ⟨by decide +kernel, rfl⟩
theorem dL_isTold_41 : At cL_isTold 41 (.iload 5) 2 43 := ⟨by decide +kernel, rfl⟩
theorem dL_isTold_43 : At cL_isTold 43 (.aload_n 2) 1 44 := ⟨by decide +kernel, rfl⟩
theorem dL_isTold_44 : At cL_isTold 44 (.iconst 0) 1 45 := ⟨by decide +kernel, rfl⟩
theorem dL_isTold_45 : At cL_isTold 45 (.iaload) 1 46 := ⟨by decide +kernel, rfl⟩
theorem dL_isTold_46 : Br cL_isTold 46 (.if_icmp .ge) 49 72 := ⟨(26), by decide +kernel, rfl, by decide⟩
theorem dL_isTold_49 : At cL_isTold 49 (.aload_n 2) 1 50 := ⟨by decide +kernel, rfl⟩
theorem dL_isTold_50 : At cL_isTold 50 (.iload 5) 2 52 := ⟨by decide +kernel, rfl⟩
theorem dL_isTold_52 : At cL_isTold 52 (.iaload) 1 53 := ⟨by decide +kernel, rfl⟩
theorem dL_isTold_53 : At cL_isTold 53 (.aload_n 2) 1 54 := ⟨by decide +kernel, rfl⟩
theorem dL_isTold_54 : At cL_isTold 54 (.iload 5) 2 56 := ⟨by decide +kernel, rfl⟩
theorem dL_isTold_56 : At cL_isTold 56 (.iconst 1) 1 57 := ⟨by decide +kernel, rfl⟩
theorem dL_isTold_57 : At cL_isTold 57 (.iadd) 1 58 := ⟨by decide +kernel, rfl⟩
theorem dL_isTold_58 : At cL_isTold 58 (.iaload) 1 59 := ⟨by decide +kernel, rfl⟩
theorem dL_isTold_59 : At cL_isTold 59 (.invokestatic 23) 3 62 := ⟨by decide +kernel, rfl⟩
theorem dL_isTold_62 : Br cL_isTold 62 (.ifCond .eq) 65 72 := ⟨(10), by decide +kernel, rfl, by decide⟩
theorem dL_isTold_65 : At cL_isTold 65 (.iload 5) 2 67 := ⟨by decide +kernel, rfl⟩
theorem dL_isTold_67 : At cL_isTold 67 (.iconst 1) 1 68 := ⟨by decide +kernel, rfl⟩
theorem dL_isTold_68 : At cL_isTold 68 (.isub) 1 69 := ⟨by decide +kernel, rfl⟩
theorem dL_isTold_69 : Br cL_isTold 69 .goto 72 74 := ⟨(5), by decide +kernel, rfl, by decide⟩
theorem dL_isTold_72 : At cL_isTold 72 (.iload 4) 2 74 := ⟨by decide +kernel, rfl⟩
theorem dL_isTold_74 : At cL_isTold 74 (.istore 4) 2 76 := ⟨by decide +kernel, rfl⟩
theorem dL_isTold_76 : At cL_isTold 76 (.iinc 5 (-1)) 3 79 := ⟨by decide +kernel, rfl⟩
theorem dL_isTold_79 : Br cL_isTold 79 .goto 82 22 := ⟨(-57), by decide +kernel, rfl, by decide⟩
theorem dL_isTold_82 : At cL_isTold 82 (.iconst 0) 1 83 := ⟨by decide +kernel, rfl⟩
theorem dL_isTold_83 : At cL_isTold 83 (.istore 5) 2 85 := ⟨by decide +kernel, rfl⟩
theorem dL_isTold_85 : At cL_isTold 85 (.iload 5) 2 87 := ⟨by decide +kernel, rfl⟩
theorem dL_isTold_87 : At cL_isTold 87 (.bipush 6) 2 89 := ⟨by decide +kernel, rfl⟩
theorem dL_isTold_89 : Br cL_isTold 89 (.if_icmp .ge) 92 169 := ⟨(80), by decide +kernel, rfl, by decide⟩
theorem dL_isTold_92 : At cL_isTold 92 (.sipush 1000) 3 95 := ⟨by decide +kernel, rfl⟩
theorem dL_isTold_95 : At cL_isTold 95 (.istore 6) 2 97 := ⟨by decide +kernel, rfl⟩
theorem dL_isTold_97 : At cL_isTold 97 (.iconst 1) 1 98 := ⟨by decide +kernel, rfl⟩
theorem dL_isTold_98 : At cL_isTold 98 (.istore 7) 2 100 := ⟨by decide +kernel, rfl⟩
theorem dL_isTold_100 : At cL_isTold 100 (.iload 7) 2 102 := ⟨by decide +kernel, rfl⟩
theorem dL_isTold_102 : At cL_isTold 102 (.aload_n 2) 1 103 := ⟨by decide +kernel, rfl⟩
theorem dL_isTold_103 : At cL_isTold 103 (.iconst 0) 1 104 := ⟨by decide +kernel, rfl⟩
theorem dL_isTold_104 : At cL_isTold 104 (.iaload) 1 105 := ⟨by decide +kernel, rfl⟩
theorem dL_isTold_105 : Br cL_isTold 105 (.if_icmp .gt) 108 149 := ⟨(44), by decide +kernel, rfl, by decide⟩
theorem dL_isTold_108 : At cL_isTold 108 (.iload 6) 2 110 := ⟨by decide +kernel, rfl⟩
theorem dL_isTold_110 : At cL_isTold 110 (.aload_n 2) 1 111 := ⟨by decide +kernel, rfl⟩
theorem dL_isTold_111 : At cL_isTold 111 (.iload 7) 2 113 := ⟨by decide +kernel, rfl⟩
theorem dL_isTold_113 : At cL_isTold 113 (.iaload) 1 114 := ⟨by decide +kernel, rfl⟩
theorem dL_isTold_114 : At cL_isTold 114 (.iload 5) 2 116 := ⟨by decide +kernel, rfl⟩
theorem dL_isTold_116 : Br cL_isTold 116 (.if_icmp .ne) 119 123 := ⟨(7), by decide +kernel, rfl, by decide⟩
theorem dL_isTold_119 : At cL_isTold 119 (.iconst 1) 1 120 := ⟨by decide +kernel, rfl⟩
theorem dL_isTold_120 : Br cL_isTold 120 .goto 123 140 := ⟨(20), by decide +kernel, rfl, by decide⟩
theorem dL_isTold_123 : At cL_isTold 123 (.aload_n 2) 1 124 := ⟨by decide +kernel, rfl⟩
theorem dL_isTold_124 : At cL_isTold 124 (.iload 7) 2 126 := ⟨by decide +kernel, rfl⟩
theorem dL_isTold_126 : At cL_isTold 126 (.iaload) 1 127 := ⟨by decide +kernel, rfl⟩
theorem dL_isTold_127 : At cL_isTold 127 (.iload 5) 2 129 := ⟨by decide +kernel, rfl⟩
theorem dL_isTold_129 : At cL_isTold 129 (.bipush 6) 2 131 := ⟨by decide +kernel, rfl⟩
theorem dL_isTold_131 : At cL_isTold 131 (.iadd) 1 132 := ⟨by decide +kernel, rfl⟩
theorem dL_isTold_132 : Br cL_isTold 132 (.if_icmp .ne) 135 139 := ⟨(7), by decide +kernel, rfl, by decide⟩
theorem dL_isTold_135 : At cL_isTold 135 (.iconst (-1)) 1 136 := ⟨by decide +kernel, rfl⟩
theorem dL_isTold_136 : Br cL_isTold 136 .goto 139 140 := ⟨(4), by decide +kernel, rfl, by decide⟩
theorem dL_isTold_139 : At cL_isTold 139 (.iconst 0) 1 140 := ⟨by decide +kernel, rfl⟩
theorem dL_isTold_140 : At cL_isTold 140 (.iadd) 1 141 := ⟨by decide +kernel, rfl⟩
theorem dL_isTold_141 : At cL_isTold 141 (.istore 6) 2 143 := ⟨by decide +kernel, rfl⟩
theorem dL_isTold_143 : At cL_isTold 143 (.iinc 7 1) 3 146 := ⟨by decide +kernel, rfl⟩
theorem dL_isTold_146 : Br cL_isTold 146 .goto 149 100 := ⟨(-46), by decide +kernel, rfl, by decide⟩
theorem dL_isTold_149 : At cL_isTold 149 (.aload_n 0) 1 150 := ⟨by decide +kernel, rfl⟩
theorem dL_isTold_150 : At cL_isTold 150 (.iload_n 1) 1 151 := ⟨by decide +kernel, rfl⟩
theorem dL_isTold_151 : At cL_isTold 151 (.iload 5) 2 153 := ⟨by decide +kernel, rfl⟩
theorem dL_isTold_153 : At cL_isTold 153 (.invokevirtual 38) 3 156 := ⟨by decide +kernel, rfl⟩
theorem dL_isTold_156 : At cL_isTold 156 (.iload 6) 2 158 := ⟨by decide +kernel, rfl⟩
theorem dL_isTold_158 : Br cL_isTold 158 (.if_icmp .eq) 161 163 := ⟨(5), by decide +kernel, rfl, by decide⟩
theorem dL_isTold_161 : At cL_isTold 161 (.iconst 0) 1 162 := ⟨by decide +kernel, rfl⟩
theorem dL_isTold_162 : At cL_isTold 162 (.ireturn) 1 163 := ⟨by decide +kernel, rfl⟩
theorem dL_isTold_163 : At cL_isTold 163 (.iinc 5 1) 3 166 := ⟨by decide +kernel, rfl⟩
theorem dL_isTold_166 : Br cL_isTold 166 .goto 169 85 := ⟨(-81), by decide +kernel, rfl, by decide⟩
theorem dL_isTold_169 : At cL_isTold 169 (.aload_n 0) 1 170 := ⟨by decide +kernel, rfl⟩
theorem dL_isTold_170 : At cL_isTold 170 (.iload_n 1) 1 171 := ⟨by decide +kernel, rfl⟩
theorem dL_isTold_171 : At cL_isTold 171 (.iconst 1) 1 172 := ⟨by decide +kernel, rfl⟩
theorem dL_isTold_172 : At cL_isTold 172 (.invokevirtual 8) 3 175 := ⟨by decide +kernel, rfl⟩
theorem dL_isTold_175 : At cL_isTold 175 (.iload_n 3) 1 176 := ⟨by decide +kernel, rfl⟩
theorem dL_isTold_176 : Br cL_isTold 176 (.if_icmp .ne) 179 191 := ⟨(15), by decide +kernel, rfl, by decide⟩
theorem dL_isTold_179 : At cL_isTold 179 (.aload_n 0) 1 180 := ⟨by decide +kernel, rfl⟩
theorem dL_isTold_180 : At cL_isTold 180 (.iload_n 1) 1 181 := ⟨by decide +kernel, rfl⟩
theorem dL_isTold_181 : At cL_isTold 181 (.bipush 7) 2 183 := ⟨by decide +kernel, rfl⟩
theorem dL_isTold_183 : At cL_isTold 183 (.invokevirtual 8) 3 186 := ⟨by decide +kernel, rfl⟩
theorem dL_isTold_186 : At cL_isTold 186 (.iload 4) 2 188 := ⟨by decide +kernel, rfl⟩
theorem dL_isTold_188 : Br cL_isTold 188 (.if_icmp .eq) 191 193 := ⟨(5), by decide +kernel, rfl, by decide⟩
theorem dL_isTold_191 : At cL_isTold 191 (.iconst 0) 1 192 := ⟨by decide +kernel, rfl⟩
theorem dL_isTold_192 : At cL_isTold 192 (.ireturn) 1 193 := ⟨by decide +kernel, rfl⟩
theorem dL_isTold_193 : At cL_isTold 193 (.aload_n 2) 1 194 := ⟨by decide +kernel, rfl⟩
theorem dL_isTold_194 : At cL_isTold 194 (.invokestatic 41) 3 197 := ⟨by decide +kernel, rfl⟩
theorem dL_isTold_197 : At cL_isTold 197 (.iconst 0) 1 198 := ⟨by decide +kernel, rfl⟩
theorem dL_isTold_198 : At cL_isTold 198 (.istore 5) 2 200 := ⟨by decide +kernel, rfl⟩
theorem dL_isTold_200 : At cL_isTold 200 (.iconst 1) 1 201 := ⟨by decide +kernel, rfl⟩
theorem dL_isTold_201 : At cL_isTold 201 (.istore 6) 2 203 := ⟨by decide +kernel, rfl⟩
theorem dL_isTold_203 : At cL_isTold 203 (.iload 6) 2 205 := ⟨by decide +kernel, rfl⟩
theorem dL_isTold_205 : At cL_isTold 205 (.aload_n 2) 1 206 := ⟨by decide +kernel, rfl⟩
theorem dL_isTold_206 : At cL_isTold 206 (.iconst 0) 1 207 := ⟨by decide +kernel, rfl⟩
theorem dL_isTold_207 : At cL_isTold 207 (.iaload) 1 208 := ⟨by decide +kernel, rfl⟩
theorem dL_isTold_208 : Br cL_isTold 208 (.if_icmp .gt) 211 233 := ⟨(25), by decide +kernel, rfl, by decide⟩
theorem dL_isTold_211 : At cL_isTold 211 (.iload 5) 2 213 := ⟨by decide +kernel, rfl⟩
theorem dL_isTold_213 : At cL_isTold 213 (.aload_n 0) 1 214 := ⟨by decide +kernel, rfl⟩
theorem dL_isTold_214 : At cL_isTold 214 (.aload_n 2) 1 215 := ⟨by decide +kernel, rfl⟩
theorem dL_isTold_215 : At cL_isTold 215 (.iload 6) 2 217 := ⟨by decide +kernel, rfl⟩
theorem dL_isTold_217 : At cL_isTold 217 (.iaload) 1 218 := ⟨by decide +kernel, rfl⟩
theorem dL_isTold_218 : At cL_isTold 218 (.bipush 6) 2 220 := ⟨by decide +kernel, rfl⟩
theorem dL_isTold_220 : At cL_isTold 220 (.irem) 1 221 := ⟨by decide +kernel, rfl⟩
theorem dL_isTold_221 : At cL_isTold 221 (.invokevirtual 35) 3 224 := ⟨by decide +kernel, rfl⟩
theorem dL_isTold_224 : At cL_isTold 224 (.iadd) 1 225 := ⟨by decide +kernel, rfl⟩
theorem dL_isTold_225 : At cL_isTold 225 (.istore 5) 2 227 := ⟨by decide +kernel, rfl⟩
theorem dL_isTold_227 : At cL_isTold 227 (.iinc 6 1) 3 230 := ⟨by decide +kernel, rfl⟩
theorem dL_isTold_230 : Br cL_isTold 230 .goto 233 203 := ⟨(-27), by decide +kernel, rfl, by decide⟩
theorem dL_isTold_233 : At cL_isTold 233 (.aload_n 0) 1 234 := ⟨by decide +kernel, rfl⟩
theorem dL_isTold_234 : At cL_isTold 234 (.iload_n 1) 1 235 := ⟨by decide +kernel, rfl⟩
theorem dL_isTold_235 : At cL_isTold 235 (.iconst 2) 1 236 := ⟨by decide +kernel, rfl⟩
theorem dL_isTold_236 : At cL_isTold 236 (.invokevirtual 8) 3 239 := ⟨by decide +kernel, rfl⟩
theorem dL_isTold_239 : At cL_isTold 239 (.aload_n 2) 1 240 := ⟨by decide +kernel, rfl⟩
theorem dL_isTold_240 : At cL_isTold 240 (.iconst 0) 1 241 := ⟨by decide +kernel, rfl⟩
theorem dL_isTold_241 : At cL_isTold 241 (.iaload) 1 242 := ⟨by decide +kernel, rfl⟩
theorem dL_isTold_242 : Br cL_isTold 242 (.if_icmp .ne) 245 297 := ⟨(55), by decide +kernel, rfl, by decide⟩
theorem dL_isTold_245 : At cL_isTold 245 (.aload_n 0) 1 246 := ⟨by decide +kernel, rfl⟩
theorem dL_isTold_246 : At cL_isTold 246 (.iload_n 1) 1 247 := ⟨by decide +kernel, rfl⟩
theorem dL_isTold_247 : At cL_isTold 247 (.iconst 3) 1 248 := ⟨by decide +kernel, rfl⟩
theorem dL_isTold_248 : At cL_isTold 248 (.invokevirtual 8) 3 251 := ⟨by decide +kernel, rfl⟩
theorem dL_isTold_251 : At cL_isTold 251 (.iload 5) 2 253 := ⟨by decide +kernel, rfl⟩
theorem dL_isTold_253 : Br cL_isTold 253 (.if_icmp .ne) 256 297 := ⟨(44), by decide +kernel, rfl, by decide⟩
theorem dL_isTold_256 : At cL_isTold 256 (.aload_n 0) 1 257 := ⟨by decide +kernel, rfl⟩
theorem dL_isTold_257 : At cL_isTold 257 (.iload_n 1) 1 258 := ⟨by decide +kernel, rfl⟩
theorem dL_isTold_258 : At cL_isTold 258 (.bipush 8) 2 260 := ⟨by decide +kernel, rfl⟩
theorem dL_isTold_260 : At cL_isTold 260 (.invokevirtual 8) 3 263 := ⟨by decide +kernel, rfl⟩
theorem dL_isTold_263 : At cL_isTold 263 (.aload_n 2) 1 264 := ⟨by decide +kernel, rfl⟩
theorem dL_isTold_264 : At cL_isTold 264 (.iconst 0) 1 265 := ⟨by decide +kernel, rfl⟩
theorem dL_isTold_265 : At cL_isTold 265 (.iaload) 1 266 := ⟨by decide +kernel, rfl⟩
theorem dL_isTold_266 : Br cL_isTold 266 (.ifCond .ne) 269 273 := ⟨(7), by decide +kernel, rfl, by decide⟩
theorem dL_isTold_269 : At cL_isTold 269 (.iconst 1) 1 270 := ⟨by decide +kernel, rfl⟩
theorem dL_isTold_270 : Br cL_isTold 270 .goto 273 274 := ⟨(4), by decide +kernel, rfl, by decide⟩
theorem dL_isTold_273 : At cL_isTold 273 (.iconst 0) 1 274 := ⟨by decide +kernel, rfl⟩
theorem dL_isTold_274 : Br cL_isTold 274 (.if_icmp .ne) 277 297 := ⟨(23), by decide +kernel, rfl, by decide⟩
theorem dL_isTold_277 : At cL_isTold 277 (.aload_n 0) 1 278 := ⟨by decide +kernel, rfl⟩
theorem dL_isTold_278 : At cL_isTold 278 (.iload_n 1) 1 279 := ⟨by decide +kernel, rfl⟩
theorem dL_isTold_279 : At cL_isTold 279 (.iconst 0) 1 280 := ⟨by decide +kernel, rfl⟩
theorem dL_isTold_280 : At cL_isTold 280 (.invokevirtual 45) 3 283 := ⟨by decide +kernel, rfl⟩
theorem dL_isTold_283 : At cL_isTold 283 (.aload_n 2) 1 284 := ⟨by decide +kernel, rfl⟩
theorem dL_isTold_284 : At cL_isTold 284 (.iconst 0) 1 285 := ⟨by decide +kernel, rfl⟩
theorem dL_isTold_285 : At cL_isTold 285 (.iaload) 1 286 := ⟨by decide +kernel, rfl⟩
theorem dL_isTold_286 : Br cL_isTold 286 (.ifCond .ne) 289 293 := ⟨(7), by decide +kernel, rfl, by decide⟩
theorem dL_isTold_289 : At cL_isTold 289 (.iconst 1) 1 290 := ⟨by decide +kernel, rfl⟩
theorem dL_isTold_290 : Br cL_isTold 290 .goto 293 294 := ⟨(4), by decide +kernel, rfl, by decide⟩
theorem dL_isTold_293 : At cL_isTold 293 (.iconst 0) 1 294 := ⟨by decide +kernel, rfl⟩
theorem dL_isTold_294 : Br cL_isTold 294 (.if_icmp .eq) 297 299 := ⟨(5), by decide +kernel, rfl, by decide⟩
theorem dL_isTold_297 : At cL_isTold 297 (.iconst 0) 1 298 := ⟨by decide +kernel, rfl⟩
theorem dL_isTold_298 : At cL_isTold 298 (.ireturn) 1 299 := ⟨by decide +kernel, rfl⟩
theorem dL_isTold_299 : At cL_isTold 299 (.iconst 1) 1 300 := ⟨by decide +kernel, rfl⟩
theorem dL_isTold_300 : At cL_isTold 300 (.istore 6) 2 302 := ⟨by decide +kernel, rfl⟩
theorem dL_isTold_302 : At cL_isTold 302 (.aload_n 2) 1 303 := ⟨by decide +kernel, rfl⟩
theorem dL_isTold_303 : At cL_isTold 303 (.iconst 0) 1 304 := ⟨by decide +kernel, rfl⟩
theorem dL_isTold_304 : At cL_isTold 304 (.iaload) 1 305 := ⟨by decide +kernel, rfl⟩
theorem dL_isTold_305 : At cL_isTold 305 (.istore 7) 2 307 := ⟨by decide +kernel, rfl⟩
theorem dL_isTold_307 : At cL_isTold 307 (.iload 6) 2 309 := ⟨by decide +kernel, rfl⟩
theorem dL_isTold_309 : At cL_isTold 309 (.iload 7) 2 311 := ⟨by decide +kernel, rfl⟩
theorem dL_isTold_311 : Br cL_isTold 311 (.if_icmp .ge) 314 337 := ⟨(26), by decide +kernel, rfl, by decide⟩
theorem dL_isTold_314 : At cL_isTold 314 (.aload_n 2) 1 315 := ⟨by decide +kernel, rfl⟩
theorem dL_isTold_315 : At cL_isTold 315 (.iload 6) 2 317 := ⟨by decide +kernel, rfl⟩
theorem dL_isTold_317 : At cL_isTold 317 (.iaload) 1 318 := ⟨by decide +kernel, rfl⟩
theorem dL_isTold_318 : At cL_isTold 318 (.aload_n 2) 1 319 := ⟨by decide +kernel, rfl⟩
theorem dL_isTold_319 : At cL_isTold 319 (.iload 7) 2 321 := ⟨by decide +kernel, rfl⟩
theorem dL_isTold_321 : At cL_isTold 321 (.iaload) 1 322 := ⟨by decide +kernel, rfl⟩
theorem dL_isTold_322 : At cL_isTold 322 (.invokestatic 23) 3 325 := ⟨by decide +kernel, rfl⟩
theorem dL_isTold_325 : Br cL_isTold 325 (.ifCond .eq) 328 337 := ⟨(12), by decide +kernel, rfl, by decide⟩
theorem dL_isTold_328 : At cL_isTold 328 (.iinc 6 1) 3 331 := ⟨by decide +kernel, rfl⟩
theorem dL_isTold_331 : At cL_isTold 331 (.iinc 7 (-1)) 3 334 := ⟨by decide +kernel, rfl⟩
theorem dL_isTold_334 : Br cL_isTold 334 .goto 337 307 := ⟨(-27), by decide +kernel, rfl, by decide⟩
theorem dL_isTold_337 : At cL_isTold 337 (.aload_n 0) 1 338 := ⟨by decide +kernel, rfl⟩
theorem dL_isTold_338 : At cL_isTold 338 (.iload_n 1) 1 339 := ⟨by decide +kernel, rfl⟩
theorem dL_isTold_339 : At cL_isTold 339 (.aload_n 2) 1 340 := ⟨by decide +kernel, rfl⟩
theorem dL_isTold_340 : At cL_isTold 340 (.iload 6) 2 342 := ⟨by decide +kernel, rfl⟩
theorem dL_isTold_342 : At cL_isTold 342 (.iload 7) 2 344 := ⟨by decide +kernel, rfl⟩
theorem dL_isTold_344 : At cL_isTold 344 (.iload 6) 2 346 := ⟨by decide +kernel, rfl⟩
theorem dL_isTold_346 : At cL_isTold 346 (.isub) 1 347 := ⟨by decide +kernel, rfl⟩
theorem dL_isTold_347 : At cL_isTold 347 (.iconst 1) 1 348 := ⟨by decide +kernel, rfl⟩
theorem dL_isTold_348 : At cL_isTold 348 (.iadd) 1 349 := ⟨by decide +kernel, rfl⟩
theorem dL_isTold_349 : At cL_isTold 349 (.invokestatic 48) 3 352 := ⟨by decide +kernel, rfl⟩
theorem dL_isTold_352 : At cL_isTold 352 (.ireturn) 1 353 := ⟨by decide +kernel, rfl⟩
theorem dL_isLeast_0 : At cL_isLeast 0 (.aload_n 0) 1 1 := ⟨by decide +kernel, rfl⟩
theorem dL_isLeast_1 : At cL_isLeast 1 (.iload_n 1) 1 2 := ⟨by decide +kernel, rfl⟩
theorem dL_isLeast_2 : At cL_isLeast 2 (.iconst 4) 1 3 := ⟨by decide +kernel, rfl⟩
theorem dL_isLeast_3 : At cL_isLeast 3 (.invokevirtual 8) 3 6 := ⟨by decide +kernel, rfl⟩
theorem dL_isLeast_6 : At cL_isLeast 6 (.iload 4) 2 8 := ⟨by decide +kernel, rfl⟩
theorem dL_isLeast_8 : Br cL_isLeast 8 (.if_icmp .ne) 11 32 := ⟨(24), by decide +kernel, rfl, by decide⟩
theorem dL_isLeast_11 : At cL_isLeast 11 (.aload_n 0) 1 12 := ⟨by decide +kernel, rfl⟩
theorem dL_isLeast_12 : At cL_isLeast 12 (.iload_n 1) 1 13 := ⟨by decide +kernel, rfl⟩
theorem dL_isLeast_13 : At cL_isLeast 13 (.iload 4) 2 15 := ⟨by decide +kernel, rfl⟩
theorem dL_isLeast_15 : At cL_isLeast 15 (.invokevirtual 52) 3 18 := ⟨by decide +kernel, rfl⟩
theorem dL_isLeast_18 : At cL_isLeast 18 (.iconst (-1)) 1 19 := ⟨by decide +kernel, rfl⟩
theorem dL_isLeast_19 : Br cL_isLeast 19 (.if_icmp .ne) 22 32 := ⟨(13), by decide +kernel, rfl, by decide⟩
theorem dL_isLeast_22 : At cL_isLeast 22 (.aload_n 0) 1 23 := ⟨by decide +kernel, rfl⟩
theorem dL_isLeast_23 : At cL_isLeast 23 (.iload_n 1) 1 24 := ⟨by decide +kernel, rfl⟩
theorem dL_isLeast_24 : At cL_isLeast 24 (.iconst (-1)) 1 25 := ⟨by decide +kernel, rfl⟩
theorem dL_isLeast_25 : At cL_isLeast 25 (.invokevirtual 52) 3 28 := ⟨by decide +kernel, rfl⟩
theorem dL_isLeast_28 : At cL_isLeast 28 (.iconst (-1)) 1 29 := ⟨by decide +kernel, rfl⟩
theorem dL_isLeast_29 : Br cL_isLeast 29 (.if_icmp .eq) 32 34 := ⟨(5), by decide +kernel, rfl, by decide⟩
theorem dL_isLeast_32 : At cL_isLeast 32 (.iconst 0) 1 33 := ⟨by decide +kernel, rfl⟩
theorem dL_isLeast_33 : At cL_isLeast 33 (.ireturn) 1 34 := ⟨by decide +kernel, rfl⟩
theorem dL_isLeast_34 : At cL_isLeast 34 (.bipush 64) 2 36 := ⟨by decide +kernel, rfl⟩
theorem dL_isLeast_36 : At cL_isLeast 36 (.newarray .int) 2 38 := ⟨by decide +kernel, rfl⟩
theorem dL_isLeast_38 : At cL_isLeast 38 (.astore 5) 2 40 := ⟨by decide +kernel, rfl⟩
theorem dL_isLeast_40 : At cL_isLeast 40 (.iconst 0) 1 41 := ⟨by decide +kernel, rfl⟩
theorem dL_isLeast_41 : At cL_isLeast 41 (.istore 6) 2 43 := ⟨by decide +kernel, rfl⟩
theorem dL_isLeast_43 : At cL_isLeast 43 (.iload 6) 2 45 := ⟨by decide +kernel, rfl⟩
theorem dL_isLeast_45 : At cL_isLeast 45 (.iload 4) 2 47 := ⟨by decide +kernel, rfl⟩
theorem dL_isLeast_47 : Br cL_isLeast 47 (.if_icmp .ge) 50 68 := ⟨(21), by decide +kernel, rfl, by decide⟩
theorem dL_isLeast_50 : At cL_isLeast 50 (.aload 5) 2 52 := ⟨by decide +kernel, rfl⟩
theorem dL_isLeast_52 : At cL_isLeast 52 (.iload 6) 2 54 := ⟨by decide +kernel, rfl⟩
theorem dL_isLeast_54 : At cL_isLeast 54 (.aload_n 0) 1 55 := ⟨by decide +kernel, rfl⟩
theorem dL_isLeast_55 : At cL_isLeast 55 (.iload_n 1) 1 56 := ⟨by decide +kernel, rfl⟩
theorem dL_isLeast_56 : At cL_isLeast 56 (.iload 6) 2 58 := ⟨by decide +kernel, rfl⟩
theorem dL_isLeast_58 : At cL_isLeast 58 (.invokevirtual 52) 3 61 := ⟨by decide +kernel, rfl⟩
theorem dL_isLeast_61 : At cL_isLeast 61 (.iastore) 1 62 := ⟨by decide +kernel, rfl⟩
theorem dL_isLeast_62 : At cL_isLeast 62 (.iinc 6 1) 3 65 := ⟨by decide +kernel, rfl⟩
theorem dL_isLeast_65 : Br cL_isLeast 65 .goto 68 43 := ⟨(-22), by decide +kernel, rfl, by decide⟩
theorem dL_isLeast_68 : At cL_isLeast 68 (.iload 4) 2 70 := ⟨by decide +kernel, rfl⟩
theorem dL_isLeast_70 : Br cL_isLeast 70 (.ifCond .ne) 73 77 := ⟨(7), by decide +kernel, rfl, by decide⟩
theorem dL_isLeast_73 : At cL_isLeast 73 (.iconst 1) 1 74 := ⟨by decide +kernel, rfl⟩
theorem dL_isLeast_74 : Br cL_isLeast 74 .goto 77 78 := ⟨(4), by decide +kernel, rfl, by decide⟩
theorem dL_isLeast_77 : At cL_isLeast 77 (.iconst 0) 1 78 := ⟨by decide +kernel, rfl⟩
theorem dL_isLeast_78 : At cL_isLeast 78 (.istore 6) 2 80 := ⟨by decide +kernel, rfl⟩
theorem dL_isLeast_80 : At cL_isLeast 80 (.iconst 0) 1 81 := ⟨by decide +kernel, rfl⟩
theorem dL_isLeast_81 : At cL_isLeast 81 (.istore 7) 2 83 := ⟨by decide +kernel, rfl⟩
theorem dL_isLeast_83 : At cL_isLeast 83 (.iload 4) 2 85 := ⟨by decide +kernel, rfl⟩
theorem dL_isLeast_85 : Br cL_isLeast 85 (.ifCond .ne) 88 92 := ⟨(7), by decide +kernel, rfl, by decide⟩
theorem dL_isLeast_88 : At cL_isLeast 88 (.iconst 0) 1 89 := ⟨by decide +kernel, rfl⟩
theorem dL_isLeast_89 : Br cL_isLeast 89 .goto 92 93 := ⟨(4), by decide +kernel, rfl, by decide⟩
theorem dL_isLeast_92 : At cL_isLeast 92 (.iconst 1) 1 93 := ⟨by decide +kernel, rfl⟩
theorem dL_isLeast_93 : At cL_isLeast 93 (.istore 8) 2 95 := ⟨by decide +kernel, rfl⟩
theorem dL_isLeast_95 : At cL_isLeast 95 (.iconst 0) 1 96 := ⟨by decide +kernel, rfl⟩
theorem dL_isLeast_96 : At cL_isLeast 96 (.istore 9) 2 98 := ⟨by decide +kernel, rfl⟩
theorem dL_isLeast_98 : At cL_isLeast 98 (.iload 9) 2 100 := ⟨by decide +kernel, rfl⟩
theorem dL_isLeast_100 : At cL_isLeast 100 (.iload 4) 2 102 := ⟨by decide +kernel, rfl⟩
theorem dL_isLeast_102 : Br cL_isLeast 102 (.if_icmp .ge) 105 287 := ⟨(185), by decide +kernel, rfl, by decide⟩
theorem dL_isLeast_105 : At cL_isLeast 105 (.iconst 0) 1 106 := ⟨by decide +kernel, rfl⟩
theorem dL_isLeast_106 : At cL_isLeast 106 (.istore 10) 2 108 := ⟨by decide +kernel, rfl⟩
theorem dL_isLeast_108 : At cL_isLeast 108 (.iload 7) 2 110 := ⟨by decide +kernel, rfl⟩
theorem dL_isLeast_110 : At cL_isLeast 110 (.iconst 1) 1 111 := ⟨by decide +kernel, rfl⟩
theorem dL_isLeast_111 : At cL_isLeast 111 (.aload_n 2) 1 112 := ⟨by decide +kernel, rfl⟩
theorem dL_isLeast_112 : At cL_isLeast 112 (.iload_n 3) 1 113 := ⟨by decide +kernel, rfl⟩
theorem dL_isLeast_113 : At cL_isLeast 113 (.iload 9) 2 115 := ⟨by decide +kernel, rfl⟩
theorem dL_isLeast_115 : At cL_isLeast 115 (.iadd) 1 116 := ⟨by decide +kernel, rfl⟩
theorem dL_isLeast_116 : At cL_isLeast 116 (.iaload) 1 117 := ⟨by decide +kernel, rfl⟩
theorem dL_isLeast_117 : At cL_isLeast 117 (.bipush 6) 2 119 := ⟨by decide +kernel, rfl⟩
theorem dL_isLeast_119 : At cL_isLeast 119 (.irem) 1 120 := ⟨by decide +kernel, rfl⟩
theorem dL_isLeast_120 : At cL_isLeast 120 (.ishl) 1 121 := ⟨by decide +kernel, rfl⟩
theorem dL_isLeast_121 : At cL_isLeast 121 (.ior) 1 122 := ⟨by decide +kernel, rfl⟩
theorem dL_isLeast_122 : At cL_isLeast 122 (.istore 7) 2 124 := ⟨by decide +kernel, rfl⟩
theorem dL_isLeast_124 : At cL_isLeast 124 (.iload 10) 2 126 := ⟨by decide +kernel, rfl⟩
theorem dL_isLeast_126 : At cL_isLeast 126 (.iload 4) 2 128 := ⟨by decide +kernel, rfl⟩
theorem dL_isLeast_128 : Br cL_isLeast 128 (.if_icmp .ge) 131 157 := ⟨(29), by decide +kernel, rfl, by decide⟩
theorem dL_isLeast_131 : At cL_isLeast 131 (.aload_n 2) 1 132 := ⟨by decide +kernel, rfl⟩
theorem dL_isLeast_132 : At cL_isLeast 132 (.iload_n 3) 1 133 := ⟨by decide +kernel, rfl⟩
theorem dL_isLeast_133 : At cL_isLeast 133 (.iload 9) 2 135 := ⟨by decide +kernel, rfl⟩
theorem dL_isLeast_135 : At cL_isLeast 135 (.iload 10) 2 137 := ⟨by decide +kernel, rfl⟩
theorem dL_isLeast_137 : At cL_isLeast 137 (.iadd) 1 138 := ⟨by decide +kernel, rfl⟩
theorem dL_isLeast_138 : At cL_isLeast 138 (.iload 4) 2 140 := ⟨by decide +kernel, rfl⟩
theorem dL_isLeast_140 : At cL_isLeast 140 (.irem) 1 141 := ⟨by decide +kernel, rfl⟩
theorem dL_isLeast_141 : At cL_isLeast 141 (.iadd) 1 142 := ⟨by decide +kernel, rfl⟩
theorem dL_isLeast_142 : At cL_isLeast 142 (.iaload) 1 143 := ⟨by decide +kernel, rfl⟩
theorem dL_isLeast_143 : At cL_isLeast 143 (.aload 5) 2 145 := ⟨by decide +kernel, rfl⟩
theorem dL_isLeast_145 : At cL_isLeast 145 (.iload 10) 2 147 := ⟨by decide +kernel, rfl⟩
theorem dL_isLeast_147 : At cL_isLeast 147 (.iaload) 1 148 := ⟨by decide +kernel, rfl⟩
theorem dL_isLeast_148 : Br cL_isLeast 148 (.if_icmp .ne) 151 157 := ⟨(9), by decide +kernel, rfl, by decide⟩
theorem dL_isLeast_151 : At cL_isLeast 151 (.iinc 10 1) 3 154 := ⟨by decide +kernel, rfl⟩
theorem dL_isLeast_154 : Br cL_isLeast 154 .goto 157 124 := ⟨(-30), by decide +kernel, rfl, by decide⟩
theorem dL_isLeast_157 : At cL_isLeast 157 (.iload 6) 2 159 := ⟨by decide +kernel, rfl⟩
theorem dL_isLeast_159 : Br cL_isLeast 159 (.ifCond .ne) 162 169 := ⟨(10), by decide +kernel, rfl, by decide⟩
theorem dL_isLeast_162 : At cL_isLeast 162 (.iload 10) 2 164 := ⟨by decide +kernel, rfl⟩
theorem dL_isLeast_164 : At cL_isLeast 164 (.iload 4) 2 166 := ⟨by decide +kernel, rfl⟩
theorem dL_isLeast_166 : Br cL_isLeast 166 (.if_icmp .ne) 169 173 := ⟨(7), by decide +kernel, rfl, by decide⟩
theorem dL_isLeast_169 : At cL_isLeast 169 (.iconst 1) 1 170 := ⟨by decide +kernel, rfl⟩
theorem dL_isLeast_170 : Br cL_isLeast 170 .goto 173 174 := ⟨(4), by decide +kernel, rfl, by decide⟩
theorem dL_isLeast_173 : At cL_isLeast 173 (.iconst 0) 1 174 := ⟨by decide +kernel, rfl⟩
theorem dL_isLeast_174 : At cL_isLeast 174 (.istore 6) 2 176 := ⟨by decide +kernel, rfl⟩
theorem dL_isLeast_176 : At cL_isLeast 176 (.iload 10) 2 178 := ⟨by decide +kernel, rfl⟩
theorem dL_isLeast_178 : At cL_isLeast 178 (.iload 4) 2 180 := ⟨by decide +kernel, rfl⟩
theorem dL_isLeast_180 : Br cL_isLeast 180 (.if_icmp .ge) 183 205 := ⟨(25), by decide +kernel, rfl, by decide⟩
theorem dL_isLeast_183 : At cL_isLeast 183 (.aload_n 2) 1 184 := ⟨by decide +kernel, rfl⟩
theorem dL_isLeast_184 : At cL_isLeast 184 (.iload_n 3) 1 185 := ⟨by decide +kernel, rfl⟩
theorem dL_isLeast_185 : At cL_isLeast 185 (.iload 9) 2 187 := ⟨by decide +kernel, rfl⟩
theorem dL_isLeast_187 : At cL_isLeast 187 (.iload 10) 2 189 := ⟨by decide +kernel, rfl⟩
theorem dL_isLeast_189 : At cL_isLeast 189 (.iadd) 1 190 := ⟨by decide +kernel, rfl⟩
theorem dL_isLeast_190 : At cL_isLeast 190 (.iload 4) 2 192 := ⟨by decide +kernel, rfl⟩
theorem dL_isLeast_192 : At cL_isLeast 192 (.irem) 1 193 := ⟨by decide +kernel, rfl⟩
theorem dL_isLeast_193 : At cL_isLeast 193 (.iadd) 1 194 := ⟨by decide +kernel, rfl⟩
theorem dL_isLeast_194 : At cL_isLeast 194 (.iaload) 1 195 := ⟨by decide +kernel, rfl⟩
theorem dL_isLeast_195 : At cL_isLeast 195 (.aload 5) 2 197 := ⟨by decide +kernel, rfl⟩
theorem dL_isLeast_197 : At cL_isLeast 197 (.iload 10) 2 199 := ⟨by decide +kernel, rfl⟩
theorem dL_isLeast_199 : At cL_isLeast 199 (.iaload) 1 200 := ⟨by decide +kernel, rfl⟩
theorem dL_isLeast_200 : Br cL_isLeast 200 (.if_icmp .ge) 203 205 := ⟨(5), by decide +kernel, rfl, by decide⟩
theorem dL_isLeast_203 : At cL_isLeast 203 (.iconst 0) 1 204 := ⟨by decide +kernel, rfl⟩
theorem dL_isLeast_204 : At cL_isLeast 204 (.ireturn) 1 205 := ⟨by decide +kernel, rfl⟩
theorem dL_isLeast_205 : At cL_isLeast 205 (.iload 9) 2 207 := ⟨by decide +kernel, rfl⟩
theorem dL_isLeast_207 : Br cL_isLeast 207 (.ifCond .le) 210 214 := ⟨(7), by decide +kernel, rfl, by decide⟩
theorem dL_isLeast_210 : At cL_isLeast 210 (.iconst 1) 1 211 := ⟨by decide +kernel, rfl⟩
theorem dL_isLeast_211 : Br cL_isLeast 211 .goto 214 215 := ⟨(4), by decide +kernel, rfl, by decide⟩
theorem dL_isLeast_214 : At cL_isLeast 214 (.iconst 0) 1 215 := ⟨by decide +kernel, rfl⟩
theorem dL_isLeast_215 : At cL_isLeast 215 (.istore 11) 2 217 := ⟨by decide +kernel, rfl⟩
theorem dL_isLeast_217 : At cL_isLeast 217 (.iconst 0) 1 218 := ⟨by decide +kernel, rfl⟩
theorem dL_isLeast_218 : At cL_isLeast 218 (.istore 12) 2 220 := ⟨by decide +kernel, rfl⟩
theorem dL_isLeast_220 : At cL_isLeast 220 (.iload 12) 2 222 := ⟨by decide +kernel, rfl⟩
theorem dL_isLeast_222 : At cL_isLeast 222 (.iload 4) 2 224 := ⟨by decide +kernel, rfl⟩
theorem dL_isLeast_224 : Br cL_isLeast 224 (.if_icmp .ge) 227 266 := ⟨(42), by decide +kernel, rfl, by decide⟩
theorem dL_isLeast_227 : At cL_isLeast 227 (.iload 11) 2 229 := ⟨by decide +kernel, rfl⟩
theorem dL_isLeast_229 : Br cL_isLeast 229 (.ifCond .eq) 232 266 := ⟨(37), by decide +kernel, rfl, by decide⟩
theorem dL_isLeast_232 : At cL_isLeast 232 (.aload_n 2) 1 233 := ⟨by decide +kernel, rfl⟩
theorem dL_isLeast_233 : At cL_isLeast 233 (.iload_n 3) 1 234 := ⟨by decide +kernel, rfl⟩
theorem dL_isLeast_234 : At cL_isLeast 234 (.iload 12) 2 236 := ⟨by decide +kernel, rfl⟩
theorem dL_isLeast_236 : At cL_isLeast 236 (.iadd) 1 237 := ⟨by decide +kernel, rfl⟩
theorem dL_isLeast_237 : At cL_isLeast 237 (.iaload) 1 238 := ⟨by decide +kernel, rfl⟩
theorem dL_isLeast_238 : At cL_isLeast 238 (.aload_n 2) 1 239 := ⟨by decide +kernel, rfl⟩
theorem dL_isLeast_239 : At cL_isLeast 239 (.iload_n 3) 1 240 := ⟨by decide +kernel, rfl⟩
theorem dL_isLeast_240 : At cL_isLeast 240 (.iload 9) 2 242 := ⟨by decide +kernel, rfl⟩
theorem dL_isLeast_242 : At cL_isLeast 242 (.iload 12) 2 244 := ⟨by decide +kernel, rfl⟩
theorem dL_isLeast_244 : At cL_isLeast 244 (.iadd) 1 245 := ⟨by decide +kernel, rfl⟩
theorem dL_isLeast_245 : At cL_isLeast 245 (.iload 4) 2 247 := ⟨by decide +kernel, rfl⟩
theorem dL_isLeast_247 : At cL_isLeast 247 (.irem) 1 248 := ⟨by decide +kernel, rfl⟩
theorem dL_isLeast_248 : At cL_isLeast 248 (.iadd) 1 249 := ⟨by decide +kernel, rfl⟩
theorem dL_isLeast_249 : At cL_isLeast 249 (.iaload) 1 250 := ⟨by decide +kernel, rfl⟩
theorem dL_isLeast_250 : Br cL_isLeast 250 (.if_icmp .ne) 253 257 := ⟨(7), by decide +kernel, rfl, by decide⟩
theorem dL_isLeast_253 : At cL_isLeast 253 (.iconst 1) 1 254 := ⟨by decide +kernel, rfl⟩
theorem dL_isLeast_254 : Br cL_isLeast 254 .goto 257 258 := ⟨(4), by decide +kernel, rfl, by decide⟩
theorem dL_isLeast_257 : At cL_isLeast 257 (.iconst 0) 1 258 := ⟨by decide +kernel, rfl⟩
theorem dL_isLeast_258 : At cL_isLeast 258 (.istore 11) 2 260 := ⟨by decide +kernel, rfl⟩
theorem dL_isLeast_260 : At cL_isLeast 260 (.iinc 12 1) 3 263 := ⟨by decide +kernel, rfl⟩
theorem dL_isLeast_263 : Br cL_isLeast 263 .goto 266 220 := ⟨(-43), by decide +kernel, rfl, by decide⟩
theorem dL_isLeast_266 : At cL_isLeast 266 (.iload 8) 2 268 := ⟨by decide +kernel, rfl⟩
theorem dL_isLeast_268 : At cL_isLeast 268 (.iload 11) 2 270 := ⟨by decide +kernel, rfl⟩
theorem dL_isLeast_270 : Br cL_isLeast 270 (.ifCond .eq) 273 277 := ⟨(7), by decide +kernel, rfl, by decide⟩
theorem dL_isLeast_273 : At cL_isLeast 273 (.iconst 1) 1 274 := ⟨by decide +kernel, rfl⟩
theorem dL_isLeast_274 : Br cL_isLeast 274 .goto 277 278 := ⟨(4), by decide +kernel, rfl, by decide⟩
theorem dL_isLeast_277 : At cL_isLeast 277 (.iconst 0) 1 278 := ⟨by decide +kernel, rfl⟩
theorem dL_isLeast_278 : At cL_isLeast 278 (.iadd) 1 279 := ⟨by decide +kernel, rfl⟩
theorem dL_isLeast_279 : At cL_isLeast 279 (.istore 8) 2 281 := ⟨by decide +kernel, rfl⟩
theorem dL_isLeast_281 : At cL_isLeast 281 (.iinc 9 1) 3 284 := ⟨by decide +kernel, rfl⟩
theorem dL_isLeast_284 : Br cL_isLeast 284 .goto 287 98 := ⟨(-186), by decide +kernel, rfl, by decide⟩
theorem dL_isLeast_287 : At cL_isLeast 287 (.iload 6) 2 289 := ⟨by decide +kernel, rfl⟩
theorem dL_isLeast_289 : Br cL_isLeast 289 (.ifCond .eq) 292 319 := ⟨(30), by decide +kernel, rfl, by decide⟩
theorem dL_isLeast_292 : At cL_isLeast 292 (.aload_n 0) 1 293 := ⟨by decide +kernel, rfl⟩
theorem dL_isLeast_293 : At cL_isLeast 293 (.iload_n 1) 1 294 := ⟨by decide +kernel, rfl⟩
theorem dL_isLeast_294 : At cL_isLeast 294 (.iconst 5) 1 295 := ⟨by decide +kernel, rfl⟩
theorem dL_isLeast_295 : At cL_isLeast 295 (.invokevirtual 8) 3 298 := ⟨by decide +kernel, rfl⟩
theorem dL_isLeast_298 : At cL_isLeast 298 (.iload 8) 2 300 := ⟨by decide +kernel, rfl⟩
theorem dL_isLeast_300 : Br cL_isLeast 300 (.if_icmp .ne) 303 319 := ⟨(19), by decide +kernel, rfl, by decide⟩
theorem dL_isLeast_303 : At cL_isLeast 303 (.aload_n 0) 1 304 := ⟨by decide +kernel, rfl⟩
theorem dL_isLeast_304 : At cL_isLeast 304 (.iload_n 1) 1 305 := ⟨by decide +kernel, rfl⟩
theorem dL_isLeast_305 : At cL_isLeast 305 (.bipush 6) 2 307 := ⟨by decide +kernel, rfl⟩
theorem dL_isLeast_307 : At cL_isLeast 307 (.invokevirtual 8) 3 310 := ⟨by decide +kernel, rfl⟩
theorem dL_isLeast_310 : At cL_isLeast 310 (.iload 7) 2 312 := ⟨by decide +kernel, rfl⟩
theorem dL_isLeast_312 : Br cL_isLeast 312 (.if_icmp .ne) 315 319 := ⟨(7), by decide +kernel, rfl, by decide⟩
theorem dL_isLeast_315 : At cL_isLeast 315 (.iconst 1) 1 316 := ⟨by decide +kernel, rfl⟩
theorem dL_isLeast_316 : Br cL_isLeast 316 .goto 319 320 := ⟨(4), by decide +kernel, rfl, by decide⟩
theorem dL_isLeast_319 : At cL_isLeast 319 (.iconst 0) 1 320 := ⟨by decide +kernel, rfl⟩
theorem dL_isLeast_320 : At cL_isLeast 320 (.ireturn) 1 321 := ⟨by decide +kernel, rfl⟩
theorem dL_agree_0 : At cL_agree 0 (.iconst 0) 1 1 := ⟨by decide +kernel, rfl⟩
theorem dL_agree_1 : At cL_agree 1 (.istore_n 1) 1 2 := ⟨by decide +kernel, rfl⟩
theorem dL_agree_2 : At cL_agree 2 (.iconst 0) 1 3 := ⟨by decide +kernel, rfl⟩
theorem dL_agree_3 : At cL_agree 3 (.istore_n 2) 1 4 := ⟨by decide +kernel, rfl⟩
theorem dL_agree_4 : At cL_agree 4 (.iload_n 2) 1 5 := ⟨by decide +kernel, rfl⟩
theorem dL_agree_5 : At cL_agree 5 (.iconst 4) 1 6 := ⟨by decide +kernel, rfl⟩
theorem dL_agree_6 : Br cL_agree 6 (.if_icmp .ge) 9 34 := ⟨(28), by decide +kernel, rfl, by decide⟩
theorem dL_agree_9 : At cL_agree 9 (.iload_n 1) 1 10 := ⟨by decide +kernel, rfl⟩
theorem dL_agree_10 : At cL_agree 10 (.aload_n 0) 1 11 := ⟨by decide +kernel, rfl⟩
theorem dL_agree_11 : At cL_agree 11 (.iload_n 2) 1 12 := ⟨by decide +kernel, rfl⟩
theorem dL_agree_12 : At cL_agree 12 (.iconst 0) 1 13 := ⟨by decide +kernel, rfl⟩
theorem dL_agree_13 : At cL_agree 13 (.invokevirtual 8) 3 16 := ⟨by decide +kernel, rfl⟩
theorem dL_agree_16 : At cL_agree 16 (.iadd) 1 17 := ⟨by decide +kernel, rfl⟩
theorem dL_agree_17 : At cL_agree 17 (.istore_n 1) 1 18 := ⟨by decide +kernel, rfl⟩
theorem dL_agree_18 : At cL_agree 18 (.aload_n 0) 1 19 := ⟨by decide +kernel, rfl⟩
theorem dL_agree_19 : At cL_agree 19 (.iload_n 2) 1 20 := ⟨by decide +kernel, rfl⟩
theorem dL_agree_20 : At cL_agree 20 (.invokestatic 55) 3 23 := ⟨by decide +kernel, rfl⟩
theorem dL_agree_23 : Br cL_agree 23 (.ifCond .ne) 26 28 := ⟨(5), by decide +kernel, rfl, by decide⟩
theorem dL_agree_26 : At cL_agree 26 (.iconst 0) 1 27 := ⟨by decide +kernel, rfl⟩
theorem dL_agree_27 : At cL_agree 27 (.ireturn) 1 28 := ⟨by decide +kernel, rfl⟩
theorem dL_agree_28 : At cL_agree 28 (.iinc 2 1) 3 31 := ⟨by decide +kernel, rfl⟩
theorem dL_agree_31 : Br cL_agree 31 .goto 34 4 := ⟨(-27), by decide +kernel, rfl, by decide⟩
theorem dL_agree_34 : At cL_agree 34 (.aload_n 0) 1 35 := ⟨by decide +kernel, rfl⟩
theorem dL_agree_35 : At cL_agree 35 (.bipush 6) 2 37 := ⟨by decide +kernel, rfl⟩
theorem dL_agree_37 : At cL_agree 37 (.invokevirtual 35) 3 40 := ⟨by decide +kernel, rfl⟩
theorem dL_agree_40 : At cL_agree 40 (.iload_n 1) 1 41 := ⟨by decide +kernel, rfl⟩
theorem dL_agree_41 : Br cL_agree 41 (.if_icmp .ne) 44 48 := ⟨(7), by decide +kernel, rfl, by decide⟩
theorem dL_agree_44 : At cL_agree 44 (.iconst 1) 1 45 := ⟨by decide +kernel, rfl⟩
theorem dL_agree_45 : Br cL_agree 45 .goto 48 49 := ⟨(4), by decide +kernel, rfl, by decide⟩
theorem dL_agree_48 : At cL_agree 48 (.iconst 0) 1 49 := ⟨by decide +kernel, rfl⟩
theorem dL_agree_49 : At cL_agree 49 (.ireturn) 1 50 := ⟨by decide +kernel, rfl⟩
theorem dL_isCrossed_0 : At cL_isCrossed 0 (.bipush 64) 2 2 := ⟨by decide +kernel, rfl⟩
theorem dL_isCrossed_2 : At cL_isCrossed 2 (.newarray .int) 2 4 := ⟨by decide +kernel, rfl⟩
theorem dL_isCrossed_4 : At cL_isCrossed 4 (.astore_n 3) 1 5 := ⟨by decide +kernel, rfl⟩
theorem dL_isCrossed_5 : At cL_isCrossed 5 (.aload_n 0) 1 6 := ⟨by decide +kernel, rfl⟩
theorem dL_isCrossed_6 : At cL_isCrossed 6 (.iload_n 1) 1 7 := ⟨by decide +kernel, rfl⟩
theorem dL_isCrossed_7 : At cL_isCrossed 7 (.aload_n 3) 1 8 := ⟨by decide +kernel, rfl⟩
theorem dL_isCrossed_8 : At cL_isCrossed 8 (.invokestatic 31) 3 11 := ⟨by decide +kernel, rfl⟩
theorem dL_isCrossed_11 : At cL_isCrossed 11 (.aload_n 3) 1 12 := ⟨by decide +kernel, rfl⟩
theorem dL_isCrossed_12 : At cL_isCrossed 12 (.iload_n 2) 1 13 := ⟨by decide +kernel, rfl⟩
theorem dL_isCrossed_13 : At cL_isCrossed 13 (.invokestatic 17) 3 16 := ⟨by decide +kernel, rfl⟩
theorem dL_isCrossed_16 : At cL_isCrossed 16 (.aload_n 0) 1 17 := ⟨by decide +kernel, rfl⟩
theorem dL_isCrossed_17 : At cL_isCrossed 17 (.iload_n 1) 1 18 := ⟨by decide +kernel, rfl⟩
theorem dL_isCrossed_18 : At cL_isCrossed 18 (.iload_n 2) 1 19 := ⟨by decide +kernel, rfl⟩
theorem dL_isCrossed_19 : At cL_isCrossed 19 (.invokevirtual 59) 3 22 := ⟨by decide +kernel, rfl⟩
theorem dL_isCrossed_22 : At cL_isCrossed 22 (.aload_n 3) 1 23 := ⟨by decide +kernel, rfl⟩
theorem dL_isCrossed_23 : At cL_isCrossed 23 (.iconst 0) 1 24 := ⟨by decide +kernel, rfl⟩
theorem dL_isCrossed_24 : At cL_isCrossed 24 (.iaload) 1 25 := ⟨by decide +kernel, rfl⟩
theorem dL_isCrossed_25 : Br cL_isCrossed 25 (.if_icmp .ne) 28 41 := ⟨(16), by decide +kernel, rfl, by decide⟩
theorem dL_isCrossed_28 : At cL_isCrossed 28 (.aload_n 0) 1 29 := ⟨by decide +kernel, rfl⟩
theorem dL_isCrossed_29 : At cL_isCrossed 29 (.iload_n 1) 1 30 := ⟨by decide +kernel, rfl⟩
theorem dL_isCrossed_30 : At cL_isCrossed 30 (.aload_n 3) 1 31 := ⟨by decide +kernel, rfl⟩
theorem dL_isCrossed_31 : At cL_isCrossed 31 (.invokestatic 62) 3 34 := ⟨by decide +kernel, rfl⟩
theorem dL_isCrossed_34 : Br cL_isCrossed 34 (.ifCond .eq) 37 41 := ⟨(7), by decide +kernel, rfl, by decide⟩
theorem dL_isCrossed_37 : At cL_isCrossed 37 (.iconst 1) 1 38 := ⟨by decide +kernel, rfl⟩
theorem dL_isCrossed_38 : Br cL_isCrossed 38 .goto 41 42 := ⟨(4), by decide +kernel, rfl, by decide⟩
theorem dL_isCrossed_41 : At cL_isCrossed 41 (.iconst 0) 1 42 := ⟨by decide +kernel, rfl⟩
theorem dL_isCrossed_42 : At cL_isCrossed 42 (.ireturn) 1 43 := ⟨by decide +kernel, rfl⟩
theorem dL_isBack_0 : At cL_isBack 0 (.bipush 64) 2 2 := ⟨by decide +kernel, rfl⟩
theorem dL_isBack_2 : At cL_isBack 2 (.newarray .int) 2 4 := ⟨by decide +kernel, rfl⟩
theorem dL_isBack_4 : At cL_isBack 4 (.astore_n 3) 1 5 := ⟨by decide +kernel, rfl⟩
theorem dL_isBack_5 : At cL_isBack 5 (.aload_n 0) 1 6 := ⟨by decide +kernel, rfl⟩
theorem dL_isBack_6 : At cL_isBack 6 (.iload_n 1) 1 7 := ⟨by decide +kernel, rfl⟩
theorem dL_isBack_7 : At cL_isBack 7 (.aload_n 3) 1 8 := ⟨by decide +kernel, rfl⟩
theorem dL_isBack_8 : At cL_isBack 8 (.invokestatic 31) 3 11 := ⟨by decide +kernel, rfl⟩
theorem dL_isBack_11 : At cL_isBack 11 (.aload_n 0) 1 12 := ⟨by decide +kernel, rfl⟩
theorem dL_isBack_12 : At cL_isBack 12 (.iload_n 1) 1 13 := ⟨by decide +kernel, rfl⟩
theorem dL_isBack_13 : At cL_isBack 13 (.iload_n 2) 1 14 := ⟨by decide +kernel, rfl⟩
theorem dL_isBack_14 : At cL_isBack 14 (.invokevirtual 66) 3 17 := ⟨by decide +kernel, rfl⟩
theorem dL_isBack_17 : At cL_isBack 17 (.istore 4) 2 19 := ⟨by decide +kernel, rfl⟩
theorem dL_isBack_19 : At cL_isBack 19 (.iload_n 2) 1 20 := ⟨by decide +kernel, rfl⟩
theorem dL_isBack_20 : At cL_isBack 20 (.aload_n 3) 1 21 := ⟨by decide +kernel, rfl⟩
theorem dL_isBack_21 : At cL_isBack 21 (.iconst 0) 1 22 := ⟨by decide +kernel, rfl⟩
theorem dL_isBack_22 : At cL_isBack 22 (.iaload) 1 23 := ⟨by decide +kernel, rfl⟩
theorem dL_isBack_23 : Br cL_isBack 23 (.if_icmp .le) 26 48 := ⟨(25), by decide +kernel, rfl, by decide⟩
theorem dL_isBack_26 : At cL_isBack 26 (.iload 4) 2 28 := ⟨by decide +kernel, rfl⟩
theorem dL_isBack_28 : At cL_isBack 28 (.bipush (-5)) 2 30 := ⟨by decide +kernel, rfl⟩
theorem dL_isBack_30 : Br cL_isBack 30 (.if_icmp .ne) 33 46 := ⟨(16), by decide +kernel, rfl, by decide⟩
theorem dL_isBack_33 : At cL_isBack 33 (.aload_n 0) 1 34 := ⟨by decide +kernel, rfl⟩
theorem dL_isBack_34 : At cL_isBack 34 (.iload_n 1) 1 35 := ⟨by decide +kernel, rfl⟩
theorem dL_isBack_35 : At cL_isBack 35 (.aload_n 3) 1 36 := ⟨by decide +kernel, rfl⟩
theorem dL_isBack_36 : At cL_isBack 36 (.invokestatic 62) 3 39 := ⟨by decide +kernel, rfl⟩
theorem dL_isBack_39 : Br cL_isBack 39 (.ifCond .eq) 42 46 := ⟨(7), by decide +kernel, rfl, by decide⟩
theorem dL_isBack_42 : At cL_isBack 42 (.iconst 1) 1 43 := ⟨by decide +kernel, rfl⟩
theorem dL_isBack_43 : Br cL_isBack 43 .goto 46 47 := ⟨(4), by decide +kernel, rfl, by decide⟩
theorem dL_isBack_46 : At cL_isBack 46 (.iconst 0) 1 47 := ⟨by decide +kernel, rfl⟩
theorem dL_isBack_47 : At cL_isBack 47 (.ireturn) 1 48 := ⟨by decide +kernel, rfl⟩
theorem dL_isBack_48 : At cL_isBack 48 (.aload_n 3) 1 49 := ⟨by decide +kernel, rfl⟩
theorem dL_isBack_49 : At cL_isBack 49 (.iconst 0) 1 50 := ⟨by decide +kernel, rfl⟩
theorem dL_isBack_50 : At cL_isBack 50 (.dup2) 1 51 := ⟨by decide +kernel, rfl⟩
theorem dL_isBack_51 : At cL_isBack 51 (.iaload) 1 52 := ⟨by decide +kernel, rfl⟩
theorem dL_isBack_52 : At cL_isBack 52 (.iload_n 2) 1 53 := ⟨by decide +kernel, rfl⟩
theorem dL_isBack_53 : At cL_isBack 53 (.isub) 1 54 := ⟨by decide +kernel, rfl⟩
theorem dL_isBack_54 : At cL_isBack 54 (.iastore) 1 55 := ⟨by decide +kernel, rfl⟩
theorem dL_isBack_55 : At cL_isBack 55 (.iload 4) 2 57 := ⟨by decide +kernel, rfl⟩
theorem dL_isBack_57 : At cL_isBack 57 (.aload_n 3) 1 58 := ⟨by decide +kernel, rfl⟩
theorem dL_isBack_58 : At cL_isBack 58 (.iconst 0) 1 59 := ⟨by decide +kernel, rfl⟩
theorem dL_isBack_59 : At cL_isBack 59 (.iaload) 1 60 := ⟨by decide +kernel, rfl⟩
theorem dL_isBack_60 : Br cL_isBack 60 (.if_icmp .ne) 63 76 := ⟨(16), by decide +kernel, rfl, by decide⟩
theorem dL_isBack_63 : At cL_isBack 63 (.aload_n 0) 1 64 := ⟨by decide +kernel, rfl⟩
theorem dL_isBack_64 : At cL_isBack 64 (.iload_n 1) 1 65 := ⟨by decide +kernel, rfl⟩
theorem dL_isBack_65 : At cL_isBack 65 (.aload_n 3) 1 66 := ⟨by decide +kernel, rfl⟩
theorem dL_isBack_66 : At cL_isBack 66 (.invokestatic 62) 3 69 := ⟨by decide +kernel, rfl⟩
theorem dL_isBack_69 : Br cL_isBack 69 (.ifCond .eq) 72 76 := ⟨(7), by decide +kernel, rfl, by decide⟩
theorem dL_isBack_72 : At cL_isBack 72 (.iconst 1) 1 73 := ⟨by decide +kernel, rfl⟩
theorem dL_isBack_73 : Br cL_isBack 73 .goto 76 77 := ⟨(4), by decide +kernel, rfl, by decide⟩
theorem dL_isBack_76 : At cL_isBack 76 (.iconst 0) 1 77 := ⟨by decide +kernel, rfl⟩
theorem dL_isBack_77 : At cL_isBack 77 (.ireturn) 1 78 := ⟨by decide +kernel, rfl⟩
theorem dL_isPulled_0 : At cL_isPulled 0 (.bipush 64) 2 2 := ⟨by decide +kernel, rfl⟩
theorem dL_isPulled_2 : At cL_isPulled 2 (.newarray .int) 2 4 := ⟨by decide +kernel, rfl⟩
theorem dL_isPulled_4 : At cL_isPulled 4 (.astore_n 2) 1 5 := ⟨by decide +kernel, rfl⟩
theorem dL_isPulled_5 : At cL_isPulled 5 (.aload_n 0) 1 6 := ⟨by decide +kernel, rfl⟩
theorem dL_isPulled_6 : At cL_isPulled 6 (.iload_n 1) 1 7 := ⟨by decide +kernel, rfl⟩
theorem dL_isPulled_7 : At cL_isPulled 7 (.aload_n 2) 1 8 := ⟨by decide +kernel, rfl⟩
theorem dL_isPulled_8 : At cL_isPulled 8 (.invokestatic 31) 3 11 := ⟨by decide +kernel, rfl⟩
theorem dL_isPulled_11 : At cL_isPulled 11 (.aload_n 2) 1 12 := ⟨by decide +kernel, rfl⟩
theorem dL_isPulled_12 : At cL_isPulled 12 (.iconst 0) 1 13 := ⟨by decide +kernel, rfl⟩
theorem dL_isPulled_13 : At cL_isPulled 13 (.iaload) 1 14 := ⟨by decide +kernel, rfl⟩
theorem dL_isPulled_14 : At cL_isPulled 14 (.istore_n 3) 1 15 := ⟨by decide +kernel, rfl⟩
theorem dL_isPulled_15 : At cL_isPulled 15 (.aload_n 2) 1 16 := ⟨by decide +kernel, rfl⟩
theorem dL_isPulled_16 : At cL_isPulled 16 (.invokestatic 41) 3 19 := ⟨by decide +kernel, rfl⟩
theorem dL_isPulled_19 : At cL_isPulled 19 (.aload_n 0) 1 20 := ⟨by decide +kernel, rfl⟩
theorem dL_isPulled_20 : At cL_isPulled 20 (.iload_n 1) 1 21 := ⟨by decide +kernel, rfl⟩
theorem dL_isPulled_21 : At cL_isPulled 21 (.invokevirtual 69) 3 24 := ⟨by decide +kernel, rfl⟩
theorem dL_isPulled_24 : At cL_isPulled 24 (.iload_n 3) 1 25 := ⟨by decide +kernel, rfl⟩
theorem dL_isPulled_25 : At cL_isPulled 25 (.aload_n 2) 1 26 := ⟨by decide +kernel, rfl⟩
theorem dL_isPulled_26 : At cL_isPulled 26 (.iconst 0) 1 27 := ⟨by decide +kernel, rfl⟩
theorem dL_isPulled_27 : At cL_isPulled 27 (.iaload) 1 28 := ⟨by decide +kernel, rfl⟩
theorem dL_isPulled_28 : At cL_isPulled 28 (.isub) 1 29 := ⟨by decide +kernel, rfl⟩
theorem dL_isPulled_29 : At cL_isPulled 29 (.iconst 2) 1 30 := ⟨by decide +kernel, rfl⟩
theorem dL_isPulled_30 : At cL_isPulled 30 (.idiv) 1 31 := ⟨by decide +kernel, rfl⟩
theorem dL_isPulled_31 : Br cL_isPulled 31 (.if_icmp .ne) 34 47 := ⟨(16), by decide +kernel, rfl, by decide⟩
theorem dL_isPulled_34 : At cL_isPulled 34 (.aload_n 0) 1 35 := ⟨by decide +kernel, rfl⟩
theorem dL_isPulled_35 : At cL_isPulled 35 (.iload_n 1) 1 36 := ⟨by decide +kernel, rfl⟩
theorem dL_isPulled_36 : At cL_isPulled 36 (.aload_n 2) 1 37 := ⟨by decide +kernel, rfl⟩
theorem dL_isPulled_37 : At cL_isPulled 37 (.invokestatic 62) 3 40 := ⟨by decide +kernel, rfl⟩
theorem dL_isPulled_40 : Br cL_isPulled 40 (.ifCond .eq) 43 47 := ⟨(7), by decide +kernel, rfl, by decide⟩
theorem dL_isPulled_43 : At cL_isPulled 43 (.iconst 1) 1 44 := ⟨by decide +kernel, rfl⟩
theorem dL_isPulled_44 : Br cL_isPulled 44 .goto 47 48 := ⟨(4), by decide +kernel, rfl, by decide⟩
theorem dL_isPulled_47 : At cL_isPulled 47 (.iconst 0) 1 48 := ⟨by decide +kernel, rfl⟩
theorem dL_isPulled_48 : At cL_isPulled 48 (.ireturn) 1 49 := ⟨by decide +kernel, rfl⟩
theorem dL_isJoined_0 : At cL_isJoined 0 (.bipush 64) 2 2 := ⟨by decide +kernel, rfl⟩
theorem dL_isJoined_2 : At cL_isJoined 2 (.newarray .int) 2 4 := ⟨by decide +kernel, rfl⟩
theorem dL_isJoined_4 : At cL_isJoined 4 (.astore_n 3) 1 5 := ⟨by decide +kernel, rfl⟩
theorem dL_isJoined_5 : At cL_isJoined 5 (.bipush 64) 2 7 := ⟨by decide +kernel, rfl⟩
theorem dL_isJoined_7 : At cL_isJoined 7 (.newarray .int) 2 9 := ⟨by decide +kernel, rfl⟩
theorem dL_isJoined_9 : At cL_isJoined 9 (.astore 4) 2 11 := ⟨by decide +kernel, rfl⟩
theorem dL_isJoined_11 : At cL_isJoined 11 (.aload_n 0) 1 12 := ⟨by decide +kernel, rfl⟩
theorem dL_isJoined_12 : At cL_isJoined 12 (.iload_n 1) 1 13 := ⟨by decide +kernel, rfl⟩
theorem dL_isJoined_13 : At cL_isJoined 13 (.aload_n 3) 1 14 := ⟨by decide +kernel, rfl⟩
theorem dL_isJoined_14 : At cL_isJoined 14 (.invokestatic 31) 3 17 := ⟨by decide +kernel, rfl⟩
theorem dL_isJoined_17 : At cL_isJoined 17 (.aload_n 0) 1 18 := ⟨by decide +kernel, rfl⟩
theorem dL_isJoined_18 : At cL_isJoined 18 (.iload_n 2) 1 19 := ⟨by decide +kernel, rfl⟩
theorem dL_isJoined_19 : At cL_isJoined 19 (.aload 4) 2 21 := ⟨by decide +kernel, rfl⟩
theorem dL_isJoined_21 : At cL_isJoined 21 (.invokestatic 31) 3 24 := ⟨by decide +kernel, rfl⟩
theorem dL_isJoined_24 : At cL_isJoined 24 (.aload_n 3) 1 25 := ⟨by decide +kernel, rfl⟩
theorem dL_isJoined_25 : At cL_isJoined 25 (.iconst 0) 1 26 := ⟨by decide +kernel, rfl⟩
theorem dL_isJoined_26 : At cL_isJoined 26 (.iaload) 1 27 := ⟨by decide +kernel, rfl⟩
theorem dL_isJoined_27 : At cL_isJoined 27 (.aload 4) 2 29 := ⟨by decide +kernel, rfl⟩
theorem dL_isJoined_29 : At cL_isJoined 29 (.iconst 0) 1 30 := ⟨by decide +kernel, rfl⟩
theorem dL_isJoined_30 : At cL_isJoined 30 (.iaload) 1 31 := ⟨by decide +kernel, rfl⟩
theorem dL_isJoined_31 : At cL_isJoined 31 (.iadd) 1 32 := ⟨by decide +kernel, rfl⟩
theorem dL_isJoined_32 : At cL_isJoined 32 (.bipush 60) 2 34 := ⟨by decide +kernel, rfl⟩
theorem dL_isJoined_34 : Br cL_isJoined 34 (.if_icmp .le) 37 39 := ⟨(5), by decide +kernel, rfl, by decide⟩
theorem dL_isJoined_37 : At cL_isJoined 37 (.iconst 1) 1 38 := ⟨by decide +kernel, rfl⟩
theorem dL_isJoined_38 : At cL_isJoined 38 (.ireturn) 1 39 := ⟨by decide +kernel, rfl⟩
theorem dL_isJoined_39 : At cL_isJoined 39 (.iconst 1) 1 40 := ⟨by decide +kernel, rfl⟩
theorem dL_isJoined_40 : At cL_isJoined 40 (.istore 5) 2 42 := ⟨by decide +kernel, rfl⟩
theorem dL_isJoined_42 : At cL_isJoined 42 (.iload 5) 2 44 := ⟨by decide +kernel, rfl⟩
theorem dL_isJoined_44 : At cL_isJoined 44 (.aload 4) 2 46 := ⟨by decide +kernel, rfl⟩
theorem dL_isJoined_46 : At cL_isJoined 46 (.iconst 0) 1 47 := ⟨by decide +kernel, rfl⟩
theorem dL_isJoined_47 : At cL_isJoined 47 (.iaload) 1 48 := ⟨by decide +kernel, rfl⟩
theorem dL_isJoined_48 : Br cL_isJoined 48 (.if_icmp .gt) 51 66 := ⟨(18), by decide +kernel, rfl, by decide⟩
theorem dL_isJoined_51 : At cL_isJoined 51 (.aload_n 3) 1 52 := ⟨by decide +kernel, rfl⟩
theorem dL_isJoined_52 : At cL_isJoined 52 (.aload 4) 2 54 := ⟨by decide +kernel, rfl⟩
theorem dL_isJoined_54 : At cL_isJoined 54 (.iload 5) 2 56 := ⟨by decide +kernel, rfl⟩
theorem dL_isJoined_56 : At cL_isJoined 56 (.iaload) 1 57 := ⟨by decide +kernel, rfl⟩
theorem dL_isJoined_57 : At cL_isJoined 57 (.invokestatic 17) 3 60 := ⟨by decide +kernel, rfl⟩
theorem dL_isJoined_60 : At cL_isJoined 60 (.iinc 5 1) 3 63 := ⟨by decide +kernel, rfl⟩
theorem dL_isJoined_63 : Br cL_isJoined 63 .goto 66 42 := ⟨(-21), by decide +kernel, rfl, by decide⟩
theorem dL_isJoined_66 : At cL_isJoined 66 (.aload_n 0) 1 67 := ⟨by decide +kernel, rfl⟩
theorem dL_isJoined_67 : At cL_isJoined 67 (.iload_n 1) 1 68 := ⟨by decide +kernel, rfl⟩
theorem dL_isJoined_68 : At cL_isJoined 68 (.iload_n 2) 1 69 := ⟨by decide +kernel, rfl⟩
theorem dL_isJoined_69 : At cL_isJoined 69 (.invokevirtual 71) 3 72 := ⟨by decide +kernel, rfl⟩
theorem dL_isJoined_72 : At cL_isJoined 72 (.aload_n 3) 1 73 := ⟨by decide +kernel, rfl⟩
theorem dL_isJoined_73 : At cL_isJoined 73 (.iconst 0) 1 74 := ⟨by decide +kernel, rfl⟩
theorem dL_isJoined_74 : At cL_isJoined 74 (.iaload) 1 75 := ⟨by decide +kernel, rfl⟩
theorem dL_isJoined_75 : Br cL_isJoined 75 (.if_icmp .ne) 78 91 := ⟨(16), by decide +kernel, rfl, by decide⟩
theorem dL_isJoined_78 : At cL_isJoined 78 (.aload_n 0) 1 79 := ⟨by decide +kernel, rfl⟩
theorem dL_isJoined_79 : At cL_isJoined 79 (.iload_n 1) 1 80 := ⟨by decide +kernel, rfl⟩
theorem dL_isJoined_80 : At cL_isJoined 80 (.aload_n 3) 1 81 := ⟨by decide +kernel, rfl⟩
theorem dL_isJoined_81 : At cL_isJoined 81 (.invokestatic 62) 3 84 := ⟨by decide +kernel, rfl⟩
theorem dL_isJoined_84 : Br cL_isJoined 84 (.ifCond .eq) 87 91 := ⟨(7), by decide +kernel, rfl, by decide⟩
theorem dL_isJoined_87 : At cL_isJoined 87 (.iconst 1) 1 88 := ⟨by decide +kernel, rfl⟩
theorem dL_isJoined_88 : Br cL_isJoined 88 .goto 91 92 := ⟨(4), by decide +kernel, rfl, by decide⟩
theorem dL_isJoined_91 : At cL_isJoined 91 (.iconst 0) 1 92 := ⟨by decide +kernel, rfl⟩
theorem dL_isJoined_92 : At cL_isJoined 92 (.ireturn) 1 93 := ⟨by decide +kernel, rfl⟩
theorem dL_isTurned_0 : At cL_isTurned 0 (.bipush 64) 2 2 := ⟨by decide +kernel, rfl⟩
theorem dL_isTurned_2 : At cL_isTurned 2 (.newarray .int) 2 4 := ⟨by decide +kernel, rfl⟩
theorem dL_isTurned_4 : At cL_isTurned 4 (.astore_n 2) 1 5 := ⟨by decide +kernel, rfl⟩
theorem dL_isTurned_5 : At cL_isTurned 5 (.aload_n 0) 1 6 := ⟨by decide +kernel, rfl⟩
theorem dL_isTurned_6 : At cL_isTurned 6 (.iload_n 1) 1 7 := ⟨by decide +kernel, rfl⟩
theorem dL_isTurned_7 : At cL_isTurned 7 (.aload_n 2) 1 8 := ⟨by decide +kernel, rfl⟩
theorem dL_isTurned_8 : At cL_isTurned 8 (.invokestatic 31) 3 11 := ⟨by decide +kernel, rfl⟩
theorem dL_isTurned_11 : At cL_isTurned 11 (.aload_n 2) 1 12 := ⟨by decide +kernel, rfl⟩
theorem dL_isTurned_12 : At cL_isTurned 12 (.invokestatic 74) 3 15 := ⟨by decide +kernel, rfl⟩
theorem dL_isTurned_15 : At cL_isTurned 15 (.aload_n 0) 1 16 := ⟨by decide +kernel, rfl⟩
theorem dL_isTurned_16 : At cL_isTurned 16 (.iload_n 1) 1 17 := ⟨by decide +kernel, rfl⟩
theorem dL_isTurned_17 : At cL_isTurned 17 (.invokevirtual 77) 3 20 := ⟨by decide +kernel, rfl⟩
theorem dL_isTurned_20 : At cL_isTurned 20 (.aload_n 2) 1 21 := ⟨by decide +kernel, rfl⟩
theorem dL_isTurned_21 : At cL_isTurned 21 (.iconst 0) 1 22 := ⟨by decide +kernel, rfl⟩
theorem dL_isTurned_22 : At cL_isTurned 22 (.iaload) 1 23 := ⟨by decide +kernel, rfl⟩
theorem dL_isTurned_23 : Br cL_isTurned 23 (.if_icmp .ne) 26 39 := ⟨(16), by decide +kernel, rfl, by decide⟩
theorem dL_isTurned_26 : At cL_isTurned 26 (.aload_n 0) 1 27 := ⟨by decide +kernel, rfl⟩
theorem dL_isTurned_27 : At cL_isTurned 27 (.iload_n 1) 1 28 := ⟨by decide +kernel, rfl⟩
theorem dL_isTurned_28 : At cL_isTurned 28 (.aload_n 2) 1 29 := ⟨by decide +kernel, rfl⟩
theorem dL_isTurned_29 : At cL_isTurned 29 (.invokestatic 62) 3 32 := ⟨by decide +kernel, rfl⟩
theorem dL_isTurned_32 : Br cL_isTurned 32 (.ifCond .eq) 35 39 := ⟨(7), by decide +kernel, rfl, by decide⟩
theorem dL_isTurned_35 : At cL_isTurned 35 (.iconst 1) 1 36 := ⟨by decide +kernel, rfl⟩
theorem dL_isTurned_36 : Br cL_isTurned 36 .goto 39 40 := ⟨(4), by decide +kernel, rfl, by decide⟩
theorem dL_isTurned_39 : At cL_isTurned 39 (.iconst 0) 1 40 := ⟨by decide +kernel, rfl⟩
theorem dL_isTurned_40 : At cL_isTurned 40 (.ireturn) 1 41 := ⟨by decide +kernel, rfl⟩
theorem dL_isWoven_0 : At cL_isWoven 0 (.iload_n 1) 1 1 := ⟨by decide +kernel, rfl⟩
theorem dL_isWoven_1 : At cL_isWoven 1 (.iload_n 2) 1 2 := ⟨by decide +kernel, rfl⟩
theorem dL_isWoven_2 : Br cL_isWoven 2 (.if_icmp .ne) 5 21 := ⟨(19), by decide +kernel, rfl, by decide⟩
theorem dL_isWoven_5 : At cL_isWoven 5 (.aload_n 0) 1 6 := ⟨by decide +kernel, rfl⟩
theorem dL_isWoven_6 : At cL_isWoven 6 (.iload_n 1) 1 7 := ⟨by decide +kernel, rfl⟩
theorem dL_isWoven_7 : At cL_isWoven 7 (.iload_n 2) 1 8 := ⟨by decide +kernel, rfl⟩
theorem dL_isWoven_8 : At cL_isWoven 8 (.invokevirtual 79) 3 11 := ⟨by decide +kernel, rfl⟩
theorem dL_isWoven_11 : At cL_isWoven 11 (.iconst (-1)) 1 12 := ⟨by decide +kernel, rfl⟩
theorem dL_isWoven_12 : Br cL_isWoven 12 (.if_icmp .ne) 15 19 := ⟨(7), by decide +kernel, rfl, by decide⟩
theorem dL_isWoven_15 : At cL_isWoven 15 (.iconst 1) 1 16 := ⟨by decide +kernel, rfl⟩
theorem dL_isWoven_16 : Br cL_isWoven 16 .goto 19 20 := ⟨(4), by decide +kernel, rfl, by decide⟩
theorem dL_isWoven_19 : At cL_isWoven 19 (.iconst 0) 1 20 := ⟨by decide +kernel, rfl⟩
theorem dL_isWoven_20 : At cL_isWoven 20 (.ireturn) 1 21 := ⟨by decide +kernel, rfl⟩
theorem dL_isWoven_21 : At cL_isWoven 21 (.bipush 64) 2 23 := ⟨by decide +kernel, rfl⟩
theorem dL_isWoven_23 : At cL_isWoven 23 (.newarray .int) 2 25 := ⟨by decide +kernel, rfl⟩
theorem dL_isWoven_25 : At cL_isWoven 25 (.astore_n 3) 1 26 := ⟨by decide +kernel, rfl⟩
theorem dL_isWoven_26 : At cL_isWoven 26 (.bipush 64) 2 28 := ⟨by decide +kernel, rfl⟩
theorem dL_isWoven_28 : At cL_isWoven 28 (.newarray .int) 2 30 := ⟨by decide +kernel, rfl⟩
theorem dL_isWoven_30 : At cL_isWoven 30 (.astore 4) 2 32 := ⟨by decide +kernel, rfl⟩
theorem dL_isWoven_32 : At cL_isWoven 32 (.bipush 64) 2 34 := ⟨by decide +kernel, rfl⟩
theorem dL_isWoven_34 : At cL_isWoven 34 (.newarray .int) 2 36 := ⟨by decide +kernel, rfl⟩
theorem dL_isWoven_36 : At cL_isWoven 36 (.astore 5) 2 38 := ⟨by decide +kernel, rfl⟩
theorem dL_isWoven_38 : At cL_isWoven 38 (.aload_n 0) 1 39 := ⟨by decide +kernel, rfl⟩
theorem dL_isWoven_39 : At cL_isWoven 39 (.iload_n 1) 1 40 := ⟨by decide +kernel, rfl⟩
theorem dL_isWoven_40 : At cL_isWoven 40 (.aload_n 3) 1 41 := ⟨by decide +kernel, rfl⟩
theorem dL_isWoven_41 : At cL_isWoven 41 (.invokestatic 31) 3 44 := ⟨by decide +kernel, rfl⟩
theorem dL_isWoven_44 : At cL_isWoven 44 (.aload_n 0) 1 45 := ⟨by decide +kernel, rfl⟩
theorem dL_isWoven_45 : At cL_isWoven 45 (.iload_n 2) 1 46 := ⟨by decide +kernel, rfl⟩
theorem dL_isWoven_46 : At cL_isWoven 46 (.aload 4) 2 48 := ⟨by decide +kernel, rfl⟩
theorem dL_isWoven_48 : At cL_isWoven 48 (.invokestatic 31) 3 51 := ⟨by decide +kernel, rfl⟩
theorem dL_isWoven_51 : At cL_isWoven 51 (.iconst 2) 1 52 := ⟨by decide +kernel, rfl⟩
theorem dL_isWoven_52 : At cL_isWoven 52 (.aload_n 3) 1 53 := ⟨by decide +kernel, rfl⟩
theorem dL_isWoven_53 : At cL_isWoven 53 (.iconst 0) 1 54 := ⟨by decide +kernel, rfl⟩
theorem dL_isWoven_54 : At cL_isWoven 54 (.iaload) 1 55 := ⟨by decide +kernel, rfl⟩
theorem dL_isWoven_55 : At cL_isWoven 55 (.aload 4) 2 57 := ⟨by decide +kernel, rfl⟩
theorem dL_isWoven_57 : At cL_isWoven 57 (.iconst 0) 1 58 := ⟨by decide +kernel, rfl⟩
theorem dL_isWoven_58 : At cL_isWoven 58 (.iaload) 1 59 := ⟨by decide +kernel, rfl⟩
theorem dL_isWoven_59 : At cL_isWoven 59 (.iadd) 1 60 := ⟨by decide +kernel, rfl⟩
theorem dL_isWoven_60 : At cL_isWoven 60 (.imul) 1 61 := ⟨by decide +kernel, rfl⟩
theorem dL_isWoven_61 : At cL_isWoven 61 (.bipush 60) 2 63 := ⟨by decide +kernel, rfl⟩
theorem dL_isWoven_63 : Br cL_isWoven 63 (.if_icmp .le) 66 68 := ⟨(5), by decide +kernel, rfl, by decide⟩
theorem dL_isWoven_66 : At cL_isWoven 66 (.iconst 1) 1 67 := ⟨by decide +kernel, rfl⟩
theorem dL_isWoven_67 : At cL_isWoven 67 (.ireturn) 1 68 := ⟨by decide +kernel, rfl⟩
theorem dL_isWoven_68 : At cL_isWoven 68 (.aload_n 3) 1 69 := ⟨by decide +kernel, rfl⟩
theorem dL_isWoven_69 : At cL_isWoven 69 (.aload 5) 2 71 := ⟨by decide +kernel, rfl⟩
theorem dL_isWoven_71 : At cL_isWoven 71 (.invokestatic 82) 3 74 := ⟨by decide +kernel, rfl⟩
theorem dL_isWoven_74 : At cL_isWoven 74 (.aload 5) 2 76 := ⟨by decide +kernel, rfl⟩
theorem dL_isWoven_76 : At cL_isWoven 76 (.invokestatic 74) 3 79 := ⟨by decide +kernel, rfl⟩
theorem dL_isWoven_79 : At cL_isWoven 79 (.iconst 1) 1 80 := ⟨by decide +kernel, rfl⟩
theorem dL_isWoven_80 : At cL_isWoven 80 (.istore 6) 2 82 := ⟨by decide +kernel, rfl⟩
theorem dL_isWoven_82 : At cL_isWoven 82 (.iload 6) 2 84 := ⟨by decide +kernel, rfl⟩
theorem dL_isWoven_84 : At cL_isWoven 84 (.aload 4) 2 86 := ⟨by decide +kernel, rfl⟩
theorem dL_isWoven_86 : At cL_isWoven 86 (.iconst 0) 1 87 := ⟨by decide +kernel, rfl⟩
theorem dL_isWoven_87 : At cL_isWoven 87 (.iaload) 1 88 := ⟨by decide +kernel, rfl⟩
theorem dL_isWoven_88 : Br cL_isWoven 88 (.if_icmp .gt) 91 106 := ⟨(18), by decide +kernel, rfl, by decide⟩
theorem dL_isWoven_91 : At cL_isWoven 91 (.aload_n 3) 1 92 := ⟨by decide +kernel, rfl⟩
theorem dL_isWoven_92 : At cL_isWoven 92 (.aload 4) 2 94 := ⟨by decide +kernel, rfl⟩
theorem dL_isWoven_94 : At cL_isWoven 94 (.iload 6) 2 96 := ⟨by decide +kernel, rfl⟩
theorem dL_isWoven_96 : At cL_isWoven 96 (.iaload) 1 97 := ⟨by decide +kernel, rfl⟩
theorem dL_isWoven_97 : At cL_isWoven 97 (.invokestatic 17) 3 100 := ⟨by decide +kernel, rfl⟩
theorem dL_isWoven_100 : At cL_isWoven 100 (.iinc 6 1) 3 103 := ⟨by decide +kernel, rfl⟩
theorem dL_isWoven_103 : Br cL_isWoven 103 .goto 106 82 := ⟨(-21), by decide +kernel, rfl, by decide⟩
theorem dL_isWoven_106 : At cL_isWoven 106 (.iconst 1) 1 107 := ⟨by decide +kernel, rfl⟩
theorem dL_isWoven_107 : At cL_isWoven 107 (.istore 6) 2 109 := ⟨by decide +kernel, rfl⟩
theorem dL_isWoven_109 : At cL_isWoven 109 (.iload 6) 2 111 := ⟨by decide +kernel, rfl⟩
theorem dL_isWoven_111 : At cL_isWoven 111 (.aload 5) 2 113 := ⟨by decide +kernel, rfl⟩
theorem dL_isWoven_113 : At cL_isWoven 113 (.iconst 0) 1 114 := ⟨by decide +kernel, rfl⟩
theorem dL_isWoven_114 : At cL_isWoven 114 (.iaload) 1 115 := ⟨by decide +kernel, rfl⟩
theorem dL_isWoven_115 : Br cL_isWoven 115 (.if_icmp .gt) 118 133 := ⟨(18), by decide +kernel, rfl, by decide⟩
theorem dL_isWoven_118 : At cL_isWoven 118 (.aload_n 3) 1 119 := ⟨by decide +kernel, rfl⟩
theorem dL_isWoven_119 : At cL_isWoven 119 (.aload 5) 2 121 := ⟨by decide +kernel, rfl⟩
theorem dL_isWoven_121 : At cL_isWoven 121 (.iload 6) 2 123 := ⟨by decide +kernel, rfl⟩
theorem dL_isWoven_123 : At cL_isWoven 123 (.iaload) 1 124 := ⟨by decide +kernel, rfl⟩
theorem dL_isWoven_124 : At cL_isWoven 124 (.invokestatic 17) 3 127 := ⟨by decide +kernel, rfl⟩
theorem dL_isWoven_127 : At cL_isWoven 127 (.iinc 6 1) 3 130 := ⟨by decide +kernel, rfl⟩
theorem dL_isWoven_130 : Br cL_isWoven 130 .goto 133 109 := ⟨(-21), by decide +kernel, rfl, by decide⟩
theorem dL_isWoven_133 : At cL_isWoven 133 (.aload 4) 2 135 := ⟨by decide +kernel, rfl⟩
theorem dL_isWoven_135 : At cL_isWoven 135 (.invokestatic 74) 3 138 := ⟨by decide +kernel, rfl⟩
theorem dL_isWoven_138 : At cL_isWoven 138 (.iconst 1) 1 139 := ⟨by decide +kernel, rfl⟩
theorem dL_isWoven_139 : At cL_isWoven 139 (.istore 6) 2 141 := ⟨by decide +kernel, rfl⟩
theorem dL_isWoven_141 : At cL_isWoven 141 (.iload 6) 2 143 := ⟨by decide +kernel, rfl⟩
theorem dL_isWoven_143 : At cL_isWoven 143 (.aload 4) 2 145 := ⟨by decide +kernel, rfl⟩
theorem dL_isWoven_145 : At cL_isWoven 145 (.iconst 0) 1 146 := ⟨by decide +kernel, rfl⟩
theorem dL_isWoven_146 : At cL_isWoven 146 (.iaload) 1 147 := ⟨by decide +kernel, rfl⟩
theorem dL_isWoven_147 : Br cL_isWoven 147 (.if_icmp .gt) 150 165 := ⟨(18), by decide +kernel, rfl, by decide⟩
theorem dL_isWoven_150 : At cL_isWoven 150 (.aload_n 3) 1 151 := ⟨by decide +kernel, rfl⟩
theorem dL_isWoven_151 : At cL_isWoven 151 (.aload 4) 2 153 := ⟨by decide +kernel, rfl⟩
theorem dL_isWoven_153 : At cL_isWoven 153 (.iload 6) 2 155 := ⟨by decide +kernel, rfl⟩
theorem dL_isWoven_155 : At cL_isWoven 155 (.iaload) 1 156 := ⟨by decide +kernel, rfl⟩
theorem dL_isWoven_156 : At cL_isWoven 156 (.invokestatic 17) 3 159 := ⟨by decide +kernel, rfl⟩
theorem dL_isWoven_159 : At cL_isWoven 159 (.iinc 6 1) 3 162 := ⟨by decide +kernel, rfl⟩
theorem dL_isWoven_162 : Br cL_isWoven 162 .goto 165 141 := ⟨(-21), by decide +kernel, rfl, by decide⟩
theorem dL_isWoven_165 : At cL_isWoven 165 (.aload_n 3) 1 166 := ⟨by decide +kernel, rfl⟩
theorem dL_isWoven_166 : At cL_isWoven 166 (.invokestatic 41) 3 169 := ⟨by decide +kernel, rfl⟩
theorem dL_isWoven_169 : At cL_isWoven 169 (.aload_n 0) 1 170 := ⟨by decide +kernel, rfl⟩
theorem dL_isWoven_170 : At cL_isWoven 170 (.iload_n 1) 1 171 := ⟨by decide +kernel, rfl⟩
theorem dL_isWoven_171 : At cL_isWoven 171 (.iload_n 2) 1 172 := ⟨by decide +kernel, rfl⟩
theorem dL_isWoven_172 : At cL_isWoven 172 (.invokevirtual 79) 3 175 := ⟨by decide +kernel, rfl⟩
theorem dL_isWoven_175 : At cL_isWoven 175 (.aload_n 3) 1 176 := ⟨by decide +kernel, rfl⟩
theorem dL_isWoven_176 : At cL_isWoven 176 (.iconst 0) 1 177 := ⟨by decide +kernel, rfl⟩
theorem dL_isWoven_177 : At cL_isWoven 177 (.iaload) 1 178 := ⟨by decide +kernel, rfl⟩
theorem dL_isWoven_178 : Br cL_isWoven 178 (.if_icmp .ne) 181 194 := ⟨(16), by decide +kernel, rfl, by decide⟩
theorem dL_isWoven_181 : At cL_isWoven 181 (.aload_n 0) 1 182 := ⟨by decide +kernel, rfl⟩
theorem dL_isWoven_182 : At cL_isWoven 182 (.iload_n 1) 1 183 := ⟨by decide +kernel, rfl⟩
theorem dL_isWoven_183 : At cL_isWoven 183 (.aload_n 3) 1 184 := ⟨by decide +kernel, rfl⟩
theorem dL_isWoven_184 : At cL_isWoven 184 (.invokestatic 62) 3 187 := ⟨by decide +kernel, rfl⟩
theorem dL_isWoven_187 : Br cL_isWoven 187 (.ifCond .eq) 190 194 := ⟨(7), by decide +kernel, rfl, by decide⟩
theorem dL_isWoven_190 : At cL_isWoven 190 (.iconst 1) 1 191 := ⟨by decide +kernel, rfl⟩
theorem dL_isWoven_191 : Br cL_isWoven 191 .goto 194 195 := ⟨(4), by decide +kernel, rfl, by decide⟩
theorem dL_isWoven_194 : At cL_isWoven 194 (.iconst 0) 1 195 := ⟨by decide +kernel, rfl⟩
theorem dL_isWoven_195 : At cL_isWoven 195 (.ireturn) 1 196 := ⟨by decide +kernel, rfl⟩
theorem dL_change_0 : At cL_change 0 (.aload_n 3) 1 1 := ⟨by decide +kernel, rfl⟩
theorem dL_change_1 : At cL_change 1 (.iconst 0) 1 2 := ⟨by decide +kernel, rfl⟩
theorem dL_change_2 : At cL_change 2 (.iconst 0) 1 3 := ⟨by decide +kernel, rfl⟩
theorem dL_change_3 : At cL_change 3 (.iastore) 1 4 := ⟨by decide +kernel, rfl⟩
theorem dL_change_4 : At cL_change 4 (.iconst 1) 1 5 := ⟨by decide +kernel, rfl⟩
theorem dL_change_5 : At cL_change 5 (.istore 4) 2 7 := ⟨by decide +kernel, rfl⟩
theorem dL_change_7 : At cL_change 7 (.iload 4) 2 9 := ⟨by decide +kernel, rfl⟩
theorem dL_change_9 : At cL_change 9 (.aload_n 0) 1 10 := ⟨by decide +kernel, rfl⟩
theorem dL_change_10 : At cL_change 10 (.iconst 0) 1 11 := ⟨by decide +kernel, rfl⟩
theorem dL_change_11 : At cL_change 11 (.iaload) 1 12 := ⟨by decide +kernel, rfl⟩
theorem dL_change_12 : Br cL_change 12 (.if_icmp .gt) 15 173 := ⟨(161), by decide +kernel, rfl, by decide⟩
theorem dL_change_15 : At cL_change 15 (.aload_n 0) 1 16 := ⟨by decide +kernel, rfl⟩
theorem dL_change_16 : At cL_change 16 (.iload 4) 2 18 := ⟨by decide +kernel, rfl⟩
theorem dL_change_18 : At cL_change 18 (.iaload) 1 19 := ⟨by decide +kernel, rfl⟩
theorem dL_change_19 : At cL_change 19 (.istore 5) 2 21 := ⟨by decide +kernel, rfl⟩
theorem dL_change_21 : At cL_change 21 (.iload 5) 2 23 := ⟨by decide +kernel, rfl⟩
theorem dL_change_23 : At cL_change 23 (.bipush 6) 2 25 := ⟨by decide +kernel, rfl⟩
theorem dL_change_25 : At cL_change 25 (.irem) 1 26 := ⟨by decide +kernel, rfl⟩
theorem dL_change_26 : At cL_change 26 (.istore 6) 2 28 := ⟨by decide +kernel, rfl⟩
theorem dL_change_28 : At cL_change 28 (.iload 5) 2 30 := ⟨by decide +kernel, rfl⟩
theorem dL_change_30 : At cL_change 30 (.iload 6) 2 32 := ⟨by decide +kernel, rfl⟩
theorem dL_change_32 : At cL_change 32 (.isub) 1 33 := ⟨by decide +kernel, rfl⟩
theorem dL_change_33 : At cL_change 33 (.istore 7) 2 35 := ⟨by decide +kernel, rfl⟩
theorem dL_change_35 : At cL_change 35 (.iload_n 2) 1 36 := ⟨by decide +kernel, rfl⟩
theorem dL_change_36 : Br cL_change 36 (.ifCond .ne) 39 71 := ⟨(35), by decide +kernel, rfl, by decide⟩
theorem dL_change_39 : At cL_change 39 (.iload 6) 2 41 := ⟨by decide +kernel, rfl⟩
theorem dL_change_41 : At cL_change 41 (.iload_n 1) 1 42 := ⟨by decide +kernel, rfl⟩
theorem dL_change_42 : Br cL_change 42 (.if_icmp .ne) 45 71 := ⟨(29), by decide +kernel, rfl, by decide⟩
theorem dL_change_45 : At cL_change 45 (.aload_n 3) 1 46 := ⟨by decide +kernel, rfl⟩
theorem dL_change_46 : At cL_change 46 (.iload_n 1) 1 47 := ⟨by decide +kernel, rfl⟩
theorem dL_change_47 : At cL_change 47 (.invokestatic 17) 3 50 := ⟨by decide +kernel, rfl⟩
theorem dL_change_50 : At cL_change 50 (.aload_n 3) 1 51 := ⟨by decide +kernel, rfl⟩
theorem dL_change_51 : At cL_change 51 (.iload_n 1) 1 52 := ⟨by decide +kernel, rfl⟩
theorem dL_change_52 : At cL_change 52 (.iconst 1) 1 53 := ⟨by decide +kernel, rfl⟩
theorem dL_change_53 : At cL_change 53 (.iadd) 1 54 := ⟨by decide +kernel, rfl⟩
theorem dL_change_54 : At cL_change 54 (.iload 7) 2 56 := ⟨by decide +kernel, rfl⟩
theorem dL_change_56 : At cL_change 56 (.iadd) 1 57 := ⟨by decide +kernel, rfl⟩
theorem dL_change_57 : At cL_change 57 (.invokestatic 17) 3 60 := ⟨by decide +kernel, rfl⟩
theorem dL_change_60 : At cL_change 60 (.aload_n 3) 1 61 := ⟨by decide +kernel, rfl⟩
theorem dL_change_61 : At cL_change 61 (.iload_n 1) 1 62 := ⟨by decide +kernel, rfl⟩
theorem dL_change_62 : At cL_change 62 (.bipush 6) 2 64 := ⟨by decide +kernel, rfl⟩
theorem dL_change_64 : At cL_change 64 (.iadd) 1 65 := ⟨by decide +kernel, rfl⟩
theorem dL_change_65 : At cL_change 65 (.invokestatic 17) 3 68 := ⟨by decide +kernel, rfl⟩
theorem dL_change_68 : Br cL_change 68 .goto 71 163 := ⟨(95), by decide +kernel, rfl, by decide⟩
theorem dL_change_71 : At cL_change 71 (.iload_n 2) 1 72 := ⟨by decide +kernel, rfl⟩
theorem dL_change_72 : Br cL_change 72 (.ifCond .ne) 75 94 := ⟨(22), by decide +kernel, rfl, by decide⟩
theorem dL_change_75 : At cL_change 75 (.iload 6) 2 77 := ⟨by decide +kernel, rfl⟩
theorem dL_change_77 : At cL_change 77 (.iload_n 1) 1 78 := ⟨by decide +kernel, rfl⟩
theorem dL_change_78 : At cL_change 78 (.iconst 1) 1 79 := ⟨by decide +kernel, rfl⟩
theorem dL_change_79 : At cL_change 79 (.iadd) 1 80 := ⟨by decide +kernel, rfl⟩
theorem dL_change_80 : Br cL_change 80 (.if_icmp .ne) 83 94 := ⟨(14), by decide +kernel, rfl, by decide⟩
theorem dL_change_83 : At cL_change 83 (.aload_n 3) 1 84 := ⟨by decide +kernel, rfl⟩
theorem dL_change_84 : At cL_change 84 (.iload_n 1) 1 85 := ⟨by decide +kernel, rfl⟩
theorem dL_change_85 : At cL_change 85 (.iload 7) 2 87 := ⟨by decide +kernel, rfl⟩
theorem dL_change_87 : At cL_change 87 (.iadd) 1 88 := ⟨by decide +kernel, rfl⟩
theorem dL_change_88 : At cL_change 88 (.invokestatic 17) 3 91 := ⟨by decide +kernel, rfl⟩
theorem dL_change_91 : Br cL_change 91 .goto 94 163 := ⟨(72), by decide +kernel, rfl, by decide⟩
theorem dL_change_94 : At cL_change 94 (.iload_n 2) 1 95 := ⟨by decide +kernel, rfl⟩
theorem dL_change_95 : At cL_change 95 (.iconst 1) 1 96 := ⟨by decide +kernel, rfl⟩
theorem dL_change_96 : Br cL_change 96 (.if_icmp .ne) 99 118 := ⟨(22), by decide +kernel, rfl, by decide⟩
theorem dL_change_99 : At cL_change 99 (.iload 6) 2 101 := ⟨by decide +kernel, rfl⟩
theorem dL_change_101 : At cL_change 101 (.iload_n 1) 1 102 := ⟨by decide +kernel, rfl⟩
theorem dL_change_102 : Br cL_change 102 (.if_icmp .ne) 105 118 := ⟨(16), by decide +kernel, rfl, by decide⟩
theorem dL_change_105 : At cL_change 105 (.aload_n 3) 1 106 := ⟨by decide +kernel, rfl⟩
theorem dL_change_106 : At cL_change 106 (.iload_n 1) 1 107 := ⟨by decide +kernel, rfl⟩
theorem dL_change_107 : At cL_change 107 (.iconst 1) 1 108 := ⟨by decide +kernel, rfl⟩
theorem dL_change_108 : At cL_change 108 (.iadd) 1 109 := ⟨by decide +kernel, rfl⟩
theorem dL_change_109 : At cL_change 109 (.iload 7) 2 111 := ⟨by decide +kernel, rfl⟩
theorem dL_change_111 : At cL_change 111 (.iadd) 1 112 := ⟨by decide +kernel, rfl⟩
theorem dL_change_112 : At cL_change 112 (.invokestatic 17) 3 115 := ⟨by decide +kernel, rfl⟩
theorem dL_change_115 : Br cL_change 115 .goto 118 163 := ⟨(48), by decide +kernel, rfl, by decide⟩
theorem dL_change_118 : At cL_change 118 (.iload_n 2) 1 119 := ⟨by decide +kernel, rfl⟩
theorem dL_change_119 : At cL_change 119 (.iconst 1) 1 120 := ⟨by decide +kernel, rfl⟩
theorem dL_change_120 : Br cL_change 120 (.if_icmp .ne) 123 157 := ⟨(37), by decide +kernel, rfl, by decide⟩
theorem dL_change_123 : At cL_change 123 (.iload 6) 2 125 := ⟨by decide +kernel, rfl⟩
theorem dL_change_125 : At cL_change 125 (.iload_n 1) 1 126 := ⟨by decide +kernel, rfl⟩
theorem dL_change_126 : At cL_change 126 (.iconst 1) 1 127 := ⟨by decide +kernel, rfl⟩
theorem dL_change_127 : At cL_change 127 (.iadd) 1 128 := ⟨by decide +kernel, rfl⟩
theorem dL_change_128 : Br cL_change 128 (.if_icmp .ne) 131 157 := ⟨(29), by decide +kernel, rfl, by decide⟩
theorem dL_change_131 : At cL_change 131 (.aload_n 3) 1 132 := ⟨by decide +kernel, rfl⟩
theorem dL_change_132 : At cL_change 132 (.iload_n 1) 1 133 := ⟨by decide +kernel, rfl⟩
theorem dL_change_133 : At cL_change 133 (.bipush 7) 2 135 := ⟨by decide +kernel, rfl⟩
theorem dL_change_135 : At cL_change 135 (.iadd) 1 136 := ⟨by decide +kernel, rfl⟩
theorem dL_change_136 : At cL_change 136 (.invokestatic 17) 3 139 := ⟨by decide +kernel, rfl⟩
theorem dL_change_139 : At cL_change 139 (.aload_n 3) 1 140 := ⟨by decide +kernel, rfl⟩
theorem dL_change_140 : At cL_change 140 (.iload_n 1) 1 141 := ⟨by decide +kernel, rfl⟩
theorem dL_change_141 : At cL_change 141 (.iload 7) 2 143 := ⟨by decide +kernel, rfl⟩
theorem dL_change_143 : At cL_change 143 (.iadd) 1 144 := ⟨by decide +kernel, rfl⟩
theorem dL_change_144 : At cL_change 144 (.invokestatic 17) 3 147 := ⟨by decide +kernel, rfl⟩
theorem dL_change_147 : At cL_change 147 (.aload_n 3) 1 148 := ⟨by decide +kernel, rfl⟩
theorem dL_change_148 : At cL_change 148 (.iload_n 1) 1 149 := ⟨by decide +kernel, rfl⟩
theorem dL_change_149 : At cL_change 149 (.iconst 1) 1 150 := ⟨by decide +kernel, rfl⟩
theorem dL_change_150 : At cL_change 150 (.iadd) 1 151 := ⟨by decide +kernel, rfl⟩
theorem dL_change_151 : At cL_change 151 (.invokestatic 17) 3 154 := ⟨by decide +kernel, rfl⟩
theorem dL_change_154 : Br cL_change 154 .goto 157 163 := ⟨(9), by decide +kernel, rfl, by decide⟩
theorem dL_change_157 : At cL_change 157 (.aload_n 3) 1 158 := ⟨by decide +kernel, rfl⟩
theorem dL_change_158 : At cL_change 158 (.iload 5) 2 160 := ⟨by decide +kernel, rfl⟩
theorem dL_change_160 : At cL_change 160 (.invokestatic 17) 3 163 := ⟨by decide +kernel, rfl⟩
theorem dL_change_163 : At cL_change 163 (.aload_n 3) 1 164 := ⟨by decide +kernel, rfl⟩
theorem dL_change_164 : At cL_change 164 (.invokestatic 41) 3 167 := ⟨by decide +kernel, rfl⟩
theorem dL_change_167 : At cL_change 167 (.iinc 4 1) 3 170 := ⟨by decide +kernel, rfl⟩
theorem dL_change_170 : Br cL_change 170 .goto 173 7 := ⟨(-163), by decide +kernel, rfl, by decide⟩
theorem dL_change_173 : At cL_change 173 (.return_) 1 174 := ⟨by decide +kernel, rfl⟩
theorem dL_isSwapped_0 : At cL_isSwapped 0 (.bipush 64) 2 2 := ⟨by decide +kernel, rfl⟩
theorem dL_isSwapped_2 : At cL_isSwapped 2 (.newarray .int) 2 4 := ⟨by decide +kernel, rfl⟩
theorem dL_isSwapped_4 : At cL_isSwapped 4 (.astore_n 3) 1 5 := ⟨by decide +kernel, rfl⟩
theorem dL_isSwapped_5 : At cL_isSwapped 5 (.bipush 64) 2 7 := ⟨by decide +kernel, rfl⟩
theorem dL_isSwapped_7 : At cL_isSwapped 7 (.newarray .int) 2 9 := ⟨by decide +kernel, rfl⟩
theorem dL_isSwapped_9 : At cL_isSwapped 9 (.astore 4) 2 11 := ⟨by decide +kernel, rfl⟩
theorem dL_isSwapped_11 : At cL_isSwapped 11 (.bipush 64) 2 13 := ⟨by decide +kernel, rfl⟩
theorem dL_isSwapped_13 : At cL_isSwapped 13 (.newarray .int) 2 15 := ⟨by decide +kernel, rfl⟩
theorem dL_isSwapped_15 : At cL_isSwapped 15 (.astore 5) 2 17 := ⟨by decide +kernel, rfl⟩
theorem dL_isSwapped_17 : At cL_isSwapped 17 (.iconst 0) 1 18 := ⟨by decide +kernel, rfl⟩
theorem dL_isSwapped_18 : At cL_isSwapped 18 (.istore 6) 2 20 := ⟨by decide +kernel, rfl⟩
theorem dL_isSwapped_20 : At cL_isSwapped 20 (.iconst 0) 1 21 := ⟨by decide +kernel, rfl⟩
theorem dL_isSwapped_21 : At cL_isSwapped 21 (.istore 7) 2 23 := ⟨by decide +kernel, rfl⟩
theorem dL_isSwapped_23 : At cL_isSwapped 23 (.iload 7) 2 25 := ⟨by decide +kernel, rfl⟩
theorem dL_isSwapped_25 : At cL_isSwapped 25 (.iconst 4) 1 26 := ⟨by decide +kernel, rfl⟩
theorem dL_isSwapped_26 : Br cL_isSwapped 26 (.if_icmp .ge) 29 81 := ⟨(55), by decide +kernel, rfl, by decide⟩
theorem dL_isSwapped_29 : At cL_isSwapped 29 (.aload_n 0) 1 30 := ⟨by decide +kernel, rfl⟩
theorem dL_isSwapped_30 : At cL_isSwapped 30 (.iload 7) 2 32 := ⟨by decide +kernel, rfl⟩
theorem dL_isSwapped_32 : At cL_isSwapped 32 (.aload_n 3) 1 33 := ⟨by decide +kernel, rfl⟩
theorem dL_isSwapped_33 : At cL_isSwapped 33 (.invokestatic 31) 3 36 := ⟨by decide +kernel, rfl⟩
theorem dL_isSwapped_36 : At cL_isSwapped 36 (.aload_n 3) 1 37 := ⟨by decide +kernel, rfl⟩
theorem dL_isSwapped_37 : At cL_isSwapped 37 (.iconst 0) 1 38 := ⟨by decide +kernel, rfl⟩
theorem dL_isSwapped_38 : At cL_isSwapped 38 (.iaload) 1 39 := ⟨by decide +kernel, rfl⟩
theorem dL_isSwapped_39 : At cL_isSwapped 39 (.bipush 20) 2 41 := ⟨by decide +kernel, rfl⟩
theorem dL_isSwapped_41 : Br cL_isSwapped 41 (.if_icmp .le) 44 46 := ⟨(5), by decide +kernel, rfl, by decide⟩
theorem dL_isSwapped_44 : At cL_isSwapped 44 (.iconst 1) 1 45 := ⟨by decide +kernel, rfl⟩
theorem dL_isSwapped_45 : At cL_isSwapped 45 (.ireturn) 1 46 := ⟨by decide +kernel, rfl⟩
theorem dL_isSwapped_46 : At cL_isSwapped 46 (.aload_n 3) 1 47 := ⟨by decide +kernel, rfl⟩
theorem dL_isSwapped_47 : At cL_isSwapped 47 (.iload_n 1) 1 48 := ⟨by decide +kernel, rfl⟩
theorem dL_isSwapped_48 : At cL_isSwapped 48 (.iload_n 2) 1 49 := ⟨by decide +kernel, rfl⟩
theorem dL_isSwapped_49 : At cL_isSwapped 49 (.aload 4) 2 51 := ⟨by decide +kernel, rfl⟩
theorem dL_isSwapped_51 : At cL_isSwapped 51 (.invokestatic 86) 3 54 := ⟨by decide +kernel, rfl⟩
theorem dL_isSwapped_54 : At cL_isSwapped 54 (.iload 6) 2 56 := ⟨by decide +kernel, rfl⟩
theorem dL_isSwapped_56 : At cL_isSwapped 56 (.aload 4) 2 58 := ⟨by decide +kernel, rfl⟩
theorem dL_isSwapped_58 : At cL_isSwapped 58 (.iconst 0) 1 59 := ⟨by decide +kernel, rfl⟩
theorem dL_isSwapped_59 : At cL_isSwapped 59 (.iaload) 1 60 := ⟨by decide +kernel, rfl⟩
theorem dL_isSwapped_60 : At cL_isSwapped 60 (.iadd) 1 61 := ⟨by decide +kernel, rfl⟩
theorem dL_isSwapped_61 : At cL_isSwapped 61 (.istore 6) 2 63 := ⟨by decide +kernel, rfl⟩
theorem dL_isSwapped_63 : At cL_isSwapped 63 (.iload 7) 2 65 := ⟨by decide +kernel, rfl⟩
theorem dL_isSwapped_65 : Br cL_isSwapped 65 (.ifCond .ne) 68 75 := ⟨(10), by decide +kernel, rfl, by decide⟩
theorem dL_isSwapped_68 : At cL_isSwapped 68 (.aload 4) 2 70 := ⟨by decide +kernel, rfl⟩
theorem dL_isSwapped_70 : At cL_isSwapped 70 (.aload 5) 2 72 := ⟨by decide +kernel, rfl⟩
theorem dL_isSwapped_72 : At cL_isSwapped 72 (.invokestatic 82) 3 75 := ⟨by decide +kernel, rfl⟩
theorem dL_isSwapped_75 : At cL_isSwapped 75 (.iinc 7 1) 3 78 := ⟨by decide +kernel, rfl⟩
theorem dL_isSwapped_78 : Br cL_isSwapped 78 .goto 81 23 := ⟨(-55), by decide +kernel, rfl, by decide⟩
theorem dL_isSwapped_81 : At cL_isSwapped 81 (.aload_n 0) 1 82 := ⟨by decide +kernel, rfl⟩
theorem dL_isSwapped_82 : At cL_isSwapped 82 (.iload_n 1) 1 83 := ⟨by decide +kernel, rfl⟩
theorem dL_isSwapped_83 : At cL_isSwapped 83 (.iload_n 2) 1 84 := ⟨by decide +kernel, rfl⟩
theorem dL_isSwapped_84 : At cL_isSwapped 84 (.invokevirtual 90) 3 87 := ⟨by decide +kernel, rfl⟩
theorem dL_isSwapped_87 : At cL_isSwapped 87 (.iload 6) 2 89 := ⟨by decide +kernel, rfl⟩
theorem dL_isSwapped_89 : Br cL_isSwapped 89 (.if_icmp .ne) 92 128 := ⟨(39), by decide +kernel, rfl, by decide⟩
theorem dL_isSwapped_92 : At cL_isSwapped 92 (.aload_n 0) 1 93 := ⟨by decide +kernel, rfl⟩
theorem dL_isSwapped_93 : At cL_isSwapped 93 (.iload_n 1) 1 94 := ⟨by decide +kernel, rfl⟩
theorem dL_isSwapped_94 : At cL_isSwapped 94 (.iload_n 2) 1 95 := ⟨by decide +kernel, rfl⟩
theorem dL_isSwapped_95 : At cL_isSwapped 95 (.invokevirtual 93) 3 98 := ⟨by decide +kernel, rfl⟩
theorem dL_isSwapped_98 : At cL_isSwapped 98 (.iload 6) 2 100 := ⟨by decide +kernel, rfl⟩
theorem dL_isSwapped_100 : Br cL_isSwapped 100 (.if_icmp .ne) 103 128 := ⟨(28), by decide +kernel, rfl, by decide⟩
theorem dL_isSwapped_103 : At cL_isSwapped 103 (.aload_n 0) 1 104 := ⟨by decide +kernel, rfl⟩
theorem dL_isSwapped_104 : At cL_isSwapped 104 (.bipush 6) 2 106 := ⟨by decide +kernel, rfl⟩
theorem dL_isSwapped_106 : At cL_isSwapped 106 (.invokevirtual 35) 3 109 := ⟨by decide +kernel, rfl⟩
theorem dL_isSwapped_109 : At cL_isSwapped 109 (.iload 6) 2 111 := ⟨by decide +kernel, rfl⟩
theorem dL_isSwapped_111 : Br cL_isSwapped 111 (.if_icmp .ne) 114 128 := ⟨(17), by decide +kernel, rfl, by decide⟩
theorem dL_isSwapped_114 : At cL_isSwapped 114 (.aload_n 0) 1 115 := ⟨by decide +kernel, rfl⟩
theorem dL_isSwapped_115 : At cL_isSwapped 115 (.iconst 0) 1 116 := ⟨by decide +kernel, rfl⟩
theorem dL_isSwapped_116 : At cL_isSwapped 116 (.aload 5) 2 118 := ⟨by decide +kernel, rfl⟩
theorem dL_isSwapped_118 : At cL_isSwapped 118 (.invokestatic 62) 3 121 := ⟨by decide +kernel, rfl⟩
theorem dL_isSwapped_121 : Br cL_isSwapped 121 (.ifCond .eq) 124 128 := ⟨(7), by decide +kernel, rfl, by decide⟩
theorem dL_isSwapped_124 : At cL_isSwapped 124 (.iconst 1) 1 125 := ⟨by decide +kernel, rfl⟩
theorem dL_isSwapped_125 : Br cL_isSwapped 125 .goto 128 129 := ⟨(4), by decide +kernel, rfl, by decide⟩
theorem dL_isSwapped_128 : At cL_isSwapped 128 (.iconst 0) 1 129 := ⟨by decide +kernel, rfl⟩
theorem dL_isSwapped_129 : At cL_isSwapped 129 (.ireturn) 1 130 := ⟨by decide +kernel, rfl⟩
theorem dL_isAct_0 : At cL_isAct 0 (.aload_n 1) 1 1 := ⟨by decide +kernel, rfl⟩
theorem dL_isAct_1 : At cL_isAct 1 (.iload_n 2) 1 2 := ⟨by decide +kernel, rfl⟩
theorem dL_isAct_2 : At cL_isAct 2 (.iconst 1) 1 3 := ⟨by decide +kernel, rfl⟩
theorem dL_isAct_3 : At cL_isAct 3 (.iadd) 1 4 := ⟨by decide +kernel, rfl⟩
theorem dL_isAct_4 : At cL_isAct 4 (.iconst 4) 1 5 := ⟨by decide +kernel, rfl⟩
theorem dL_isAct_5 : At cL_isAct 5 (.invokestatic 96) 3 8 := ⟨by decide +kernel, rfl⟩
theorem dL_isAct_8 : At cL_isAct 8 (.istore_n 3) 1 9 := ⟨by decide +kernel, rfl⟩
theorem dL_isAct_9 : At cL_isAct 9 (.aload_n 1) 1 10 := ⟨by decide +kernel, rfl⟩
theorem dL_isAct_10 : At cL_isAct 10 (.iload_n 2) 1 11 := ⟨by decide +kernel, rfl⟩
theorem dL_isAct_11 : At cL_isAct 11 (.iconst 2) 1 12 := ⟨by decide +kernel, rfl⟩
theorem dL_isAct_12 : At cL_isAct 12 (.iadd) 1 13 := ⟨by decide +kernel, rfl⟩
theorem dL_isAct_13 : At cL_isAct 13 (.iconst 4) 1 14 := ⟨by decide +kernel, rfl⟩
theorem dL_isAct_14 : At cL_isAct 14 (.invokestatic 96) 3 17 := ⟨by decide +kernel, rfl⟩
theorem dL_isAct_17 : At cL_isAct 17 (.istore 4) 2 19 := ⟨by decide +kernel, rfl⟩
theorem dL_isAct_19 : At cL_isAct 19 (.aload_n 1) 1 20 := ⟨by decide +kernel, rfl⟩
theorem dL_isAct_20 : At cL_isAct 20 (.iload_n 2) 1 21 := ⟨by decide +kernel, rfl⟩
theorem dL_isAct_21 : At cL_isAct 21 (.bipush 14) 2 23 := ⟨by decide +kernel, rfl⟩
theorem dL_isAct_23 : At cL_isAct 23 (.invokestatic 96) 3 26 := ⟨by decide +kernel, rfl⟩
theorem dL_isAct_26 : decode cL_isAct 26 = .ok (.tableswitch 239 0 10 #[58, 58, 58, 58, 132, 149, 149, 155, 163, 169, 177], 58) := by decide +kernel
theorem dL_isAct_84 : At cL_isAct 84 (.aload_n 1) 1 85 := ⟨by decide +kernel, rfl⟩
theorem dL_isAct_85 : At cL_isAct 85 (.iload_n 2) 1 86 := ⟨by decide +kernel, rfl⟩
theorem dL_isAct_86 : At cL_isAct 86 (.iconst 2) 1 87 := ⟨by decide +kernel, rfl⟩
theorem dL_isAct_87 : At cL_isAct 87 (.iadd) 1 88 := ⟨by decide +kernel, rfl⟩
theorem dL_isAct_88 : At cL_isAct 88 (.aload_n 1) 1 89 := ⟨by decide +kernel, rfl⟩
theorem dL_isAct_89 : At cL_isAct 89 (.iload_n 2) 1 90 := ⟨by decide +kernel, rfl⟩
theorem dL_isAct_90 : At cL_isAct 90 (.iconst 3) 1 91 := ⟨by decide +kernel, rfl⟩
theorem dL_isAct_91 : At cL_isAct 91 (.iadd) 1 92 := ⟨by decide +kernel, rfl⟩
theorem dL_isAct_92 : At cL_isAct 92 (.iconst 2) 1 93 := ⟨by decide +kernel, rfl⟩
theorem dL_isAct_93 : At cL_isAct 93 (.invokestatic 96) 3 96 := ⟨by decide +kernel, rfl⟩
theorem dL_isAct_96 : Br cL_isAct 96 (.ifCond .ne) 99 104 := ⟨(8), by decide +kernel, rfl, by decide⟩
theorem dL_isAct_99 : At cL_isAct 99 (.bipush 12) 2 101 := ⟨by decide +kernel, rfl⟩
theorem dL_isAct_101 : Br cL_isAct 101 .goto 104 105 := ⟨(4), by decide +kernel, rfl, by decide⟩
theorem dL_isAct_104 : At cL_isAct 104 (.iconst 2) 1 105 := ⟨by decide +kernel, rfl⟩
theorem dL_isAct_105 : At cL_isAct 105 (.invokestatic 96) 3 108 := ⟨by decide +kernel, rfl⟩
theorem dL_isAct_108 : At cL_isAct 108 (.aload_n 1) 1 109 := ⟨by decide +kernel, rfl⟩
theorem dL_isAct_109 : At cL_isAct 109 (.iload_n 2) 1 110 := ⟨by decide +kernel, rfl⟩
theorem dL_isAct_110 : At cL_isAct 110 (.iconst 4) 1 111 := ⟨by decide +kernel, rfl⟩
theorem dL_isAct_111 : At cL_isAct 111 (.iadd) 1 112 := ⟨by decide +kernel, rfl⟩
theorem dL_isAct_112 : At cL_isAct 112 (.iconst 3) 1 113 := ⟨by decide +kernel, rfl⟩
theorem dL_isAct_113 : At cL_isAct 113 (.invokestatic 96) 3 116 := ⟨by decide +kernel, rfl⟩
theorem dL_isAct_116 : Br cL_isAct 116 (.ifCond .ne) 119 124 := ⟨(8), by decide +kernel, rfl, by decide⟩
theorem dL_isAct_119 : At cL_isAct 119 (.bipush 6) 2 121 := ⟨by decide +kernel, rfl⟩
theorem dL_isAct_121 : Br cL_isAct 121 .goto 124 125 := ⟨(4), by decide +kernel, rfl, by decide⟩
theorem dL_isAct_124 : At cL_isAct 124 (.iconst 1) 1 125 := ⟨by decide +kernel, rfl⟩
theorem dL_isAct_125 : At cL_isAct 125 (.imul) 1 126 := ⟨by decide +kernel, rfl⟩
theorem dL_isAct_126 : At cL_isAct 126 (.bipush 12) 2 128 := ⟨by decide +kernel, rfl⟩
theorem dL_isAct_128 : At cL_isAct 128 (.irem) 1 129 := ⟨by decide +kernel, rfl⟩
theorem dL_isAct_129 : At cL_isAct 129 (.istore 5) 2 131 := ⟨by decide +kernel, rfl⟩
theorem dL_isAct_131 : At cL_isAct 131 (.aload_n 0) 1 132 := ⟨by decide +kernel, rfl⟩
theorem dL_isAct_132 : At cL_isAct 132 (.iload_n 3) 1 133 := ⟨by decide +kernel, rfl⟩
theorem dL_isAct_133 : At cL_isAct 133 (.iconst 0) 1 134 := ⟨by decide +kernel, rfl⟩
theorem dL_isAct_134 : At cL_isAct 134 (.invokevirtual 8) 3 137 := ⟨by decide +kernel, rfl⟩
theorem dL_isAct_137 : At cL_isAct 137 (.bipush 24) 2 139 := ⟨by decide +kernel, rfl⟩
theorem dL_isAct_139 : Br cL_isAct 139 (.if_icmp .gt) 142 152 := ⟨(13), by decide +kernel, rfl, by decide⟩
theorem dL_isAct_142 : At cL_isAct 142 (.aload_n 0) 1 143 := ⟨by decide +kernel, rfl⟩
theorem dL_isAct_143 : At cL_isAct 143 (.iload_n 3) 1 144 := ⟨by decide +kernel, rfl⟩
theorem dL_isAct_144 : At cL_isAct 144 (.iload 5) 2 146 := ⟨by decide +kernel, rfl⟩
theorem dL_isAct_146 : At cL_isAct 146 (.invokestatic 100) 3 149 := ⟨by decide +kernel, rfl⟩
theorem dL_isAct_149 : Br cL_isAct 149 (.ifCond .eq) 152 156 := ⟨(7), by decide +kernel, rfl, by decide⟩
theorem dL_isAct_152 : At cL_isAct 152 (.iconst 1) 1 153 := ⟨by decide +kernel, rfl⟩
theorem dL_isAct_153 : Br cL_isAct 153 .goto 156 157 := ⟨(4), by decide +kernel, rfl, by decide⟩
theorem dL_isAct_156 : At cL_isAct 156 (.iconst 0) 1 157 := ⟨by decide +kernel, rfl⟩
theorem dL_isAct_157 : At cL_isAct 157 (.ireturn) 1 158 := ⟨by decide +kernel, rfl⟩
theorem dL_isAct_158 : At cL_isAct 158 (.aload_n 0) 1 159 := ⟨by decide +kernel, rfl⟩
theorem dL_isAct_159 : At cL_isAct 159 (.iload_n 3) 1 160 := ⟨by decide +kernel, rfl⟩
theorem dL_isAct_160 : At cL_isAct 160 (.iconst 1) 1 161 := ⟨by decide +kernel, rfl⟩
theorem dL_isAct_161 : At cL_isAct 161 (.aload_n 1) 1 162 := ⟨by decide +kernel, rfl⟩
theorem dL_isAct_162 : At cL_isAct 162 (.iload_n 2) 1 163 := ⟨by decide +kernel, rfl⟩
theorem dL_isAct_163 : At cL_isAct 163 (.iconst 2) 1 164 := ⟨by decide +kernel, rfl⟩
theorem dL_isAct_164 : At cL_isAct 164 (.iadd) 1 165 := ⟨by decide +kernel, rfl⟩
theorem dL_isAct_165 : At cL_isAct 165 (.bipush 9) 2 167 := ⟨by decide +kernel, rfl⟩
theorem dL_isAct_167 : At cL_isAct 167 (.invokestatic 96) 3 170 := ⟨by decide +kernel, rfl⟩
theorem dL_isAct_170 : At cL_isAct 170 (.iadd) 1 171 := ⟨by decide +kernel, rfl⟩
theorem dL_isAct_171 : At cL_isAct 171 (.invokestatic 104) 3 174 := ⟨by decide +kernel, rfl⟩
theorem dL_isAct_174 : At cL_isAct 174 (.ireturn) 1 175 := ⟨by decide +kernel, rfl⟩
theorem dL_isAct_175 : At cL_isAct 175 (.aload_n 0) 1 176 := ⟨by decide +kernel, rfl⟩
theorem dL_isAct_176 : At cL_isAct 176 (.iload_n 3) 1 177 := ⟨by decide +kernel, rfl⟩
theorem dL_isAct_177 : At cL_isAct 177 (.invokestatic 107) 3 180 := ⟨by decide +kernel, rfl⟩
theorem dL_isAct_180 : At cL_isAct 180 (.ireturn) 1 181 := ⟨by decide +kernel, rfl⟩
theorem dL_isAct_181 : At cL_isAct 181 (.aload_n 0) 1 182 := ⟨by decide +kernel, rfl⟩
theorem dL_isAct_182 : At cL_isAct 182 (.iload_n 3) 1 183 := ⟨by decide +kernel, rfl⟩
theorem dL_isAct_183 : At cL_isAct 183 (.iload 4) 2 185 := ⟨by decide +kernel, rfl⟩
theorem dL_isAct_185 : At cL_isAct 185 (.invokestatic 110) 3 188 := ⟨by decide +kernel, rfl⟩
theorem dL_isAct_188 : At cL_isAct 188 (.ireturn) 1 189 := ⟨by decide +kernel, rfl⟩
theorem dL_isAct_189 : At cL_isAct 189 (.aload_n 0) 1 190 := ⟨by decide +kernel, rfl⟩
theorem dL_isAct_190 : At cL_isAct 190 (.iload_n 3) 1 191 := ⟨by decide +kernel, rfl⟩
theorem dL_isAct_191 : At cL_isAct 191 (.invokestatic 113) 3 194 := ⟨by decide +kernel, rfl⟩
theorem dL_isAct_194 : At cL_isAct 194 (.ireturn) 1 195 := ⟨by decide +kernel, rfl⟩
theorem dL_isAct_195 : At cL_isAct 195 (.aload_n 0) 1 196 := ⟨by decide +kernel, rfl⟩
theorem dL_isAct_196 : At cL_isAct 196 (.iload_n 3) 1 197 := ⟨by decide +kernel, rfl⟩
theorem dL_isAct_197 : At cL_isAct 197 (.iload 4) 2 199 := ⟨by decide +kernel, rfl⟩
theorem dL_isAct_199 : At cL_isAct 199 (.invokestatic 116) 3 202 := ⟨by decide +kernel, rfl⟩
theorem dL_isAct_202 : At cL_isAct 202 (.ireturn) 1 203 := ⟨by decide +kernel, rfl⟩
theorem dL_isAct_203 : At cL_isAct 203 (.aload_n 1) 1 204 := ⟨by decide +kernel, rfl⟩
theorem dL_isAct_204 : At cL_isAct 204 (.iload_n 2) 1 205 := ⟨by decide +kernel, rfl⟩
theorem dL_isAct_205 : At cL_isAct 205 (.iconst 2) 1 206 := ⟨by decide +kernel, rfl⟩
theorem dL_isAct_206 : At cL_isAct 206 (.iadd) 1 207 := ⟨by decide +kernel, rfl⟩
theorem dL_isAct_207 : At cL_isAct 207 (.bipush 6) 2 209 := ⟨by decide +kernel, rfl⟩
theorem dL_isAct_209 : At cL_isAct 209 (.invokestatic 96) 3 212 := ⟨by decide +kernel, rfl⟩
theorem dL_isAct_212 : At cL_isAct 212 (.istore 6) 2 214 := ⟨by decide +kernel, rfl⟩
theorem dL_isAct_214 : At cL_isAct 214 (.aload_n 0) 1 215 := ⟨by decide +kernel, rfl⟩
theorem dL_isAct_215 : At cL_isAct 215 (.iload 6) 2 217 := ⟨by decide +kernel, rfl⟩
theorem dL_isAct_217 : At cL_isAct 217 (.invokevirtual 35) 3 220 := ⟨by decide +kernel, rfl⟩
theorem dL_isAct_220 : At cL_isAct 220 (.istore 7) 2 222 := ⟨by decide +kernel, rfl⟩
theorem dL_isAct_222 : At cL_isAct 222 (.iconst 1) 1 223 := ⟨by decide +kernel, rfl⟩
theorem dL_isAct_223 : At cL_isAct 223 (.aload_n 1) 1 224 := ⟨by decide +kernel, rfl⟩
theorem dL_isAct_224 : At cL_isAct 224 (.iload_n 2) 1 225 := ⟨by decide +kernel, rfl⟩
theorem dL_isAct_225 : At cL_isAct 225 (.iconst 3) 1 226 := ⟨by decide +kernel, rfl⟩
theorem dL_isAct_226 : At cL_isAct 226 (.iadd) 1 227 := ⟨by decide +kernel, rfl⟩
theorem dL_isAct_227 : At cL_isAct 227 (.bipush 99) 2 229 := ⟨by decide +kernel, rfl⟩
theorem dL_isAct_229 : At cL_isAct 229 (.invokestatic 96) 3 232 := ⟨by decide +kernel, rfl⟩
theorem dL_isAct_232 : At cL_isAct 232 (.iadd) 1 233 := ⟨by decide +kernel, rfl⟩
theorem dL_isAct_233 : At cL_isAct 233 (.istore 8) 2 235 := ⟨by decide +kernel, rfl⟩
theorem dL_isAct_235 : At cL_isAct 235 (.aload_n 0) 1 236 := ⟨by decide +kernel, rfl⟩
theorem dL_isAct_236 : At cL_isAct 236 (.iload 6) 2 238 := ⟨by decide +kernel, rfl⟩
theorem dL_isAct_238 : At cL_isAct 238 (.iload 8) 2 240 := ⟨by decide +kernel, rfl⟩
theorem dL_isAct_240 : At cL_isAct 240 (.invokevirtual 119) 3 243 := ⟨by decide +kernel, rfl⟩
theorem dL_isAct_243 : At cL_isAct 243 (.iload 7) 2 245 := ⟨by decide +kernel, rfl⟩
theorem dL_isAct_245 : Br cL_isAct 245 (.if_icmp .ne) 248 263 := ⟨(18), by decide +kernel, rfl, by decide⟩
theorem dL_isAct_248 : At cL_isAct 248 (.aload_n 0) 1 249 := ⟨by decide +kernel, rfl⟩
theorem dL_isAct_249 : At cL_isAct 249 (.iload 6) 2 251 := ⟨by decide +kernel, rfl⟩
theorem dL_isAct_251 : At cL_isAct 251 (.invokevirtual 35) 3 254 := ⟨by decide +kernel, rfl⟩
theorem dL_isAct_254 : At cL_isAct 254 (.iload 8) 2 256 := ⟨by decide +kernel, rfl⟩
theorem dL_isAct_256 : Br cL_isAct 256 (.if_icmp .ne) 259 263 := ⟨(7), by decide +kernel, rfl, by decide⟩
theorem dL_isAct_259 : At cL_isAct 259 (.iconst 1) 1 260 := ⟨by decide +kernel, rfl⟩
theorem dL_isAct_260 : Br cL_isAct 260 .goto 263 264 := ⟨(4), by decide +kernel, rfl, by decide⟩
theorem dL_isAct_263 : At cL_isAct 263 (.iconst 0) 1 264 := ⟨by decide +kernel, rfl⟩
theorem dL_isAct_264 : At cL_isAct 264 (.ireturn) 1 265 := ⟨by decide +kernel, rfl⟩
theorem dL_isAct_265 : At cL_isAct 265 (.aload_n 0) 1 266 := ⟨by decide +kernel, rfl⟩
theorem dL_isAct_266 : At cL_isAct 266 (.aload_n 1) 1 267 := ⟨by decide +kernel, rfl⟩
theorem dL_isAct_267 : At cL_isAct 267 (.iload_n 2) 1 268 := ⟨by decide +kernel, rfl⟩
theorem dL_isAct_268 : At cL_isAct 268 (.iconst 2) 1 269 := ⟨by decide +kernel, rfl⟩
theorem dL_isAct_269 : At cL_isAct 269 (.iadd) 1 270 := ⟨by decide +kernel, rfl⟩
theorem dL_isAct_270 : At cL_isAct 270 (.aload_n 1) 1 271 := ⟨by decide +kernel, rfl⟩
theorem dL_isAct_271 : At cL_isAct 271 (.iload_n 2) 1 272 := ⟨by decide +kernel, rfl⟩
theorem dL_isAct_272 : At cL_isAct 272 (.iconst 3) 1 273 := ⟨by decide +kernel, rfl⟩
theorem dL_isAct_273 : At cL_isAct 273 (.iadd) 1 274 := ⟨by decide +kernel, rfl⟩
theorem dL_isAct_274 : At cL_isAct 274 (.iconst 2) 1 275 := ⟨by decide +kernel, rfl⟩
theorem dL_isAct_275 : At cL_isAct 275 (.invokestatic 96) 3 278 := ⟨by decide +kernel, rfl⟩
theorem dL_isAct_278 : Br cL_isAct 278 (.ifCond .ne) 281 285 := ⟨(7), by decide +kernel, rfl, by decide⟩
theorem dL_isAct_281 : At cL_isAct 281 (.iconst 5) 1 282 := ⟨by decide +kernel, rfl⟩
theorem dL_isAct_282 : Br cL_isAct 282 .goto 285 286 := ⟨(4), by decide +kernel, rfl, by decide⟩
theorem dL_isAct_285 : At cL_isAct 285 (.iconst 1) 1 286 := ⟨by decide +kernel, rfl⟩
theorem dL_isAct_286 : At cL_isAct 286 (.invokestatic 96) 3 289 := ⟨by decide +kernel, rfl⟩
theorem dL_isAct_289 : At cL_isAct 289 (.aload_n 1) 1 290 := ⟨by decide +kernel, rfl⟩
theorem dL_isAct_290 : At cL_isAct 290 (.iload_n 2) 1 291 := ⟨by decide +kernel, rfl⟩
theorem dL_isAct_291 : At cL_isAct 291 (.iconst 3) 1 292 := ⟨by decide +kernel, rfl⟩
theorem dL_isAct_292 : At cL_isAct 292 (.iadd) 1 293 := ⟨by decide +kernel, rfl⟩
theorem dL_isAct_293 : At cL_isAct 293 (.iconst 2) 1 294 := ⟨by decide +kernel, rfl⟩
theorem dL_isAct_294 : At cL_isAct 294 (.invokestatic 96) 3 297 := ⟨by decide +kernel, rfl⟩
theorem dL_isAct_297 : At cL_isAct 297 (.invokestatic 122) 3 300 := ⟨by decide +kernel, rfl⟩
theorem dL_isAct_300 : At cL_isAct 300 (.ireturn) 1 301 := ⟨by decide +kernel, rfl⟩
theorem dL_law_0 : At cL_law 0 (.new 9) 3 3 := ⟨by decide +kernel, rfl⟩
theorem dL_law_3 : At cL_law 3 (.dup) 1 4 := ⟨by decide +kernel, rfl⟩
theorem dL_law_4 : At cL_law 4 (.invokespecial 125) 3 7 := ⟨by decide +kernel, rfl⟩
theorem dL_law_7 : At cL_law 7 (.astore_n 1) 1 8 := ⟨by decide +kernel, rfl⟩
theorem dL_law_8 : At cL_law 8 (.iconst 0) 1 9 := ⟨by decide +kernel, rfl⟩
theorem dL_law_9 : At cL_law 9 (.istore_n 2) 1 10 := ⟨by decide +kernel, rfl⟩
theorem dL_law_10 : At cL_law 10 (.iload_n 2) 1 11 := ⟨by decide +kernel, rfl⟩
theorem dL_law_11 : At cL_law 11 (.bipush 16) 2 13 := ⟨by decide +kernel, rfl⟩
theorem dL_law_13 : Br cL_law 13 (.if_icmp .ge) 16 55 := ⟨(42), by decide +kernel, rfl, by decide⟩
theorem dL_law_16 : At cL_law 16 (.aload_n 1) 1 17 := ⟨by decide +kernel, rfl⟩
theorem dL_law_17 : At cL_law 17 (.iload_n 2) 1 18 := ⟨by decide +kernel, rfl⟩
theorem dL_law_18 : At cL_law 18 (.iconst 3) 1 19 := ⟨by decide +kernel, rfl⟩
theorem dL_law_19 : At cL_law 19 (.irem) 1 20 := ⟨by decide +kernel, rfl⟩
theorem dL_law_20 : At cL_law 20 (.aload_n 0) 1 21 := ⟨by decide +kernel, rfl⟩
theorem dL_law_21 : At cL_law 21 (.iload_n 2) 1 22 := ⟨by decide +kernel, rfl⟩
theorem dL_law_22 : At cL_law 22 (.aload_n 0) 1 23 := ⟨by decide +kernel, rfl⟩
theorem dL_law_23 : At cL_law 23 (.bipush 16) 2 25 := ⟨by decide +kernel, rfl⟩
theorem dL_law_25 : At cL_law 25 (.iconst 2) 1 26 := ⟨by decide +kernel, rfl⟩
theorem dL_law_26 : At cL_law 26 (.invokestatic 96) 3 29 := ⟨by decide +kernel, rfl⟩
theorem dL_law_29 : Br cL_law 29 (.ifCond .ne) 32 37 := ⟨(8), by decide +kernel, rfl, by decide⟩
theorem dL_law_32 : At cL_law 32 (.bipush 12) 2 34 := ⟨by decide +kernel, rfl⟩
theorem dL_law_34 : Br cL_law 34 .goto 37 38 := ⟨(4), by decide +kernel, rfl, by decide⟩
theorem dL_law_37 : At cL_law 37 (.iconst 3) 1 38 := ⟨by decide +kernel, rfl⟩
theorem dL_law_38 : At cL_law 38 (.invokestatic 96) 3 41 := ⟨by decide +kernel, rfl⟩
theorem dL_law_41 : At cL_law 41 (.invokestatic 100) 3 44 := ⟨by decide +kernel, rfl⟩
theorem dL_law_44 : Br cL_law 44 (.ifCond .ne) 47 49 := ⟨(5), by decide +kernel, rfl, by decide⟩
theorem dL_law_47 : At cL_law 47 (.iconst 0) 1 48 := ⟨by decide +kernel, rfl⟩
theorem dL_law_48 : At cL_law 48 (.ireturn) 1 49 := ⟨by decide +kernel, rfl⟩
theorem dL_law_49 : At cL_law 49 (.iinc 2 1) 3 52 := ⟨by decide +kernel, rfl⟩
theorem dL_law_52 : Br cL_law 52 .goto 55 10 := ⟨(-42), by decide +kernel, rfl, by decide⟩
theorem dL_law_55 : At cL_law 55 (.iconst 0) 1 56 := ⟨by decide +kernel, rfl⟩
theorem dL_law_56 : At cL_law 56 (.istore_n 2) 1 57 := ⟨by decide +kernel, rfl⟩
theorem dL_law_57 : At cL_law 57 (.iload_n 2) 1 58 := ⟨by decide +kernel, rfl⟩
theorem dL_law_58 : At cL_law 58 (.bipush 30) 2 60 := ⟨by decide +kernel, rfl⟩
theorem dL_law_60 : Br cL_law 60 (.if_icmp .ge) 63 92 := ⟨(32), by decide +kernel, rfl, by decide⟩
theorem dL_law_63 : At cL_law 63 (.aload_n 1) 1 64 := ⟨by decide +kernel, rfl⟩
theorem dL_law_64 : At cL_law 64 (.invokestatic 126) 3 67 := ⟨by decide +kernel, rfl⟩
theorem dL_law_67 : Br cL_law 67 (.ifCond .eq) 70 84 := ⟨(17), by decide +kernel, rfl, by decide⟩
theorem dL_law_70 : At cL_law 70 (.aload_n 1) 1 71 := ⟨by decide +kernel, rfl⟩
theorem dL_law_71 : At cL_law 71 (.aload_n 0) 1 72 := ⟨by decide +kernel, rfl⟩
theorem dL_law_72 : At cL_law 72 (.bipush 17) 2 74 := ⟨by decide +kernel, rfl⟩
theorem dL_law_74 : At cL_law 74 (.iconst 5) 1 75 := ⟨by decide +kernel, rfl⟩
theorem dL_law_75 : At cL_law 75 (.iload_n 2) 1 76 := ⟨by decide +kernel, rfl⟩
theorem dL_law_76 : At cL_law 76 (.imul) 1 77 := ⟨by decide +kernel, rfl⟩
theorem dL_law_77 : At cL_law 77 (.iadd) 1 78 := ⟨by decide +kernel, rfl⟩
theorem dL_law_78 : At cL_law 78 (.invokestatic 130) 3 81 := ⟨by decide +kernel, rfl⟩
theorem dL_law_81 : Br cL_law 81 (.ifCond .ne) 84 86 := ⟨(5), by decide +kernel, rfl, by decide⟩
theorem dL_law_84 : At cL_law 84 (.iconst 0) 1 85 := ⟨by decide +kernel, rfl⟩
theorem dL_law_85 : At cL_law 85 (.ireturn) 1 86 := ⟨by decide +kernel, rfl⟩
theorem dL_law_86 : At cL_law 86 (.iinc 2 1) 3 89 := ⟨by decide +kernel, rfl⟩
theorem dL_law_89 : Br cL_law 89 .goto 92 57 := ⟨(-32), by decide +kernel, rfl, by decide⟩
theorem dL_law_92 : At cL_law 92 (.aload_n 1) 1 93 := ⟨by decide +kernel, rfl⟩
theorem dL_law_93 : At cL_law 93 (.invokestatic 126) 3 96 := ⟨by decide +kernel, rfl⟩
theorem dL_law_96 : At cL_law 96 (.ireturn) 1 97 := ⟨by decide +kernel, rfl⟩
theorem iL_125 : lkI RL 125 μX5_init 0 := ⟨tb_of 17 (by decide +kernel) (by decide +kernel), tb_of 18 (by decide +kernel) (by decide +kernel), tb_of 8 (by decide +kernel) (by decide +kernel), tb_of 19 (by decide +kernel) (by decide +kernel), ⟨by decide, by decide, by decide +kernel⟩, rfl, rfl⟩
theorem sL_17 : lkS RL 17 μL_add 2 := ⟨tb_of 263 (by decide +kernel) (by decide +kernel), tb_of 264 (by decide +kernel) (by decide +kernel), tb_of 7 (by decide +kernel) (by decide +kernel), tb_of 265 (by decide +kernel) (by decide +kernel), ⟨by decide, by decide, by decide +kernel⟩⟩
theorem sL_23 : lkS RL 23 μL_cancel 2 := ⟨tb_of 275 (by decide +kernel) (by decide +kernel), tb_of 276 (by decide +kernel) (by decide +kernel), tb_of 7 (by decide +kernel) (by decide +kernel), tb_of 277 (by decide +kernel) (by decide +kernel), ⟨by decide, by decide, by decide +kernel⟩⟩
theorem sL_27 : lkS RL 27 μL_otherSide 1 := ⟨tb_of 378 (by decide +kernel) (by decide +kernel), tb_of 379 (by decide +kernel) (by decide +kernel), tb_of 7 (by decide +kernel) (by decide +kernel), tb_of 380 (by decide +kernel) (by decide +kernel), ⟨by decide, by decide, by decide +kernel⟩⟩
theorem sL_31 : lkS RL 31 μL_read 3 := ⟨tb_of 253 (by decide +kernel) (by decide +kernel), tb_of 254 (by decide +kernel) (by decide +kernel), tb_of 7 (by decide +kernel) (by decide +kernel), tb_of 255 (by decide +kernel) (by decide +kernel), ⟨by decide, by decide, by decide +kernel⟩⟩
theorem sL_41 : lkS RL 41 μL_pull 1 := ⟨tb_of 286 (by decide +kernel) (by decide +kernel), tb_of 287 (by decide +kernel) (by decide +kernel), tb_of 7 (by decide +kernel) (by decide +kernel), tb_of 288 (by decide +kernel) (by decide +kernel), ⟨by decide, by decide, by decide +kernel⟩⟩
theorem sL_48 : lkS RL 48 μL_isLeast 5 := ⟨tb_of 293 (by decide +kernel) (by decide +kernel), tb_of 294 (by decide +kernel) (by decide +kernel), tb_of 7 (by decide +kernel) (by decide +kernel), tb_of 295 (by decide +kernel) (by decide +kernel), ⟨by decide, by decide, by decide +kernel⟩⟩
theorem sL_55 : lkS RL 55 μL_isTold 2 := ⟨tb_of 250 (by decide +kernel) (by decide +kernel), tb_of 251 (by decide +kernel) (by decide +kernel), tb_of 7 (by decide +kernel) (by decide +kernel), tb_of 252 (by decide +kernel) (by decide +kernel), ⟨by decide, by decide, by decide +kernel⟩⟩
theorem sL_62 : lkS RL 62 μL_isWord 3 := ⟨tb_of 340 (by decide +kernel) (by decide +kernel), tb_of 341 (by decide +kernel) (by decide +kernel), tb_of 7 (by decide +kernel) (by decide +kernel), tb_of 342 (by decide +kernel) (by decide +kernel), ⟨by decide, by decide, by decide +kernel⟩⟩
theorem sL_74 : lkS RL 74 μL_turn 1 := ⟨tb_of 375 (by decide +kernel) (by decide +kernel), tb_of 376 (by decide +kernel) (by decide +kernel), tb_of 7 (by decide +kernel) (by decide +kernel), tb_of 377 (by decide +kernel) (by decide +kernel), ⟨by decide, by decide, by decide +kernel⟩⟩
theorem sL_82 : lkS RL 82 μL_copy 2 := ⟨tb_of 404 (by decide +kernel) (by decide +kernel), tb_of 405 (by decide +kernel) (by decide +kernel), tb_of 7 (by decide +kernel) (by decide +kernel), tb_of 406 (by decide +kernel) (by decide +kernel), ⟨by decide, by decide, by decide +kernel⟩⟩
theorem sL_86 : lkS RL 86 μL_change 4 := ⟨tb_of 414 (by decide +kernel) (by decide +kernel), tb_of 415 (by decide +kernel) (by decide +kernel), tb_of 7 (by decide +kernel) (by decide +kernel), tb_of 416 (by decide +kernel) (by decide +kernel), ⟨by decide, by decide, by decide +kernel⟩⟩
theorem sL_96 : lkS RL 96 μL_cell 3 := ⟨tb_of 154 (by decide +kernel) (by decide +kernel), tb_of 155 (by decide +kernel) (by decide +kernel), tb_of 7 (by decide +kernel) (by decide +kernel), tb_of 156 (by decide +kernel) (by decide +kernel), ⟨by decide, by decide, by decide +kernel⟩⟩
theorem sL_100 : lkS RL 100 μL_isCrossed 3 := ⟨tb_of 320 (by decide +kernel) (by decide +kernel), tb_of 321 (by decide +kernel) (by decide +kernel), tb_of 7 (by decide +kernel) (by decide +kernel), tb_of 322 (by decide +kernel) (by decide +kernel), ⟨by decide, by decide, by decide +kernel⟩⟩
theorem sL_104 : lkS RL 104 μL_isBack 3 := ⟨tb_of 346 (by decide +kernel) (by decide +kernel), tb_of 347 (by decide +kernel) (by decide +kernel), tb_of 7 (by decide +kernel) (by decide +kernel), tb_of 348 (by decide +kernel) (by decide +kernel), ⟨by decide, by decide, by decide +kernel⟩⟩
theorem sL_107 : lkS RL 107 μL_isPulled 2 := ⟨tb_of 357 (by decide +kernel) (by decide +kernel), tb_of 358 (by decide +kernel) (by decide +kernel), tb_of 7 (by decide +kernel) (by decide +kernel), tb_of 359 (by decide +kernel) (by decide +kernel), ⟨by decide, by decide, by decide +kernel⟩⟩
theorem sL_110 : lkS RL 110 μL_isJoined 3 := ⟨tb_of 364 (by decide +kernel) (by decide +kernel), tb_of 365 (by decide +kernel) (by decide +kernel), tb_of 7 (by decide +kernel) (by decide +kernel), tb_of 366 (by decide +kernel) (by decide +kernel), ⟨by decide, by decide, by decide +kernel⟩⟩
theorem sL_113 : lkS RL 113 μL_isTurned 2 := ⟨tb_of 372 (by decide +kernel) (by decide +kernel), tb_of 373 (by decide +kernel) (by decide +kernel), tb_of 7 (by decide +kernel) (by decide +kernel), tb_of 374 (by decide +kernel) (by decide +kernel), ⟨by decide, by decide, by decide +kernel⟩⟩
theorem sL_116 : lkS RL 116 μL_isWoven 3 := ⟨tb_of 389 (by decide +kernel) (by decide +kernel), tb_of 390 (by decide +kernel) (by decide +kernel), tb_of 7 (by decide +kernel) (by decide +kernel), tb_of 391 (by decide +kernel) (by decide +kernel), ⟨by decide, by decide, by decide +kernel⟩⟩
theorem sL_122 : lkS RL 122 μL_isSwapped 3 := ⟨tb_of 411 (by decide +kernel) (by decide +kernel), tb_of 412 (by decide +kernel) (by decide +kernel), tb_of 7 (by decide +kernel) (by decide +kernel), tb_of 413 (by decide +kernel) (by decide +kernel), ⟨by decide, by decide, by decide +kernel⟩⟩
theorem sL_126 : lkS RL 126 μL_agree 1 := ⟨tb_of 158 (by decide +kernel) (by decide +kernel), tb_of 159 (by decide +kernel) (by decide +kernel), tb_of 7 (by decide +kernel) (by decide +kernel), tb_of 160 (by decide +kernel) (by decide +kernel), ⟨by decide, by decide, by decide +kernel⟩⟩
theorem sL_130 : lkS RL 130 μL_isAct 3 := ⟨tb_of 343 (by decide +kernel) (by decide +kernel), tb_of 344 (by decide +kernel) (by decide +kernel), tb_of 7 (by decide +kernel) (by decide +kernel), tb_of 345 (by decide +kernel) (by decide +kernel), ⟨by decide, by decide, by decide +kernel⟩⟩
theorem vL_8 : lkV RL 8 μX5_ofRope 5 2 := ⟨tb_of 161 (by decide +kernel) (by decide +kernel), tb_of 162 (by decide +kernel) (by decide +kernel), tb_of 163 (by decide +kernel) (by decide +kernel), tb_of 8 (by decide +kernel) (by decide +kernel), tb_of 164 (by decide +kernel) (by decide +kernel), ⟨rfl, by decide, by decide, by decide +kernel⟩, ⟨_, _, rfl⟩⟩
theorem vL_14 : lkV RL 14 μX5_crossing 5 2 := ⟨tb_of 256 (by decide +kernel) (by decide +kernel), tb_of 257 (by decide +kernel) (by decide +kernel), tb_of 258 (by decide +kernel) (by decide +kernel), tb_of 8 (by decide +kernel) (by decide +kernel), tb_of 259 (by decide +kernel) (by decide +kernel), ⟨rfl, by decide, by decide, by decide +kernel⟩, ⟨_, _, rfl⟩⟩
theorem vL_35 : lkV RL 35 μX5_count 5 1 := ⟨tb_of 266 (by decide +kernel) (by decide +kernel), tb_of 267 (by decide +kernel) (by decide +kernel), tb_of 268 (by decide +kernel) (by decide +kernel), tb_of 8 (by decide +kernel) (by decide +kernel), tb_of 269 (by decide +kernel) (by decide +kernel), ⟨rfl, by decide, by decide, by decide +kernel⟩, ⟨_, _, rfl⟩⟩
theorem vL_38 : lkV RL 38 μX5_winds 5 2 := ⟨tb_of 278 (by decide +kernel) (by decide +kernel), tb_of 279 (by decide +kernel) (by decide +kernel), tb_of 280 (by decide +kernel) (by decide +kernel), tb_of 8 (by decide +kernel) (by decide +kernel), tb_of 281 (by decide +kernel) (by decide +kernel), ⟨rfl, by decide, by decide, by decide +kernel⟩, ⟨_, _, rfl⟩⟩
theorem vL_45 : lkV RL 45 μX5_falls 5 2 := ⟨tb_of 289 (by decide +kernel) (by decide +kernel), tb_of 290 (by decide +kernel) (by decide +kernel), tb_of 291 (by decide +kernel) (by decide +kernel), tb_of 8 (by decide +kernel) (by decide +kernel), tb_of 292 (by decide +kernel) (by decide +kernel), ⟨rfl, by decide, by decide, by decide +kernel⟩, ⟨_, _, rfl⟩⟩
theorem vL_52 : lkV RL 52 μX5_least 5 2 := ⟨tb_of 296 (by decide +kernel) (by decide +kernel), tb_of 297 (by decide +kernel) (by decide +kernel), tb_of 298 (by decide +kernel) (by decide +kernel), tb_of 8 (by decide +kernel) (by decide +kernel), tb_of 299 (by decide +kernel) (by decide +kernel), ⟨rfl, by decide, by decide, by decide +kernel⟩, ⟨_, _, rfl⟩⟩
theorem vL_59 : lkV RL 59 μX5_cross 5 2 := ⟨tb_of 323 (by decide +kernel) (by decide +kernel), tb_of 324 (by decide +kernel) (by decide +kernel), tb_of 325 (by decide +kernel) (by decide +kernel), tb_of 8 (by decide +kernel) (by decide +kernel), tb_of 326 (by decide +kernel) (by decide +kernel), ⟨rfl, by decide, by decide, by decide +kernel⟩, ⟨_, _, rfl⟩⟩
theorem vL_66 : lkV RL 66 μX5_back 5 2 := ⟨tb_of 349 (by decide +kernel) (by decide +kernel), tb_of 350 (by decide +kernel) (by decide +kernel), tb_of 351 (by decide +kernel) (by decide +kernel), tb_of 8 (by decide +kernel) (by decide +kernel), tb_of 352 (by decide +kernel) (by decide +kernel), ⟨rfl, by decide, by decide, by decide +kernel⟩, ⟨_, _, rfl⟩⟩
theorem vL_69 : lkV RL 69 μX5_pull 5 1 := ⟨tb_of 360 (by decide +kernel) (by decide +kernel), tb_of 361 (by decide +kernel) (by decide +kernel), tb_of 362 (by decide +kernel) (by decide +kernel), tb_of 8 (by decide +kernel) (by decide +kernel), tb_of 363 (by decide +kernel) (by decide +kernel), ⟨rfl, by decide, by decide, by decide +kernel⟩, ⟨_, _, rfl⟩⟩
theorem vL_71 : lkV RL 71 μX5_join 5 2 := ⟨tb_of 367 (by decide +kernel) (by decide +kernel), tb_of 368 (by decide +kernel) (by decide +kernel), tb_of 369 (by decide +kernel) (by decide +kernel), tb_of 8 (by decide +kernel) (by decide +kernel), tb_of 370 (by decide +kernel) (by decide +kernel), ⟨rfl, by decide, by decide, by decide +kernel⟩, ⟨_, _, rfl⟩⟩
theorem vL_77 : lkV RL 77 μX5_turn 5 1 := ⟨tb_of 381 (by decide +kernel) (by decide +kernel), tb_of 382 (by decide +kernel) (by decide +kernel), tb_of 383 (by decide +kernel) (by decide +kernel), tb_of 8 (by decide +kernel) (by decide +kernel), tb_of 384 (by decide +kernel) (by decide +kernel), ⟨rfl, by decide, by decide, by decide +kernel⟩, ⟨_, _, rfl⟩⟩
theorem vL_79 : lkV RL 79 μX5_weave 5 2 := ⟨tb_of 392 (by decide +kernel) (by decide +kernel), tb_of 393 (by decide +kernel) (by decide +kernel), tb_of 394 (by decide +kernel) (by decide +kernel), tb_of 8 (by decide +kernel) (by decide +kernel), tb_of 395 (by decide +kernel) (by decide +kernel), ⟨rfl, by decide, by decide, by decide +kernel⟩, ⟨_, _, rfl⟩⟩
theorem vL_90 : lkV RL 90 μX5_ifSwapped 5 2 := ⟨tb_of 417 (by decide +kernel) (by decide +kernel), tb_of 418 (by decide +kernel) (by decide +kernel), tb_of 419 (by decide +kernel) (by decide +kernel), tb_of 8 (by decide +kernel) (by decide +kernel), tb_of 420 (by decide +kernel) (by decide +kernel), ⟨rfl, by decide, by decide, by decide +kernel⟩, ⟨_, _, rfl⟩⟩
theorem vL_93 : lkV RL 93 μX5_swap 5 2 := ⟨tb_of 440 (by decide +kernel) (by decide +kernel), tb_of 441 (by decide +kernel) (by decide +kernel), tb_of 442 (by decide +kernel) (by decide +kernel), tb_of 8 (by decide +kernel) (by decide +kernel), tb_of 443 (by decide +kernel) (by decide +kernel), ⟨rfl, by decide, by decide, by decide +kernel⟩, ⟨_, _, rfl⟩⟩
theorem vL_119 : lkV RL 119 μX5_width 5 2 := ⟨tb_of 407 (by decide +kernel) (by decide +kernel), tb_of 408 (by decide +kernel) (by decide +kernel), tb_of 409 (by decide +kernel) (by decide +kernel), tb_of 8 (by decide +kernel) (by decide +kernel), tb_of 410 (by decide +kernel) (by decide +kernel), ⟨rfl, by decide, by decide, by decide +kernel⟩, ⟨_, _, rfl⟩⟩
theorem wL_9 : Cond.classLink RL 9 RX5 ∈ TB := tb_of 15 (by decide +kernel) (by decide +kernel)
theorem fX0_9 : FL RX0 9 0 0 true (.array .int) := ⟨RX0, TX0, 6, tyX0, rfl, by decide, tb_of 84 (by decide +kernel) (by decide +kernel), inX0, tyX0_ok, nmX0, rfl, rfl, rfl⟩
theorem fX0_15 : FL RX0 15 0 1 false .int := ⟨RX0, TX0, 6, tyX0, rfl, by decide, tb_of 85 (by decide +kernel) (by decide +kernel), inX0, tyX0_ok, nmX0, rfl, rfl, rfl⟩
theorem fX0_19 : FL RX0 19 0 2 true (.array .int) := ⟨RX0, TX0, 6, tyX0, rfl, by decide, tb_of 87 (by decide +kernel) (by decide +kernel), inX0, tyX0_ok, nmX0, rfl, rfl, rfl⟩
theorem fX0_22 : FL RX0 22 0 3 true (.array .int) := ⟨RX0, TX0, 6, tyX0, rfl, by decide, tb_of 88 (by decide +kernel) (by decide +kernel), inX0, tyX0_ok, nmX0, rfl, rfl, rfl⟩
theorem fX0_25 : FL RX0 25 0 4 true (.array .int) := ⟨RX0, TX0, 6, tyX0, rfl, by decide, tb_of 89 (by decide +kernel) (by decide +kernel), inX0, tyX0_ok, nmX0, rfl, rfl, rfl⟩
theorem fX0_28 : FL RX0 28 0 5 false .int := ⟨RX0, TX0, 6, tyX0, rfl, by decide, tb_of 90 (by decide +kernel) (by decide +kernel), inX0, tyX0_ok, nmX0, rfl, rfl, rfl⟩
theorem wX1_9a : Cond.classLink RX1 9 RX3 ∈ TB := tb_of 64 (by decide +kernel) (by decide +kernel)
theorem fX1_11 : FL RX1 11 1 0 true (.array (.object "PostRopes$State")) := ⟨RX1, TX1, 3, tyX1, rfl, by decide, tb_of 67 (by decide +kernel) (by decide +kernel), inX1, tyX1_ok, nmX1, rfl, rfl, rfl⟩
theorem fX1_18 : FL RX1 18 1 1 false .int := ⟨RX1, TX1, 3, tyX1, rfl, by decide, tb_of 68 (by decide +kernel) (by decide +kernel), inX1, tyX1_ok, nmX1, rfl, rfl, rfl⟩
theorem fX1_22 : FL RX1 22 1 2 false .int := ⟨RX1, TX1, 3, tyX1, rfl, by decide, tb_of 69 (by decide +kernel) (by decide +kernel), inX1, tyX1_ok, nmX1, rfl, rfl, rfl⟩
theorem iX1_17 : lkI RX1 17 μX3_init 0 := ⟨tb_of 66 (by decide +kernel) (by decide +kernel), tb_of 26 (by decide +kernel) (by decide +kernel), tb_of 9 (by decide +kernel) (by decide +kernel), tb_of 27 (by decide +kernel) (by decide +kernel), ⟨by decide, by decide, by decide +kernel⟩, rfl, rfl⟩
theorem sX1_29 : lkS RX1 29 μJ9_min_7cf53 2 := ⟨tb_of 336 (by decide +kernel) (by decide +kernel), tb_of 337 (by decide +kernel) (by decide +kernel), tb_of 11 (by decide +kernel) (by decide +kernel), tb_of 338 (by decide +kernel) (by decide +kernel), ⟨by decide, by decide, by decide +kernel⟩⟩
theorem vX1_25 : lkV RX1 25 μX3_copyFrom 3 1 := ⟨tb_of 331 (by decide +kernel) (by decide +kernel), tb_of 332 (by decide +kernel) (by decide +kernel), tb_of 333 (by decide +kernel) (by decide +kernel), tb_of 9 (by decide +kernel) (by decide +kernel), tb_of 334 (by decide +kernel) (by decide +kernel), ⟨rfl, by decide, by decide, by decide +kernel⟩, ⟨_, _, rfl⟩⟩
theorem wX1_9 : Cond.classLink RX1 9 RX3 ∈ TB := tb_of 64 (by decide +kernel) (by decide +kernel)
theorem fX2_9 : FL RX2 9 2 0 true (.array .int) := ⟨RX2, TX2, 4, tyX2, rfl, by decide, tb_of 111 (by decide +kernel) (by decide +kernel), inX2, tyX2_ok, nmX2, rfl, rfl, rfl⟩
theorem fX2_15 : FL RX2 15 2 1 true (.array .int) := ⟨RX2, TX2, 4, tyX2, rfl, by decide, tb_of 112 (by decide +kernel) (by decide +kernel), inX2, tyX2_ok, nmX2, rfl, rfl, rfl⟩
theorem fX2_18 : FL RX2 18 2 2 true (.array .int) := ⟨RX2, TX2, 4, tyX2, rfl, by decide, tb_of 113 (by decide +kernel) (by decide +kernel), inX2, tyX2_ok, nmX2, rfl, rfl, rfl⟩
theorem fX2_21 : FL RX2 21 2 3 true (.array .int) := ⟨RX2, TX2, 4, tyX2, rfl, by decide, tb_of 114 (by decide +kernel) (by decide +kernel), inX2, tyX2_ok, nmX2, rfl, rfl, rfl⟩
theorem wX3_15a : Cond.classLink RX3 15 RX4 ∈ TB := tb_of 29 (by decide +kernel) (by decide +kernel)
theorem fX3_9 : FL RX3 9 3 0 true (.array .int) := ⟨RX3, TX3, 2, tyX3, rfl, by decide, tb_of 49 (by decide +kernel) (by decide +kernel), inX3, tyX3_ok, nmX3, rfl, rfl, rfl⟩
theorem fX3_17 : FL RX3 17 3 1 true (.array (.object "PostRopes$Word")) := ⟨RX3, TX3, 2, tyX3, rfl, by decide, tb_of 51 (by decide +kernel) (by decide +kernel), inX3, tyX3_ok, nmX3, rfl, rfl, rfl⟩
theorem fX3_28 : FL RX3 28 4 1 false .int := ⟨RX4, TX4, 2, tyX4, rfl, by decide, tb_of 41 (by decide +kernel) (by decide +kernel), inX4, tyX4_ok, nmX4, rfl, rfl, rfl⟩
theorem iX3_21 : lkI RX3 21 μX4_init 1 := ⟨tb_of 32 (by decide +kernel) (by decide +kernel), tb_of 33 (by decide +kernel) (by decide +kernel), tb_of 10 (by decide +kernel) (by decide +kernel), tb_of 34 (by decide +kernel) (by decide +kernel), ⟨by decide, by decide, by decide +kernel⟩, rfl, rfl⟩
theorem nX3_36 : lkN RX3 36 μX5_postOf RX5 1 := ⟨by decide +kernel, tb_of 177 (by decide +kernel) (by decide +kernel), tb_of 8 (by decide +kernel) (by decide +kernel), tb_of 178 (by decide +kernel) (by decide +kernel), ⟨by decide, by decide, by decide +kernel⟩⟩
theorem nX3_39 : lkN RX3 39 μX5_isPost RX5 1 := ⟨by decide +kernel, tb_of 180 (by decide +kernel) (by decide +kernel), tb_of 8 (by decide +kernel) (by decide +kernel), tb_of 181 (by decide +kernel) (by decide +kernel), ⟨by decide, by decide, by decide +kernel⟩⟩
theorem vX3_24 : lkV RX3 24 μX4_copyFrom 4 1 := ⟨tb_of 335 (by decide +kernel) (by decide +kernel), tb_of 187 (by decide +kernel) (by decide +kernel), tb_of 188 (by decide +kernel) (by decide +kernel), tb_of 10 (by decide +kernel) (by decide +kernel), tb_of 189 (by decide +kernel) (by decide +kernel), ⟨rfl, by decide, by decide, by decide +kernel⟩, ⟨_, _, rfl⟩⟩
theorem vX3_32 : lkV RX3 32 μX4_at 4 1 := ⟨tb_of 172 (by decide +kernel) (by decide +kernel), tb_of 173 (by decide +kernel) (by decide +kernel), tb_of 174 (by decide +kernel) (by decide +kernel), tb_of 10 (by decide +kernel) (by decide +kernel), tb_of 175 (by decide +kernel) (by decide +kernel), ⟨rfl, by decide, by decide, by decide +kernel⟩, ⟨_, _, rfl⟩⟩
theorem wX3_15 : Cond.classLink RX3 15 RX4 ∈ TB := tb_of 29 (by decide +kernel) (by decide +kernel)
theorem fX4_15 : FL RX4 15 4 0 true (.array .int) := ⟨RX4, TX4, 2, tyX4, rfl, by decide, tb_of 39 (by decide +kernel) (by decide +kernel), inX4, tyX4_ok, nmX4, rfl, rfl, rfl⟩
theorem fX4_21 : FL RX4 21 4 1 false .int := ⟨RX4, TX4, 2, tyX4, rfl, by decide, tb_of 40 (by decide +kernel) (by decide +kernel), inX4, tyX4_ok, nmX4, rfl, rfl, rfl⟩
theorem sX4_9 : lkS RX4 9 μJ9_max_7cf53 2 := ⟨tb_of 36 (by decide +kernel) (by decide +kernel), tb_of 37 (by decide +kernel) (by decide +kernel), tb_of 11 (by decide +kernel) (by decide +kernel), tb_of 38 (by decide +kernel) (by decide +kernel), ⟨by decide, by decide, by decide +kernel⟩⟩
theorem nX4_25 : lkN RX4 25 μX5_opposite RX5 1 := ⟨by decide +kernel, tb_of 208 (by decide +kernel) (by decide +kernel), tb_of 8 (by decide +kernel) (by decide +kernel), tb_of 209 (by decide +kernel) (by decide +kernel), ⟨by decide, by decide, by decide +kernel⟩⟩
theorem nX4_61 : lkN RX4 61 μX5_postOf RX5 1 := ⟨by decide +kernel, tb_of 177 (by decide +kernel) (by decide +kernel), tb_of 8 (by decide +kernel) (by decide +kernel), tb_of 178 (by decide +kernel) (by decide +kernel), ⟨by decide, by decide, by decide +kernel⟩⟩
theorem vX4_29 : lkV RX4 29 μX4_add 4 1 := ⟨tb_of 195 (by decide +kernel) (by decide +kernel), tb_of 196 (by decide +kernel) (by decide +kernel), tb_of 197 (by decide +kernel) (by decide +kernel), tb_of 10 (by decide +kernel) (by decide +kernel), tb_of 198 (by decide +kernel) (by decide +kernel), ⟨rfl, by decide, by decide, by decide +kernel⟩, ⟨_, _, rfl⟩⟩
theorem vX4_33 : lkV RX4 33 μX4_addWord 4 1 := ⟨tb_of 190 (by decide +kernel) (by decide +kernel), tb_of 191 (by decide +kernel) (by decide +kernel), tb_of 192 (by decide +kernel) (by decide +kernel), tb_of 10 (by decide +kernel) (by decide +kernel), tb_of 193 (by decide +kernel) (by decide +kernel), ⟨rfl, by decide, by decide, by decide +kernel⟩, ⟨_, _, rfl⟩⟩
theorem vX4_37 : lkV RX4 37 μX4_at 4 1 := ⟨tb_of 194 (by decide +kernel) (by decide +kernel), tb_of 173 (by decide +kernel) (by decide +kernel), tb_of 174 (by decide +kernel) (by decide +kernel), tb_of 10 (by decide +kernel) (by decide +kernel), tb_of 175 (by decide +kernel) (by decide +kernel), ⟨rfl, by decide, by decide, by decide +kernel⟩, ⟨_, _, rfl⟩⟩
theorem vX4_40 : lkV RX4 40 μX4_addTurnedPart 4 3 := ⟨tb_of 400 (by decide +kernel) (by decide +kernel), tb_of 401 (by decide +kernel) (by decide +kernel), tb_of 402 (by decide +kernel) (by decide +kernel), tb_of 10 (by decide +kernel) (by decide +kernel), tb_of 403 (by decide +kernel) (by decide +kernel), ⟨rfl, by decide, by decide, by decide +kernel⟩, ⟨_, _, rfl⟩⟩
theorem vX4_44 : lkV RX4 44 μX4_addPulled 4 1 := ⟨tb_of 203 (by decide +kernel) (by decide +kernel), tb_of 204 (by decide +kernel) (by decide +kernel), tb_of 205 (by decide +kernel) (by decide +kernel), tb_of 10 (by decide +kernel) (by decide +kernel), tb_of 206 (by decide +kernel) (by decide +kernel), ⟨rfl, by decide, by decide, by decide +kernel⟩, ⟨_, _, rfl⟩⟩
theorem vX4_47 : lkV RX4 47 μX4_cancelPairs 4 0 := ⟨tb_of 218 (by decide +kernel) (by decide +kernel), tb_of 200 (by decide +kernel) (by decide +kernel), tb_of 201 (by decide +kernel) (by decide +kernel), tb_of 10 (by decide +kernel) (by decide +kernel), tb_of 202 (by decide +kernel) (by decide +kernel), ⟨rfl, by decide, by decide, by decide +kernel⟩, ⟨_, _, rfl⟩⟩
theorem vX4_51 : lkV RX4 51 μX4_isLessFrom 4 2 := ⟨tb_of 308 (by decide +kernel) (by decide +kernel), tb_of 309 (by decide +kernel) (by decide +kernel), tb_of 310 (by decide +kernel) (by decide +kernel), tb_of 10 (by decide +kernel) (by decide +kernel), tb_of 311 (by decide +kernel) (by decide +kernel), ⟨rfl, by decide, by decide, by decide +kernel⟩, ⟨_, _, rfl⟩⟩
theorem vX4_55 : lkV RX4 55 μX4_atRound 4 1 := ⟨tb_of 312 (by decide +kernel) (by decide +kernel), tb_of 313 (by decide +kernel) (by decide +kernel), tb_of 314 (by decide +kernel) (by decide +kernel), tb_of 10 (by decide +kernel) (by decide +kernel), tb_of 315 (by decide +kernel) (by decide +kernel), ⟨rfl, by decide, by decide, by decide +kernel⟩, ⟨_, _, rfl⟩⟩
theorem vX4_58 : lkV RX4 58 μX4_repeatsAfter 4 1 := ⟨tb_of 223 (by decide +kernel) (by decide +kernel), tb_of 224 (by decide +kernel) (by decide +kernel), tb_of 225 (by decide +kernel) (by decide +kernel), tb_of 10 (by decide +kernel) (by decide +kernel), tb_of 226 (by decide +kernel) (by decide +kernel), ⟨rfl, by decide, by decide, by decide +kernel⟩, ⟨_, _, rfl⟩⟩
theorem wX5_9a : Cond.classLink RX5 9 RX3 ∈ TB := tb_of 23 (by decide +kernel) (by decide +kernel)
theorem fX5_12 : FL RX5 12 5 0 true (.object "PostRopes$State") := ⟨RX5, TX5, 9, tyX5, rfl, by decide, tb_of 126 (by decide +kernel) (by decide +kernel), inX5, tyX5_ok, nmX5, rfl, rfl, rfl⟩
theorem fX5_19 : FL RX5 19 5 1 true (.object "PostRopes$Past") := ⟨RX5, TX5, 9, tyX5, rfl, by decide, tb_of 127 (by decide +kernel) (by decide +kernel), inX5, tyX5_ok, nmX5, rfl, rfl, rfl⟩
theorem fX5_23 : FL RX5 23 5 2 true (.array (.object "PostRopes$State")) := ⟨RX5, TX5, 9, tyX5, rfl, by decide, tb_of 128 (by decide +kernel) (by decide +kernel), inX5, tyX5_ok, nmX5, rfl, rfl, rfl⟩
theorem fX5_27 : FL RX5 27 5 3 true (.array .boolean) := ⟨RX5, TX5, 9, tyX5, rfl, by decide, tb_of 129 (by decide +kernel) (by decide +kernel), inX5, tyX5_ok, nmX5, rfl, rfl, rfl⟩
theorem fX5_34 : FL RX5 34 5 4 true (.object "PostRopes$Pad") := ⟨RX5, TX5, 9, tyX5, rfl, by decide, tb_of 130 (by decide +kernel) (by decide +kernel), inX5, tyX5_ok, nmX5, rfl, rfl, rfl⟩
theorem fX5_41 : FL RX5 41 5 5 true (.object "PostRopes$Scissors") := ⟨RX5, TX5, 9, tyX5, rfl, by decide, tb_of 131 (by decide +kernel) (by decide +kernel), inX5, tyX5_ok, nmX5, rfl, rfl, rfl⟩
theorem fX5_50 : FL RX5 50 5 6 true (.object "PostRopes$Word") := ⟨RX5, TX5, 9, tyX5, rfl, by decide, tb_of 132 (by decide +kernel) (by decide +kernel), inX5, tyX5_ok, nmX5, rfl, rfl, rfl⟩
theorem fX5_54 : FL RX5 54 5 7 true (.object "PostRopes$Word") := ⟨RX5, TX5, 9, tyX5, rfl, by decide, tb_of 133 (by decide +kernel) (by decide +kernel), inX5, tyX5_ok, nmX5, rfl, rfl, rfl⟩
theorem fX5_57 : FL RX5 57 5 8 true (.object "PostRopes$Word") := ⟨RX5, TX5, 9, tyX5, rfl, by decide, tb_of 134 (by decide +kernel) (by decide +kernel), inX5, tyX5_ok, nmX5, rfl, rfl, rfl⟩
theorem fX5_68 : FL RX5 68 3 0 true (.array .int) := ⟨RX3, TX3, 2, tyX3, rfl, by decide, tb_of 50 (by decide +kernel) (by decide +kernel), inX3, tyX3_ok, nmX3, rfl, rfl, rfl⟩
theorem fX5_75 : FL RX5 75 3 1 true (.array (.object "PostRopes$Word")) := ⟨RX3, TX3, 2, tyX3, rfl, by decide, tb_of 52 (by decide +kernel) (by decide +kernel), inX3, tyX3_ok, nmX3, rfl, rfl, rfl⟩
theorem fX5_79 : FL RX5 79 4 1 false .int := ⟨RX4, TX4, 2, tyX4, rfl, by decide, tb_of 42 (by decide +kernel) (by decide +kernel), inX4, tyX4_ok, nmX4, rfl, rfl, rfl⟩
theorem fX5_126 : FL RX5 126 0 1 false .int := ⟨RX0, TX0, 6, tyX0, rfl, by decide, tb_of 86 (by decide +kernel) (by decide +kernel), inX0, tyX0_ok, nmX0, rfl, rfl, rfl⟩
theorem fX5_178 : FL RX5 178 1 2 false .int := ⟨RX1, TX1, 3, tyX1, rfl, by decide, tb_of 70 (by decide +kernel) (by decide +kernel), inX1, tyX1_ok, nmX1, rfl, rfl, rfl⟩
theorem iX5_11 : lkI RX5 11 μX3_init 0 := ⟨tb_of 25 (by decide +kernel) (by decide +kernel), tb_of 26 (by decide +kernel) (by decide +kernel), tb_of 9 (by decide +kernel) (by decide +kernel), tb_of 27 (by decide +kernel) (by decide +kernel), ⟨by decide, by decide, by decide +kernel⟩, rfl, rfl⟩
theorem iX5_18 : lkI RX5 18 μX1_init 0 := ⟨tb_of 60 (by decide +kernel) (by decide +kernel), tb_of 61 (by decide +kernel) (by decide +kernel), tb_of 12 (by decide +kernel) (by decide +kernel), tb_of 62 (by decide +kernel) (by decide +kernel), ⟨by decide, by decide, by decide +kernel⟩, rfl, rfl⟩
theorem iX5_33 : lkI RX5 33 μX0_init 0 := ⟨tb_of 80 (by decide +kernel) (by decide +kernel), tb_of 81 (by decide +kernel) (by decide +kernel), tb_of 13 (by decide +kernel) (by decide +kernel), tb_of 82 (by decide +kernel) (by decide +kernel), ⟨by decide, by decide, by decide +kernel⟩, rfl, rfl⟩
theorem iX5_40 : lkI RX5 40 μX2_init 0 := ⟨tb_of 107 (by decide +kernel) (by decide +kernel), tb_of 108 (by decide +kernel) (by decide +kernel), tb_of 14 (by decide +kernel) (by decide +kernel), tb_of 109 (by decide +kernel) (by decide +kernel), ⟨by decide, by decide, by decide +kernel⟩, rfl, rfl⟩
theorem iX5_47 : lkI RX5 47 μX4_init 1 := ⟨tb_of 125 (by decide +kernel) (by decide +kernel), tb_of 33 (by decide +kernel) (by decide +kernel), tb_of 10 (by decide +kernel) (by decide +kernel), tb_of 34 (by decide +kernel) (by decide +kernel), ⟨by decide, by decide, by decide +kernel⟩, rfl, rfl⟩
theorem sX5_60 : lkS RX5 60 μX5_isPost 1 := ⟨tb_of 270 (by decide +kernel) (by decide +kernel), tb_of 180 (by decide +kernel) (by decide +kernel), tb_of 8 (by decide +kernel) (by decide +kernel), tb_of 181 (by decide +kernel) (by decide +kernel), ⟨by decide, by decide, by decide +kernel⟩⟩
theorem sX5_72 : lkS RX5 72 μX5_isRope 1 := ⟨tb_of 165 (by decide +kernel) (by decide +kernel), tb_of 166 (by decide +kernel) (by decide +kernel), tb_of 8 (by decide +kernel) (by decide +kernel), tb_of 167 (by decide +kernel) (by decide +kernel), ⟨by decide, by decide, by decide +kernel⟩⟩
theorem sX5_109 : lkS RX5 109 μX5_isSwap 1 := ⟨tb_of 421 (by decide +kernel) (by decide +kernel), tb_of 422 (by decide +kernel) (by decide +kernel), tb_of 8 (by decide +kernel) (by decide +kernel), tb_of 423 (by decide +kernel) (by decide +kernel), ⟨by decide, by decide, by decide +kernel⟩⟩
theorem sX5_112 : lkS RX5 112 μX5_isBack 1 := ⟨tb_of 424 (by decide +kernel) (by decide +kernel), tb_of 425 (by decide +kernel) (by decide +kernel), tb_of 8 (by decide +kernel) (by decide +kernel), tb_of 426 (by decide +kernel) (by decide +kernel), ⟨by decide, by decide, by decide +kernel⟩⟩
theorem sX5_139 : lkS RX5 139 μX5_crossingOrNoSuch 2 := ⟨tb_of 260 (by decide +kernel) (by decide +kernel), tb_of 261 (by decide +kernel) (by decide +kernel), tb_of 8 (by decide +kernel) (by decide +kernel), tb_of 262 (by decide +kernel) (by decide +kernel), ⟨by decide, by decide, by decide +kernel⟩⟩
theorem sX5_166 : lkS RX5 166 μX5_oneIf 1 := ⟨tb_of 247 (by decide +kernel) (by decide +kernel), tb_of 248 (by decide +kernel) (by decide +kernel), tb_of 8 (by decide +kernel) (by decide +kernel), tb_of 249 (by decide +kernel) (by decide +kernel), ⟨by decide, by decide, by decide +kernel⟩⟩
theorem sX5_232 : lkS RX5 232 μX5_postOf 1 := ⟨tb_of 245 (by decide +kernel) (by decide +kernel), tb_of 177 (by decide +kernel) (by decide +kernel), tb_of 8 (by decide +kernel) (by decide +kernel), tb_of 178 (by decide +kernel) (by decide +kernel), ⟨by decide, by decide, by decide +kernel⟩⟩
theorem sX5_235 : lkS RX5 235 μX5_opposite 1 := ⟨tb_of 439 (by decide +kernel) (by decide +kernel), tb_of 208 (by decide +kernel) (by decide +kernel), tb_of 8 (by decide +kernel) (by decide +kernel), tb_of 209 (by decide +kernel) (by decide +kernel), ⟨by decide, by decide, by decide +kernel⟩⟩
theorem vX5_64 : lkV RX5 64 μX1_remember 1 1 := ⟨tb_of 327 (by decide +kernel) (by decide +kernel), tb_of 328 (by decide +kernel) (by decide +kernel), tb_of 329 (by decide +kernel) (by decide +kernel), tb_of 12 (by decide +kernel) (by decide +kernel), tb_of 330 (by decide +kernel) (by decide +kernel), ⟨rfl, by decide, by decide, by decide +kernel⟩, ⟨_, _, rfl⟩⟩
theorem vX5_83 : lkV RX5 83 μX4_add 4 1 := ⟨tb_of 339 (by decide +kernel) (by decide +kernel), tb_of 196 (by decide +kernel) (by decide +kernel), tb_of 197 (by decide +kernel) (by decide +kernel), tb_of 10 (by decide +kernel) (by decide +kernel), tb_of 198 (by decide +kernel) (by decide +kernel), ⟨rfl, by decide, by decide, by decide +kernel⟩, ⟨_, _, rfl⟩⟩
theorem vX5_86 : lkV RX5 86 μX4_dropLast 4 1 := ⟨tb_of 353 (by decide +kernel) (by decide +kernel), tb_of 354 (by decide +kernel) (by decide +kernel), tb_of 355 (by decide +kernel) (by decide +kernel), tb_of 10 (by decide +kernel) (by decide +kernel), tb_of 356 (by decide +kernel) (by decide +kernel), ⟨rfl, by decide, by decide, by decide +kernel⟩, ⟨_, _, rfl⟩⟩
theorem vX5_89 : lkV RX5 89 μX4_cancelPairs 4 0 := ⟨tb_of 199 (by decide +kernel) (by decide +kernel), tb_of 200 (by decide +kernel) (by decide +kernel), tb_of 201 (by decide +kernel) (by decide +kernel), tb_of 10 (by decide +kernel) (by decide +kernel), tb_of 202 (by decide +kernel) (by decide +kernel), ⟨rfl, by decide, by decide, by decide +kernel⟩, ⟨_, _, rfl⟩⟩
theorem vX5_93 : lkV RX5 93 μX4_addWord 4 1 := ⟨tb_of 371 (by decide +kernel) (by decide +kernel), tb_of 191 (by decide +kernel) (by decide +kernel), tb_of 192 (by decide +kernel) (by decide +kernel), tb_of 10 (by decide +kernel) (by decide +kernel), tb_of 193 (by decide +kernel) (by decide +kernel), ⟨rfl, by decide, by decide, by decide +kernel⟩, ⟨_, _, rfl⟩⟩
theorem vX5_97 : lkV RX5 97 μX4_turnFrom 4 1 := ⟨tb_of 385 (by decide +kernel) (by decide +kernel), tb_of 386 (by decide +kernel) (by decide +kernel), tb_of 387 (by decide +kernel) (by decide +kernel), tb_of 10 (by decide +kernel) (by decide +kernel), tb_of 388 (by decide +kernel) (by decide +kernel), ⟨rfl, by decide, by decide, by decide +kernel⟩, ⟨_, _, rfl⟩⟩
theorem vX5_100 : lkV RX5 100 μX4_clear 4 0 := ⟨tb_of 240 (by decide +kernel) (by decide +kernel), tb_of 241 (by decide +kernel) (by decide +kernel), tb_of 242 (by decide +kernel) (by decide +kernel), tb_of 10 (by decide +kernel) (by decide +kernel), tb_of 243 (by decide +kernel) (by decide +kernel), ⟨rfl, by decide, by decide, by decide +kernel⟩, ⟨_, _, rfl⟩⟩
theorem vX5_103 : lkV RX5 103 μX4_addTurned 4 1 := ⟨tb_of 396 (by decide +kernel) (by decide +kernel), tb_of 397 (by decide +kernel) (by decide +kernel), tb_of 398 (by decide +kernel) (by decide +kernel), tb_of 10 (by decide +kernel) (by decide +kernel), tb_of 399 (by decide +kernel) (by decide +kernel), ⟨rfl, by decide, by decide, by decide +kernel⟩, ⟨_, _, rfl⟩⟩
theorem vX5_106 : lkV RX5 106 μX4_copyFrom 4 1 := ⟨tb_of 186 (by decide +kernel) (by decide +kernel), tb_of 187 (by decide +kernel) (by decide +kernel), tb_of 188 (by decide +kernel) (by decide +kernel), tb_of 10 (by decide +kernel) (by decide +kernel), tb_of 189 (by decide +kernel) (by decide +kernel), ⟨rfl, by decide, by decide, by decide +kernel⟩, ⟨_, _, rfl⟩⟩
theorem vX5_115 : lkV RX5 115 μX5_laySwapped 5 3 := ⟨tb_of 431 (by decide +kernel) (by decide +kernel), tb_of 433 (by decide +kernel) (by decide +kernel), tb_of 5 (by decide +kernel) (by decide +kernel), tb_of 8 (by decide +kernel) (by decide +kernel), tb_of 434 (by decide +kernel) (by decide +kernel), ⟨rfl, by decide, by decide, by decide +kernel⟩, ⟨_, _, rfl⟩⟩
theorem vX5_119 : lkV RX5 119 μX3_allCrossings 3 0 := ⟨tb_of 271 (by decide +kernel) (by decide +kernel), tb_of 272 (by decide +kernel) (by decide +kernel), tb_of 273 (by decide +kernel) (by decide +kernel), tb_of 9 (by decide +kernel) (by decide +kernel), tb_of 274 (by decide +kernel) (by decide +kernel), ⟨rfl, by decide, by decide, by decide +kernel⟩, ⟨_, _, rfl⟩⟩
theorem vX5_143 : lkV RX5 143 μX3_widthsAlong 3 1 := ⟨tb_of 168 (by decide +kernel) (by decide +kernel), tb_of 169 (by decide +kernel) (by decide +kernel), tb_of 170 (by decide +kernel) (by decide +kernel), tb_of 9 (by decide +kernel) (by decide +kernel), tb_of 171 (by decide +kernel) (by decide +kernel), ⟨rfl, by decide, by decide, by decide +kernel⟩, ⟨_, _, rfl⟩⟩
theorem vX5_147 : lkV RX5 147 μX5_layPulled 5 1 := ⟨tb_of 182 (by decide +kernel) (by decide +kernel), tb_of 184 (by decide +kernel) (by decide +kernel), tb_of 0 (by decide +kernel) (by decide +kernel), tb_of 8 (by decide +kernel) (by decide +kernel), tb_of 185 (by decide +kernel) (by decide +kernel), ⟨rfl, by decide, by decide, by decide +kernel⟩, ⟨_, _, rfl⟩⟩
theorem vX5_150 : lkV RX5 150 μX5_layLoop 5 1 := ⟨tb_of 210 (by decide +kernel) (by decide +kernel), tb_of 212 (by decide +kernel) (by decide +kernel), tb_of 1 (by decide +kernel) (by decide +kernel), tb_of 8 (by decide +kernel) (by decide +kernel), tb_of 213 (by decide +kernel) (by decide +kernel), ⟨rfl, by decide, by decide, by decide +kernel⟩, ⟨_, _, rfl⟩⟩
theorem vX5_153 : lkV RX5 153 μX4_power 4 0 := ⟨tb_of 219 (by decide +kernel) (by decide +kernel), tb_of 220 (by decide +kernel) (by decide +kernel), tb_of 221 (by decide +kernel) (by decide +kernel), tb_of 10 (by decide +kernel) (by decide +kernel), tb_of 222 (by decide +kernel) (by decide +kernel), ⟨rfl, by decide, by decide, by decide +kernel⟩, ⟨_, _, rfl⟩⟩
theorem vX5_156 : lkV RX5 156 μX4_posts 4 0 := ⟨tb_of 227 (by decide +kernel) (by decide +kernel), tb_of 228 (by decide +kernel) (by decide +kernel), tb_of 229 (by decide +kernel) (by decide +kernel), tb_of 10 (by decide +kernel) (by decide +kernel), tb_of 230 (by decide +kernel) (by decide +kernel), ⟨rfl, by decide, by decide, by decide +kernel⟩, ⟨_, _, rfl⟩⟩
theorem vX5_159 : lkV RX5 159 μX4_firstPair 4 0 := ⟨tb_of 232 (by decide +kernel) (by decide +kernel), tb_of 233 (by decide +kernel) (by decide +kernel), tb_of 234 (by decide +kernel) (by decide +kernel), tb_of 10 (by decide +kernel) (by decide +kernel), tb_of 235 (by decide +kernel) (by decide +kernel), ⟨rfl, by decide, by decide, by decide +kernel⟩, ⟨_, _, rfl⟩⟩
theorem vX5_162 : lkV RX5 162 μX5_fallsWithout 5 2 := ⟨tb_of 236 (by decide +kernel) (by decide +kernel), tb_of 238 (by decide +kernel) (by decide +kernel), tb_of 2 (by decide +kernel) (by decide +kernel), tb_of 8 (by decide +kernel) (by decide +kernel), tb_of 239 (by decide +kernel) (by decide +kernel), ⟨rfl, by decide, by decide, by decide +kernel⟩, ⟨_, _, rfl⟩⟩
theorem vX5_170 : lkV RX5 170 μX4_windings 4 1 := ⟨tb_of 282 (by decide +kernel) (by decide +kernel), tb_of 283 (by decide +kernel) (by decide +kernel), tb_of 284 (by decide +kernel) (by decide +kernel), tb_of 10 (by decide +kernel) (by decide +kernel), tb_of 285 (by decide +kernel) (by decide +kernel), ⟨rfl, by decide, by decide, by decide +kernel⟩, ⟨_, _, rfl⟩⟩
theorem vX5_174 : lkV RX5 174 μX5_layLeast 5 2 := ⟨tb_of 300 (by decide +kernel) (by decide +kernel), tb_of 302 (by decide +kernel) (by decide +kernel), tb_of 3 (by decide +kernel) (by decide +kernel), tb_of 8 (by decide +kernel) (by decide +kernel), tb_of 303 (by decide +kernel) (by decide +kernel), ⟨rfl, by decide, by decide, by decide +kernel⟩, ⟨_, _, rfl⟩⟩
theorem vX5_203 : lkV RX5 203 μX5_crossingsIfSwapped 5 2 := ⟨tb_of 427 (by decide +kernel) (by decide +kernel), tb_of 429 (by decide +kernel) (by decide +kernel), tb_of 4 (by decide +kernel) (by decide +kernel), tb_of 8 (by decide +kernel) (by decide +kernel), tb_of 430 (by decide +kernel) (by decide +kernel), ⟨rfl, by decide, by decide, by decide +kernel⟩, ⟨_, _, rfl⟩⟩
theorem vX5_215 : lkV RX5 215 μX4_at 4 1 := ⟨tb_of 244 (by decide +kernel) (by decide +kernel), tb_of 173 (by decide +kernel) (by decide +kernel), tb_of 174 (by decide +kernel) (by decide +kernel), tb_of 10 (by decide +kernel) (by decide +kernel), tb_of 175 (by decide +kernel) (by decide +kernel), ⟨rfl, by decide, by decide, by decide +kernel⟩, ⟨_, _, rfl⟩⟩
theorem vX5_218 : lkV RX5 218 μX4_tighten 4 0 := ⟨tb_of 214 (by decide +kernel) (by decide +kernel), tb_of 215 (by decide +kernel) (by decide +kernel), tb_of 216 (by decide +kernel) (by decide +kernel), tb_of 10 (by decide +kernel) (by decide +kernel), tb_of 217 (by decide +kernel) (by decide +kernel), ⟨rfl, by decide, by decide, by decide +kernel⟩, ⟨_, _, rfl⟩⟩
theorem vX5_221 : lkV RX5 221 μX4_leastStart 4 0 := ⟨tb_of 304 (by decide +kernel) (by decide +kernel), tb_of 305 (by decide +kernel) (by decide +kernel), tb_of 306 (by decide +kernel) (by decide +kernel), tb_of 10 (by decide +kernel) (by decide +kernel), tb_of 307 (by decide +kernel) (by decide +kernel), ⟨rfl, by decide, by decide, by decide +kernel⟩, ⟨_, _, rfl⟩⟩
theorem vX5_224 : lkV RX5 224 μX4_copyFromStart 4 2 := ⟨tb_of 316 (by decide +kernel) (by decide +kernel), tb_of 317 (by decide +kernel) (by decide +kernel), tb_of 318 (by decide +kernel) (by decide +kernel), tb_of 10 (by decide +kernel) (by decide +kernel), tb_of 319 (by decide +kernel) (by decide +kernel), ⟨rfl, by decide, by decide, by decide +kernel⟩, ⟨_, _, rfl⟩⟩
theorem vX5_228 : lkV RX5 228 μX5_addSwapped 5 3 := ⟨tb_of 435 (by decide +kernel) (by decide +kernel), tb_of 437 (by decide +kernel) (by decide +kernel), tb_of 6 (by decide +kernel) (by decide +kernel), tb_of 8 (by decide +kernel) (by decide +kernel), tb_of 438 (by decide +kernel) (by decide +kernel), ⟨rfl, by decide, by decide, by decide +kernel⟩, ⟨_, _, rfl⟩⟩
theorem vX5_238 : lkV RX5 238 μX4_addPulled 4 1 := ⟨tb_of 246 (by decide +kernel) (by decide +kernel), tb_of 204 (by decide +kernel) (by decide +kernel), tb_of 205 (by decide +kernel) (by decide +kernel), tb_of 10 (by decide +kernel) (by decide +kernel), tb_of 206 (by decide +kernel) (by decide +kernel), ⟨rfl, by decide, by decide, by decide +kernel⟩, ⟨_, _, rfl⟩⟩
theorem wX5_9 : Cond.classLink RX5 9 RX3 ∈ TB := tb_of 23 (by decide +kernel) (by decide +kernel)
theorem wX5_16 : Cond.classLink RX5 16 RX1 ∈ TB := tb_of 58 (by decide +kernel) (by decide +kernel)
theorem wX5_31 : Cond.classLink RX5 31 RX0 ∈ TB := tb_of 78 (by decide +kernel) (by decide +kernel)
theorem wX5_38 : Cond.classLink RX5 38 RX2 ∈ TB := tb_of 105 (by decide +kernel) (by decide +kernel)
theorem wX5_45 : Cond.classLink RX5 45 RX4 ∈ TB := tb_of 124 (by decide +kernel) (by decide +kernel)
theorem in_X0 : Cond.instantiable RX0 6 ∈ TB := tb_of 79 (by decide +kernel) (by decide +kernel)
theorem ini_X0 : Cond.initialized RX0 ∈ TB := tb_of 13 (by decide +kernel) (by decide +kernel)
theorem in_X1 : Cond.instantiable RX1 3 ∈ TB := tb_of 59 (by decide +kernel) (by decide +kernel)
theorem ini_X1 : Cond.initialized RX1 ∈ TB := tb_of 12 (by decide +kernel) (by decide +kernel)
theorem in_X2 : Cond.instantiable RX2 4 ∈ TB := tb_of 106 (by decide +kernel) (by decide +kernel)
theorem ini_X2 : Cond.initialized RX2 ∈ TB := tb_of 14 (by decide +kernel) (by decide +kernel)
theorem in_X3 : Cond.instantiable RX3 2 ∈ TB := tb_of 24 (by decide +kernel) (by decide +kernel)
theorem ini_X3 : Cond.initialized RX3 ∈ TB := tb_of 9 (by decide +kernel) (by decide +kernel)
theorem in_X4 : Cond.instantiable RX4 2 ∈ TB := tb_of 31 (by decide +kernel) (by decide +kernel)
theorem ini_X4 : Cond.initialized RX4 ∈ TB := tb_of 10 (by decide +kernel) (by decide +kernel)
theorem in_X5 : Cond.instantiable RX5 9 ∈ TB := tb_of 16 (by decide +kernel) (by decide +kernel)
theorem ini_X5 : Cond.initialized RX5 ∈ TB := tb_of 8 (by decide +kernel) (by decide +kernel)
theorem o_in : Cond.instanceMethod Lib.objectInit ∈ TB := tb_of 21 (by decide +kernel) (by decide +kernel)
theorem o_code : Cond.code Lib.objectInit ⟨#[0xb1]⟩ 1 none ∈ TB := tb_of 22 (by decide +kernel) (by decide +kernel)
theorem oX0 : Cond.methodLink RX0 3 Lib.objectInit ∈ TB := tb_of 83 (by decide +kernel) (by decide +kernel)
theorem oX1 : Cond.methodLink RX1 3 Lib.objectInit ∈ TB := tb_of 63 (by decide +kernel) (by decide +kernel)
theorem oX2 : Cond.methodLink RX2 3 Lib.objectInit ∈ TB := tb_of 110 (by decide +kernel) (by decide +kernel)
theorem oX3 : Cond.methodLink RX3 3 Lib.objectInit ∈ TB := tb_of 28 (by decide +kernel) (by decide +kernel)
theorem oX4 : Cond.methodLink RX4 3 Lib.objectInit ∈ TB := tb_of 35 (by decide +kernel) (by decide +kernel)
theorem oX5 : Cond.methodLink RX5 3 Lib.objectInit ∈ TB := tb_of 20 (by decide +kernel) (by decide +kernel)
theorem ac_I : Cond.arrayClass .int ∈ TB := tb_of 48 (by decide +kernel) (by decide +kernel)
theorem ac_Z : Cond.arrayClass .boolean ∈ TB := tb_of 104 (by decide +kernel) (by decide +kernel)
end
section
/-! the layout of the run: the class first (120 cells), the law's arrays behind it -/
def LY : List LK := [kO 5 [some (some 1), some (some 12), some (some 80), some (some 103), some (some 104), some (some 109), some (some 114), some (some 116), some (some 118)],
  kO 3 [some (some 2), some (some 3)],
  kA 0 6,
  kR 3 [some 4, some 6, some 8, some 10],
  kO 4 [some (some 5), none],
  kA 0 120,
  kO 4 [some (some 7), none],
  kA 0 120,
  kO 4 [some (some 9), none],
  kA 0 120,
  kO 4 [some (some 11), none],
  kA 0 120,
  kO 1 [some (some 13), none, none],
  kR 2 [some 14, some 25, some 36, some 47, some 58, some 69],
  kO 3 [some (some 15), some (some 16)],
  kA 0 6,
  kR 3 [some 17, some 19, some 21, some 23],
  kO 4 [some (some 18), none],
  kA 0 120,
  kO 4 [some (some 20), none],
  kA 0 120,
  kO 4 [some (some 22), none],
  kA 0 120,
  kO 4 [some (some 24), none],
  kA 0 120,
  kO 3 [some (some 26), some (some 27)],
  kA 0 6,
  kR 3 [some 28, some 30, some 32, some 34],
  kO 4 [some (some 29), none],
  kA 0 120,
  kO 4 [some (some 31), none],
  kA 0 120,
  kO 4 [some (some 33), none],
  kA 0 120,
  kO 4 [some (some 35), none],
  kA 0 120,
  kO 3 [some (some 37), some (some 38)],
  kA 0 6,
  kR 3 [some 39, some 41, some 43, some 45],
  kO 4 [some (some 40), none],
  kA 0 120,
  kO 4 [some (some 42), none],
  kA 0 120,
  kO 4 [some (some 44), none],
  kA 0 120,
  kO 4 [some (some 46), none],
  kA 0 120,
  kO 3 [some (some 48), some (some 49)],
  kA 0 6,
  kR 3 [some 50, some 52, some 54, some 56],
  kO 4 [some (some 51), none],
  kA 0 120,
  kO 4 [some (some 53), none],
  kA 0 120,
  kO 4 [some (some 55), none],
  kA 0 120,
  kO 4 [some (some 57), none],
  kA 0 120,
  kO 3 [some (some 59), some (some 60)],
  kA 0 6,
  kR 3 [some 61, some 63, some 65, some 67],
  kO 4 [some (some 62), none],
  kA 0 120,
  kO 4 [some (some 64), none],
  kA 0 120,
  kO 4 [some (some 66), none],
  kA 0 120,
  kO 4 [some (some 68), none],
  kA 0 120,
  kO 3 [some (some 70), some (some 71)],
  kA 0 6,
  kR 3 [some 72, some 74, some 76, some 78],
  kO 4 [some (some 73), none],
  kA 0 120,
  kO 4 [some (some 75), none],
  kA 0 120,
  kO 4 [some (some 77), none],
  kA 0 120,
  kO 4 [some (some 79), none],
  kA 0 120,
  kR 2 [some 81, some 92],
  kO 3 [some (some 82), some (some 83)],
  kA 0 6,
  kR 3 [some 84, some 86, some 88, some 90],
  kO 4 [some (some 85), none],
  kA 0 120,
  kO 4 [some (some 87), none],
  kA 0 120,
  kO 4 [some (some 89), none],
  kA 0 120,
  kO 4 [some (some 91), none],
  kA 0 120,
  kO 3 [some (some 93), some (some 94)],
  kA 0 6,
  kR 3 [some 95, some 97, some 99, some 101],
  kO 4 [some (some 96), none],
  kA 0 120,
  kO 4 [some (some 98), none],
  kA 0 120,
  kO 4 [some (some 100), none],
  kA 0 120,
  kO 4 [some (some 102), none],
  kA 0 120,
  kA 1 2,
  kO 0 [some (some 105), none, some (some 106), some (some 107), some (some 108), none],
  kA 0 60,
  kA 0 4,
  kA 0 4,
  kA 0 4,
  kO 2 [some (some 110), some (some 111), some (some 112), some (some 113)],
  kA 0 7260,
  kA 0 120,
  kA 0 120,
  kA 0 12,
  kO 4 [some (some 115), none],
  kA 0 480,
  kO 4 [some (some 117), none],
  kA 0 480,
  kO 4 [some (some 119), none],
  kA 0 480]
def LAY : Lay := fun i => LY.getD i (kA 0 64)
abbrev NN (g : GE) : Nat := 120 + g.2.2.2
theorem LAY_hi {i : Nat} (h : 120 ≤ i) : LAY i = kA 0 64 := by unfold LAY; rw [List.getD_eq_getElem?_getD, List.getElem?_eq_none (by exact h)]; rfl
theorem L_0 : LAY 0 = kO 5 [some (some 1), some (some 12), some (some 80), some (some 103), some (some 104), some (some 109), some (some 114), some (some 116), some (some 118)] := rfl
theorem n_0 {g : GE} : 0 < NN g := Nat.lt_of_lt_of_le (by decide : 0 < 120) (Nat.le_add_right _ _)
theorem L_1 : LAY 1 = kO 3 [some (some 2), some (some 3)] := rfl
theorem n_1 {g : GE} : 1 < NN g := Nat.lt_of_lt_of_le (by decide : 1 < 120) (Nat.le_add_right _ _)
theorem L_2 : LAY 2 = kA 0 6 := rfl
theorem n_2 {g : GE} : 2 < NN g := Nat.lt_of_lt_of_le (by decide : 2 < 120) (Nat.le_add_right _ _)
theorem L_3 : LAY 3 = kR 3 [some 4, some 6, some 8, some 10] := rfl
theorem n_3 {g : GE} : 3 < NN g := Nat.lt_of_lt_of_le (by decide : 3 < 120) (Nat.le_add_right _ _)
theorem L_4 : LAY 4 = kO 4 [some (some 5), none] := rfl
theorem n_4 {g : GE} : 4 < NN g := Nat.lt_of_lt_of_le (by decide : 4 < 120) (Nat.le_add_right _ _)
theorem L_5 : LAY 5 = kA 0 120 := rfl
theorem n_5 {g : GE} : 5 < NN g := Nat.lt_of_lt_of_le (by decide : 5 < 120) (Nat.le_add_right _ _)
theorem L_6 : LAY 6 = kO 4 [some (some 7), none] := rfl
theorem n_6 {g : GE} : 6 < NN g := Nat.lt_of_lt_of_le (by decide : 6 < 120) (Nat.le_add_right _ _)
theorem L_7 : LAY 7 = kA 0 120 := rfl
theorem n_7 {g : GE} : 7 < NN g := Nat.lt_of_lt_of_le (by decide : 7 < 120) (Nat.le_add_right _ _)
theorem L_8 : LAY 8 = kO 4 [some (some 9), none] := rfl
theorem n_8 {g : GE} : 8 < NN g := Nat.lt_of_lt_of_le (by decide : 8 < 120) (Nat.le_add_right _ _)
theorem L_9 : LAY 9 = kA 0 120 := rfl
theorem n_9 {g : GE} : 9 < NN g := Nat.lt_of_lt_of_le (by decide : 9 < 120) (Nat.le_add_right _ _)
theorem L_10 : LAY 10 = kO 4 [some (some 11), none] := rfl
theorem n_10 {g : GE} : 10 < NN g := Nat.lt_of_lt_of_le (by decide : 10 < 120) (Nat.le_add_right _ _)
theorem L_11 : LAY 11 = kA 0 120 := rfl
theorem n_11 {g : GE} : 11 < NN g := Nat.lt_of_lt_of_le (by decide : 11 < 120) (Nat.le_add_right _ _)
theorem L_12 : LAY 12 = kO 1 [some (some 13), none, none] := rfl
theorem n_12 {g : GE} : 12 < NN g := Nat.lt_of_lt_of_le (by decide : 12 < 120) (Nat.le_add_right _ _)
theorem L_13 : LAY 13 = kR 2 [some 14, some 25, some 36, some 47, some 58, some 69] := rfl
theorem n_13 {g : GE} : 13 < NN g := Nat.lt_of_lt_of_le (by decide : 13 < 120) (Nat.le_add_right _ _)
theorem L_14 : LAY 14 = kO 3 [some (some 15), some (some 16)] := rfl
theorem n_14 {g : GE} : 14 < NN g := Nat.lt_of_lt_of_le (by decide : 14 < 120) (Nat.le_add_right _ _)
theorem L_15 : LAY 15 = kA 0 6 := rfl
theorem n_15 {g : GE} : 15 < NN g := Nat.lt_of_lt_of_le (by decide : 15 < 120) (Nat.le_add_right _ _)
theorem L_16 : LAY 16 = kR 3 [some 17, some 19, some 21, some 23] := rfl
theorem n_16 {g : GE} : 16 < NN g := Nat.lt_of_lt_of_le (by decide : 16 < 120) (Nat.le_add_right _ _)
theorem L_17 : LAY 17 = kO 4 [some (some 18), none] := rfl
theorem n_17 {g : GE} : 17 < NN g := Nat.lt_of_lt_of_le (by decide : 17 < 120) (Nat.le_add_right _ _)
theorem L_18 : LAY 18 = kA 0 120 := rfl
theorem n_18 {g : GE} : 18 < NN g := Nat.lt_of_lt_of_le (by decide : 18 < 120) (Nat.le_add_right _ _)
theorem L_19 : LAY 19 = kO 4 [some (some 20), none] := rfl
theorem n_19 {g : GE} : 19 < NN g := Nat.lt_of_lt_of_le (by decide : 19 < 120) (Nat.le_add_right _ _)
theorem L_20 : LAY 20 = kA 0 120 := rfl
theorem n_20 {g : GE} : 20 < NN g := Nat.lt_of_lt_of_le (by decide : 20 < 120) (Nat.le_add_right _ _)
theorem L_21 : LAY 21 = kO 4 [some (some 22), none] := rfl
theorem n_21 {g : GE} : 21 < NN g := Nat.lt_of_lt_of_le (by decide : 21 < 120) (Nat.le_add_right _ _)
theorem L_22 : LAY 22 = kA 0 120 := rfl
theorem n_22 {g : GE} : 22 < NN g := Nat.lt_of_lt_of_le (by decide : 22 < 120) (Nat.le_add_right _ _)
theorem L_23 : LAY 23 = kO 4 [some (some 24), none] := rfl
theorem n_23 {g : GE} : 23 < NN g := Nat.lt_of_lt_of_le (by decide : 23 < 120) (Nat.le_add_right _ _)
theorem L_24 : LAY 24 = kA 0 120 := rfl
theorem n_24 {g : GE} : 24 < NN g := Nat.lt_of_lt_of_le (by decide : 24 < 120) (Nat.le_add_right _ _)
theorem L_25 : LAY 25 = kO 3 [some (some 26), some (some 27)] := rfl
theorem n_25 {g : GE} : 25 < NN g := Nat.lt_of_lt_of_le (by decide : 25 < 120) (Nat.le_add_right _ _)
theorem L_26 : LAY 26 = kA 0 6 := rfl
theorem n_26 {g : GE} : 26 < NN g := Nat.lt_of_lt_of_le (by decide : 26 < 120) (Nat.le_add_right _ _)
theorem L_27 : LAY 27 = kR 3 [some 28, some 30, some 32, some 34] := rfl
theorem n_27 {g : GE} : 27 < NN g := Nat.lt_of_lt_of_le (by decide : 27 < 120) (Nat.le_add_right _ _)
theorem L_28 : LAY 28 = kO 4 [some (some 29), none] := rfl
theorem n_28 {g : GE} : 28 < NN g := Nat.lt_of_lt_of_le (by decide : 28 < 120) (Nat.le_add_right _ _)
theorem L_29 : LAY 29 = kA 0 120 := rfl
theorem n_29 {g : GE} : 29 < NN g := Nat.lt_of_lt_of_le (by decide : 29 < 120) (Nat.le_add_right _ _)
theorem L_30 : LAY 30 = kO 4 [some (some 31), none] := rfl
theorem n_30 {g : GE} : 30 < NN g := Nat.lt_of_lt_of_le (by decide : 30 < 120) (Nat.le_add_right _ _)
theorem L_31 : LAY 31 = kA 0 120 := rfl
theorem n_31 {g : GE} : 31 < NN g := Nat.lt_of_lt_of_le (by decide : 31 < 120) (Nat.le_add_right _ _)
theorem L_32 : LAY 32 = kO 4 [some (some 33), none] := rfl
theorem n_32 {g : GE} : 32 < NN g := Nat.lt_of_lt_of_le (by decide : 32 < 120) (Nat.le_add_right _ _)
theorem L_33 : LAY 33 = kA 0 120 := rfl
theorem n_33 {g : GE} : 33 < NN g := Nat.lt_of_lt_of_le (by decide : 33 < 120) (Nat.le_add_right _ _)
theorem L_34 : LAY 34 = kO 4 [some (some 35), none] := rfl
theorem n_34 {g : GE} : 34 < NN g := Nat.lt_of_lt_of_le (by decide : 34 < 120) (Nat.le_add_right _ _)
theorem L_35 : LAY 35 = kA 0 120 := rfl
theorem n_35 {g : GE} : 35 < NN g := Nat.lt_of_lt_of_le (by decide : 35 < 120) (Nat.le_add_right _ _)
theorem L_36 : LAY 36 = kO 3 [some (some 37), some (some 38)] := rfl
theorem n_36 {g : GE} : 36 < NN g := Nat.lt_of_lt_of_le (by decide : 36 < 120) (Nat.le_add_right _ _)
theorem L_37 : LAY 37 = kA 0 6 := rfl
theorem n_37 {g : GE} : 37 < NN g := Nat.lt_of_lt_of_le (by decide : 37 < 120) (Nat.le_add_right _ _)
theorem L_38 : LAY 38 = kR 3 [some 39, some 41, some 43, some 45] := rfl
theorem n_38 {g : GE} : 38 < NN g := Nat.lt_of_lt_of_le (by decide : 38 < 120) (Nat.le_add_right _ _)
theorem L_39 : LAY 39 = kO 4 [some (some 40), none] := rfl
theorem n_39 {g : GE} : 39 < NN g := Nat.lt_of_lt_of_le (by decide : 39 < 120) (Nat.le_add_right _ _)
theorem L_40 : LAY 40 = kA 0 120 := rfl
theorem n_40 {g : GE} : 40 < NN g := Nat.lt_of_lt_of_le (by decide : 40 < 120) (Nat.le_add_right _ _)
theorem L_41 : LAY 41 = kO 4 [some (some 42), none] := rfl
theorem n_41 {g : GE} : 41 < NN g := Nat.lt_of_lt_of_le (by decide : 41 < 120) (Nat.le_add_right _ _)
theorem L_42 : LAY 42 = kA 0 120 := rfl
theorem n_42 {g : GE} : 42 < NN g := Nat.lt_of_lt_of_le (by decide : 42 < 120) (Nat.le_add_right _ _)
theorem L_43 : LAY 43 = kO 4 [some (some 44), none] := rfl
theorem n_43 {g : GE} : 43 < NN g := Nat.lt_of_lt_of_le (by decide : 43 < 120) (Nat.le_add_right _ _)
theorem L_44 : LAY 44 = kA 0 120 := rfl
theorem n_44 {g : GE} : 44 < NN g := Nat.lt_of_lt_of_le (by decide : 44 < 120) (Nat.le_add_right _ _)
theorem L_45 : LAY 45 = kO 4 [some (some 46), none] := rfl
theorem n_45 {g : GE} : 45 < NN g := Nat.lt_of_lt_of_le (by decide : 45 < 120) (Nat.le_add_right _ _)
theorem L_46 : LAY 46 = kA 0 120 := rfl
theorem n_46 {g : GE} : 46 < NN g := Nat.lt_of_lt_of_le (by decide : 46 < 120) (Nat.le_add_right _ _)
theorem L_47 : LAY 47 = kO 3 [some (some 48), some (some 49)] := rfl
theorem n_47 {g : GE} : 47 < NN g := Nat.lt_of_lt_of_le (by decide : 47 < 120) (Nat.le_add_right _ _)
theorem L_48 : LAY 48 = kA 0 6 := rfl
theorem n_48 {g : GE} : 48 < NN g := Nat.lt_of_lt_of_le (by decide : 48 < 120) (Nat.le_add_right _ _)
theorem L_49 : LAY 49 = kR 3 [some 50, some 52, some 54, some 56] := rfl
theorem n_49 {g : GE} : 49 < NN g := Nat.lt_of_lt_of_le (by decide : 49 < 120) (Nat.le_add_right _ _)
theorem L_50 : LAY 50 = kO 4 [some (some 51), none] := rfl
theorem n_50 {g : GE} : 50 < NN g := Nat.lt_of_lt_of_le (by decide : 50 < 120) (Nat.le_add_right _ _)
theorem L_51 : LAY 51 = kA 0 120 := rfl
theorem n_51 {g : GE} : 51 < NN g := Nat.lt_of_lt_of_le (by decide : 51 < 120) (Nat.le_add_right _ _)
theorem L_52 : LAY 52 = kO 4 [some (some 53), none] := rfl
theorem n_52 {g : GE} : 52 < NN g := Nat.lt_of_lt_of_le (by decide : 52 < 120) (Nat.le_add_right _ _)
theorem L_53 : LAY 53 = kA 0 120 := rfl
theorem n_53 {g : GE} : 53 < NN g := Nat.lt_of_lt_of_le (by decide : 53 < 120) (Nat.le_add_right _ _)
theorem L_54 : LAY 54 = kO 4 [some (some 55), none] := rfl
theorem n_54 {g : GE} : 54 < NN g := Nat.lt_of_lt_of_le (by decide : 54 < 120) (Nat.le_add_right _ _)
theorem L_55 : LAY 55 = kA 0 120 := rfl
theorem n_55 {g : GE} : 55 < NN g := Nat.lt_of_lt_of_le (by decide : 55 < 120) (Nat.le_add_right _ _)
theorem L_56 : LAY 56 = kO 4 [some (some 57), none] := rfl
theorem n_56 {g : GE} : 56 < NN g := Nat.lt_of_lt_of_le (by decide : 56 < 120) (Nat.le_add_right _ _)
theorem L_57 : LAY 57 = kA 0 120 := rfl
theorem n_57 {g : GE} : 57 < NN g := Nat.lt_of_lt_of_le (by decide : 57 < 120) (Nat.le_add_right _ _)
theorem L_58 : LAY 58 = kO 3 [some (some 59), some (some 60)] := rfl
theorem n_58 {g : GE} : 58 < NN g := Nat.lt_of_lt_of_le (by decide : 58 < 120) (Nat.le_add_right _ _)
theorem L_59 : LAY 59 = kA 0 6 := rfl
theorem n_59 {g : GE} : 59 < NN g := Nat.lt_of_lt_of_le (by decide : 59 < 120) (Nat.le_add_right _ _)
theorem L_60 : LAY 60 = kR 3 [some 61, some 63, some 65, some 67] := rfl
theorem n_60 {g : GE} : 60 < NN g := Nat.lt_of_lt_of_le (by decide : 60 < 120) (Nat.le_add_right _ _)
theorem L_61 : LAY 61 = kO 4 [some (some 62), none] := rfl
theorem n_61 {g : GE} : 61 < NN g := Nat.lt_of_lt_of_le (by decide : 61 < 120) (Nat.le_add_right _ _)
theorem L_62 : LAY 62 = kA 0 120 := rfl
theorem n_62 {g : GE} : 62 < NN g := Nat.lt_of_lt_of_le (by decide : 62 < 120) (Nat.le_add_right _ _)
theorem L_63 : LAY 63 = kO 4 [some (some 64), none] := rfl
theorem n_63 {g : GE} : 63 < NN g := Nat.lt_of_lt_of_le (by decide : 63 < 120) (Nat.le_add_right _ _)
theorem L_64 : LAY 64 = kA 0 120 := rfl
theorem n_64 {g : GE} : 64 < NN g := Nat.lt_of_lt_of_le (by decide : 64 < 120) (Nat.le_add_right _ _)
theorem L_65 : LAY 65 = kO 4 [some (some 66), none] := rfl
theorem n_65 {g : GE} : 65 < NN g := Nat.lt_of_lt_of_le (by decide : 65 < 120) (Nat.le_add_right _ _)
theorem L_66 : LAY 66 = kA 0 120 := rfl
theorem n_66 {g : GE} : 66 < NN g := Nat.lt_of_lt_of_le (by decide : 66 < 120) (Nat.le_add_right _ _)
theorem L_67 : LAY 67 = kO 4 [some (some 68), none] := rfl
theorem n_67 {g : GE} : 67 < NN g := Nat.lt_of_lt_of_le (by decide : 67 < 120) (Nat.le_add_right _ _)
theorem L_68 : LAY 68 = kA 0 120 := rfl
theorem n_68 {g : GE} : 68 < NN g := Nat.lt_of_lt_of_le (by decide : 68 < 120) (Nat.le_add_right _ _)
theorem L_69 : LAY 69 = kO 3 [some (some 70), some (some 71)] := rfl
theorem n_69 {g : GE} : 69 < NN g := Nat.lt_of_lt_of_le (by decide : 69 < 120) (Nat.le_add_right _ _)
theorem L_70 : LAY 70 = kA 0 6 := rfl
theorem n_70 {g : GE} : 70 < NN g := Nat.lt_of_lt_of_le (by decide : 70 < 120) (Nat.le_add_right _ _)
theorem L_71 : LAY 71 = kR 3 [some 72, some 74, some 76, some 78] := rfl
theorem n_71 {g : GE} : 71 < NN g := Nat.lt_of_lt_of_le (by decide : 71 < 120) (Nat.le_add_right _ _)
theorem L_72 : LAY 72 = kO 4 [some (some 73), none] := rfl
theorem n_72 {g : GE} : 72 < NN g := Nat.lt_of_lt_of_le (by decide : 72 < 120) (Nat.le_add_right _ _)
theorem L_73 : LAY 73 = kA 0 120 := rfl
theorem n_73 {g : GE} : 73 < NN g := Nat.lt_of_lt_of_le (by decide : 73 < 120) (Nat.le_add_right _ _)
theorem L_74 : LAY 74 = kO 4 [some (some 75), none] := rfl
theorem n_74 {g : GE} : 74 < NN g := Nat.lt_of_lt_of_le (by decide : 74 < 120) (Nat.le_add_right _ _)
theorem L_75 : LAY 75 = kA 0 120 := rfl
theorem n_75 {g : GE} : 75 < NN g := Nat.lt_of_lt_of_le (by decide : 75 < 120) (Nat.le_add_right _ _)
theorem L_76 : LAY 76 = kO 4 [some (some 77), none] := rfl
theorem n_76 {g : GE} : 76 < NN g := Nat.lt_of_lt_of_le (by decide : 76 < 120) (Nat.le_add_right _ _)
theorem L_77 : LAY 77 = kA 0 120 := rfl
theorem n_77 {g : GE} : 77 < NN g := Nat.lt_of_lt_of_le (by decide : 77 < 120) (Nat.le_add_right _ _)
theorem L_78 : LAY 78 = kO 4 [some (some 79), none] := rfl
theorem n_78 {g : GE} : 78 < NN g := Nat.lt_of_lt_of_le (by decide : 78 < 120) (Nat.le_add_right _ _)
theorem L_79 : LAY 79 = kA 0 120 := rfl
theorem n_79 {g : GE} : 79 < NN g := Nat.lt_of_lt_of_le (by decide : 79 < 120) (Nat.le_add_right _ _)
theorem L_80 : LAY 80 = kR 2 [some 81, some 92] := rfl
theorem n_80 {g : GE} : 80 < NN g := Nat.lt_of_lt_of_le (by decide : 80 < 120) (Nat.le_add_right _ _)
theorem L_81 : LAY 81 = kO 3 [some (some 82), some (some 83)] := rfl
theorem n_81 {g : GE} : 81 < NN g := Nat.lt_of_lt_of_le (by decide : 81 < 120) (Nat.le_add_right _ _)
theorem L_82 : LAY 82 = kA 0 6 := rfl
theorem n_82 {g : GE} : 82 < NN g := Nat.lt_of_lt_of_le (by decide : 82 < 120) (Nat.le_add_right _ _)
theorem L_83 : LAY 83 = kR 3 [some 84, some 86, some 88, some 90] := rfl
theorem n_83 {g : GE} : 83 < NN g := Nat.lt_of_lt_of_le (by decide : 83 < 120) (Nat.le_add_right _ _)
theorem L_84 : LAY 84 = kO 4 [some (some 85), none] := rfl
theorem n_84 {g : GE} : 84 < NN g := Nat.lt_of_lt_of_le (by decide : 84 < 120) (Nat.le_add_right _ _)
theorem L_85 : LAY 85 = kA 0 120 := rfl
theorem n_85 {g : GE} : 85 < NN g := Nat.lt_of_lt_of_le (by decide : 85 < 120) (Nat.le_add_right _ _)
theorem L_86 : LAY 86 = kO 4 [some (some 87), none] := rfl
theorem n_86 {g : GE} : 86 < NN g := Nat.lt_of_lt_of_le (by decide : 86 < 120) (Nat.le_add_right _ _)
theorem L_87 : LAY 87 = kA 0 120 := rfl
theorem n_87 {g : GE} : 87 < NN g := Nat.lt_of_lt_of_le (by decide : 87 < 120) (Nat.le_add_right _ _)
theorem L_88 : LAY 88 = kO 4 [some (some 89), none] := rfl
theorem n_88 {g : GE} : 88 < NN g := Nat.lt_of_lt_of_le (by decide : 88 < 120) (Nat.le_add_right _ _)
theorem L_89 : LAY 89 = kA 0 120 := rfl
theorem n_89 {g : GE} : 89 < NN g := Nat.lt_of_lt_of_le (by decide : 89 < 120) (Nat.le_add_right _ _)
theorem L_90 : LAY 90 = kO 4 [some (some 91), none] := rfl
theorem n_90 {g : GE} : 90 < NN g := Nat.lt_of_lt_of_le (by decide : 90 < 120) (Nat.le_add_right _ _)
theorem L_91 : LAY 91 = kA 0 120 := rfl
theorem n_91 {g : GE} : 91 < NN g := Nat.lt_of_lt_of_le (by decide : 91 < 120) (Nat.le_add_right _ _)
theorem L_92 : LAY 92 = kO 3 [some (some 93), some (some 94)] := rfl
theorem n_92 {g : GE} : 92 < NN g := Nat.lt_of_lt_of_le (by decide : 92 < 120) (Nat.le_add_right _ _)
theorem L_93 : LAY 93 = kA 0 6 := rfl
theorem n_93 {g : GE} : 93 < NN g := Nat.lt_of_lt_of_le (by decide : 93 < 120) (Nat.le_add_right _ _)
theorem L_94 : LAY 94 = kR 3 [some 95, some 97, some 99, some 101] := rfl
theorem n_94 {g : GE} : 94 < NN g := Nat.lt_of_lt_of_le (by decide : 94 < 120) (Nat.le_add_right _ _)
theorem L_95 : LAY 95 = kO 4 [some (some 96), none] := rfl
theorem n_95 {g : GE} : 95 < NN g := Nat.lt_of_lt_of_le (by decide : 95 < 120) (Nat.le_add_right _ _)
theorem L_96 : LAY 96 = kA 0 120 := rfl
theorem n_96 {g : GE} : 96 < NN g := Nat.lt_of_lt_of_le (by decide : 96 < 120) (Nat.le_add_right _ _)
theorem L_97 : LAY 97 = kO 4 [some (some 98), none] := rfl
theorem n_97 {g : GE} : 97 < NN g := Nat.lt_of_lt_of_le (by decide : 97 < 120) (Nat.le_add_right _ _)
theorem L_98 : LAY 98 = kA 0 120 := rfl
theorem n_98 {g : GE} : 98 < NN g := Nat.lt_of_lt_of_le (by decide : 98 < 120) (Nat.le_add_right _ _)
theorem L_99 : LAY 99 = kO 4 [some (some 100), none] := rfl
theorem n_99 {g : GE} : 99 < NN g := Nat.lt_of_lt_of_le (by decide : 99 < 120) (Nat.le_add_right _ _)
theorem L_100 : LAY 100 = kA 0 120 := rfl
theorem n_100 {g : GE} : 100 < NN g := Nat.lt_of_lt_of_le (by decide : 100 < 120) (Nat.le_add_right _ _)
theorem L_101 : LAY 101 = kO 4 [some (some 102), none] := rfl
theorem n_101 {g : GE} : 101 < NN g := Nat.lt_of_lt_of_le (by decide : 101 < 120) (Nat.le_add_right _ _)
theorem L_102 : LAY 102 = kA 0 120 := rfl
theorem n_102 {g : GE} : 102 < NN g := Nat.lt_of_lt_of_le (by decide : 102 < 120) (Nat.le_add_right _ _)
theorem L_103 : LAY 103 = kA 1 2 := rfl
theorem n_103 {g : GE} : 103 < NN g := Nat.lt_of_lt_of_le (by decide : 103 < 120) (Nat.le_add_right _ _)
theorem L_104 : LAY 104 = kO 0 [some (some 105), none, some (some 106), some (some 107), some (some 108), none] := rfl
theorem n_104 {g : GE} : 104 < NN g := Nat.lt_of_lt_of_le (by decide : 104 < 120) (Nat.le_add_right _ _)
theorem L_105 : LAY 105 = kA 0 60 := rfl
theorem n_105 {g : GE} : 105 < NN g := Nat.lt_of_lt_of_le (by decide : 105 < 120) (Nat.le_add_right _ _)
theorem L_106 : LAY 106 = kA 0 4 := rfl
theorem n_106 {g : GE} : 106 < NN g := Nat.lt_of_lt_of_le (by decide : 106 < 120) (Nat.le_add_right _ _)
theorem L_107 : LAY 107 = kA 0 4 := rfl
theorem n_107 {g : GE} : 107 < NN g := Nat.lt_of_lt_of_le (by decide : 107 < 120) (Nat.le_add_right _ _)
theorem L_108 : LAY 108 = kA 0 4 := rfl
theorem n_108 {g : GE} : 108 < NN g := Nat.lt_of_lt_of_le (by decide : 108 < 120) (Nat.le_add_right _ _)
theorem L_109 : LAY 109 = kO 2 [some (some 110), some (some 111), some (some 112), some (some 113)] := rfl
theorem n_109 {g : GE} : 109 < NN g := Nat.lt_of_lt_of_le (by decide : 109 < 120) (Nat.le_add_right _ _)
theorem L_110 : LAY 110 = kA 0 7260 := rfl
theorem n_110 {g : GE} : 110 < NN g := Nat.lt_of_lt_of_le (by decide : 110 < 120) (Nat.le_add_right _ _)
theorem L_111 : LAY 111 = kA 0 120 := rfl
theorem n_111 {g : GE} : 111 < NN g := Nat.lt_of_lt_of_le (by decide : 111 < 120) (Nat.le_add_right _ _)
theorem L_112 : LAY 112 = kA 0 120 := rfl
theorem n_112 {g : GE} : 112 < NN g := Nat.lt_of_lt_of_le (by decide : 112 < 120) (Nat.le_add_right _ _)
theorem L_113 : LAY 113 = kA 0 12 := rfl
theorem n_113 {g : GE} : 113 < NN g := Nat.lt_of_lt_of_le (by decide : 113 < 120) (Nat.le_add_right _ _)
theorem L_114 : LAY 114 = kO 4 [some (some 115), none] := rfl
theorem n_114 {g : GE} : 114 < NN g := Nat.lt_of_lt_of_le (by decide : 114 < 120) (Nat.le_add_right _ _)
theorem L_115 : LAY 115 = kA 0 480 := rfl
theorem n_115 {g : GE} : 115 < NN g := Nat.lt_of_lt_of_le (by decide : 115 < 120) (Nat.le_add_right _ _)
theorem L_116 : LAY 116 = kO 4 [some (some 117), none] := rfl
theorem n_116 {g : GE} : 116 < NN g := Nat.lt_of_lt_of_le (by decide : 116 < 120) (Nat.le_add_right _ _)
theorem L_117 : LAY 117 = kA 0 480 := rfl
theorem n_117 {g : GE} : 117 < NN g := Nat.lt_of_lt_of_le (by decide : 117 < 120) (Nat.le_add_right _ _)
theorem L_118 : LAY 118 = kO 4 [some (some 119), none] := rfl
theorem n_118 {g : GE} : 118 < NN g := Nat.lt_of_lt_of_le (by decide : 118 < 120) (Nat.le_add_right _ _)
theorem L_119 : LAY 119 = kA 0 480 := rfl
theorem n_119 {g : GE} : 119 < NN g := Nat.lt_of_lt_of_le (by decide : 119 < 120) (Nat.le_add_right _ _)
/-- a word at i, with room for cap crossings -/
def IsW (g : GE) (i cap : Nat) : Prop := LAY i = kO 4 [some (some (i + 1)), none] ∧ LAY (i + 1) = kA 0 cap ∧ i < NN g ∧ i + 1 < NN g ∧ cap ≤ 480
/-- a state at s: widths, ropes -/
def IsS (g : GE) (s : Nat) : Prop := LAY s = kO 3 [some (some (s + 1)), some (some (s + 2))] ∧ LAY (s + 1) = kA 0 6 ∧ LAY (s + 2) = kR 3 [some (s + 3), some (s + 5), some (s + 7), some (s + 9)] ∧ s < NN g ∧ s + 1 < NN g ∧ s + 2 < NN g ∧ IsW g (s + 3) 120 ∧ IsW g (s + 5) 120 ∧ IsW g (s + 7) 120 ∧ IsW g (s + 9) 120
theorem isW_114 {g : GE} : IsW g 114 480 := ⟨rfl, rfl, n_114, n_115, by decide⟩
theorem isW_116 {g : GE} : IsW g 116 480 := ⟨rfl, rfl, n_116, n_117, by decide⟩
theorem isW_118 {g : GE} : IsW g 118 480 := ⟨rfl, rfl, n_118, n_119, by decide⟩
theorem isS_1 {g : GE} : IsS g 1 := ⟨rfl, rfl, rfl, n_1, n_2, n_3, ⟨rfl, rfl, n_4, n_5, by decide⟩, ⟨rfl, rfl, n_6, n_7, by decide⟩, ⟨rfl, rfl, n_8, n_9, by decide⟩, ⟨rfl, rfl, n_10, n_11, by decide⟩⟩
theorem isS_14 {g : GE} : IsS g 14 := ⟨rfl, rfl, rfl, n_14, n_15, n_16, ⟨rfl, rfl, n_17, n_18, by decide⟩, ⟨rfl, rfl, n_19, n_20, by decide⟩, ⟨rfl, rfl, n_21, n_22, by decide⟩, ⟨rfl, rfl, n_23, n_24, by decide⟩⟩
theorem isS_25 {g : GE} : IsS g 25 := ⟨rfl, rfl, rfl, n_25, n_26, n_27, ⟨rfl, rfl, n_28, n_29, by decide⟩, ⟨rfl, rfl, n_30, n_31, by decide⟩, ⟨rfl, rfl, n_32, n_33, by decide⟩, ⟨rfl, rfl, n_34, n_35, by decide⟩⟩
theorem isS_36 {g : GE} : IsS g 36 := ⟨rfl, rfl, rfl, n_36, n_37, n_38, ⟨rfl, rfl, n_39, n_40, by decide⟩, ⟨rfl, rfl, n_41, n_42, by decide⟩, ⟨rfl, rfl, n_43, n_44, by decide⟩, ⟨rfl, rfl, n_45, n_46, by decide⟩⟩
theorem isS_47 {g : GE} : IsS g 47 := ⟨rfl, rfl, rfl, n_47, n_48, n_49, ⟨rfl, rfl, n_50, n_51, by decide⟩, ⟨rfl, rfl, n_52, n_53, by decide⟩, ⟨rfl, rfl, n_54, n_55, by decide⟩, ⟨rfl, rfl, n_56, n_57, by decide⟩⟩
theorem isS_58 {g : GE} : IsS g 58 := ⟨rfl, rfl, rfl, n_58, n_59, n_60, ⟨rfl, rfl, n_61, n_62, by decide⟩, ⟨rfl, rfl, n_63, n_64, by decide⟩, ⟨rfl, rfl, n_65, n_66, by decide⟩, ⟨rfl, rfl, n_67, n_68, by decide⟩⟩
theorem isS_69 {g : GE} : IsS g 69 := ⟨rfl, rfl, rfl, n_69, n_70, n_71, ⟨rfl, rfl, n_72, n_73, by decide⟩, ⟨rfl, rfl, n_74, n_75, by decide⟩, ⟨rfl, rfl, n_76, n_77, by decide⟩, ⟨rfl, rfl, n_78, n_79, by decide⟩⟩
theorem isS_81 {g : GE} : IsS g 81 := ⟨rfl, rfl, rfl, n_81, n_82, n_83, ⟨rfl, rfl, n_84, n_85, by decide⟩, ⟨rfl, rfl, n_86, n_87, by decide⟩, ⟨rfl, rfl, n_88, n_89, by decide⟩, ⟨rfl, rfl, n_90, n_91, by decide⟩⟩
theorem isS_92 {g : GE} : IsS g 92 := ⟨rfl, rfl, rfl, n_92, n_93, n_94, ⟨rfl, rfl, n_95, n_96, by decide⟩, ⟨rfl, rfl, n_97, n_98, by decide⟩, ⟨rfl, rfl, n_99, n_100, by decide⟩, ⟨rfl, rfl, n_101, n_102, by decide⟩⟩
/-- contracts over the run's world: an int (or boolean) comes back, or nothing -/
def Pi (g : GE) (post : Int → Mem → Prop) : Option Value → Lay → Nat → Mem → Prop := fun r L n M' => L = LAY ∧ n = NN g ∧ ∃ z, r = some (vI z) ∧ post z M'
def Pv (g : GE) (post : Mem → Prop) : Option Value → Lay → Nat → Mem → Prop := fun r L n M' => L = LAY ∧ n = NN g ∧ r = none ∧ post M'
def Ci (g : GE) (l : Launch) (μ : Mu) (av : List Value) (M : Mem) (post : Int → Mem → Prop) : Prop := Ct g l μ 0 0 av LAY (NN g) M (Pi g post)
def Cv (g : GE) (l : Launch) (μ : Mu) (av : List Value) (M : Mem) (post : Mem → Prop) : Prop := Ct g l μ 0 0 av LAY (NN g) M (Pv g post)
/-- nothing changes -/
def Cp (g : GE) (l : Launch) (μ : Mu) (av : List Value) (M : Mem) (e : Int) : Prop := Ci g l μ av M (fun z M' => z = e ∧ M' = M)
theorem Ci.of {g : GE} {l : Launch} {μ : Mu} {av : List Value} {M : Mem} {post : Int → Mem → Prop} (hy : plainName μ.1.cls = true) (hav : Nat.ble (lg_sl av).length μ.2.2.1 = true) {ls : List (Nat × Value)} (hls : lv_args 0 av = ls)
    (body : ∀ x : Fx, Cx x g μ.2.1 μ.1.cls μ.2.2.1 (mRm μ 0 0) → Rx x g 0 0 μ.2.2.2.1 (Pi g post) → K x g 0 0 LAY (NN g) M 0 ls []) : Ci g l μ av M post := Ct.of hy hav (fun x _ hx _ hr => hls ▸ body x hx hr)
theorem Cv.of {g : GE} {l : Launch} {μ : Mu} {av : List Value} {M : Mem} {post : Mem → Prop} (hy : plainName μ.1.cls = true) (hav : Nat.ble (lg_sl av).length μ.2.2.1 = true) {ls : List (Nat × Value)} (hls : lv_args 0 av = ls)
    (body : ∀ x : Fx, Cx x g μ.2.1 μ.1.cls μ.2.2.1 (mRm μ 0 0) → Rx x g 0 0 μ.2.2.2.1 (Pv g post) → K x g 0 0 LAY (NN g) M 0 ls []) : Cv g l μ av M post := Ct.of hy hav (fun x _ hx _ hr => hls ▸ body x hx hr)
section STEADY
variable {x : Fx} {g : GE} {cc : ByteArray} {own : String} {nL : Nat} {R : Room} {cs sl : Nat} {M : Mem} {pc pc' index na ci i : Nat} {ls : List (Nat × Value)} {st rest As av : List Value} {μ : Mu} {L : Lay} {n : Nat}
theorem k_ri {post : Int → Mem → Prop} (hx : Cx x g cc own nL R) (hm : Rx x g 0 0 (some .int) (Pi g post)) {z : Int} (hd : At cc pc .ireturn 1 (pc + 1)) (hp : post z M) : K x g 0 0 LAY (NN g) M pc ls [vI z] := k_iret hx hm hd ⟨rfl, rfl, z, rfl, hp⟩
theorem k_rz {post : Int → Mem → Prop} (hx : Cx x g cc own nL R) (hm : Rx x g 0 0 (some .boolean) (Pi g post)) {z : Int} (hd : At cc pc .ireturn 1 (pc + 1)) (hz : z = 0 ∨ z = 1) (hp : post z M) : K x g 0 0 LAY (NN g) M pc ls [vI z] := k_zret hx hm hd hz ⟨rfl, rfl, z, rfl, hp⟩
theorem k_rv {post : Mem → Prop} (hx : Cx x g cc own nL R) (hm : Rx x g 0 0 none (Pv g post)) (hd : At cc pc .return_ 1 (pc + 1)) (hp : post M) : K x g 0 0 LAY (NN g) M pc ls [] := k_vret hx hm hd ⟨rfl, rfl, rfl, hp⟩
theorem k_vi {post : Int → Mem → Prop} (hx : Cx x g cc own nL R) (hlk : lkV own index μ ci na) (hd : At cc pc (.invokevirtual index) 3 pc') (hC : Ci g (xL x) μ (vR g i :: As) M post) {fs : List FS} (hi : i < NN g) (hL : LAY i = kO ci fs) (hn : As.length = na) (hst : st = As.reverse ++ vR g i :: rest) (hcat : Nat.ble (rest.map fun v => v.category).sum 8 = true) (hroom : Nat.ble (μ.2.2.2.2.1 + 1) R.frames = true ∧ Nat.ble (8 + (μ.2.2.1 + 11) + μ.2.2.2.2.2) R.locals = true) (hcell : cs ≤ R.cells ∧ sl ≤ R.slots)
    (kk : ∀ (z : Int) (M' : Mem), post z M' → K x g cs sl LAY (NN g) M' pc' ls (vI z :: rest)) : K x g cs sl LAY (NN g) M pc ls st :=
  k_callV hx hlk hd hC hi hL hn hst hcat hroom hcell (fun r L' n' M' ⟨h1, h2, z, h3, h4⟩ => by subst h1; subst h2; subst h3; exact kk z M' h4)
theorem k_vp {e : Int} (hx : Cx x g cc own nL R) (hlk : lkV own index μ ci na) (hd : At cc pc (.invokevirtual index) 3 pc') (hC : Cp g (xL x) μ (vR g i :: As) M e) {fs : List FS} (hi : i < NN g) (hL : LAY i = kO ci fs) (hn : As.length = na) (hst : st = As.reverse ++ vR g i :: rest) (hcat : Nat.ble (rest.map fun v => v.category).sum 8 = true) (hroom : Nat.ble (μ.2.2.2.2.1 + 1) R.frames = true ∧ Nat.ble (8 + (μ.2.2.1 + 11) + μ.2.2.2.2.2) R.locals = true) (hcell : cs ≤ R.cells ∧ sl ≤ R.slots)
    (kk : K x g cs sl LAY (NN g) M pc' ls (vI e :: rest)) : K x g cs sl LAY (NN g) M pc ls st :=
  k_vi hx hlk hd hC hi hL hn hst hcat hroom hcell (fun z M' ⟨h1, h2⟩ => by subst h1; subst h2; exact kk)
theorem k_vv {post : Mem → Prop} (hx : Cx x g cc own nL R) (hlk : lkV own index μ ci na) (hd : At cc pc (.invokevirtual index) 3 pc') (hC : Cv g (xL x) μ (vR g i :: As) M post) {fs : List FS} (hi : i < NN g) (hL : LAY i = kO ci fs) (hn : As.length = na) (hst : st = As.reverse ++ vR g i :: rest) (hcat : Nat.ble (rest.map fun v => v.category).sum 8 = true) (hroom : Nat.ble (μ.2.2.2.2.1 + 1) R.frames = true ∧ Nat.ble (8 + (μ.2.2.1 + 11) + μ.2.2.2.2.2) R.locals = true) (hcell : cs ≤ R.cells ∧ sl ≤ R.slots)
    (kk : ∀ (M' : Mem), post M' → K x g cs sl LAY (NN g) M' pc' ls rest) : K x g cs sl LAY (NN g) M pc ls st :=
  k_callV hx hlk hd hC hi hL hn hst hcat hroom hcell (fun r L' n' M' ⟨h1, h2, h3, h4⟩ => by subst h1; subst h2; subst h3; exact kk M' h4)
theorem k_si {post : Int → Mem → Prop} (hx : Cx x g cc own nL R) (hlk : lkS own index μ na) (hd : At cc pc (.invokestatic index) 3 pc') (hC : Ci g (xL x) μ As M post) (hn : As.length = na) (hst : st = As.reverse ++ rest) (hcat : Nat.ble (rest.map fun v => v.category).sum 8 = true) (hroom : Nat.ble (μ.2.2.2.2.1 + 1) R.frames = true ∧ Nat.ble (8 + (μ.2.2.1 + 11) + μ.2.2.2.2.2) R.locals = true) (hcell : cs ≤ R.cells ∧ sl ≤ R.slots)
    (kk : ∀ (z : Int) (M' : Mem), post z M' → K x g cs sl LAY (NN g) M' pc' ls (vI z :: rest)) : K x g cs sl LAY (NN g) M pc ls st :=
  k_callS hx hlk hd hC hn hst hcat hroom hcell (fun r L' n' M' ⟨h1, h2, z, h3, h4⟩ => by subst h1; subst h2; subst h3; exact kk z M' h4)
theorem k_sp {e : Int} (hx : Cx x g cc own nL R) (hlk : lkS own index μ na) (hd : At cc pc (.invokestatic index) 3 pc') (hC : Cp g (xL x) μ As M e) (hn : As.length = na) (hst : st = As.reverse ++ rest) (hcat : Nat.ble (rest.map fun v => v.category).sum 8 = true) (hroom : Nat.ble (μ.2.2.2.2.1 + 1) R.frames = true ∧ Nat.ble (8 + (μ.2.2.1 + 11) + μ.2.2.2.2.2) R.locals = true) (hcell : cs ≤ R.cells ∧ sl ≤ R.slots)
    (kk : K x g cs sl LAY (NN g) M pc' ls (vI e :: rest)) : K x g cs sl LAY (NN g) M pc ls st :=
  k_si hx hlk hd hC hn hst hcat hroom hcell (fun z M' ⟨h1, h2⟩ => by subst h1; subst h2; exact kk)
theorem k_np {e : Int} {host : String} (hx : Cx x g cc own nL R) (hlk : lkN own index μ host na) (hd : At cc pc (.invokestatic index) 3 pc') (hC : Cp g (xL x) μ As M e) (hn : As.length = na) (hst : st = As.reverse ++ rest) (hcat : Nat.ble (rest.map fun v => v.category).sum 8 = true) (hroom : Nat.ble (μ.2.2.2.2.1 + 1) R.frames = true ∧ Nat.ble (8 + (μ.2.2.1 + 11) + μ.2.2.2.2.2) R.locals = true) (hcell : cs ≤ R.cells ∧ sl ≤ R.slots)
    (kk : K x g cs sl LAY (NN g) M pc' ls (vI e :: rest)) : K x g cs sl LAY (NN g) M pc ls st :=
  k_callN hx hlk hd hC hn hst hcat hroom hcell (fun r L' n' M' ⟨h1, h2, z, h3, h4, h5⟩ => by subst h1; subst h2; subst h3; subst h4; subst h5; exact kk)
/-- stores, the new numbers under a name -/
theorem k_putI {k : Nat} {kz : Int} {fs : List FS} {z : Int} (hx : Cx x g cc own nL R) (hf : FL own index ci k false .int) (hd : At cc pc (.putfield index) 3 pc') (hi : i < n) (hL : L i = kO ci fs) (hn : fs.getD k none = none) (hkz : (k : Int) = kz) (kk : ∀ M', M' = up M i kz z → K x g cs sl L n M' pc' ls st) : K x g cs sl L n M pc ls (vI z :: vR g i :: st) := by subst hkz; exact k_put hx hf hd hi hL hn ⟨rfl, rfl⟩ (kk _ rfl)
theorem k_putZ {k : Nat} {kz : Int} {fs : List FS} {z : Int} (hx : Cx x g cc own nL R) (hf : FL own index ci k false .boolean) (hd : At cc pc (.putfield index) 3 pc') (hi : i < n) (hL : L i = kO ci fs) (hn : fs.getD k none = none) (hkz : (k : Int) = kz) (hz : z = 0 ∨ z = 1) (kk : ∀ M', M' = up M i kz z → K x g cs sl L n M' pc' ls st) : K x g cs sl L n M pc ls (vI z :: vR g i :: st) := by subst hkz; exact k_put hx hf hd hi hL hn (by rcases hz with rfl | rfl <;> decide +kernel) (kk _ rfl)
theorem k_iastN {N : Nat} {z v : Int} (hx : Cx x g cc own nL R) (hd : At cc pc .iastore 1 pc') (hi : i < n) (hL : L i = kA 0 N) (hz : 0 ≤ z ∧ z < N) (hN : N ≤ 2147483647) (kk : ∀ M', M' = up M i z v → K x g cs sl L n M' pc' ls st) : K x g cs sl L n M pc ls (vI v :: vI z :: vR g i :: st) := k_iast hx hd hi hL hz hN (kk _ rfl)
theorem k_zastN {N : Nat} {z v : Int} (hx : Cx x g cc own nL R) (hd : At cc pc .bastore 1 pc') (hi : i < n) (hL : L i = kA 1 N) (hz : 0 ≤ z ∧ z < N) (hN : N ≤ 2147483647) (hv : v = 0 ∨ v = 1) (kk : ∀ M', M' = up M i z v → K x g cs sl L n M' pc' ls st) : K x g cs sl L n M pc ls (vI v :: vI z :: vR g i :: st) := k_zast hx hd hi hL hz hN hv (kk _ rfl)
end STEADY
end
section
/-! words: lists of crossings; the class's own word, and its leaves -/
def b2i (b : Bool) : Int := bif b then 1 else 0
theorem b2i_or (b : Bool) : b2i b = 0 ∨ b2i b = 1 := by cases b <;> simp [b2i]
theorem b2i_t {p : Prop} {_ : Decidable p} (h : p) : 1 = b2i (decide p) := by simp [b2i, h]
theorem b2i_f {p : Prop} {_ : Decidable p} (h : ¬ p) : 0 = b2i (decide p) := by simp [b2i, h]
theorem b2i_rg (b : Bool) : -2147483648 ≤ b2i b ∧ b2i b < 2147483648 := by cases b <;> simp [b2i]
theorem b2i_0 {b : Bool} : b2i b = 0 ↔ b = false := by cases b <;> simp [b2i]
section BROWS
variable {x : Fx} {g : GE} {cc : ByteArray} {own : String} {nL : Nat} {R : Room} {cs sl : Nat} {L : Lay} {n : Nat} {M : Mem} {pc pc' tgt : Nat} {ls : List (Nat × Value)} {st : List Value}
theorem k_ceq (hx : Cx x g cc own nL R) {b : Bool} (hd : Br cc pc (.ifCond .eq) pc' tgt) (kt : b = false → K x g cs sl L n M tgt ls st) (kf : b = true → K x g cs sl L n M pc' ls st) : K x g cs sl L n M pc ls (vI (b2i b) :: st) :=
  k_ifeq hx hd (b2i_rg b) (fun h => kt (b2i_0.mp h)) (fun h => kf (by cases b; exact absurd rfl h; rfl))
theorem k_cne (hx : Cx x g cc own nL R) {b : Bool} (hd : Br cc pc (.ifCond .ne) pc' tgt) (kt : b = true → K x g cs sl L n M tgt ls st) (kf : b = false → K x g cs sl L n M pc' ls st) : K x g cs sl L n M pc ls (vI (b2i b) :: st) :=
  k_ifne hx hd (b2i_rg b) (fun h => kt (by cases b; exact absurd rfl h; rfl)) (fun h => kf (b2i_0.mp h))
theorem k_beq (hx : Cx x g cc own nL R) {p : Prop} {_ : Decidable p} (hd : Br cc pc (.ifCond .eq) pc' tgt) (kt : ¬ p → K x g cs sl L n M tgt ls st) (kf : p → K x g cs sl L n M pc' ls st) : K x g cs sl L n M pc ls (vI (b2i (decide p)) :: st) :=
  k_ceq hx hd (fun h => kt (of_decide_eq_false h)) (fun h => kf (of_decide_eq_true h))
theorem k_bne (hx : Cx x g cc own nL R) {p : Prop} {_ : Decidable p} (hd : Br cc pc (.ifCond .ne) pc' tgt) (kt : p → K x g cs sl L n M tgt ls st) (kf : ¬ p → K x g cs sl L n M pc' ls st) : K x g cs sl L n M pc ls (vI (b2i (decide p)) :: st) :=
  k_cne hx hd (fun h => kt (of_decide_eq_true h)) (fun h => kf (of_decide_eq_false h))
end BROWS
def op (c : Int) : Int := if c < 6 then c + 6 else c - 6
def pst (c : Int) : Int := if c < 6 then c else c - 6
theorem op_rg {c : Int} (h : 0 ≤ c ∧ c < 12) : 0 ≤ op c ∧ op c < 12 := by unfold op; omega
theorem op_op {c : Int} (h : 0 ≤ c ∧ c < 12) : op (op c) = c := by unfold op; omega
def psh (w : List Int) (c : Int) : List Int := if w.getLast? = some (op c) then w.dropLast else w ++ [c]
def red (w : List Int) : List Int := w.foldl psh []
def trn (w : List Int) : List Int := (w.map op).reverse
abbrev Cr (w : List Int) : Prop := ∀ c ∈ w, 0 ≤ c ∧ c < 12
/-- the word w stands at i -/
def Wd (M : Mem) (i : Nat) (w : List Int) : Prop := M i 1 = w.length ∧ (∀ (k : Nat) (c : Int), w[k]? = some c → M (i + 1) (k : Int) = c) ∧ Cr w
def Off (i : Nat) (M M' : Mem) : Prop := ∀ a, a ≠ i → a ≠ i + 1 → M' a = M a
theorem Off.rf {i : Nat} {M : Mem} : Off i M M := fun _ _ _ => rfl
theorem Off.tr {i : Nat} {M M' M'' : Mem} (h : Off i M M') (k : Off i M' M'') : Off i M M'' := fun a h1 h2 => (k a h1 h2).trans (h a h1 h2)
def at0 (w : List Int) (z : Int) : Int := if 0 ≤ z ∧ z < w.length then w.getD z.toNat 0 else -1
theorem Wd.get {M : Mem} {i : Nat} {w : List Int} (h : Wd M i w) {z : Int} (h0 : 0 ≤ z) (h1 : z < w.length) : M (i + 1) z = w.getD z.toNat 0 := by
  have h2 : z.toNat < w.length := by omega
  have := h.2.1 z.toNat (w.getD z.toNat 0) (by simp [List.getD_eq_getElem?_getD, h2])
  rwa [show ((z.toNat : Nat) : Int) = z by omega] at this
theorem Cr.get {w : List Int} (h : Cr w) {k : Nat} (hk : k < w.length) : 0 ≤ w.getD k 0 ∧ w.getD k 0 < 12 := by
  have : w.getD k 0 = w[k] := by simp [List.getD_eq_getElem?_getD, hk]
  rw [this]
  exact h _ (List.getElem_mem hk)
theorem at0_rg {w : List Int} (h : Cr w) (z : Int) : -1 ≤ at0 w z ∧ at0 w z < 12 := by
  unfold at0
  split
  · have := h.get (k := z.toNat) (by omega)
    omega
  · omega
theorem Wd.off {M M' : Mem} {i j : Nat} {w : List Int} (h : Wd M j w) (ho : Off i M M') (h1 : j ≠ i) (h2 : j ≠ i + 1) (h3 : j + 1 ≠ i) : Wd M' j w := by
  unfold Wd
  rw [ho j h1 h2, ho (j + 1) h3 (by omega)]
  exact h

/-- the JDK's own methods -/
theorem Ct.ofJ {g : GE} {l : Launch} {μ : Mu} {mc ms : Nat} {av : List Value} {L : Lay} {n : Nat} {M : Mem} {post : Option Value → Lay → Nat → Mem → Prop} (hy : plainFor μ.1 = true) (hav : Nat.ble (lg_sl av).length μ.2.2.1 = true)
    (body : ∀ x : Fx, xL x = l → Cx x g μ.2.1 μ.1.cls μ.2.2.1 (mRm μ mc ms) → (xT x).name = μ.1.name → Rx x g mc ms μ.2.2.2.1 post → K x g 0 0 L n M 0 (lv_args 0 av) []) : Ct g l μ mc ms av L n M post := by
  show MetFree l μ.1 (headSpec (mW μ) (mRm μ mc ms)) (Pz g av L n M) (fun _ _ _ _ _ => True) (fun a st o t => Qz g post a st o t ∧ ∃ Lc, FrameEnd st o t Lc mc ms ∧ ∀ q ∈ Lc, g.1 ≤ q.base)
  refine MetFree.of_bodySF (code := μ.2.1) (maxLocals := μ.2.2.1) (ret := μ.2.2.2.1) hy ?_ ?_
  · intro args s m h hn
    obtain ⟨meth, c, h1, h2, h3, h4, h5, h6, -, -⟩ := Cond.code_spec hn (atoms_spec (ws := mW μ) h _ List.mem_cons_self)
    exact ⟨meth, c, h1, h2, h3, h4, h5, h6⟩
  · intro p e s m args below meth c s₁ B hml hv _
    obtain ⟨rfl, hR, hK⟩ := hv
    have hts := atoms_spec (ws := mW μ) B.pre
    have hl := lv_entry av (n := μ.2.2.1) (Nat.le_of_ble_eq_true hav)
    have k := body (p, l, e, mRm μ mc ms, s, m, av.toArray, below, meth, c, MQ below (Qz g post) av.toArray s mc ms (fun q => g.1 ≤ q)) rfl
      ⟨B.exec, B.bytes, hml, findClass_of_methodNamed B.named, fun w h => hts w (List.mem_cons_of_mem _ h), hK, rfl⟩ (name_of_methodNamed B.named B.method).1 ⟨B.notSynchronized, B.returns, rfl⟩
    have hh0 : s₁.heap = s.heap := by rw [B.state]; rfl
    have k2 := k s.heap [] _ hR va_S.rf (by show lv_has _ c.maxLocals _; rw [hml]; exact hl)
    rw [← lg_entry_eq] at k2
    obtain ⟨t, a1, o, b1, b2, b3⟩ := k2 s₁ hh0 (Stand.of_body B)
    exact ⟨t, o, a1, b1, b2, ⟨b3.1, b3.2⟩⟩
theorem Ci.ofJ {g : GE} {l : Launch} {μ : Mu} {av : List Value} {M : Mem} {post : Int → Mem → Prop} (hy : plainFor μ.1 = true) (hav : Nat.ble (lg_sl av).length μ.2.2.1 = true) {ls : List (Nat × Value)} (hls : lv_args 0 av = ls)
    (body : ∀ x : Fx, Cx x g μ.2.1 μ.1.cls μ.2.2.1 (mRm μ 0 0) → Rx x g 0 0 μ.2.2.2.1 (Pi g post) → K x g 0 0 LAY (NN g) M 0 ls []) : Ci g l μ av M post := Ct.ofJ hy hav (fun x _ hx _ hr => hls ▸ body x hx hr)

theorem c_X5_isPost {g : GE} {l : Launch} {M : Mem} {z : Int} (hz : -2147483648 ≤ z ∧ z < 2147483648) : Cp g l μX5_isPost [vI z] M (b2i (decide (0 ≤ z ∧ z < 6))) := by
  refine Ci.of (by decide +kernel) rfl rfl (fun x hx hr => ?_)
  refine k_iload_n hx dX5_isPost_0 0 rfl ?_
  refine k_iflt hx dX5_isPost_1 (by omega) (fun h_1 => ?_) (fun h_1 => ?_)
  · refine k_iconst hx dX5_isPost_14 ?_
    refine k_rz hx hr dX5_isPost_15 (by first | exact Or.inl rfl | exact Or.inr rfl | exact b2i_or _) ?_
    first | exact ⟨b2i_t (by omega), rfl⟩ | exact ⟨b2i_f (by omega), rfl⟩
  · refine k_iload_n hx dX5_isPost_4 0 rfl ?_
    refine k_bipush hx dX5_isPost_5 (by decide +kernel) ?_
    refine k_icmp_ge hx dX5_isPost_7 (by omega) (fun h_7 => ?_) (fun h_7 => ?_)
    · refine k_iconst hx dX5_isPost_14 ?_
      refine k_rz hx hr dX5_isPost_15 (by first | exact Or.inl rfl | exact Or.inr rfl | exact b2i_or _) ?_
      first | exact ⟨b2i_t (by omega), rfl⟩ | exact ⟨b2i_f (by omega), rfl⟩
    · refine k_iconst hx dX5_isPost_10 ?_
      refine k_goto hx dX5_isPost_11 ?_
      refine k_rz hx hr dX5_isPost_15 (by first | exact Or.inl rfl | exact Or.inr rfl | exact b2i_or _) ?_
      first | exact ⟨b2i_t (by omega), rfl⟩ | exact ⟨b2i_f (by omega), rfl⟩
theorem c_X5_isRope {g : GE} {l : Launch} {M : Mem} {z : Int} (hz : -2147483648 ≤ z ∧ z < 2147483648) : Cp g l μX5_isRope [vI z] M (b2i (decide (0 ≤ z ∧ z < 4))) := by
  refine Ci.of (by decide +kernel) rfl rfl (fun x hx hr => ?_)
  refine k_iload_n hx dX5_isRope_0 0 rfl ?_
  refine k_iflt hx dX5_isRope_1 (by omega) (fun h_1 => ?_) (fun h_1 => ?_)
  · refine k_iconst hx dX5_isRope_13 ?_
    refine k_rz hx hr dX5_isRope_14 (by first | exact Or.inl rfl | exact Or.inr rfl | exact b2i_or _) ?_
    first | exact ⟨b2i_t (by omega), rfl⟩ | exact ⟨b2i_f (by omega), rfl⟩
  · refine k_iload_n hx dX5_isRope_4 0 rfl ?_
    refine k_iconst hx dX5_isRope_5 ?_
    refine k_icmp_ge hx dX5_isRope_6 (by omega) (fun h_6 => ?_) (fun h_6 => ?_)
    · refine k_iconst hx dX5_isRope_13 ?_
      refine k_rz hx hr dX5_isRope_14 (by first | exact Or.inl rfl | exact Or.inr rfl | exact b2i_or _) ?_
      first | exact ⟨b2i_t (by omega), rfl⟩ | exact ⟨b2i_f (by omega), rfl⟩
    · refine k_iconst hx dX5_isRope_9 ?_
      refine k_goto hx dX5_isRope_10 ?_
      refine k_rz hx hr dX5_isRope_14 (by first | exact Or.inl rfl | exact Or.inr rfl | exact b2i_or _) ?_
      first | exact ⟨b2i_t (by omega), rfl⟩ | exact ⟨b2i_f (by omega), rfl⟩
theorem c_X5_isSwap {g : GE} {l : Launch} {M : Mem} {z : Int} (hz : -2147483648 ≤ z ∧ z < 2147483648) : Cp g l μX5_isSwap [vI z] M (b2i (decide (0 ≤ z ∧ z < 5))) := by
  refine Ci.of (by decide +kernel) rfl rfl (fun x hx hr => ?_)
  refine k_iload_n hx dX5_isSwap_0 0 rfl ?_
  refine k_iflt hx dX5_isSwap_1 (by omega) (fun h_1 => ?_) (fun h_1 => ?_)
  · refine k_iconst hx dX5_isSwap_13 ?_
    refine k_rz hx hr dX5_isSwap_14 (by first | exact Or.inl rfl | exact Or.inr rfl | exact b2i_or _) ?_
    first | exact ⟨b2i_t (by omega), rfl⟩ | exact ⟨b2i_f (by omega), rfl⟩
  · refine k_iload_n hx dX5_isSwap_4 0 rfl ?_
    refine k_iconst hx dX5_isSwap_5 ?_
    refine k_icmp_ge hx dX5_isSwap_6 (by omega) (fun h_6 => ?_) (fun h_6 => ?_)
    · refine k_iconst hx dX5_isSwap_13 ?_
      refine k_rz hx hr dX5_isSwap_14 (by first | exact Or.inl rfl | exact Or.inr rfl | exact b2i_or _) ?_
      first | exact ⟨b2i_t (by omega), rfl⟩ | exact ⟨b2i_f (by omega), rfl⟩
    · refine k_iconst hx dX5_isSwap_9 ?_
      refine k_goto hx dX5_isSwap_10 ?_
      refine k_rz hx hr dX5_isSwap_14 (by first | exact Or.inl rfl | exact Or.inr rfl | exact b2i_or _) ?_
      first | exact ⟨b2i_t (by omega), rfl⟩ | exact ⟨b2i_f (by omega), rfl⟩
theorem c_X5_isBack {g : GE} {l : Launch} {M : Mem} {z : Int} (hz : -2147483648 ≤ z ∧ z < 2147483648) : Cp g l μX5_isBack [vI z] M (b2i (decide (0 ≤ z ∧ z < 2))) := by
  refine Ci.of (by decide +kernel) rfl rfl (fun x hx hr => ?_)
  refine k_iload_n hx dX5_isBack_0 0 rfl ?_
  refine k_ifeq hx dX5_isBack_1 (by omega) (fun h_1 => ?_) (fun h_1 => ?_)
  · refine k_iconst hx dX5_isBack_9 ?_
    refine k_goto hx dX5_isBack_10 ?_
    refine k_rz hx hr dX5_isBack_14 (by first | exact Or.inl rfl | exact Or.inr rfl | exact b2i_or _) ?_
    first | exact ⟨b2i_t (by omega), rfl⟩ | exact ⟨b2i_f (by omega), rfl⟩
  · refine k_iload_n hx dX5_isBack_4 0 rfl ?_
    refine k_iconst hx dX5_isBack_5 ?_
    refine k_icmp_ne hx dX5_isBack_6 (by omega) (fun h_6 => ?_) (fun h_6 => ?_)
    · refine k_iconst hx dX5_isBack_13 ?_
      refine k_rz hx hr dX5_isBack_14 (by first | exact Or.inl rfl | exact Or.inr rfl | exact b2i_or _) ?_
      first | exact ⟨b2i_t (by omega), rfl⟩ | exact ⟨b2i_f (by omega), rfl⟩
    · refine k_iconst hx dX5_isBack_9 ?_
      refine k_goto hx dX5_isBack_10 ?_
      refine k_rz hx hr dX5_isBack_14 (by first | exact Or.inl rfl | exact Or.inr rfl | exact b2i_or _) ?_
      first | exact ⟨b2i_t (by omega), rfl⟩ | exact ⟨b2i_f (by omega), rfl⟩
theorem c_X5_postOf {g : GE} {l : Launch} {M : Mem} {z : Int} (hz : -2147483648 ≤ z ∧ z < 2147483648) : Cp g l μX5_postOf [vI z] M (pst z) := by
  refine Ci.of (by decide +kernel) rfl rfl (fun x hx hr => ?_)
  refine k_iload_n hx dX5_postOf_0 0 rfl ?_
  refine k_bipush hx dX5_postOf_1 (by decide +kernel) ?_
  refine k_icmp_ge hx dX5_postOf_3 (by omega) (fun h_3 => ?_) (fun h_3 => ?_)
  · refine k_iload_n hx dX5_postOf_10 0 rfl ?_
    refine k_bipush hx dX5_postOf_11 (by decide +kernel) ?_
    refine k_isub hx dX5_postOf_13 ?_
    refine k_ri hx hr dX5_postOf_14 ?_
    exact ⟨by unfold pst; omega, rfl⟩
  · refine k_iload_n hx dX5_postOf_6 0 rfl ?_
    refine k_goto hx dX5_postOf_7 ?_
    refine k_ri hx hr dX5_postOf_14 ?_
    exact ⟨by unfold pst; omega, rfl⟩
theorem c_X5_opposite {g : GE} {l : Launch} {M : Mem} {z : Int} (hz : -2147483648 ≤ z ∧ z < 2147483648) : Cp g l μX5_opposite [vI z] M (op z) := by
  refine Ci.of (by decide +kernel) rfl rfl (fun x hx hr => ?_)
  refine k_iload_n hx dX5_opposite_0 0 rfl ?_
  refine k_bipush hx dX5_opposite_1 (by decide +kernel) ?_
  refine k_icmp_ge hx dX5_opposite_3 (by omega) (fun h_3 => ?_) (fun h_3 => ?_)
  · refine k_iload_n hx dX5_opposite_13 0 rfl ?_
    refine k_bipush hx dX5_opposite_14 (by decide +kernel) ?_
    refine k_isub hx dX5_opposite_16 ?_
    refine k_ri hx hr dX5_opposite_17 ?_
    exact ⟨by unfold op; omega, rfl⟩
  · refine k_iload_n hx dX5_opposite_6 0 rfl ?_
    refine k_bipush hx dX5_opposite_7 (by decide +kernel) ?_
    refine k_iadd hx dX5_opposite_9 ?_
    refine k_goto hx dX5_opposite_10 ?_
    refine k_ri hx hr dX5_opposite_17 ?_
    exact ⟨by unfold op; omega, rfl⟩
theorem c_X5_oneIf {g : GE} {l : Launch} {M : Mem} {b : Bool} : Cp g l μX5_oneIf [vI (b2i b)] M (b2i b) := by
  refine Ci.of (by decide +kernel) rfl rfl (fun x hx hr => ?_)
  refine k_iload_n hx dX5_oneIf_0 0 rfl ?_
  refine k_ceq hx dX5_oneIf_1 (fun h_1 => ?_) (fun h_1 => ?_)
  · refine k_iconst hx dX5_oneIf_8 ?_
    refine k_ri hx hr dX5_oneIf_9 ?_
    first | exact ⟨by rw [h_1]; rfl, rfl⟩
  · refine k_iconst hx dX5_oneIf_4 ?_
    refine k_goto hx dX5_oneIf_5 ?_
    refine k_ri hx hr dX5_oneIf_9 ?_
    first | exact ⟨by rw [h_1]; rfl, rfl⟩
theorem c_max {g : GE} {l : Launch} {M : Mem} {a b : Int} (h : (-2147483648 ≤ a ∧ a < 2147483648) ∧ (-2147483648 ≤ b ∧ b < 2147483648)) : Cp g l μJ9_max_7cf53 [vI a, vI b] M (max a b) := by
  refine Ci.ofJ (by decide +kernel) rfl rfl (fun x hx hr => ?_)
  refine k_iload_n hx dJ9_max_7cf53_0 0 rfl ?_
  refine k_iload_n hx dJ9_max_7cf53_1 1 rfl ?_
  refine k_icmp_lt hx dJ9_max_7cf53_2 (by omega) (fun h_2 => ?_) (fun h_2 => ?_)
  · refine k_iload_n hx dJ9_max_7cf53_9 1 rfl ?_
    refine k_ri hx hr dJ9_max_7cf53_10 ?_
    exact ⟨by omega, rfl⟩
  · refine k_iload_n hx dJ9_max_7cf53_5 0 rfl ?_
    refine k_goto hx dJ9_max_7cf53_6 ?_
    refine k_ri hx hr dJ9_max_7cf53_10 ?_
    exact ⟨by omega, rfl⟩
theorem c_min {g : GE} {l : Launch} {M : Mem} {a b : Int} (h : (-2147483648 ≤ a ∧ a < 2147483648) ∧ (-2147483648 ≤ b ∧ b < 2147483648)) : Cp g l μJ9_min_7cf53 [vI a, vI b] M (min a b) := by
  refine Ci.ofJ (by decide +kernel) rfl rfl (fun x hx hr => ?_)
  refine k_iload_n hx dJ9_min_7cf53_0 0 rfl ?_
  refine k_iload_n hx dJ9_min_7cf53_1 1 rfl ?_
  refine k_icmp_gt hx dJ9_min_7cf53_2 (by omega) (fun h_2 => ?_) (fun h_2 => ?_)
  · refine k_iload_n hx dJ9_min_7cf53_9 1 rfl ?_
    refine k_ri hx hr dJ9_min_7cf53_10 ?_
    exact ⟨by omega, rfl⟩
  · refine k_iload_n hx dJ9_min_7cf53_5 0 rfl ?_
    refine k_goto hx dJ9_min_7cf53_6 ?_
    refine k_ri hx hr dJ9_min_7cf53_10 ?_
    exact ⟨by omega, rfl⟩
end
section
/-! the class's word: at, add, addPulled, clear, dropLast, addWord, copyFrom -/
theorem Wd.lt {M : Mem} {i : Nat} {w : List Int} (h : Wd M i w) {z : Int} (h0 : 0 ≤ z) (h1 : z < w.length) : M (i + 1) z = at0 w z := by
  rw [h.get h0 h1]
  unfold at0
  rw [if_pos ⟨h0, h1⟩]
theorem at0_out {w : List Int} {z : Int} (h : ¬ (0 ≤ z ∧ z < w.length)) : at0 w z = -1 := by unfold at0; rw [if_neg h]
theorem at0_n {w : List Int} {k : Nat} (h : k < w.length) : at0 w (k : Int) = w[k] := by
  unfold at0
  rw [if_pos (by omega)]
  simp [List.getD_eq_getElem?_getD, h]
theorem at0_in {w : List Int} (hw : Cr w) {z : Int} (h0 : 0 ≤ z) (h1 : z < w.length) : 0 ≤ at0 w z ∧ at0 w z < 12 := by
  unfold at0
  rw [if_pos ⟨h0, h1⟩]
  exact hw.get (by omega)
theorem Cr.app {a b : List Int} (h : Cr a) (k : Cr b) : Cr (a ++ b) := fun c hc => (List.mem_append.mp hc).elim (h c) (k c)
theorem Cr.one {c : Int} (h : 0 ≤ c ∧ c < 12) : Cr [c] := fun d hd => by rw [List.mem_singleton.mp hd]; exact h
theorem Cr.sub {a b : List Int} (h : Cr b) (k : ∀ c ∈ a, c ∈ b) : Cr a := fun c hc => h c (k c hc)
theorem Cr.take {w : List Int} (h : Cr w) (k : Nat) : Cr (w.take k) := h.sub fun _ hc => List.mem_of_mem_take hc
theorem Cr.drop {w : List Int} (h : Cr w) (k : Nat) : Cr (w.drop k) := h.sub fun _ hc => List.mem_of_mem_drop hc
theorem cr_trn {w : List Int} (h : Cr w) : Cr (trn w) := fun c hc => by
  unfold trn at hc
  obtain ⟨d, hd, rfl⟩ := List.mem_map.mp (List.mem_reverse.mp hc)
  exact op_rg (h d hd)
/-- what add leaves -/
theorem Wd.add {M : Mem} {i : Nat} {w : List Int} {c : Int} (h : Wd M i w) (hc : 0 ≤ c ∧ c < 12) : Wd (up (up M (i + 1) (M i 1) c) i 1 (M i 1 + 1)) i (w ++ [c]) := by
  refine ⟨?_, fun k d hk => ?_, h.2.2.app (Cr.one hc)⟩
  · rw [up_s, h.1, List.length_append]; simp
  · rw [up_i (show i + 1 ≠ i by omega)]
    by_cases hkl : k < w.length
    · rw [List.getElem?_append_left hkl] at hk
      rw [up_k (by rw [h.1]; omega)]
      exact h.2.1 k d hk
    · rw [List.getElem?_append_right (by omega)] at hk
      have h0 : k - w.length < 1 := (List.getElem?_eq_some_iff.mp hk).1
      have hke : k = w.length := by omega
      subst hke
      rw [Nat.sub_self] at hk
      cases hk
      rw [← h.1, up_s]
theorem Wd.cut {M : Mem} {i : Nat} {w : List Int} {k : Nat} (h : Wd M i w) (hk : k ≤ w.length) : Wd (up M i 1 k) i (w.take k) := by
  refine ⟨?_, fun j d hj => ?_, h.2.2.take k⟩
  · rw [up_s, List.length_take]; omega
  · rw [up_i (show i + 1 ≠ i by omega)]
    rw [List.getElem?_take] at hj
    split at hj
    · exact h.2.1 j d hj
    · cases hj
theorem off_up {i : Nat} {M : Mem} {k z : Int} : Off i M (up M i k z) := fun _ h1 _ => up_i h1
theorem off_up1 {i : Nat} {M : Mem} {k z : Int} : Off i M (up M (i + 1) k z) := fun _ _ h2 => up_i h2

theorem c_X4_at {g : GE} {l : Launch} {M : Mem} {i cap : Nat} {w : List Int} (hW : IsW g i cap) (hw : Wd M i w) (hc : w.length ≤ cap) {z : Int} (hz : -2147483648 ≤ z ∧ z < 2147483648) : Cp g l μX4_at [vR g i, vI z] M (at0 w z) := by
  refine Ci.of (by decide +kernel) rfl rfl (fun x hx hr => ?_)
  have hl := hw.1; have h480 := hW.2.2.2.2
  refine k_iload_n hx dX4_at_0 1 rfl ?_
  refine k_iflt hx dX4_at_1 (by omega) (fun h_1 => ?_) (fun h_1 => ?_)
  · refine k_iconst hx dX4_at_21 ?_
    refine k_ri hx hr dX4_at_22 ?_
    exact ⟨(at0_out (by omega)).symm, rfl⟩
  · refine k_iload_n hx dX4_at_4 1 rfl ?_
    refine k_aload_n hx dX4_at_5 0 rfl ?_
    refine k_get (v := vI (M i 1)) hx fX4_21 dX4_at_6 hW.2.2.1 hW.1 rfl ?_
    refine k_icmp_ge hx dX4_at_9 (by omega) (fun h_9 => ?_) (fun h_9 => ?_)
    · refine k_iconst hx dX4_at_21 ?_
      refine k_ri hx hr dX4_at_22 ?_
      exact ⟨(at0_out (by omega)).symm, rfl⟩
    · refine k_aload_n hx dX4_at_12 0 rfl ?_
      refine k_get (v := vR g (i + 1)) hx fX4_15 dX4_at_13 hW.2.2.1 hW.1 rfl ?_
      refine k_iload_n hx dX4_at_16 1 rfl ?_
      refine k_iald (v := (M (i + 1) z)) hx dX4_at_17 hW.2.2.2.1 hW.2.1 (by omega) (by have := hW.2.2.2.2; omega) (rfl) ?_
      have he := hw.lt (z := z) (by omega) (by omega)
      refine k_goto hx dX4_at_18 ?_
      refine k_ri hx hr dX4_at_22 ?_
      exact ⟨he, rfl⟩
theorem c_X4_clear {g : GE} {l : Launch} {M : Mem} {i cap : Nat} (hW : IsW g i cap) : Cv g l μX4_clear [vR g i] M (fun M' => M' = up M i 1 0) := by
  refine Cv.of (by decide +kernel) rfl rfl (fun x hx hr => ?_)
  refine k_aload_n hx dX4_clear_0 0 rfl ?_
  refine k_iconst hx dX4_clear_1 ?_
  refine k_putI (kz := 1) hx fX4_21 dX4_clear_2 hW.2.2.1 hW.1 rfl rfl (fun M_2 hM_2 => ?_)
  refine k_rv hx hr dX4_clear_5 ?_
  exact hM_2
theorem c_X4_add {g : GE} {l : Launch} {M : Mem} {i cap : Nat} {w : List Int} (hW : IsW g i cap) (hw : Wd M i w) (hc : w.length ≤ cap) (hf : w.length < cap) {c : Int} (hcc : 0 ≤ c ∧ c < 12) : Ci g l μX4_add [vR g i, vI c] M (fun z M' => z = 1 ∧ Wd M' i (w ++ [c]) ∧ Off i M M' ∧ ∀ q : Int, q ≠ w.length → M' (i + 1) q = M (i + 1) q) := by
  refine Ci.of (by decide +kernel) rfl rfl (fun x hx hr => ?_)
  have hl := hw.1; have h480 := hW.2.2.2.2
  refine k_aload_n hx dX4_add_0 0 rfl ?_
  refine k_get (v := vI (M i 1)) hx fX4_21 dX4_add_1 hW.2.2.1 hW.1 rfl ?_
  refine k_aload_n hx dX4_add_4 0 rfl ?_
  refine k_get (v := vR g (i + 1)) hx fX4_15 dX4_add_5 hW.2.2.1 hW.1 rfl ?_
  refine k_alen hx dX4_add_8 hW.2.2.2.1 hW.2.1 (by decide) ?_
  refine k_icmp_lt hx dX4_add_9 (by omega) (fun h_9 => ?_) (fun h_9 => absurd h_9 (by omega))
  refine k_aload_n hx dX4_add_14 0 rfl ?_
  refine k_get (v := vR g (i + 1)) hx fX4_15 dX4_add_15 hW.2.2.1 hW.1 rfl ?_
  refine k_aload_n hx dX4_add_18 0 rfl ?_
  refine k_get (v := vI (M i 1)) hx fX4_21 dX4_add_19 hW.2.2.1 hW.1 rfl ?_
  refine k_iload_n hx dX4_add_22 1 rfl ?_
  refine k_iastN hx dX4_add_23 hW.2.2.2.1 hW.2.1 (by omega) (by have := hW.2.2.2.2; omega) (fun M_23 hM_23 => ?_)
  refine k_aload_n hx dX4_add_24 0 rfl ?_
  refine k_dup hx dX4_add_25 rfl ?_
  refine k_get (v := vI (M i 1)) hx fX4_21 dX4_add_26 hW.2.2.1 hW.1 (congrArg vI (show M_23 i 1 = (M i 1) from by rw [hM_23, up_i (by omega)])) ?_
  refine k_iconst hx dX4_add_29 ?_
  refine k_iadd hx dX4_add_30 ?_
  refine k_putI (kz := 1) hx fX4_21 dX4_add_31 hW.2.2.1 hW.1 rfl rfl (fun M_31 hM_31 => ?_)
  refine k_iconst hx dX4_add_34 ?_
  refine k_rz hx hr dX4_add_35 (by first | exact Or.inl rfl | exact Or.inr rfl | exact b2i_or _) ?_
  subst hM_31; subst hM_23
  exact ⟨rfl, hw.add hcc, off_up1.tr off_up, fun q hq => by rw [up_i (by omega), up_k (by omega)]⟩
theorem c_X4_addF {g : GE} {l : Launch} {M : Mem} {i cap : Nat} {w : List Int} (hW : IsW g i cap) (hw : Wd M i w) (hc : w.length ≤ cap) (hf : w.length = cap) {c : Int} : Ci g l μX4_add [vR g i, vI c] M (fun z M' => z = 0 ∧ M' = M) := by
  refine Ci.of (by decide +kernel) rfl rfl (fun x hx hr => ?_)
  have hl := hw.1; have h480 := hW.2.2.2.2
  refine k_aload_n hx dX4_add_0 0 rfl ?_
  refine k_get (v := vI (M i 1)) hx fX4_21 dX4_add_1 hW.2.2.1 hW.1 rfl ?_
  refine k_aload_n hx dX4_add_4 0 rfl ?_
  refine k_get (v := vR g (i + 1)) hx fX4_15 dX4_add_5 hW.2.2.1 hW.1 rfl ?_
  refine k_alen hx dX4_add_8 hW.2.2.2.1 hW.2.1 (by decide) ?_
  refine k_icmp_lt hx dX4_add_9 (by omega) (fun h_9 => absurd h_9 (by omega)) (fun h_9 => ?_)
  refine k_iconst hx dX4_add_12 ?_
  refine k_rz hx hr dX4_add_13 (by first | exact Or.inl rfl | exact Or.inr rfl | exact b2i_or _) ?_
  exact ⟨rfl, rfl⟩
theorem psh_nil (c : Int) : psh [] c = [c] := by simp [psh]
theorem getLast_at {w : List Int} (h : 0 < w.length) : w.getLast? = some (at0 w (w.length - 1)) := by
  rw [List.getLast?_eq_getElem?, show ((w.length : Int) - 1) = ((w.length - 1 : Nat) : Int) by omega, at0_n (by omega), List.getElem?_eq_getElem]
theorem psh_pop {w : List Int} {c : Int} (h : 0 < w.length) (e : at0 w (w.length - 1) = op c) : psh w c = w.take (w.length - 1) := by
  unfold psh
  rw [if_pos (by rw [getLast_at h, e]), List.dropLast_eq_take]
theorem psh_add {w : List Int} {c : Int} (e : 0 < w.length → at0 w (w.length - 1) ≠ op c) : psh w c = w ++ [c] := by
  unfold psh
  rw [if_neg]
  intro q
  by_cases h : 0 < w.length
  · rw [getLast_at h] at q
    exact e h (Option.some.inj q)
  · have : w = [] := by cases w with | nil => rfl | cons a t => simp at h
    subst this
    simp at q
theorem cr_psh {w : List Int} {c : Int} (h : Cr w) (hc : 0 ≤ c ∧ c < 12) : Cr (psh w c) := by
  unfold psh
  split
  · exact h.sub fun d hd => (by rw [List.dropLast_eq_take] at hd; exact List.mem_of_mem_take hd)
  · exact h.app (Cr.one hc)
theorem psh_len {w : List Int} {c : Int} : (psh w c).length ≤ w.length + 1 := by
  unfold psh
  split <;> simp <;> omega

theorem c_X4_addPulled {g : GE} {l : Launch} {M : Mem} {i cap : Nat} {w : List Int} (hW : IsW g i cap) (hw : Wd M i w) (hc : w.length ≤ cap) (hf : w.length < cap) {c : Int} (hcc : 0 ≤ c ∧ c < 12) : Ci g l μX4_addPulled [vR g i, vI c] M (fun z M' => z = 1 ∧ Wd M' i (psh w c) ∧ Off i M M' ∧ ∀ q : Int, q ≠ w.length → M' (i + 1) q = M (i + 1) q) := by
  refine Ci.of (by decide +kernel) rfl rfl (fun x hx hr => ?_)
  have hl := hw.1; have h480 := hW.2.2.2.2; have hop := op_rg hcc
  refine k_aload_n hx dX4_addPulled_0 0 rfl ?_
  refine k_get (v := vI (M i 1)) hx fX4_21 dX4_addPulled_1 hW.2.2.1 hW.1 rfl ?_
  refine k_ifle hx dX4_addPulled_4 (by omega) (fun h_4 => ?_) (fun h_4 => ?_)
  · refine k_aload_n hx dX4_addPulled_37 0 rfl ?_
    refine k_iload_n hx dX4_addPulled_38 1 rfl ?_
    refine k_vi (rest := []) hx vX4_29 dX4_addPulled_39 (c_X4_add hW hw hc hf hcc) hW.2.2.1 hW.1 rfl rfl rfl ⟨rfl, rfl⟩ ⟨by decide, by decide⟩ (fun z_39 M_39 p_39 => ?_)
    obtain ⟨rfl, p1, p2, p3⟩ := p_39
    refine k_rz hx hr dX4_addPulled_42 (by first | exact Or.inl rfl | exact Or.inr rfl | exact b2i_or _) ?_
    have e : psh w c = w ++ [c] := psh_add (fun h0 => by rw [← hl]; omega)
    exact ⟨rfl, by rw [e]; exact p1, p2, p3⟩
  · refine k_aload_n hx dX4_addPulled_7 0 rfl ?_
    refine k_get (v := vR g (i + 1)) hx fX4_15 dX4_addPulled_8 hW.2.2.1 hW.1 rfl ?_
    refine k_aload_n hx dX4_addPulled_11 0 rfl ?_
    refine k_get (v := vI (M i 1)) hx fX4_21 dX4_addPulled_12 hW.2.2.1 hW.1 rfl ?_
    refine k_iconst hx dX4_addPulled_15 ?_
    refine k_isub hx dX4_addPulled_16 ?_
    refine k_iald (v := (at0 w (M i 1 - 1))) hx dX4_addPulled_17 hW.2.2.2.1 hW.2.1 (by omega) (by have := hW.2.2.2.2; omega) (hw.lt (by omega) (by omega)) ?_
    have ha := at0_in hw.2.2 (z := M i 1 - 1) (by omega) (by omega)
    refine k_iload_n hx dX4_addPulled_18 1 rfl ?_
    refine k_np (rest := [vI (at0 w (M i 1 - 1))]) (e := (op c)) hx nX4_25 dX4_addPulled_19 (c_X5_opposite (z := c) (by omega)) rfl rfl rfl ⟨rfl, rfl⟩ ⟨by decide, by decide⟩ ?_
    refine k_icmp_ne hx dX4_addPulled_22 (by omega) (fun h_22 => ?_) (fun h_22 => ?_)
    · refine k_aload_n hx dX4_addPulled_37 0 rfl ?_
      refine k_iload_n hx dX4_addPulled_38 1 rfl ?_
      refine k_vi (rest := []) hx vX4_29 dX4_addPulled_39 (c_X4_add hW hw hc hf hcc) hW.2.2.1 hW.1 rfl rfl rfl ⟨rfl, rfl⟩ ⟨by decide, by decide⟩ (fun z_39 M_39 p_39 => ?_)
      obtain ⟨rfl, p1, p2, p3⟩ := p_39
      refine k_rz hx hr dX4_addPulled_42 (by first | exact Or.inl rfl | exact Or.inr rfl | exact b2i_or _) ?_
      have e : psh w c = w ++ [c] := psh_add (fun h0 => by rw [← hl]; omega)
      exact ⟨rfl, by rw [e]; exact p1, p2, p3⟩
    · refine k_aload_n hx dX4_addPulled_25 0 rfl ?_
      refine k_dup hx dX4_addPulled_26 rfl ?_
      refine k_get (v := vI (M i 1)) hx fX4_21 dX4_addPulled_27 hW.2.2.1 hW.1 rfl ?_
      refine k_iconst hx dX4_addPulled_30 ?_
      refine k_isub hx dX4_addPulled_31 ?_
      refine k_putI (kz := 1) hx fX4_21 dX4_addPulled_32 hW.2.2.1 hW.1 rfl rfl (fun M_32 hM_32 => ?_)
      refine k_iconst hx dX4_addPulled_35 ?_
      refine k_rz hx hr dX4_addPulled_36 (by first | exact Or.inl rfl | exact Or.inr rfl | exact b2i_or _) ?_
      subst hM_32
      have e : psh w c = w.take (w.length - 1) := psh_pop (by omega) (by rw [← hl]; omega)
      refine ⟨rfl, ?_, off_up, fun q hq => by rw [up_i (by omega)]⟩
      rw [e, show M i 1 - 1 = ((w.length - 1 : Nat) : Int) by omega]
      exact hw.cut (by omega)
end
section
/-! the class's word: words put behind one another, turned, repeated -/
theorem take_at0 {v : List Int} {k : Nat} (h : k < v.length) : v.take k ++ [at0 v k] = v.take (k + 1) := by
  rw [at0_n h, List.take_append_getElem h]
theorem at0_app {a b : List Int} {k : Nat} (h : k < a.length) : at0 (a ++ b) k = at0 a k := by
  rw [at0_n h, at0_n (by rw [List.length_append]; omega), List.getElem_append_left h]
theorem at0_mem {w : List Int} {k : Nat} (h : k < w.length) : at0 w k ∈ w := by rw [at0_n h]; exact List.getElem_mem h

theorem c_X4_addWord0 {g : GE} {l : Launch} {M : Mem} {i cap : Nat} {w : List Int} (hW : IsW g i cap) (hw : Wd M i w) (hc : w.length ≤ cap) {j cj : Nat} {v : List Int} (hJ : IsW g j cj) (hsum : w.length + v.length ≤ cap) (hb : ∀ M', Off i M M' → ∀ k, k ≤ v.length → Wd M' i (w ++ v.take k) → ∃ u, Wd M' j u ∧ u.length ≤ cj ∧ ∀ q : Nat, q < v.length → at0 u q = at0 v q) (hv : Wd M j v) : Cv g l μX4_addWord [vR g i, vR g j] M (fun M' => Wd M' i (w ++ v) ∧ Off i M M') := by
  refine Cv.of (by decide +kernel) rfl rfl (fun x hx hr => ?_)
  have hl := hw.1; have h480 := hW.2.2.2.2; have hlv := hv.1; have h480j := hJ.2.2.2.2
  have loop : ∀ (f : Nat), ∀ (k : Nat) (z : Int) (M' : Mem), z = k → k ≤ v.length → v.length - k < f → Wd M' i (w ++ v.take k) → Off i M M' → K x g 0 0 LAY (NN g) M' 7 [(0, vR g i), (1, vR g j), (2, vI v.length), (3, vI z)] [] := by
    intro f
    induction f with
    | zero => intro k z M' hz hk hf hwd ho; omega
    | succ f ih =>
      intro k z M' hz hk hf hwd ho
      refine k_iload_n hx dX4_addWord_7 3 rfl ?_
      refine k_iload_n hx dX4_addWord_8 2 rfl ?_
      refine k_icmp_ge hx dX4_addWord_9 (by omega) (fun h_9 => ?_) (fun h_9 => ?_)
      · refine k_rv hx hr dX4_addWord_28 ?_
        exact ⟨by rwa [List.take_of_length_le (by omega)] at hwd, ho⟩
      · obtain ⟨u, hu, huc, hue⟩ := hb M' ho k hk hwd
        have hkl : k < v.length := by omega
        have hez : at0 u z = at0 v k := by rw [hz]; exact hue k hkl
        have hcr := hv.2.2 _ (at0_mem hkl)
        refine k_aload_n hx dX4_addWord_12 0 rfl ?_
        refine k_aload_n hx dX4_addWord_13 1 rfl ?_
        refine k_iload_n hx dX4_addWord_14 3 rfl ?_
        refine k_vp (rest := [vR g i]) (e := (at0 u z)) hx vX4_37 dX4_addWord_15 (c_X4_at hJ hu huc (z := z) (by omega)) hJ.2.2.1 hJ.1 rfl rfl rfl ⟨rfl, rfl⟩ ⟨by decide, by decide⟩ ?_
        refine k_vi (rest := []) hx vX4_29 dX4_addWord_18 (c_X4_add hW hwd (by simp; omega) (by simp; omega) (c := at0 u z) (by rw [hez]; exact hcr)) hW.2.2.1 hW.1 rfl rfl rfl ⟨rfl, rfl⟩ ⟨by decide, by decide⟩ (fun z_18 M_18 p_18 => ?_)
        obtain ⟨rfl, p1, p2, p3⟩ := p_18
        rw [hez, List.append_assoc, take_at0 hkl] at p1
        refine k_pop hx dX4_addWord_21 rfl ?_
        refine k_iinc (ls' := [(0, vR g i), (1, vR g j), (2, vI v.length), (3, vI (z + 1))]) hx dX4_addWord_22 3 rfl rfl rfl (by decide) ?_
        refine k_goto hx dX4_addWord_25 ?_
        exact ih (k + 1) (z + 1) M_18 (by omega) (by omega) (by omega) p1 (ho.tr p2)
  refine k_aload_n hx dX4_addWord_0 1 rfl ?_
  refine k_get (v := vI v.length) hx fX4_21 dX4_addWord_1 hJ.2.2.1 hJ.1 (congrArg vI (show M j 1 = v.length from hv.1)) ?_
  refine k_istore_n (ls' := [(0, vR g i), (1, vR g j), (2, vI v.length)]) hx dX4_addWord_4 rfl rfl (by decide) ?_
  refine k_iconst hx dX4_addWord_5 ?_
  refine k_istore_n (ls' := [(0, vR g i), (1, vR g j), (2, vI v.length), (3, vI 0)]) hx dX4_addWord_6 rfl rfl (by decide) ?_
  exact loop (v.length + 1) 0 0 M rfl (by omega) (by omega) (by simpa using hw) Off.rf
/-- behind its own word too -/
theorem c_X4_addWord {g : GE} {l : Launch} {M : Mem} {i cap : Nat} {w : List Int} (hW : IsW g i cap) (hw : Wd M i w) (hc : w.length ≤ cap) {j cj : Nat} {v : List Int} (hJ : IsW g j cj) (hv : Wd M j v) (hcj : v.length ≤ cj) (hap : j ≠ i → j ≠ i + 1 ∧ j + 1 ≠ i) (hvw : j = i → v = w) (hsum : w.length + v.length ≤ cap) : Cv g l μX4_addWord [vR g i, vR g j] M (fun M' => Wd M' i (w ++ v) ∧ Off i M M') := by
  refine c_X4_addWord0 hW hw hc hJ hsum (fun M' ho k hk hk2 => ?_) hv
  by_cases h : j = i
  · subst h
    have := hvw rfl
    subst this
    have e : cap = cj := by
      have h1 := hW.2.1.symm.trans hJ.2.1
      simpa using h1
    subst e
    exact ⟨_, hk2, by simp; omega, fun q hq => at0_app hq⟩
  · exact ⟨v, hv.off ho h (hap h).1 (hap h).2, hcj, fun q _ => rfl⟩
theorem Wd.nil {M : Mem} {i : Nat} : Wd (up M i 1 0) i [] := ⟨up_s, fun k c h => by simp at h, fun c h => by cases h⟩

theorem c_X4_copyFrom {g : GE} {l : Launch} {M : Mem} {i cap : Nat} (hW : IsW g i cap) {j cj : Nat} {v : List Int} (hJ : IsW g j cj) (hv : Wd M j v) (hcj : v.length ≤ cj) (hap : j ≠ i ∧ j ≠ i + 1 ∧ j + 1 ≠ i) (hsum : v.length ≤ cap) : Cv g l μX4_copyFrom [vR g i, vR g j] M (fun M' => Wd M' i v ∧ Off i M M') := by
  refine Cv.of (by decide +kernel) rfl rfl (fun x hx hr => ?_)
  refine k_aload_n hx dX4_copyFrom_0 0 rfl ?_
  refine k_iconst hx dX4_copyFrom_1 ?_
  refine k_putI (kz := 1) hx fX4_21 dX4_copyFrom_2 hW.2.2.1 hW.1 rfl rfl (fun M_2 hM_2 => ?_)
  refine k_aload_n hx dX4_copyFrom_5 0 rfl ?_
  refine k_aload_n hx dX4_copyFrom_6 1 rfl ?_
  refine k_vv (rest := []) hx vX4_33 dX4_copyFrom_7 (c_X4_addWord hW (w := []) (by rw [hM_2]; exact Wd.nil) (by simp) hJ (v := v) (by rw [hM_2]; exact hv.off off_up hap.1 hap.2.1 hap.2.2) hcj (fun _ => hap.2) (fun h => absurd h hap.1) (by simpa using hsum)) hW.2.2.1 hW.1 rfl rfl rfl ⟨rfl, rfl⟩ ⟨by decide, by decide⟩ (fun M_7 p_7 => ?_)
  refine k_rv hx hr dX4_copyFrom_10 ?_
  subst hM_2; exact ⟨by simpa using p_7.1, off_up.tr p_7.2⟩
def slc (v : List Int) (a b : Nat) : List Int := (v.take b).drop a
theorem slc_len {v : List Int} {a b : Nat} (h : b ≤ v.length) : (slc v a b).length = b - a := by unfold slc; simp; omega
theorem trn_len (v : List Int) : (trn v).length = v.length := by unfold trn; simp
theorem trn_at {v : List Int} {k : Nat} (h : k < v.length) : at0 (trn v) k = op (at0 v (v.length - 1 - k : Nat)) := by
  rw [at0_n (by rw [trn_len]; exact h), at0_n (by omega)]
  simp [trn, List.getElem_reverse]
theorem slc_at {v : List Int} {a b k : Nat} (hb : b ≤ v.length) (h : k < b - a) : at0 (slc v a b) k = at0 v (a + k : Nat) := by
  rw [at0_n (by rw [slc_len hb]; exact h), at0_n (by omega)]
  simp [slc]
theorem slc_cr {v : List Int} (h : Cr v) (a b : Nat) : Cr (slc v a b) := (h.take b).drop a

theorem c_X4_addTurnedPart {g : GE} {l : Launch} {M : Mem} {i cap : Nat} {w : List Int} (hW : IsW g i cap) (hw : Wd M i w) (hc : w.length ≤ cap) {j cj : Nat} {v : List Int} {a b : Nat} (hJ : IsW g j cj) (hv : Wd M j v) (hcj : v.length ≤ cj) (hap : j ≠ i → j ≠ i + 1 ∧ j + 1 ≠ i) (hvw : j = i → v = w) (hab : a ≤ b) (hbv : b ≤ v.length) : Ci g l μX4_addTurnedPart [vR g i, vR g j, vI a, vI b] M (fun z M' => Off i M M' ∧ ((z = 1 ∧ w.length + (b - a) ≤ cap ∧ Wd M' i (w ++ trn (slc v a b))) ∨ (z = 0 ∧ cap < w.length + (b - a)))) := by
  refine Ci.of (by decide +kernel) rfl rfl (fun x hx hr => ?_)
  have hl := hw.1; have h480 := hW.2.2.2.2; have hlv := hv.1; have h480j := hJ.2.2.2.2
  have hsl := slc_len (a := a) hbv
  have htl := trn_len (slc v a b)
  have hb : ∀ (M' : Mem) (s : List Int), Off i M M' → Wd M' i (w ++ s) → (w ++ s).length ≤ cap → ∃ u, Wd M' j u ∧ u.length ≤ cj ∧ ∀ q : Nat, q < v.length → at0 u q = at0 v q := by
    intro M' s ho hk2 hk3
    by_cases h : j = i
    · subst h
      have := hvw rfl
      subst this
      have e : cap = cj := by
        have h1 := hW.2.1.symm.trans hJ.2.1
        simpa using h1
      subst e
      exact ⟨_, hk2, hk3, fun q hq => at0_app hq⟩
    · exact ⟨v, hv.off ho h (hap h).1 (hap h).2, hcj, fun q _ => rfl⟩
  have loop : ∀ (f : Nat), ∀ (k : Nat) (z : Int) (M' : Mem), z = b - 1 - k → k ≤ b - a → b - a - k < f → w.length + k ≤ cap → Wd M' i (w ++ (trn (slc v a b)).take k) → Off i M M' → K x g 0 0 LAY (NN g) M' 5 [(0, vR g i), (1, vR g j), (2, vI a), (3, vI b), (4, vI z)] [] := by
    intro f
    induction f with
    | zero => intro k z M' hz hk hf hkc hwd ho; omega
    | succ f ih =>
      intro k z M' hz hk hf hkc hwd ho
      refine k_iload hx dX4_addTurnedPart_5 4 rfl ?_
      refine k_iload_n hx dX4_addTurnedPart_7 2 rfl ?_
      refine k_icmp_lt hx dX4_addTurnedPart_8 (by omega) (fun h_8 => ?_) (fun h_8 => ?_)
      · refine k_iconst hx dX4_addTurnedPart_35 ?_
        refine k_rz hx hr dX4_addTurnedPart_36 (by first | exact Or.inl rfl | exact Or.inr rfl | exact b2i_or _) ?_
        exact ⟨ho, Or.inl ⟨rfl, by omega, by rwa [List.take_of_length_le (by omega)] at hwd⟩⟩
      · obtain ⟨u, hu, huc, hue⟩ := hb M' _ ho hwd (by simp; omega)
        have hkl : k < b - a := by omega
        have hzn : z = ((b - 1 - k : Nat) : Int) := by omega
        have hez : at0 u z = at0 v (b - 1 - k : Nat) := by rw [hzn]; exact hue _ (by omega)
        have hcr := hv.2.2 _ (at0_mem (w := v) (k := b - 1 - k) (by omega))
        have hop := op_rg hcr
        have het : at0 (trn (slc v a b)) k = op (at0 u z) := by
          rw [trn_at (by omega), slc_at hbv (by omega), hez]
          congr 3
          omega
        refine k_aload_n hx dX4_addTurnedPart_11 0 rfl ?_
        refine k_aload_n hx dX4_addTurnedPart_12 1 rfl ?_
        refine k_iload hx dX4_addTurnedPart_13 4 rfl ?_
        refine k_vp (rest := [vR g i]) (e := (at0 u z)) hx vX4_37 dX4_addTurnedPart_15 (c_X4_at hJ hu huc (z := z) (by omega)) hJ.2.2.1 hJ.1 rfl rfl rfl ⟨rfl, rfl⟩ ⟨by decide, by decide⟩ ?_
        refine k_np (rest := [vR g i]) (e := (op (at0 u z))) hx nX4_25 dX4_addTurnedPart_18 (c_X5_opposite (z := at0 u z) (by rw [hez]; omega)) rfl rfl rfl ⟨rfl, rfl⟩ ⟨by decide, by decide⟩ ?_
        by_cases hfull : w.length + k < cap
        rotate_left
        · refine k_vi (rest := []) hx vX4_29 dX4_addTurnedPart_21 (c_X4_addF hW hwd (by simp; omega) (by simp; omega) (c := op (at0 u z))) hW.2.2.1 hW.1 rfl rfl rfl ⟨rfl, rfl⟩ ⟨by decide, by decide⟩ (fun z_21 M_21 p_21 => ?_)
          obtain ⟨rfl, rfl⟩ := p_21
          refine k_ifne hx dX4_addTurnedPart_24 (by omega) (fun h_24 => absurd rfl h_24) (fun h_24 => ?_)
          refine k_iconst hx dX4_addTurnedPart_27 ?_
          refine k_rz hx hr dX4_addTurnedPart_28 (Or.inl rfl) ?_
          exact ⟨ho, Or.inr ⟨rfl, by omega⟩⟩
        refine k_vi (rest := []) hx vX4_29 dX4_addTurnedPart_21 (c_X4_add hW hwd (by simp; omega) (by simp; omega) (c := op (at0 u z)) (by rw [hez]; exact hop)) hW.2.2.1 hW.1 rfl rfl rfl ⟨rfl, rfl⟩ ⟨by decide, by decide⟩ (fun z_21 M_21 p_21 => ?_)
        obtain ⟨rfl, p1, p2, p3⟩ := p_21
        rw [List.append_assoc, ← het, take_at0 (by omega)] at p1
        refine k_ifne hx dX4_addTurnedPart_24 (by omega) (fun h_24 => ?_) (fun h_24 => absurd h_24 (by omega))
        refine k_iinc (ls' := [(0, vR g i), (1, vR g j), (2, vI a), (3, vI b), (4, vI (z + (-1)))]) hx dX4_addTurnedPart_29 4 rfl rfl rfl (by decide) ?_
        refine k_goto hx dX4_addTurnedPart_32 ?_
        exact ih (k + 1) (z + -1) M_21 (by omega) (by omega) (by omega) (by omega) p1 (ho.tr p2)
  refine k_iload_n hx dX4_addTurnedPart_0 3 rfl ?_
  refine k_iconst hx dX4_addTurnedPart_1 ?_
  refine k_isub hx dX4_addTurnedPart_2 ?_
  refine k_istore (ls' := [(0, vR g i), (1, vR g j), (2, vI a), (3, vI b), (4, vI (b - 1))]) hx dX4_addTurnedPart_3 rfl rfl (by decide) ?_
  exact loop (b - a + 1) 0 _ M (by omega) (by omega) (by omega) (by omega) (by simpa using hw) Off.rf
theorem slc_all (v : List Int) : slc v 0 v.length = v := by simp [slc]
theorem c_X4_addTurned {g : GE} {l : Launch} {M : Mem} {i cap : Nat} {w : List Int} (hW : IsW g i cap) (hw : Wd M i w) (hc : w.length ≤ cap) {j cj : Nat} {v : List Int} (hJ : IsW g j cj) (hv : Wd M j v) (hcj : v.length ≤ cj) (hap : j ≠ i ∧ j ≠ i + 1 ∧ j + 1 ≠ i) (hsum : w.length + v.length ≤ cap) : Cv g l μX4_addTurned [vR g i, vR g j] M (fun M' => Wd M' i (w ++ trn v) ∧ Off i M M') := by
  refine Cv.of (by decide +kernel) rfl rfl (fun x hx hr => ?_)
  have hl := hw.1; have h480 := hW.2.2.2.2; have hlv := hv.1; have h480j := hJ.2.2.2.2
  refine k_aload_n hx dX4_addTurned_0 0 rfl ?_
  refine k_aload_n hx dX4_addTurned_1 1 rfl ?_
  refine k_iconst hx dX4_addTurned_2 ?_
  refine k_aload_n hx dX4_addTurned_3 1 rfl ?_
  refine k_get (v := vI v.length) hx fX4_21 dX4_addTurned_4 hJ.2.2.1 hJ.1 (congrArg vI (show M j 1 = v.length from hv.1)) ?_
  refine k_vi (rest := []) hx vX4_40 dX4_addTurned_7 (c_X4_addTurnedPart hW hw hc hJ hv hcj (fun _ => hap.2) (fun h => absurd h hap.1) (a := 0) (b := v.length) (by omega) (by omega)) hW.2.2.1 hW.1 rfl rfl rfl ⟨rfl, rfl⟩ ⟨by decide, by decide⟩ (fun z_7 M_7 p_7 => ?_)
  refine k_pop hx dX4_addTurned_10 rfl ?_
  refine k_rv hx hr dX4_addTurned_11 ?_
  obtain ⟨ho, h | h⟩ := p_7
  · exact ⟨by rw [← slc_all v]; rw [slc_all v]; have := h.2.2; rwa [slc_all] at this, ho⟩
  · exact absurd h.2 (by omega)
def rpt : Nat → List Int → List Int
  | 0, _ => []
  | n + 1, s => s ++ rpt n s
theorem rpt_len (n : Nat) (s : List Int) : (rpt n s).length = n * s.length := by
  induction n with
  | zero => simp [rpt]
  | succ n ih => rw [rpt, List.length_append, ih, Nat.succ_mul]; omega
theorem rpt_succ (n : Nat) (s : List Int) : rpt (n + 1) s = rpt n s ++ s := by
  induction n with
  | zero => simp [rpt]
  | succ n ih => show s ++ rpt (n + 1) s = (s ++ rpt n s) ++ s; rw [ih, List.append_assoc]
theorem rpt_cr {s : List Int} (h : Cr s) (n : Nat) : Cr (rpt n s) := by
  induction n with
  | zero => intro c hc; cases hc
  | succ n ih => exact h.app ih
end
section
/-! the class's word: turned in place, pulled, tightened, least start -/
theorem Wd.of {M : Mem} {i : Nat} {u : List Int} (h1 : M i 1 = u.length) (h2 : ∀ k : Nat, k < u.length → M (i + 1) k = at0 u k) (h3 : Cr u) : Wd M i u := by
  refine ⟨h1, fun k c h => ?_, h3⟩
  have hk := (List.getElem?_eq_some_iff.mp h).1
  rw [h2 k hk, at0_n hk]
  exact (List.getElem?_eq_some_iff.mp h).2
theorem Wd.atn {M : Mem} {i : Nat} {w : List Int} (h : Wd M i w) {k : Nat} (hk : k < w.length) : M (i + 1) (k : Int) = at0 w k := h.lt (by omega) (by omega)
theorem ext_at0 {u v : List Int} (h1 : u.length = v.length) (h2 : ∀ k : Nat, k < u.length → at0 u k = at0 v k) : u = v := by
  refine List.ext_getElem h1 (fun k hk hk2 => ?_)
  have := h2 k hk
  rwa [at0_n hk, at0_n hk2] at this
theorem at0_take {w : List Int} {m k : Nat} (h : k < m) (hk : k < w.length) : at0 (w.take m) k = at0 w k := by
  rw [at0_n (by rw [List.length_take]; omega), at0_n hk]; simp
theorem at0_drop {w : List Int} {m k : Nat} (hk : m + k < w.length) : at0 (w.drop m) k = at0 w (m + k : Nat) := by
  rw [at0_n (by rw [List.length_drop]; omega), at0_n hk]; simp
theorem at0_appr {a b : List Int} {k : Nat} (h : k < b.length) : at0 (a ++ b) (a.length + k : Nat) = at0 b k := by
  rw [at0_n h, at0_n (by rw [List.length_append]; omega), List.getElem_append_right (by omega)]; simp
/-- turned from a on, s steps done -/
def tf (w : List Int) (a s q : Nat) : Int := if q < a ∨ (a + s ≤ q ∧ q + s + 1 ≤ w.length) then at0 w q else op (at0 w (a + w.length - 1 - q : Nat))
def turnF (w : List Int) (a : Nat) : List Int := w.take a ++ trn (w.drop a)
theorem turnF_len {w : List Int} {a : Nat} (h : a ≤ w.length) : (turnF w a).length = w.length := by
  unfold turnF; rw [List.length_append, trn_len, List.length_take, List.length_drop]; omega
theorem turnF_at {w : List Int} {a k : Nat} (ha : a ≤ w.length) (hk : k < w.length) : at0 (turnF w a) k = if k < a then at0 w k else op (at0 w (a + w.length - 1 - k : Nat)) := by
  have hl : (w.take a).length = a := by rw [List.length_take]; omega
  by_cases h : k < a
  · rw [if_pos h]; unfold turnF; rw [at0_app (by omega), at0_take h hk]
  · rw [if_neg h]
    unfold turnF
    have e : k = (w.take a).length + (k - a) := by omega
    have hd : (w.drop a).length = w.length - a := by rw [List.length_drop]
    rw [e, at0_appr (by rw [trn_len]; omega), trn_at (by omega), at0_drop (by omega), ← e]
    congr 2
    omega
theorem turnF_cr {w : List Int} (h : Cr w) (a : Nat) : Cr (turnF w a) := (h.take a).app (cr_trn (h.drop a))
theorem op_cr {w : List Int} (h : Cr w) {k : Nat} (hk : k < w.length) : 0 ≤ at0 w k ∧ at0 w k < 12 := h _ (at0_mem hk)

theorem c_X4_turnFrom {g : GE} {l : Launch} {M : Mem} {i cap : Nat} {w : List Int} (hW : IsW g i cap) (hw : Wd M i w) (hc : w.length ≤ cap) {a : Nat} (ha : a ≤ w.length) : Cv g l μX4_turnFrom [vR g i, vI a] M (fun M' => Wd M' i (turnF w a) ∧ Off i M M') := by
  refine Cv.of (by decide +kernel) rfl rfl (fun x hx hr => ?_)
  have hl := hw.1; have h480 := hW.2.2.2.2
  have loop : ∀ (f : Nat), ∀ (s : Nat) (y z : Int) (M' : Mem), y = a + s → z = w.length - 1 - s → w.length - s < f → 2 * s ≤ w.length - a → (∀ q : Nat, q < w.length → M' (i + 1) q = tf w a s q) → M' i 1 = w.length → Off i M M' → K x g 0 0 LAY (NN g) M' 13 [(0, vR g i), (1, vI a), (2, vI y), (3, vI z)] [] := by
    intro f
    induction f with
    | zero => intro s y z M' hy hz hf h2 hq hL ho; omega
    | succ f ih =>
      intro s y z M' hy hz hf h2 hq hL ho
      refine k_iload_n hx dX4_turnFrom_13 2 rfl ?_
      refine k_iload_n hx dX4_turnFrom_14 3 rfl ?_
      refine k_icmp_ge hx dX4_turnFrom_15 (by omega) (fun h_15 => ?_) (fun h_15 => ?_)
      · refine k_iload_n hx dX4_turnFrom_61 2 rfl ?_
        refine k_iload_n hx dX4_turnFrom_62 3 rfl ?_
        refine k_icmp_ne hx dX4_turnFrom_63 (by omega) (fun h_63 => ?_) (fun h_63 => ?_)
        · refine k_rv hx hr dX4_turnFrom_81 ?_
          refine ⟨Wd.of (by rw [turnF_len ha]; exact hL) (fun q hqn => ?_) (turnF_cr hw.2.2 a), ho⟩
          rw [turnF_len ha] at hqn
          rw [hq q hqn, turnF_at ha hqn]
          unfold tf
          by_cases q1 : q < a
          · rw [if_pos (Or.inl q1), if_pos q1]
          · rw [if_neg (by omega), if_neg q1]
        · have e1 : M' (i + 1) y = at0 w (a + s : Nat) := by
            rw [show y = ((a + s : Nat) : Int) by omega]; have := hq (a + s) (by omega); unfold tf at this; rwa [if_pos (by omega)] at this
          have c1 := op_cr hw.2.2 (k := a + s) (by omega)
          refine k_aload_n hx dX4_turnFrom_66 0 rfl ?_
          refine k_get (v := vR g (i + 1)) hx fX4_15 dX4_turnFrom_67 hW.2.2.1 hW.1 rfl ?_
          refine k_iload_n hx dX4_turnFrom_70 2 rfl ?_
          refine k_aload_n hx dX4_turnFrom_71 0 rfl ?_
          refine k_get (v := vR g (i + 1)) hx fX4_15 dX4_turnFrom_72 hW.2.2.1 hW.1 rfl ?_
          refine k_iload_n hx dX4_turnFrom_75 2 rfl ?_
          refine k_iald (v := (at0 w (a + s : Nat))) hx dX4_turnFrom_76 hW.2.2.2.1 hW.2.1 (by omega) (by have := hW.2.2.2.2; omega) (e1) ?_
          refine k_np (rest := [vI y, vR g (i + 1)]) (e := (op (at0 w (a + s : Nat)))) hx nX4_25 dX4_turnFrom_77 (c_X5_opposite (z := (at0 w (a + s : Nat))) (by omega)) rfl rfl rfl ⟨rfl, rfl⟩ ⟨by decide, by decide⟩ ?_
          refine k_iastN hx dX4_turnFrom_80 hW.2.2.2.1 hW.2.1 (by omega) (by have := hW.2.2.2.2; omega) (fun M_80 hM_80 => ?_)
          refine k_rv hx hr dX4_turnFrom_81 ?_
          subst hM_80
          refine ⟨Wd.of (by rw [turnF_len ha, up_i (by omega)]; exact hL) (fun q hqn => ?_) (turnF_cr hw.2.2 a), ho.tr off_up1⟩
          rw [turnF_len ha] at hqn
          rw [turnF_at ha hqn]
          by_cases q2 : q = a + s
          · subst q2
            rw [show ((a + s : Nat) : Int) = y by omega, up_s, if_neg (by omega)]; congr 3; omega
          · rw [up_k (by omega), hq q hqn]
            unfold tf
            by_cases q1 : q < a
            · rw [if_pos (Or.inl q1), if_pos q1]
            · rw [if_neg (by omega), if_neg q1]
      · have e1 : M' (i + 1) y = at0 w (a + s : Nat) := by
          rw [show y = ((a + s : Nat) : Int) by omega]; have := hq (a + s) (by omega); unfold tf at this; rwa [if_pos (by omega)] at this
        have e2 : M' (i + 1) z = at0 w (w.length - 1 - s : Nat) := by
          rw [show z = ((w.length - 1 - s : Nat) : Int) by omega]; have := hq (w.length - 1 - s) (by omega); unfold tf at this; rwa [if_pos (by omega)] at this
        have c1 := op_cr hw.2.2 (k := a + s) (by omega)
        have c2 := op_cr hw.2.2 (k := w.length - 1 - s) (by omega)
        refine k_aload_n hx dX4_turnFrom_18 0 rfl ?_
        refine k_get (v := vR g (i + 1)) hx fX4_15 dX4_turnFrom_19 hW.2.2.1 hW.1 rfl ?_
        refine k_iload_n hx dX4_turnFrom_22 2 rfl ?_
        refine k_iald (v := (at0 w (a + s : Nat))) hx dX4_turnFrom_23 hW.2.2.2.1 hW.2.1 (by omega) (by have := hW.2.2.2.2; omega) (e1) ?_
        refine k_istore (ls' := [(0, vR g i), (1, vI a), (2, vI y), (3, vI z), (4, vI (at0 w (a + s : Nat)))]) hx dX4_turnFrom_24 rfl rfl (by decide) ?_
        refine k_aload_n hx dX4_turnFrom_26 0 rfl ?_
        refine k_get (v := vR g (i + 1)) hx fX4_15 dX4_turnFrom_27 hW.2.2.1 hW.1 rfl ?_
        refine k_iload_n hx dX4_turnFrom_30 2 rfl ?_
        refine k_aload_n hx dX4_turnFrom_31 0 rfl ?_
        refine k_get (v := vR g (i + 1)) hx fX4_15 dX4_turnFrom_32 hW.2.2.1 hW.1 rfl ?_
        refine k_iload_n hx dX4_turnFrom_35 3 rfl ?_
        refine k_iald (v := (at0 w (w.length - 1 - s : Nat))) hx dX4_turnFrom_36 hW.2.2.2.1 hW.2.1 (by omega) (by have := hW.2.2.2.2; omega) (e2) ?_
        refine k_np (rest := [vI y, vR g (i + 1)]) (e := (op (at0 w (w.length - 1 - s : Nat)))) hx nX4_25 dX4_turnFrom_37 (c_X5_opposite (z := (at0 w (w.length - 1 - s : Nat))) (by omega)) rfl rfl rfl ⟨rfl, rfl⟩ ⟨by decide, by decide⟩ ?_
        refine k_iastN hx dX4_turnFrom_40 hW.2.2.2.1 hW.2.1 (by omega) (by have := hW.2.2.2.2; omega) (fun M_40 hM_40 => ?_)
        refine k_aload_n hx dX4_turnFrom_41 0 rfl ?_
        refine k_get (v := vR g (i + 1)) hx fX4_15 dX4_turnFrom_42 hW.2.2.1 hW.1 rfl ?_
        refine k_iload_n hx dX4_turnFrom_45 3 rfl ?_
        refine k_iload hx dX4_turnFrom_46 4 rfl ?_
        refine k_np (rest := [vI z, vR g (i + 1)]) (e := (op (at0 w (a + s : Nat)))) hx nX4_25 dX4_turnFrom_48 (c_X5_opposite (z := (at0 w (a + s : Nat))) (by omega)) rfl rfl rfl ⟨rfl, rfl⟩ ⟨by decide, by decide⟩ ?_
        refine k_iastN hx dX4_turnFrom_51 hW.2.2.2.1 hW.2.1 (by omega) (by have := hW.2.2.2.2; omega) (fun M_51 hM_51 => ?_)
        refine k_iinc (ls' := [(0, vR g i), (1, vI a), (2, vI (y + 1)), (3, vI z), (4, vI (at0 w (a + s : Nat)))]) hx dX4_turnFrom_52 2 rfl rfl rfl (by decide) ?_
        refine k_iinc (ls' := [(0, vR g i), (1, vI a), (2, vI (y + 1)), (3, vI (z + (-1))), (4, vI (at0 w (a + s : Nat)))]) hx dX4_turnFrom_55 3 rfl rfl rfl (by decide) ?_
        refine k_goto hx dX4_turnFrom_58 ?_
        refine K.sub [0, 1, 2, 3] rfl ?_
        refine ih (s + 1) (y + 1) (z + -1) M_51 (by omega) (by omega) (by omega) (by omega) (fun q hqn => ?_) (by rw [hM_51, hM_40, up_i (by omega), up_i (by omega)]; exact hL) (ho.tr (by rw [hM_51, hM_40]; exact off_up1.tr off_up1))
        rw [hM_51, hM_40]
        by_cases q1 : q = a + s
        · subst q1
          rw [up_k (by omega), show ((a + s : Nat) : Int) = y by omega, up_s]
          unfold tf; rw [if_neg (by omega)]; congr 3; omega
        · by_cases q2 : q = w.length - 1 - s
          · subst q2
            rw [show ((w.length - 1 - s : Nat) : Int) = z by omega, up_s]
            unfold tf; rw [if_neg (by omega)]; congr 3; omega
          · rw [up_k (by omega), up_k (by omega), hq q hqn]
            unfold tf
            by_cases q3 : q < a ∨ (a + s ≤ q ∧ q + s + 1 ≤ w.length)
            · rw [if_pos q3, if_pos (by omega)]
            · rw [if_neg q3, if_neg (by omega)]
  refine k_iload_n hx dX4_turnFrom_0 1 rfl ?_
  refine k_iconst hx dX4_turnFrom_1 ?_
  refine k_sp (rest := []) (e := (max a 0)) hx sX4_9 dX4_turnFrom_2 (c_max (a := a) (b := 0) (by omega)) rfl rfl rfl ⟨rfl, rfl⟩ ⟨by decide, by decide⟩ ?_
  
  have hmx : max (a : Int) 0 = a := by omega
  rw [hmx]
  refine k_istore_n (ls' := [(0, vR g i), (1, vI a), (2, vI a)]) hx dX4_turnFrom_5 rfl rfl (by decide) ?_
  refine k_aload_n hx dX4_turnFrom_6 0 rfl ?_
  refine k_get (v := vI w.length) hx fX4_21 dX4_turnFrom_7 hW.2.2.1 hW.1 (congrArg vI (show M i 1 = w.length from hl)) ?_
  refine k_iconst hx dX4_turnFrom_10 ?_
  refine k_isub hx dX4_turnFrom_11 ?_
  refine k_istore_n (ls' := [(0, vR g i), (1, vI a), (2, vI a), (3, vI (w.length - 1))]) hx dX4_turnFrom_12 rfl rfl (by decide) ?_
  exact loop (w.length + 1) 0 _ _ M (by omega) (by omega) (by omega) (by omega) (fun q hqn => by unfold tf; rw [hw.atn hqn]; by_cases h : q < a ∨ (a + 0 ≤ q ∧ q + 0 + 1 ≤ w.length); rw [if_pos h]; exact absurd (by omega) h) hl Off.rf
theorem red_snoc {w : List Int} {k : Nat} (h : k < w.length) : red (w.take (k + 1)) = psh (red (w.take k)) (at0 w k) := by
  rw [← take_at0 h]; unfold red; rw [List.foldl_append]; rfl
theorem red_len_le (w : List Int) : (red w).length ≤ w.length := by
  have key : ∀ k, k ≤ w.length → (red (w.take k)).length ≤ k := by
    intro k
    induction k with
    | zero => intro _; simp [red]
    | succ k ih =>
      intro h
      rw [red_snoc (by omega)]
      have h1 := ih (by omega)
      have h2 := psh_len (w := red (w.take k)) (c := at0 w k)
      omega
  have := key w.length (Nat.le_refl _)
  rwa [List.take_length] at this
theorem red_tk_le {w : List Int} {k : Nat} (h : k ≤ w.length) : (red (w.take k)).length ≤ k := by
  have := red_len_le (w.take k); rw [List.length_take] at this; omega

theorem c_X4_cancelPairs {g : GE} {l : Launch} {M : Mem} {i cap : Nat} {w : List Int} (hW : IsW g i cap) (hw : Wd M i w) (hc : w.length ≤ cap) : Ci g l μX4_cancelPairs [vR g i] M (fun z M' => z = (w.length - (red w).length) / 2 ∧ Wd M' i (red w) ∧ Off i M M') := by
  refine Ci.of (by decide +kernel) rfl rfl (fun x hx hr => ?_)
  have hl := hw.1; have h480 := hW.2.2.2.2; have hrl := red_len_le w
  have loop : ∀ (f : Nat), ∀ (k : Nat) (z : Int) (M' : Mem), z = k → k ≤ w.length → w.length - k < f → Wd M' i (red (w.take k)) → (∀ q : Nat, k ≤ q → q < w.length → M' (i + 1) q = at0 w q) → Off i M M' → K x g 0 0 LAY (NN g) M' 12 [(0, vR g i), (1, vI w.length), (2, vI z)] [] := by
    intro f
    induction f with
    | zero => intro k z M' hz hk hf hwd hq ho; omega
    | succ f ih =>
      intro k z M' hz hk hf hwd hq ho
      refine k_iload_n hx dX4_cancelPairs_12 2 rfl ?_
      refine k_iload_n hx dX4_cancelPairs_13 1 rfl ?_
      refine k_icmp_ge hx dX4_cancelPairs_14 (by omega) (fun h_14 => ?_) (fun h_14 => ?_)
      · have hkw : k = w.length := by omega
        subst hkw
        rw [List.take_length] at hwd
        refine k_iload_n hx dX4_cancelPairs_34 1 rfl ?_
        refine k_aload_n hx dX4_cancelPairs_35 0 rfl ?_
        refine k_get (v := vI ((red w).length)) hx fX4_21 dX4_cancelPairs_36 hW.2.2.1 hW.1 (congrArg vI (show M' i 1 = ((red w).length) from hwd.1)) ?_
        refine k_isub hx dX4_cancelPairs_39 ?_
        refine k_iconst hx dX4_cancelPairs_40 ?_
        refine k_idiv hx dX4_cancelPairs_41 (by omega) ?_
        refine k_ri hx hr dX4_cancelPairs_42 ?_
        exact ⟨rfl, hwd, ho⟩
      · have e1 : M' (i + 1) z = at0 w k := by rw [hz]; exact hq k (by omega) (by omega)
        have c1 := op_cr hw.2.2 (k := k) (by omega)
        have hrk := red_tk_le hk
        refine k_aload_n hx dX4_cancelPairs_17 0 rfl ?_
        refine k_aload_n hx dX4_cancelPairs_18 0 rfl ?_
        refine k_get (v := vR g (i + 1)) hx fX4_15 dX4_cancelPairs_19 hW.2.2.1 hW.1 rfl ?_
        refine k_iload_n hx dX4_cancelPairs_22 2 rfl ?_
        refine k_iald (v := (at0 w k)) hx dX4_cancelPairs_23 hW.2.2.2.1 hW.2.1 (by omega) (by have := hW.2.2.2.2; omega) (e1) ?_
        refine k_vi (rest := []) hx vX4_44 dX4_cancelPairs_24 (c_X4_addPulled hW hwd (by omega) (by omega) (c := at0 w k) c1) hW.2.2.1 hW.1 rfl rfl rfl ⟨rfl, rfl⟩ ⟨by decide, by decide⟩ (fun z_24 M_24 p_24 => ?_)
        obtain ⟨rfl, p1, p2, p3⟩ := p_24
        rw [← red_snoc (by omega)] at p1
        refine k_pop hx dX4_cancelPairs_27 rfl ?_
        refine k_iinc (ls' := [(0, vR g i), (1, vI w.length), (2, vI (z + 1))]) hx dX4_cancelPairs_28 2 rfl rfl rfl (by decide) ?_
        refine k_goto hx dX4_cancelPairs_31 ?_
        exact ih (k + 1) (z + 1) M_24 (by omega) (by omega) (by omega) p1 (fun q h1 h2 => by rw [p3 q (by omega)]; exact hq q (by omega) h2) (ho.tr p2)
  refine k_aload_n hx dX4_cancelPairs_0 0 rfl ?_
  refine k_get (v := vI w.length) hx fX4_21 dX4_cancelPairs_1 hW.2.2.1 hW.1 (congrArg vI (show M i 1 = w.length from hl)) ?_
  refine k_istore_n (ls' := [(0, vR g i), (1, vI w.length)]) hx dX4_cancelPairs_4 rfl rfl (by decide) ?_
  refine k_aload_n hx dX4_cancelPairs_5 0 rfl ?_
  refine k_iconst hx dX4_cancelPairs_6 ?_
  refine k_putI (kz := 1) hx fX4_21 dX4_cancelPairs_7 hW.2.2.1 hW.1 rfl rfl (fun M_7 hM_7 => ?_)
  refine k_iconst hx dX4_cancelPairs_10 ?_
  refine k_istore_n (ls' := [(0, vR g i), (1, vI w.length), (2, vI 0)]) hx dX4_cancelPairs_11 rfl rfl (by decide) ?_
  exact loop (w.length + 1) 0 0 M_7 rfl (by omega) (by omega) (by subst hM_7; exact Wd.nil) (fun q _ h2 => by rw [hM_7, up_i (by omega)]; exact hw.atn h2) (by rw [hM_7]; exact off_up)
def strip : Nat → List Int → List Int
  | 0, w => w
  | f + 1, w => if 2 ≤ w.length ∧ at0 w 0 = op (at0 w (w.length - 1 : Nat)) then strip f (slc w 1 (w.length - 1)) else w
def tight (w : List Int) : List Int := strip w.length w
theorem strip_stop {w : List Int} (h : ¬ (2 ≤ w.length ∧ at0 w 0 = op (at0 w (w.length - 1 : Nat)))) (f : Nat) : strip f w = w := by
  cases f with
  | zero => rfl
  | succ f => unfold strip; rw [if_neg h]
theorem strip_go {w : List Int} {f f' : Nat} (hf : f = f' + 1) (h : 2 ≤ w.length ∧ at0 w 0 = op (at0 w (w.length - 1 : Nat))) : strip f w = strip f' (slc w 1 (w.length - 1)) := by
  subst hf; rw [strip, if_pos h]
theorem slc_slc {r : List Int} {s n : Nat} (hn : n = r.length) (h : 2 * s + 2 ≤ n) : slc (slc r s (n - s)) 1 ((slc r s (n - s)).length - 1) = slc r (s + 1) (n - (s + 1)) := by
  have h1 : (slc r s (n - s)).length = n - s - s := slc_len (by omega)
  refine ext_at0 ?_ (fun k hk => ?_)
  · rw [slc_len (by omega), h1, slc_len (by omega)]; omega
  · rw [slc_len (by omega), h1] at hk
    rw [slc_at (by omega) (by omega), slc_at (by omega) (by omega), slc_at (by omega) (by omega)]
    congr 2
    omega
theorem strip_len : ∀ (f : Nat) (w : List Int), (strip f w).length ≤ w.length
  | 0, w => Nat.le_refl _
  | f + 1, w => by
    unfold strip
    split
    · rename_i h
      have := strip_len f (slc w 1 (w.length - 1))
      rw [slc_len (by omega)] at this
      omega
    · exact Nat.le_refl _
theorem strip_cr : ∀ (f : Nat) {w : List Int}, Cr w → Cr (strip f w)
  | 0, _, h => h
  | f + 1, w, h => by
    unfold strip
    split
    · exact strip_cr f (slc_cr h _ _)
    · exact h
theorem red_cr {w : List Int} (h : Cr w) : Cr (red w) := by
  have key : ∀ k, k ≤ w.length → Cr (red (w.take k)) := by
    intro k
    induction k with
    | zero => intro _ c hc; simp [red] at hc
    | succ k ih => intro hk; rw [red_snoc (by omega)]; exact cr_psh (ih (by omega)) (op_cr h (by omega))
  have := key w.length (Nat.le_refl _)
  rwa [List.take_length] at this
theorem tight_cr {w : List Int} (h : Cr w) : Cr (tight w) := strip_cr _ h
theorem tight_len (w : List Int) : (tight w).length ≤ w.length := strip_len _ _

set_option maxRecDepth 20000 in
theorem c_X4_tighten {g : GE} {l : Launch} {M : Mem} {i cap : Nat} {w : List Int} (hW : IsW g i cap) (hw : Wd M i w) (hc : w.length ≤ cap) : Cv g l μX4_tighten [vR g i] M (fun M' => Wd M' i (tight (red w)) ∧ Off i M M') := by
  refine Cv.of (by decide +kernel) rfl rfl (fun x hx hr => ?_)
  have hl := hw.1; have h480 := hW.2.2.2.2; have hrl := red_len_le w
  obtain ⟨r, hr0⟩ : ∃ r, r = red w := ⟨_, rfl⟩
  rw [← hr0] at hrl
  have loop2 : ∀ (f : Nat), ∀ (s k : Nat) (y z u : Int) (M' : Mem), y = s → z = r.length - 1 - s → u = s + k → 2 * s + k ≤ r.length → tight r = slc r s (r.length - s) → r.length - k < f → Wd M' i ((slc r s (r.length - s)).take k) → (∀ q : Nat, s + k ≤ q → q < r.length → M' (i + 1) q = at0 r q) → Cr r → Off i M M' → K x g 0 0 LAY (NN g) M' 53 [(0, vR g i), (1, vI y), (2, vI z), (3, vI u)] [] := by
    intro f
    induction f with
    | zero => intro s k y z u M' hy hz hu hsk htt hf hwd hq hcr ho; omega
    | succ f ih =>
      intro s k y z u M' hy hz hu hsk htt hf hwd hq hcr ho
      have hsl : (slc r s (r.length - s)).length = r.length - s - s := slc_len (by omega)
      refine k_iload_n hx dX4_tighten_53 3 rfl ?_
      refine k_iload_n hx dX4_tighten_54 2 rfl ?_
      refine k_icmp_gt hx dX4_tighten_55 (by omega) (fun h_55 => ?_) (fun h_55 => ?_)
      · refine k_rv hx hr dX4_tighten_75 ?_
        exact ⟨by rw [← hr0, htt]; rwa [List.take_of_length_le (by omega)] at hwd, ho⟩
      · have e1 : M' (i + 1) u = at0 (slc r s (r.length - s)) k := by
          rw [hu, show (s : Int) + k = ((s + k : Nat) : Int) by omega, hq _ (by omega) (by omega), slc_at (by omega) (by omega)]
        have c1 := op_cr (slc_cr hcr s (r.length - s)) (k := k) (by omega)
        refine k_aload_n hx dX4_tighten_58 0 rfl ?_
        refine k_aload_n hx dX4_tighten_59 0 rfl ?_
        refine k_get (v := vR g (i + 1)) hx fX4_15 dX4_tighten_60 hW.2.2.1 hW.1 rfl ?_
        refine k_iload_n hx dX4_tighten_63 3 rfl ?_
        refine k_iald (v := (at0 (slc r s (r.length - s)) k)) hx dX4_tighten_64 hW.2.2.2.1 hW.2.1 (by omega) (by have := hW.2.2.2.2; omega) (e1) ?_
        refine k_vi (rest := []) hx vX4_29 dX4_tighten_65 (c_X4_add hW hwd (by rw [List.length_take]; omega) (by rw [List.length_take]; omega) (c := at0 (slc r s (r.length - s)) k) c1) hW.2.2.1 hW.1 rfl rfl rfl ⟨rfl, rfl⟩ ⟨by decide, by decide⟩ (fun z_65 M_65 p_65 => ?_)
        obtain ⟨rfl, p1, p2, p3⟩ := p_65
        rw [take_at0 (by omega)] at p1
        rw [List.length_take] at p3
        refine k_pop hx dX4_tighten_68 rfl ?_
        refine k_iinc (ls' := [(0, vR g i), (1, vI y), (2, vI z), (3, vI (u + 1))]) hx dX4_tighten_69 3 rfl rfl rfl (by decide) ?_
        refine k_goto hx dX4_tighten_72 ?_
        exact ih s (k + 1) y z (u + 1) M_65 hy hz (by omega) (by omega) htt (by omega) p1 (fun q h1 h2 => by rw [p3 q (by omega)]; exact hq q (by omega) h2) hcr (ho.tr p2)
  have loop1 : ∀ (f : Nat), ∀ (s : Nat) (y z : Int) (M' : Mem), y = s → z = r.length - 1 - s → 2 * s ≤ r.length → r.length - s < f → strip (r.length - s) (slc r s (r.length - s)) = tight r → Wd M' i r → Off i M M' → K x g 0 0 LAY (NN g) M' 14 [(0, vR g i), (1, vI y), (2, vI z)] [] := by
    intro f
    induction f with
    | zero => intro s y z M' hy hz hs hf hst hwd ho; omega
    | succ f ih =>
      intro s y z M' hy hz hs hf hst hwd ho
      have hsl : (slc r s (r.length - s)).length = r.length - s - s := slc_len (by omega)
      refine k_iload_n hx dX4_tighten_14 1 rfl ?_
      refine k_iload_n hx dX4_tighten_15 2 rfl ?_
      refine k_icmp_ge hx dX4_tighten_16 (by omega) (fun h_16 => ?_) (fun h_16 => ?_)
      · have htt : tight r = slc r s (r.length - s) := by
          rw [← hst]; exact strip_stop (fun q => by omega) _
        refine k_aload_n hx dX4_tighten_46 0 rfl ?_
        refine k_iconst hx dX4_tighten_47 ?_
        refine k_putI (kz := 1) hx fX4_21 dX4_tighten_48 hW.2.2.1 hW.1 rfl rfl (fun M_48 hM_48 => ?_)
        refine k_iload_n hx dX4_tighten_51 1 rfl ?_
        refine k_istore_n (ls' := [(0, vR g i), (1, vI y), (2, vI z), (3, vI y)]) hx dX4_tighten_52 rfl rfl (by decide) ?_
        exact loop2 (r.length + 1) s 0 y z y M_48 hy hz (by omega) (by omega) htt (by omega) (by subst hM_48; rw [List.take_zero]; exact Wd.nil) (fun q h1 h2 => by rw [hM_48, up_i (by omega)]; exact hwd.atn h2) hwd.2.2 (ho.tr (by rw [hM_48]; exact off_up))
      · have e1 : M' (i + 1) y = at0 r s := by rw [hy]; exact hwd.atn (by omega)
        have e2 : M' (i + 1) z = at0 r (r.length - 1 - s : Nat) := by rw [hz, show (r.length : Int) - 1 - s = ((r.length - 1 - s : Nat) : Int) by omega]; exact hwd.atn (by omega)
        have c1 := op_cr hwd.2.2 (k := s) (by omega)
        have c2 := op_cr hwd.2.2 (k := r.length - 1 - s) (by omega)
        have c3 := op_rg c2
        have f1 : at0 (slc r s (r.length - s)) 0 = at0 r s := by
          have h1 := slc_at (v := r) (a := s) (b := r.length - s) (k := 0) (by omega) (by omega)
          simpa using h1
        have f2 : at0 (slc r s (r.length - s)) ((slc r s (r.length - s)).length - 1 : Nat) = at0 r (r.length - 1 - s : Nat) := by
          have h1 := slc_at (v := r) (a := s) (b := r.length - s) (k := r.length - s - s - 1) (by omega) (by omega)
          rw [hsl, h1]; congr 2; omega
        refine k_aload_n hx dX4_tighten_19 0 rfl ?_
        refine k_get (v := vR g (i + 1)) hx fX4_15 dX4_tighten_20 hW.2.2.1 hW.1 rfl ?_
        refine k_iload_n hx dX4_tighten_23 1 rfl ?_
        refine k_iald (v := (at0 r s)) hx dX4_tighten_24 hW.2.2.2.1 hW.2.1 (by omega) (by have := hW.2.2.2.2; omega) (e1) ?_
        refine k_aload_n hx dX4_tighten_25 0 rfl ?_
        refine k_get (v := vR g (i + 1)) hx fX4_15 dX4_tighten_26 hW.2.2.1 hW.1 rfl ?_
        refine k_iload_n hx dX4_tighten_29 2 rfl ?_
        refine k_iald (v := (at0 r (r.length - 1 - s : Nat))) hx dX4_tighten_30 hW.2.2.2.1 hW.2.1 (by omega) (by have := hW.2.2.2.2; omega) (e2) ?_
        refine k_np (rest := [vI (at0 r s)]) (e := (op (at0 r (r.length - 1 - s : Nat)))) hx nX4_25 dX4_tighten_31 (c_X5_opposite (z := (at0 r (r.length - 1 - s : Nat))) (by omega)) rfl rfl rfl ⟨rfl, rfl⟩ ⟨by decide, by decide⟩ ?_
        refine k_icmp_ne hx dX4_tighten_34 (by omega) (fun h_34 => ?_) (fun h_34 => ?_)
        · have htt : tight r = slc r s (r.length - s) := by
            rw [← hst]; exact strip_stop (fun q => h_34 (by rw [← f1, ← f2]; exact q.2)) _
          refine k_aload_n hx dX4_tighten_46 0 rfl ?_
          refine k_iconst hx dX4_tighten_47 ?_
          refine k_putI (kz := 1) hx fX4_21 dX4_tighten_48 hW.2.2.1 hW.1 rfl rfl (fun M_48 hM_48 => ?_)
          refine k_iload_n hx dX4_tighten_51 1 rfl ?_
          refine k_istore_n (ls' := [(0, vR g i), (1, vI y), (2, vI z), (3, vI y)]) hx dX4_tighten_52 rfl rfl (by decide) ?_
          exact loop2 (r.length + 1) s 0 y z y M_48 hy hz (by omega) (by omega) htt (by omega) (by subst hM_48; rw [List.take_zero]; exact Wd.nil) (fun q h1 h2 => by rw [hM_48, up_i (by omega)]; exact hwd.atn h2) hwd.2.2 (ho.tr (by rw [hM_48]; exact off_up))
        · refine k_iinc (ls' := [(0, vR g i), (1, vI (y + 1)), (2, vI z)]) hx dX4_tighten_37 1 rfl rfl rfl (by decide) ?_
          refine k_iinc (ls' := [(0, vR g i), (1, vI (y + 1)), (2, vI (z + (-1)))]) hx dX4_tighten_40 2 rfl rfl rfl (by decide) ?_
          refine k_goto hx dX4_tighten_43 ?_
          refine ih (s + 1) (y + 1) (z + -1) M' (by omega) (by omega) (by omega) (by omega) ?_ hwd ho
          have e := strip_go (w := slc r s (r.length - s)) (f := r.length - s) (f' := r.length - (s + 1)) (by omega) ⟨by omega, by rw [f1, f2]; exact h_34⟩
          rw [← hst, e, slc_slc rfl (by omega)]
  refine k_aload_n hx dX4_tighten_0 0 rfl ?_
  refine k_vi (rest := []) hx vX4_47 dX4_tighten_1 (c_X4_cancelPairs hW hw hc) hW.2.2.1 hW.1 rfl rfl rfl ⟨rfl, rfl⟩ ⟨by decide, by decide⟩ (fun z_1 M_1 p_1 => ?_)
  obtain ⟨-, p1, p2⟩ := p_1
  rw [← hr0] at p1
  refine k_pop hx dX4_tighten_4 rfl ?_
  refine k_iconst hx dX4_tighten_5 ?_
  refine k_istore_n (ls' := [(0, vR g i), (1, vI 0)]) hx dX4_tighten_6 rfl rfl (by decide) ?_
  refine k_aload_n hx dX4_tighten_7 0 rfl ?_
  refine k_get (v := vI r.length) hx fX4_21 dX4_tighten_8 hW.2.2.1 hW.1 (congrArg vI (show M_1 i 1 = r.length from p1.1)) ?_
  refine k_iconst hx dX4_tighten_11 ?_
  refine k_isub hx dX4_tighten_12 ?_
  refine k_istore_n (ls' := [(0, vR g i), (1, vI 0), (2, vI (r.length - 1))]) hx dX4_tighten_13 rfl rfl (by decide) ?_
  exact loop1 (r.length + 1) 0 0 _ M_1 rfl (by omega) (by omega) (by omega) (by rw [Nat.sub_zero, slc_all]; rfl) p1 p2
end
section
/-! the class's word: rounds, the least start, periods, posts, pairs, windings, sameness -/
def rot (w : List Int) (a : Nat) : List Int := w.drop a ++ w.take a
theorem rot_len {w : List Int} {a : Nat} (h : a ≤ w.length) : (rot w a).length = w.length := by unfold rot; rw [List.length_append, List.length_take, List.length_drop]; omega
theorem rot_at {w : List Int} {a k : Nat} (ha : a ≤ w.length) (hk : k < w.length) : at0 (rot w a) k = if a + k < w.length then at0 w (a + k : Nat) else at0 w (a + k - w.length : Nat) := by
  have hd : (w.drop a).length = w.length - a := by rw [List.length_drop]
  unfold rot
  by_cases h : a + k < w.length
  · rw [if_pos h, at0_app (by omega), at0_drop h]
  · rw [if_neg h]
    have e : k = (w.drop a).length + (a + k - w.length) := by omega
    rw [e, at0_appr (by rw [List.length_take]; omega), at0_take (by omega) (by omega)]
    rw [← e]
theorem rot_cr {w : List Int} (h : Cr w) (a : Nat) : Cr (rot w a) := (h.drop a).app (h.take a)
def lexLt : List Int → List Int → Bool
  | x :: xs, y :: ys => if x = y then lexLt xs ys else decide (x < y)
  | _, _ => false
theorem lexLt_step {u v : List Int} {k : Nat} (h1 : k < u.length) (h2 : k < v.length) : lexLt (u.drop k) (v.drop k) = if at0 u k = at0 v k then lexLt (u.drop (k + 1)) (v.drop (k + 1)) else decide (at0 u k < at0 v k) := by
  rw [List.drop_eq_getElem_cons h1, List.drop_eq_getElem_cons h2, at0_n h1, at0_n h2]
  rfl
theorem lexLt_end {u v : List Int} {k : Nat} (h1 : u.length ≤ k) : lexLt (u.drop k) (v.drop k) = false := by
  rw [List.drop_eq_nil_of_le h1]; rfl
theorem lexLt_self : ∀ u : List Int, lexLt u u = false
  | [] => rfl
  | x :: xs => by unfold lexLt; rw [if_pos rfl]; exact lexLt_self xs
/-- the best of the starts below k -/
def lsF (w : List Int) : Nat → Nat
  | 0 => 0
  | k + 1 => if lexLt (rot w k) (rot w (lsF w k)) = true then k else lsF w k
def leastS (w : List Int) : Nat := lsF w w.length
def least (w : List Int) : List Int := rot w (leastS w)
theorem lsF_1 (w : List Int) : lsF w 1 = 0 := by unfold lsF; split <;> rfl
theorem lsF_lt (w : List Int) : ∀ k, lsF w (k + 1) ≤ k
  | 0 => by rw [lsF_1]; omega
  | k + 1 => by
    have := lsF_lt w k
    rw [lsF]
    split <;> omega
theorem leastS_le (w : List Int) : leastS w ≤ w.length := by
  unfold leastS
  cases h : w.length with
  | zero => simp [lsF]
  | succ n => have := lsF_lt w n; omega
theorem least_len (w : List Int) : (least w).length = w.length := rot_len (leastS_le w)
theorem least_cr {w : List Int} (h : Cr w) : Cr (least w) := rot_cr h _

theorem c_X4_atRound {g : GE} {l : Launch} {M : Mem} {i cap : Nat} {w : List Int} (hW : IsW g i cap) (hw : Wd M i w) (hc : w.length ≤ cap) {a k : Nat} {z : Int} (hz : z = a + k) (ha : a < w.length) (hk : k < w.length) : Cp g l μX4_atRound [vR g i, vI z] M (at0 (rot w a) k) := by
  refine Ci.of (by decide +kernel) rfl rfl (fun x hx hr => ?_)
  have hl := hw.1; have h480 := hW.2.2.2.2
  have he := rot_at (Nat.le_of_lt ha) hk
  refine k_aload_n hx dX4_atRound_0 0 rfl ?_
  refine k_iload_n hx dX4_atRound_1 1 rfl ?_
  refine k_aload_n hx dX4_atRound_2 0 rfl ?_
  refine k_get (v := vI (M i 1)) hx fX4_21 dX4_atRound_3 hW.2.2.1 hW.1 rfl ?_
  refine k_icmp_ge hx dX4_atRound_6 (by omega) (fun h_6 => ?_) (fun h_6 => ?_)
  · refine k_iload_n hx dX4_atRound_13 1 rfl ?_
    refine k_aload_n hx dX4_atRound_14 0 rfl ?_
    refine k_get (v := vI (M i 1)) hx fX4_21 dX4_atRound_15 hW.2.2.1 hW.1 rfl ?_
    refine k_isub hx dX4_atRound_18 ?_
    refine k_vp (rest := []) (e := (at0 w (z - M i 1))) hx vX4_37 dX4_atRound_19 (c_X4_at hW hw hc (z := z - M i 1) (by omega)) hW.2.2.1 hW.1 rfl rfl rfl ⟨rfl, rfl⟩ ⟨by decide, by decide⟩ ?_
    refine k_ri hx hr dX4_atRound_22 ?_
    exact ⟨by rw [he, if_neg (by omega)]; congr 1; omega, rfl⟩
  · refine k_iload_n hx dX4_atRound_9 1 rfl ?_
    refine k_goto hx dX4_atRound_10 ?_
    refine k_vp (rest := []) (e := (at0 w z)) hx vX4_37 dX4_atRound_19 (c_X4_at hW hw hc (z := z) (by omega)) hW.2.2.1 hW.1 rfl rfl rfl ⟨rfl, rfl⟩ ⟨by decide, by decide⟩ ?_
    refine k_ri hx hr dX4_atRound_22 ?_
    exact ⟨by rw [he, if_pos (by omega), hz]; rfl, rfl⟩
theorem c_X4_isLessFrom {g : GE} {l : Launch} {M : Mem} {i cap : Nat} {w : List Int} (hW : IsW g i cap) (hw : Wd M i w) (hc : w.length ≤ cap) {a b : Nat} (ha : a < w.length) (hb : b < w.length) : Cp g l μX4_isLessFrom [vR g i, vI a, vI b] M (b2i (lexLt (rot w a) (rot w b))) := by
  refine Ci.of (by decide +kernel) rfl rfl (fun x hx hr => ?_)
  have hl := hw.1; have h480 := hW.2.2.2.2
  have ra := rot_len (Nat.le_of_lt ha)
  have rb := rot_len (Nat.le_of_lt hb)
  have loop : ∀ (f : Nat), ∀ (k : Nat) (z : Int), z = k → k ≤ w.length → w.length - k < f → lexLt (rot w a) (rot w b) = lexLt ((rot w a).drop k) ((rot w b).drop k) → K x g 0 0 LAY (NN g) M 2 [(0, vR g i), (1, vI a), (2, vI b), (3, vI z)] [] := by
    intro f
    induction f with
    | zero => intro k z hz hk hf hlx; omega
    | succ f ih =>
      intro k z hz hk hf hlx
      refine k_iload_n hx dX4_isLessFrom_2 3 rfl ?_
      refine k_aload_n hx dX4_isLessFrom_3 0 rfl ?_
      refine k_get (v := vI (M i 1)) hx fX4_21 dX4_isLessFrom_4 hW.2.2.1 hW.1 rfl ?_
      refine k_icmp_ge hx dX4_isLessFrom_7 (by omega) (fun h_7 => ?_) (fun h_7 => ?_)
      · refine k_iconst hx dX4_isLessFrom_54 ?_
        refine k_rz hx hr dX4_isLessFrom_55 (by first | exact Or.inl rfl | exact Or.inr rfl | exact b2i_or _) ?_
        exact ⟨by rw [hlx, lexLt_end (by omega)]; rfl, rfl⟩
      · have c1 := op_cr (rot_cr hw.2.2 a) (k := k) (by omega)
        have c2 := op_cr (rot_cr hw.2.2 b) (k := k) (by omega)
        have hst := lexLt_step (u := rot w a) (v := rot w b) (k := k) (by omega) (by omega)
        refine k_aload_n hx dX4_isLessFrom_10 0 rfl ?_
        refine k_iload_n hx dX4_isLessFrom_11 1 rfl ?_
        refine k_iload_n hx dX4_isLessFrom_12 3 rfl ?_
        refine k_iadd hx dX4_isLessFrom_13 ?_
        refine k_vp (rest := []) (e := (at0 (rot w a) k)) hx vX4_55 dX4_isLessFrom_14 (c_X4_atRound hW hw hc (a := a) (k := k) (z := (a : Int) + z) (by omega) ha (by omega)) hW.2.2.1 hW.1 rfl rfl rfl ⟨rfl, rfl⟩ ⟨by decide, by decide⟩ ?_
        refine k_istore (ls' := [(0, vR g i), (1, vI a), (2, vI b), (3, vI z), (4, vI (at0 (rot w a) k))]) hx dX4_isLessFrom_17 rfl rfl (by decide) ?_
        refine k_aload_n hx dX4_isLessFrom_19 0 rfl ?_
        refine k_iload_n hx dX4_isLessFrom_20 2 rfl ?_
        refine k_iload_n hx dX4_isLessFrom_21 3 rfl ?_
        refine k_iadd hx dX4_isLessFrom_22 ?_
        refine k_vp (rest := []) (e := (at0 (rot w b) k)) hx vX4_55 dX4_isLessFrom_23 (c_X4_atRound hW hw hc (a := b) (k := k) (z := (b : Int) + z) (by omega) hb (by omega)) hW.2.2.1 hW.1 rfl rfl rfl ⟨rfl, rfl⟩ ⟨by decide, by decide⟩ ?_
        refine k_istore (ls' := [(0, vR g i), (1, vI a), (2, vI b), (3, vI z), (4, vI (at0 (rot w a) k)), (5, vI (at0 (rot w b) k))]) hx dX4_isLessFrom_26 rfl rfl (by decide) ?_
        refine k_iload hx dX4_isLessFrom_28 4 rfl ?_
        refine k_iload hx dX4_isLessFrom_30 5 rfl ?_
        refine k_icmp_eq hx dX4_isLessFrom_32 (by omega) (fun h_32 => ?_) (fun h_32 => ?_)
        · refine k_iinc (ls' := [(0, vR g i), (1, vI a), (2, vI b), (3, vI (z + 1)), (4, vI (at0 (rot w a) k)), (5, vI (at0 (rot w b) k))]) hx dX4_isLessFrom_48 3 rfl rfl rfl (by decide) ?_
          refine k_goto hx dX4_isLessFrom_51 ?_
          refine K.sub [0, 1, 2, 3] rfl ?_
          exact ih (k + 1) (z + 1) (by omega) (by omega) (by omega) (by rw [hlx, hst, if_pos h_32])
        · refine k_iload hx dX4_isLessFrom_35 4 rfl ?_
          refine k_iload hx dX4_isLessFrom_37 5 rfl ?_
          refine k_icmp_ge hx dX4_isLessFrom_39 (by omega) (fun h_39 => ?_) (fun h_39 => ?_)
          · refine k_iconst hx dX4_isLessFrom_46 ?_
            refine k_rz hx hr dX4_isLessFrom_47 (by first | exact Or.inl rfl | exact Or.inr rfl | exact b2i_or _) ?_
            exact ⟨by rw [hlx, hst, if_neg h_32]; first | exact b2i_t (by omega) | exact b2i_f (by omega), rfl⟩
          · refine k_iconst hx dX4_isLessFrom_42 ?_
            refine k_goto hx dX4_isLessFrom_43 ?_
            refine k_rz hx hr dX4_isLessFrom_47 (by first | exact Or.inl rfl | exact Or.inr rfl | exact b2i_or _) ?_
            exact ⟨by rw [hlx, hst, if_neg h_32]; first | exact b2i_t (by omega) | exact b2i_f (by omega), rfl⟩
  refine k_iconst hx dX4_isLessFrom_0 ?_
  refine k_istore_n (ls' := [(0, vR g i), (1, vI a), (2, vI b), (3, vI 0)]) hx dX4_isLessFrom_1 rfl rfl (by decide) ?_
  exact loop (w.length + 1) 0 0 rfl (by omega) (by omega) rfl
theorem c_X4_leastStart {g : GE} {l : Launch} {M : Mem} {i cap : Nat} {w : List Int} (hW : IsW g i cap) (hw : Wd M i w) (hc : w.length ≤ cap) : Cp g l μX4_leastStart [vR g i] M (leastS w) := by
  refine Ci.of (by decide +kernel) rfl rfl (fun x hx hr => ?_)
  have hl := hw.1; have h480 := hW.2.2.2.2
  have loop : ∀ (f : Nat), ∀ (k : Nat) (y z : Int), z = k → 1 ≤ k → (k ≤ w.length ∨ k = 1) → w.length - k < f → y = lsF w k → K x g 0 0 LAY (NN g) M 4 [(0, vR g i), (1, vI y), (2, vI z)] [] := by
    intro f
    induction f with
    | zero => intro k y z hz hk1 hk hf hy; omega
    | succ f ih =>
      intro k y z hz hk1 hk hf hy
      refine k_iload_n hx dX4_leastStart_4 2 rfl ?_
      refine k_aload_n hx dX4_leastStart_5 0 rfl ?_
      refine k_get (v := vI (M i 1)) hx fX4_21 dX4_leastStart_6 hW.2.2.1 hW.1 rfl ?_
      refine k_icmp_ge hx dX4_leastStart_9 (by omega) (fun h_9 => ?_) (fun h_9 => ?_)
      · refine k_iload_n hx dX4_leastStart_29 1 rfl ?_
        refine k_ri hx hr dX4_leastStart_30 ?_
        refine ⟨?_, rfl⟩
        rw [hy]
        by_cases hn : w.length = 0
        · have : k = 1 := by omega
          subst this
          rw [lsF_1]; unfold leastS; rw [hn]; rfl
        · have : k = w.length := by omega
          subst this
          rfl
      · have hb : lsF w k ≤ k - 1 := by have := lsF_lt w (k - 1); rwa [show k - 1 + 1 = k by omega] at this
        have hst : lsF w (k + 1) = if lexLt (rot w k) (rot w (lsF w k)) = true then k else lsF w k := rfl
        subst hy; subst hz
        refine k_aload_n hx dX4_leastStart_12 0 rfl ?_
        refine k_iload_n hx dX4_leastStart_13 2 rfl ?_
        refine k_iload_n hx dX4_leastStart_14 1 rfl ?_
        refine k_vp (rest := []) (e := (b2i (lexLt (rot w k) (rot w (lsF w k))))) hx vX4_51 dX4_leastStart_15 (c_X4_isLessFrom hW hw hc (a := k) (b := lsF w k) (by omega) (by omega)) hW.2.2.1 hW.1 rfl rfl rfl ⟨rfl, rfl⟩ ⟨by decide, by decide⟩ ?_
        refine k_ceq hx dX4_leastStart_18 (fun h_18 => ?_) (fun h_18 => ?_)
        · refine k_iinc (ls' := [(0, vR g i), (1, vI (lsF w k : Nat)), (2, vI ((k : Nat) + 1))]) hx dX4_leastStart_23 2 rfl rfl rfl (by decide) ?_
          refine k_goto hx dX4_leastStart_26 ?_
          exact ih (k + 1) _ ((k : Int) + 1) (by omega) (by omega) (by omega) (by omega) (by rw [hst, if_neg (by rw [h_18]; decide)])
        · refine k_iload_n hx dX4_leastStart_21 2 rfl ?_
          refine k_istore_n (ls' := [(0, vR g i), (1, vI (k : Nat)), (2, vI (k : Nat))]) hx dX4_leastStart_22 rfl rfl (by decide) ?_
          refine k_iinc (ls' := [(0, vR g i), (1, vI (k : Nat)), (2, vI ((k : Nat) + 1))]) hx dX4_leastStart_23 2 rfl rfl rfl (by decide) ?_
          refine k_goto hx dX4_leastStart_26 ?_
          exact ih (k + 1) _ ((k : Int) + 1) (by omega) (by omega) (by omega) (by omega) (by rw [hst, if_pos h_18])
  refine k_iconst hx dX4_leastStart_0 ?_
  refine k_istore_n (ls' := [(0, vR g i), (1, vI 0)]) hx dX4_leastStart_1 rfl rfl (by decide) ?_
  refine k_iconst hx dX4_leastStart_2 ?_
  refine k_istore_n (ls' := [(0, vR g i), (1, vI 0), (2, vI 1)]) hx dX4_leastStart_3 rfl rfl (by decide) ?_
  exact loop (w.length + 1) 1 0 1 rfl (by omega) (by omega) (by omega) (by rw [lsF_1]; rfl)
theorem c_X4_copyFromStart {g : GE} {l : Launch} {M : Mem} {i cap : Nat} (hW : IsW g i cap) {j cj : Nat} {v : List Int} (hJ : IsW g j cj) (hv : Wd M j v) (hcj : v.length ≤ cj) (hap : j ≠ i ∧ j ≠ i + 1 ∧ j + 1 ≠ i) (hsum : v.length ≤ cap) {a : Nat} (ha : a < v.length ∨ (v.length = 0 ∧ a = 0)) : Cv g l μX4_copyFromStart [vR g i, vR g j, vI a] M (fun M' => Wd M' i (rot v a) ∧ Off i M M') := by
  refine Cv.of (by decide +kernel) rfl rfl (fun x hx hr => ?_)
  have h480 := hW.2.2.2.2; have h480j := hJ.2.2.2.2
  have hrl : (rot v a).length = v.length := rot_len (by omega)
  have loop : ∀ (f : Nat), ∀ (k : Nat) (z : Int) (M' : Mem), z = k → k ≤ v.length → v.length - k < f → Wd M' i ((rot v a).take k) → Off i M M' → K x g 0 0 LAY (NN g) M' 7 [(0, vR g i), (1, vR g j), (2, vI a), (3, vI z)] [] := by
    intro f
    induction f with
    | zero => intro k z M' hz hk hf hwd ho; omega
    | succ f ih =>
      intro k z M' hz hk hf hwd ho
      have hv' := hv.off ho hap.1 hap.2.1 hap.2.2
      refine k_iload_n hx dX4_copyFromStart_7 3 rfl ?_
      refine k_aload_n hx dX4_copyFromStart_8 1 rfl ?_
      refine k_get (v := vI v.length) hx fX4_21 dX4_copyFromStart_9 hJ.2.2.1 hJ.1 (congrArg vI (show M' j 1 = v.length from hv'.1)) ?_
      refine k_icmp_ge hx dX4_copyFromStart_12 (by omega) (fun h_12 => ?_) (fun h_12 => ?_)
      · refine k_rv hx hr dX4_copyFromStart_33 ?_
        exact ⟨by rwa [List.take_of_length_le (by omega)] at hwd, ho⟩
      · have c1 := op_cr (rot_cr hv.2.2 a) (k := k) (by omega)
        refine k_aload_n hx dX4_copyFromStart_15 0 rfl ?_
        refine k_aload_n hx dX4_copyFromStart_16 1 rfl ?_
        refine k_iload_n hx dX4_copyFromStart_17 2 rfl ?_
        refine k_iload_n hx dX4_copyFromStart_18 3 rfl ?_
        refine k_iadd hx dX4_copyFromStart_19 ?_
        refine k_vp (rest := [vR g i]) (e := (at0 (rot v a) k)) hx vX4_55 dX4_copyFromStart_20 (c_X4_atRound hJ hv' hcj (a := a) (k := k) (z := (a : Int) + z) (by omega) (by omega) (by omega)) hJ.2.2.1 hJ.1 rfl rfl rfl ⟨rfl, rfl⟩ ⟨by decide, by decide⟩ ?_
        refine k_vi (rest := []) hx vX4_29 dX4_copyFromStart_23 (c_X4_add hW hwd (by rw [List.length_take]; omega) (by rw [List.length_take]; omega) (c := at0 (rot v a) k) c1) hW.2.2.1 hW.1 rfl rfl rfl ⟨rfl, rfl⟩ ⟨by decide, by decide⟩ (fun z_23 M_23 p_23 => ?_)
        obtain ⟨rfl, p1, p2, p3⟩ := p_23
        rw [take_at0 (by omega)] at p1
        refine k_pop hx dX4_copyFromStart_26 rfl ?_
        refine k_iinc (ls' := [(0, vR g i), (1, vR g j), (2, vI a), (3, vI (z + 1))]) hx dX4_copyFromStart_27 3 rfl rfl rfl (by decide) ?_
        refine k_goto hx dX4_copyFromStart_30 ?_
        exact ih (k + 1) (z + 1) M_23 (by omega) (by omega) (by omega) p1 (ho.tr p2)
  refine k_aload_n hx dX4_copyFromStart_0 0 rfl ?_
  refine k_iconst hx dX4_copyFromStart_1 ?_
  refine k_putI (kz := 1) hx fX4_21 dX4_copyFromStart_2 hW.2.2.1 hW.1 rfl rfl (fun M_2 hM_2 => ?_)
  refine k_iconst hx dX4_copyFromStart_5 ?_
  refine k_istore_n (ls' := [(0, vR g i), (1, vR g j), (2, vI a), (3, vI 0)]) hx dX4_copyFromStart_6 rfl rfl (by decide) ?_
  exact loop (v.length + 1) 0 0 M_2 rfl (by omega) (by omega) (by subst hM_2; rw [List.take_zero]; exact Wd.nil) (by rw [hM_2]; exact off_up)
abbrev Per (w : List Int) (p : Nat) : Prop := ∀ k, k < w.length → p ≤ k → at0 w k = at0 w (k - p : Nat)

theorem c_X4_repeatsAfter {g : GE} {l : Launch} {M : Mem} {i cap : Nat} {w : List Int} (hW : IsW g i cap) (hw : Wd M i w) (hc : w.length ≤ cap) {p : Nat} (hp : 1 ≤ p ∧ p ≤ w.length) : Cp g l μX4_repeatsAfter [vR g i, vI p] M (b2i (decide (Per w p))) := by
  refine Ci.of (by decide +kernel) rfl rfl (fun x hx hr => ?_)
  have hl := hw.1; have h480 := hW.2.2.2.2
  have loop : ∀ (f : Nat), ∀ (k : Nat) (z : Int), z = k → p ≤ k → k ≤ w.length → w.length - k < f → (∀ q, q < k → p ≤ q → at0 w q = at0 w (q - p : Nat)) → K x g 0 0 LAY (NN g) M 2 [(0, vR g i), (1, vI p), (2, vI z)] [] := by
    intro f
    induction f with
    | zero => intro k z hz hpk hk hf hall; omega
    | succ f ih =>
      intro k z hz hpk hk hf hall
      refine k_iload_n hx dX4_repeatsAfter_2 2 rfl ?_
      refine k_aload_n hx dX4_repeatsAfter_3 0 rfl ?_
      refine k_get (v := vI (M i 1)) hx fX4_21 dX4_repeatsAfter_4 hW.2.2.1 hW.1 rfl ?_
      refine k_icmp_ge hx dX4_repeatsAfter_7 (by omega) (fun h_7 => ?_) (fun h_7 => ?_)
      · refine k_iconst hx dX4_repeatsAfter_33 ?_
        refine k_rz hx hr dX4_repeatsAfter_34 (by first | exact Or.inl rfl | exact Or.inr rfl | exact b2i_or _) ?_
        exact ⟨b2i_t (fun q h1 h2 => hall q (by omega) h2), rfl⟩
      · have c1 := op_cr hw.2.2 (k := k) (by omega)
        have c2 := op_cr hw.2.2 (k := k - p) (by omega)
        have e1 : at0 w z = at0 w k := by rw [hz]
        have e2 : at0 w (z - p) = at0 w (k - p : Nat) := by congr 1; omega
        refine k_aload_n hx dX4_repeatsAfter_10 0 rfl ?_
        refine k_iload_n hx dX4_repeatsAfter_11 2 rfl ?_
        refine k_vp (rest := []) (e := (at0 w z)) hx vX4_37 dX4_repeatsAfter_12 (c_X4_at hW hw hc (z := z) (by omega)) hW.2.2.1 hW.1 rfl rfl rfl ⟨rfl, rfl⟩ ⟨by decide, by decide⟩ ?_
        refine k_aload_n hx dX4_repeatsAfter_15 0 rfl ?_
        refine k_iload_n hx dX4_repeatsAfter_16 2 rfl ?_
        refine k_iload_n hx dX4_repeatsAfter_17 1 rfl ?_
        refine k_isub hx dX4_repeatsAfter_18 ?_
        refine k_vp (rest := [vI (at0 w z)]) (e := (at0 w (z - p))) hx vX4_37 dX4_repeatsAfter_19 (c_X4_at hW hw hc (z := z - p) (by omega)) hW.2.2.1 hW.1 rfl rfl rfl ⟨rfl, rfl⟩ ⟨by decide, by decide⟩ ?_
        refine k_icmp_eq hx dX4_repeatsAfter_22 (by omega) (fun h_22 => ?_) (fun h_22 => ?_)
        · refine k_iinc (ls' := [(0, vR g i), (1, vI p), (2, vI (z + 1))]) hx dX4_repeatsAfter_27 2 rfl rfl rfl (by decide) ?_
          refine k_goto hx dX4_repeatsAfter_30 ?_
          refine ih (k + 1) (z + 1) (by omega) (by omega) (by omega) (by omega) (fun q h1 h2 => ?_)
          by_cases hq : q = k
          · subst hq; rw [← e1, ← e2]; exact h_22
          · exact hall q (by omega) h2
        · refine k_iconst hx dX4_repeatsAfter_25 ?_
          refine k_rz hx hr dX4_repeatsAfter_26 (by first | exact Or.inl rfl | exact Or.inr rfl | exact b2i_or _) ?_
          exact ⟨b2i_f (fun h => h_22 (by rw [e1, e2]; exact h k (by omega) hpk)), rfl⟩
  refine k_iload_n hx dX4_repeatsAfter_0 1 rfl ?_
  refine k_istore_n (ls' := [(0, vR g i), (1, vI p), (2, vI p)]) hx dX4_repeatsAfter_1 rfl rfl (by decide) ?_
  exact loop (w.length + 1) p p rfl (by omega) (by omega) (by omega) (fun q h1 h2 => absurd h1 (by omega))
def pwF (w : List Int) : Nat → Nat → Nat
  | 0, _ => 0
  | f + 1, p => if w.length < p then 0 else if w.length % p = 0 ∧ Per w p then w.length / p else pwF w f (p + 1)
def power (w : List Int) : Nat := pwF w (w.length + 1) 1
theorem emod_nat {a b : Nat} : (a : Int) % (b : Int) = ((a % b : Nat) : Int) := (Int.natCast_emod a b).symm
theorem ediv_nat {a b : Nat} : (a : Int) / (b : Int) = ((a / b : Nat) : Int) := (Int.natCast_ediv a b).symm

theorem c_X4_power {g : GE} {l : Launch} {M : Mem} {i cap : Nat} {w : List Int} (hW : IsW g i cap) (hw : Wd M i w) (hc : w.length ≤ cap) : Cp g l μX4_power [vR g i] M (power w) := by
  refine Ci.of (by decide +kernel) rfl rfl (fun x hx hr => ?_)
  have hl := hw.1; have h480 := hW.2.2.2.2
  have loop : ∀ (f : Nat), ∀ (p e : Nat) (z : Int), z = p → 1 ≤ p → w.length < e + p → pwF w e p = power w → p ≤ w.length + 1 → w.length + 2 - p ≤ f → K x g 0 0 LAY (NN g) M 2 [(0, vR g i), (1, vI z)] [] := by
    intro f
    induction f with
    | zero => intro p e z hz hp he hpw hpl hf; exact absurd hf (by omega)
    | succ f ih =>
      intro p e z hz hp he hpw hpl hf
      refine k_iload_n hx dX4_power_2 1 rfl ?_
      refine k_aload_n hx dX4_power_3 0 rfl ?_
      refine k_get (v := vI (M i 1)) hx fX4_21 dX4_power_4 hW.2.2.1 hW.1 rfl ?_
      refine k_icmp_gt hx dX4_power_7 (by omega) (fun h_7 => ?_) (fun h_7 => ?_)
      · refine k_iconst hx dX4_power_40 ?_
        refine k_ri hx hr dX4_power_41 ?_
        refine ⟨?_, rfl⟩
        rw [← hpw]
        cases e with
        | zero => rfl
        | succ e => rw [pwF, if_pos (by omega)]; rfl
      · subst hz
        obtain ⟨e, rfl⟩ : ∃ e2, e = e2 + 1 := ⟨e - 1, by omega⟩
        rw [pwF, if_neg (by omega)] at hpw
        have hem := emod_nat (a := w.length) (b := p)
        have hed := ediv_nat (a := w.length) (b := p)
        rw [← hl] at hem hed
        refine k_aload_n hx dX4_power_10 0 rfl ?_
        refine k_get (v := vI (M i 1)) hx fX4_21 dX4_power_11 hW.2.2.1 hW.1 rfl ?_
        refine k_iload_n hx dX4_power_14 1 rfl ?_
        refine k_irem hx dX4_power_15 (by omega) ?_
        refine k_ifne hx dX4_power_16 (by rw [hem]; have := Nat.mod_lt w.length (show p > 0 by omega); omega) (fun h_16 => ?_) (fun h_16 => ?_)
        · refine k_iinc (ls' := [(0, vR g i), (1, vI ((p : Nat) + 1))]) hx dX4_power_34 1 rfl rfl rfl (by decide) ?_
          refine k_goto hx dX4_power_37 ?_
          exact ih (p + 1) e ((p : Int) + 1) (by omega) (by omega) (by omega) (by rw [← hpw, if_neg (fun q => by first | exact h_24 q.2 | (rw [hem] at h_16; omega))]) (by omega) (by omega)
        · refine k_aload_n hx dX4_power_19 0 rfl ?_
          refine k_iload_n hx dX4_power_20 1 rfl ?_
          refine k_vp (rest := []) (e := (b2i (decide (Per w p)))) hx vX4_58 dX4_power_21 (c_X4_repeatsAfter hW hw hc (p := p) (by omega)) hW.2.2.1 hW.1 rfl rfl rfl ⟨rfl, rfl⟩ ⟨by decide, by decide⟩ ?_
          refine k_beq hx dX4_power_24 (fun h_24 => ?_) (fun h_24 => ?_)
          · refine k_iinc (ls' := [(0, vR g i), (1, vI ((p : Nat) + 1))]) hx dX4_power_34 1 rfl rfl rfl (by decide) ?_
            refine k_goto hx dX4_power_37 ?_
            exact ih (p + 1) e ((p : Int) + 1) (by omega) (by omega) (by omega) (by rw [← hpw, if_neg (fun q => by first | exact h_24 q.2 | (rw [hem] at h_16; omega))]) (by omega) (by omega)
          · refine k_aload_n hx dX4_power_27 0 rfl ?_
            refine k_get (v := vI (M i 1)) hx fX4_21 dX4_power_28 hW.2.2.1 hW.1 rfl ?_
            refine k_iload_n hx dX4_power_31 1 rfl ?_
            refine k_idiv hx dX4_power_32 (by omega) ?_
            refine k_ri hx hr dX4_power_33 ?_
            exact ⟨by rw [hed, ← hpw, if_pos ⟨by rw [hem] at h_16; omega, h_24⟩], rfl⟩
  refine k_iconst hx dX4_power_0 ?_
  refine k_istore_n (ls' := [(0, vR g i), (1, vI 1)]) hx dX4_power_1 rfl rfl (by decide) ?_
  exact loop (w.length + 1) 1 (w.length + 1) 1 rfl (by omega) (by omega) rfl (by omega) (by omega)
end
section
/-! the class's word: posts, the first pair, windings, sameness -/
def bset (b0 b1 b2 b3 b4 b5 : Bool) : Int := b2i b0 + 2 * b2i b1 + 4 * b2i b2 + 8 * b2i b3 + 16 * b2i b4 + 32 * b2i b5
def occ (w : List Int) (p : Int) : Bool := w.any (fun c => decide (pst c = p))
/-- the set of the posts of a word -/
def pset (w : List Int) : Int := bset (occ w 0) (occ w 1) (occ w 2) (occ w 3) (occ w 4) (occ w 5)
theorem bset_rg (b0 b1 b2 b3 b4 b5 : Bool) : 0 ≤ bset b0 b1 b2 b3 b4 b5 ∧ bset b0 b1 b2 b3 b4 b5 < 64 := by
  cases b0 <;> cases b1 <;> cases b2 <;> cases b3 <;> cases b4 <;> cases b5 <;> decide
theorem occ_snoc (w : List Int) (c p : Int) : occ (w ++ [c]) p = (occ w p || decide (pst c = p)) := by simp [occ]
theorem pst_rg {c : Int} (h : 0 ≤ c ∧ c < 12) : 0 ≤ pst c ∧ pst c < 6 := by unfold pst; omega
theorem bset_or0 (b0 b1 b2 b3 b4 b5 : Bool) : zI (bset b0 b1 b2 b3 b4 b5) ||| (zI 1 <<< (zI 0 &&& 31)) = zI (bset true b1 b2 b3 b4 b5) := by
  cases b0 <;> cases b1 <;> cases b2 <;> cases b3 <;> cases b4 <;> cases b5 <;> decide +kernel
theorem bset_or1 (b0 b1 b2 b3 b4 b5 : Bool) : zI (bset b0 b1 b2 b3 b4 b5) ||| (zI 1 <<< (zI 1 &&& 31)) = zI (bset b0 true b2 b3 b4 b5) := by
  cases b0 <;> cases b1 <;> cases b2 <;> cases b3 <;> cases b4 <;> cases b5 <;> decide +kernel
theorem bset_or2 (b0 b1 b2 b3 b4 b5 : Bool) : zI (bset b0 b1 b2 b3 b4 b5) ||| (zI 1 <<< (zI 2 &&& 31)) = zI (bset b0 b1 true b3 b4 b5) := by
  cases b0 <;> cases b1 <;> cases b2 <;> cases b3 <;> cases b4 <;> cases b5 <;> decide +kernel
theorem bset_or3 (b0 b1 b2 b3 b4 b5 : Bool) : zI (bset b0 b1 b2 b3 b4 b5) ||| (zI 1 <<< (zI 3 &&& 31)) = zI (bset b0 b1 b2 true b4 b5) := by
  cases b0 <;> cases b1 <;> cases b2 <;> cases b3 <;> cases b4 <;> cases b5 <;> decide +kernel
theorem bset_or4 (b0 b1 b2 b3 b4 b5 : Bool) : zI (bset b0 b1 b2 b3 b4 b5) ||| (zI 1 <<< (zI 4 &&& 31)) = zI (bset b0 b1 b2 b3 true b5) := by
  cases b0 <;> cases b1 <;> cases b2 <;> cases b3 <;> cases b4 <;> cases b5 <;> decide +kernel
theorem bset_or5 (b0 b1 b2 b3 b4 b5 : Bool) : zI (bset b0 b1 b2 b3 b4 b5) ||| (zI 1 <<< (zI 5 &&& 31)) = zI (bset b0 b1 b2 b3 b4 true) := by
  cases b0 <;> cases b1 <;> cases b2 <;> cases b3 <;> cases b4 <;> cases b5 <;> decide +kernel
theorem pset_snoc {w : List Int} {c : Int} (h : 0 ≤ c ∧ c < 12) : zI (pset w) ||| (zI 1 <<< (zI (pst c) &&& 31)) = zI (pset (w ++ [c])) := by
  have h6 := pst_rg h
  unfold pset
  simp only [occ_snoc]
  rcases (show pst c = 0 ∨ pst c = 1 ∨ pst c = 2 ∨ pst c = 3 ∨ pst c = 4 ∨ pst c = 5 by omega) with e | e | e | e | e | e <;> rw [e]
  · rw [bset_or0]; simp
  · rw [bset_or1]; simp
  · rw [bset_or2]; simp
  · rw [bset_or3]; simp
  · rw [bset_or4]; simp
  · rw [bset_or5]; simp
/-- the first place at which two crossings cancel -/
def fpF (w : List Int) : Nat → Nat → Int
  | 0, _ => -6
  | f + 1, k => if k + 1 < w.length then (if at0 w k = op (at0 w (k + 1 : Nat)) then (k : Int) else fpF w f (k + 1)) else -6
def firstP (w : List Int) : Int := fpF w (w.length + 1) 0
def wndF (w : List Int) (p : Int) : Nat → Int
  | 0 => 0
  | k + 1 => wndF w p k + (if at0 w k = p then 1 else if at0 w k = op p then -1 else 0)
def wnd (w : List Int) (p : Int) : Int := wndF w p w.length
theorem wndF_rg (w : List Int) (p : Int) : ∀ k : Nat, -(k : Int) ≤ wndF w p k ∧ wndF w p k ≤ k
  | 0 => by simp [wndF]
  | k + 1 => by
    have := wndF_rg w p k
    rw [wndF]
    split
    · omega
    · split <;> omega

theorem c_X4_posts {g : GE} {l : Launch} {M : Mem} {i cap : Nat} {w : List Int} (hW : IsW g i cap) (hw : Wd M i w) (hc : w.length ≤ cap) : Cp g l μX4_posts [vR g i] M (pset w) := by
  refine Ci.of (by decide +kernel) rfl rfl (fun x hx hr => ?_)
  have hl := hw.1; have h480 := hW.2.2.2.2
  have loop : ∀ (f : Nat), ∀ (k : Nat) (y z : Int), z = k → k ≤ w.length → w.length - k < f → y = pset (w.take k) → K x g 0 0 LAY (NN g) M 4 [(0, vR g i), (1, vI y), (2, vI z)] [] := by
    intro f
    induction f with
    | zero => intro k y z hz hk hf hy; omega
    | succ f ih =>
      intro k y z hz hk hf hy
      refine k_iload_n hx dX4_posts_4 2 rfl ?_
      refine k_aload_n hx dX4_posts_5 0 rfl ?_
      refine k_get (v := vI (M i 1)) hx fX4_21 dX4_posts_6 hW.2.2.1 hW.1 rfl ?_
      refine k_icmp_ge hx dX4_posts_9 (by omega) (fun h_9 => ?_) (fun h_9 => ?_)
      · refine k_iload_n hx dX4_posts_32 1 rfl ?_
        refine k_ri hx hr dX4_posts_33 ?_
        exact ⟨by rw [hy, List.take_of_length_le (by omega)], rfl⟩
      · have e1 : M (i + 1) z = at0 w k := by rw [hz]; exact hw.atn (by omega)
        have c1 := op_cr hw.2.2 (k := k) (by omega)
        have hps := pset_snoc (w := w.take k) c1
        rw [take_at0 (by omega), ← hy] at hps
        refine k_iload_n hx dX4_posts_12 1 rfl ?_
        refine k_iconst hx dX4_posts_13 ?_
        refine k_aload_n hx dX4_posts_14 0 rfl ?_
        refine k_get (v := vR g (i + 1)) hx fX4_15 dX4_posts_15 hW.2.2.1 hW.1 rfl ?_
        refine k_iload_n hx dX4_posts_18 2 rfl ?_
        refine k_iald (v := (at0 w k)) hx dX4_posts_19 hW.2.2.2.1 hW.2.1 (by omega) (by have := hW.2.2.2.2; omega) (e1) ?_
        refine k_np (rest := [vI 1, vI y]) (e := (pst (at0 w k))) hx nX4_61 dX4_posts_20 (c_X5_postOf (z := (at0 w k)) (by omega)) rfl rfl rfl ⟨rfl, rfl⟩ ⟨by decide, by decide⟩ ?_
        refine k_ishl (v := zI ((zI 1 <<< (zI (pst (at0 w k)) &&& 31)).toInt)) hx dX4_posts_23 ((zI_of _).symm) ?_
        refine k_ior (v := zI (pset (w.take (k + 1)))) hx dX4_posts_24 (by rw [zI_of]; exact hps) ?_
        refine k_istore_n (ls' := [(0, vR g i), (1, vI (pset (w.take (k + 1)))), (2, vI z)]) hx dX4_posts_25 rfl rfl (by decide) ?_
        refine k_iinc (ls' := [(0, vR g i), (1, vI (pset (w.take (k + 1)))), (2, vI (z + 1))]) hx dX4_posts_26 2 rfl rfl rfl (by decide) ?_
        refine k_goto hx dX4_posts_29 ?_
        exact ih (k + 1) _ (z + 1) (by omega) (by omega) (by omega) rfl
  refine k_iconst hx dX4_posts_0 ?_
  refine k_istore_n (ls' := [(0, vR g i), (1, vI 0)]) hx dX4_posts_1 rfl rfl (by decide) ?_
  refine k_iconst hx dX4_posts_2 ?_
  refine k_istore_n (ls' := [(0, vR g i), (1, vI 0), (2, vI 0)]) hx dX4_posts_3 rfl rfl (by decide) ?_
  exact loop (w.length + 1) 0 0 0 rfl (by omega) (by omega) (by rw [List.take_zero]; rfl)
theorem c_X4_firstPair {g : GE} {l : Launch} {M : Mem} {i cap : Nat} {w : List Int} (hW : IsW g i cap) (hw : Wd M i w) (hc : w.length ≤ cap) : Cp g l μX4_firstPair [vR g i] M (firstP w) := by
  refine Ci.of (by decide +kernel) rfl rfl (fun x hx hr => ?_)
  have hl := hw.1; have h480 := hW.2.2.2.2
  have loop : ∀ (f : Nat), ∀ (k e : Nat) (z : Int), z = k → k ≤ w.length → w.length < e + k → w.length + 1 - k ≤ f → fpF w e k = firstP w → K x g 0 0 LAY (NN g) M 2 [(0, vR g i), (1, vI z)] [] := by
    intro f
    induction f with
    | zero => intro k e z hz hk he hf hfp; omega
    | succ f ih =>
      intro k e z hz hk he hf hfp
      refine k_iload_n hx dX4_firstPair_2 1 rfl ?_
      refine k_iconst hx dX4_firstPair_3 ?_
      refine k_iadd hx dX4_firstPair_4 ?_
      refine k_aload_n hx dX4_firstPair_5 0 rfl ?_
      refine k_get (v := vI (M i 1)) hx fX4_21 dX4_firstPair_6 hW.2.2.1 hW.1 rfl ?_
      refine k_icmp_ge hx dX4_firstPair_9 (by omega) (fun h_9 => ?_) (fun h_9 => ?_)
      · refine k_bipush hx dX4_firstPair_40 (by decide +kernel) ?_
        refine k_ri hx hr dX4_firstPair_42 ?_
        refine ⟨?_, rfl⟩
        rw [← hfp]
        cases e with
        | zero => rfl
        | succ e => rw [fpF, if_neg (by omega)]
      · obtain ⟨e, rfl⟩ : ∃ e2, e = e2 + 1 := ⟨e - 1, by omega⟩
        rw [fpF, if_pos (by omega)] at hfp
        have e1 : M (i + 1) z = at0 w k := by rw [hz]; exact hw.atn (by omega)
        have e2 : M (i + 1) (z + 1) = at0 w (k + 1 : Nat) := by rw [hz]; exact hw.atn (k := k + 1) (by omega)
        have c1 := op_cr hw.2.2 (k := k) (by omega)
        have c2 := op_cr hw.2.2 (k := k + 1) (by omega)
        have c3 := op_rg c2
        refine k_aload_n hx dX4_firstPair_12 0 rfl ?_
        refine k_get (v := vR g (i + 1)) hx fX4_15 dX4_firstPair_13 hW.2.2.1 hW.1 rfl ?_
        refine k_iload_n hx dX4_firstPair_16 1 rfl ?_
        refine k_iald (v := (at0 w k)) hx dX4_firstPair_17 hW.2.2.2.1 hW.2.1 (by omega) (by have := hW.2.2.2.2; omega) (e1) ?_
        refine k_aload_n hx dX4_firstPair_18 0 rfl ?_
        refine k_get (v := vR g (i + 1)) hx fX4_15 dX4_firstPair_19 hW.2.2.1 hW.1 rfl ?_
        refine k_iload_n hx dX4_firstPair_22 1 rfl ?_
        refine k_iconst hx dX4_firstPair_23 ?_
        refine k_iadd hx dX4_firstPair_24 ?_
        refine k_iald (v := (at0 w (k + 1 : Nat))) hx dX4_firstPair_25 hW.2.2.2.1 hW.2.1 (by omega) (by have := hW.2.2.2.2; omega) (e2) ?_
        refine k_np (rest := [vI (at0 w k)]) (e := (op (at0 w (k + 1 : Nat)))) hx nX4_25 dX4_firstPair_26 (c_X5_opposite (z := (at0 w (k + 1 : Nat))) (by omega)) rfl rfl rfl ⟨rfl, rfl⟩ ⟨by decide, by decide⟩ ?_
        refine k_icmp_ne hx dX4_firstPair_29 (by omega) (fun h_29 => ?_) (fun h_29 => ?_)
        · refine k_iinc (ls' := [(0, vR g i), (1, vI (z + 1))]) hx dX4_firstPair_34 1 rfl rfl rfl (by decide) ?_
          refine k_goto hx dX4_firstPair_37 ?_
          exact ih (k + 1) e (z + 1) (by omega) (by omega) (by omega) (by omega) (by rw [← hfp, if_neg h_29])
        · refine k_iload_n hx dX4_firstPair_32 1 rfl ?_
          refine k_ri hx hr dX4_firstPair_33 ?_
          exact ⟨by rw [← hfp, if_pos h_29]; exact hz, rfl⟩
  refine k_iconst hx dX4_firstPair_0 ?_
  refine k_istore_n (ls' := [(0, vR g i), (1, vI 0)]) hx dX4_firstPair_1 rfl rfl (by decide) ?_
  exact loop (w.length + 1) 0 (w.length + 1) 0 rfl (by omega) (by omega) (by omega) rfl
theorem c_X4_windings {g : GE} {l : Launch} {M : Mem} {i cap : Nat} {w : List Int} (hW : IsW g i cap) (hw : Wd M i w) (hc : w.length ≤ cap) {p : Int} (hp : 0 ≤ p ∧ p < 6) : Cp g l μX4_windings [vR g i, vI p] M (wnd w p) := by
  refine Ci.of (by decide +kernel) rfl rfl (fun x hx hr => ?_)
  have hl := hw.1; have h480 := hW.2.2.2.2
  have hop := op_rg (c := p) (by omega)
  have loop : ∀ (f : Nat), ∀ (k : Nat) (y z : Int), z = k → k ≤ w.length → w.length - k < f → y = wndF w p k → K x g 0 0 LAY (NN g) M 4 [(0, vR g i), (1, vI p), (2, vI y), (3, vI z)] [] := by
    intro f
    induction f with
    | zero => intro k y z hz hk hf hy; omega
    | succ f ih =>
      intro k y z hz hk hf hy
      refine k_iload_n hx dX4_windings_4 3 rfl ?_
      refine k_aload_n hx dX4_windings_5 0 rfl ?_
      refine k_get (v := vI (M i 1)) hx fX4_21 dX4_windings_6 hW.2.2.1 hW.1 rfl ?_
      refine k_icmp_ge hx dX4_windings_9 (by omega) (fun h_9 => ?_) (fun h_9 => ?_)
      · refine k_iload_n hx dX4_windings_50 2 rfl ?_
        refine k_ri hx hr dX4_windings_51 ?_
        exact ⟨by rw [hy, show k = w.length by omega]; rfl, rfl⟩
      · have e1 : M (i + 1) z = at0 w k := by rw [hz]; exact hw.atn (by omega)
        have c1 := op_cr hw.2.2 (k := k) (by omega)
        have hst : wndF w p (k + 1) = wndF w p k + (if at0 w k = p then 1 else if at0 w k = op p then -1 else 0) := rfl
        refine k_aload_n hx dX4_windings_12 0 rfl ?_
        refine k_get (v := vR g (i + 1)) hx fX4_15 dX4_windings_13 hW.2.2.1 hW.1 rfl ?_
        refine k_iload_n hx dX4_windings_16 3 rfl ?_
        refine k_iald (v := (at0 w k)) hx dX4_windings_17 hW.2.2.2.1 hW.2.1 (by omega) (by have := hW.2.2.2.2; omega) (e1) ?_
        refine k_iload_n hx dX4_windings_18 1 rfl ?_
        refine k_icmp_ne hx dX4_windings_19 (by omega) (fun h_19 => ?_) (fun h_19 => ?_)
        · refine k_aload_n hx dX4_windings_28 0 rfl ?_
          refine k_get (v := vR g (i + 1)) hx fX4_15 dX4_windings_29 hW.2.2.1 hW.1 rfl ?_
          refine k_iload_n hx dX4_windings_32 3 rfl ?_
          refine k_iald (v := (at0 w k)) hx dX4_windings_33 hW.2.2.2.1 hW.2.1 (by omega) (by have := hW.2.2.2.2; omega) (e1) ?_
          refine k_iload_n hx dX4_windings_34 1 rfl ?_
          refine k_np (rest := [vI (at0 w k)]) (e := (op p)) hx nX4_25 dX4_windings_35 (c_X5_opposite (z := p) (by omega)) rfl rfl rfl ⟨rfl, rfl⟩ ⟨by decide, by decide⟩ ?_
          refine k_icmp_ne hx dX4_windings_38 (by omega) (fun h_38 => ?_) (fun h_38 => ?_)
          · refine k_iinc (ls' := [(0, vR g i), (1, vI p), (2, vI y), (3, vI (z + 1))]) hx dX4_windings_44 3 rfl rfl rfl (by decide) ?_
            refine k_goto hx dX4_windings_47 ?_
            exact ih (k + 1) _ (z + 1) (by omega) (by omega) (by omega) (by rw [hst, hy]; rw [if_neg h_19, if_neg h_38]; omega)
          · refine k_iinc (ls' := [(0, vR g i), (1, vI p), (2, vI (y + (-1))), (3, vI z)]) hx dX4_windings_41 2 rfl rfl rfl (by decide) ?_
            refine k_iinc (ls' := [(0, vR g i), (1, vI p), (2, vI (y + (-1))), (3, vI (z + 1))]) hx dX4_windings_44 3 rfl rfl rfl (by decide) ?_
            refine k_goto hx dX4_windings_47 ?_
            exact ih (k + 1) _ (z + 1) (by omega) (by omega) (by omega) (by rw [hst, hy]; rw [if_neg h_19, if_pos h_38])
        · refine k_iinc (ls' := [(0, vR g i), (1, vI p), (2, vI (y + 1)), (3, vI z)]) hx dX4_windings_22 2 rfl rfl rfl (by decide) ?_
          refine k_goto hx dX4_windings_25 ?_
          refine k_iinc (ls' := [(0, vR g i), (1, vI p), (2, vI (y + 1)), (3, vI (z + 1))]) hx dX4_windings_44 3 rfl rfl rfl (by decide) ?_
          refine k_goto hx dX4_windings_47 ?_
          exact ih (k + 1) _ (z + 1) (by omega) (by omega) (by omega) (by rw [hst, hy]; rw [if_pos h_19])
  refine k_iconst hx dX4_windings_0 ?_
  refine k_istore_n (ls' := [(0, vR g i), (1, vI p), (2, vI 0)]) hx dX4_windings_1 rfl rfl (by decide) ?_
  refine k_iconst hx dX4_windings_2 ?_
  refine k_istore_n (ls' := [(0, vR g i), (1, vI p), (2, vI 0), (3, vI 0)]) hx dX4_windings_3 rfl rfl (by decide) ?_
  exact loop (w.length + 1) 0 0 0 rfl (by omega) (by omega) rfl
end
section
/-! states, and the past -/
abbrev Ab : Type := List Int × List (List Int)
def OkA (A : Ab) : Prop := A.1.length = 6 ∧ A.2.length = 4 ∧ (∀ p : Nat, p < 6 → 1 ≤ A.1.getD p 0 ∧ A.1.getD p 0 ≤ 99) ∧ (∀ r : Nat, r < 4 → Cr (A.2.getD r []) ∧ (A.2.getD r []).length ≤ 120)
def Sd (M : Mem) (s : Nat) (A : Ab) : Prop := OkA A ∧ (∀ p : Nat, p < 6 → M (s + 1) p = A.1.getD p 0) ∧ (∀ r : Nat, r < 4 → Wd M (s + 3 + 2 * r) (A.2.getD r []))
def OffS (s : Nat) (M M' : Mem) : Prop := ∀ a, (a < s ∨ s + 11 ≤ a) → M' a = M a
theorem OffS.rf {s : Nat} {M : Mem} : OffS s M M := fun _ _ => rfl
theorem OffS.tr {s : Nat} {M M' M'' : Mem} (h : OffS s M M') (k : OffS s M' M'') : OffS s M M'' := fun a h1 => (k a h1).trans (h a h1)
theorem IsS.w {g : GE} {s k : Nat} (h : IsS g s) (hk : k < 4) : IsW g (s + 3 + 2 * k) 120 := by
  obtain ⟨-, -, -, -, -, -, h0, h1, h2, h3⟩ := h
  rcases (show k = 0 ∨ k = 1 ∨ k = 2 ∨ k = 3 by omega) with rfl | rfl | rfl | rfl
  · exact h0
  · exact h1
  · exact h2
  · exact h3
theorem ropes_at {s k : Nat} {z : Int} (hz : z = k) (hk : k < 4) : ([some (s + 3), some (s + 5), some (s + 7), some (s + 9)] : List (Option Nat)).getD z.toNat none = some (s + 3 + 2 * k) := by
  subst hz
  rcases (show k = 0 ∨ k = 1 ∨ k = 2 ∨ k = 3 by omega) with rfl | rfl | rfl | rfl <;> rfl
theorem Wd.same {M M' : Mem} {i : Nat} {w : List Int} (h : Wd M i w) (h1 : M' i = M i) (h2 : M' (i + 1) = M (i + 1)) : Wd M' i w := by
  unfold Wd; rw [h1, h2]; exact h
theorem Sd.same {M M' : Mem} {s : Nat} {A : Ab} (h : Sd M s A) (ho : ∀ a, s ≤ a → a < s + 11 → M' a = M a) : Sd M' s A :=
  ⟨h.1, fun p hp => by rw [ho _ (by omega) (by omega)]; exact h.2.1 p hp, fun r hr => (h.2.2 r hr).same (ho _ (by omega) (by omega)) (ho _ (by omega) (by omega))⟩
def allC (A : Ab) : Int := (A.2.getD 0 []).length + (A.2.getD 1 []).length + (A.2.getD 2 []).length + (A.2.getD 3 []).length
def wsF (ws : List Int) (w : List Int) : Nat → Int
  | 0 => 0
  | k + 1 => wsF ws w k + ws.getD (pst (at0 w k)).toNat 0
def wsum (ws w : List Int) : Int := wsF ws w w.length
theorem wsF_rg {ws w : List Int} (h1 : ∀ p : Nat, p < 6 → 1 ≤ ws.getD p 0 ∧ ws.getD p 0 ≤ 99) (h2 : Cr w) : ∀ k : Nat, k ≤ w.length → 0 ≤ wsF ws w k ∧ wsF ws w k ≤ 99 * k
  | 0, _ => by simp [wsF]
  | k + 1, hk => by
    have h3 := wsF_rg h1 h2 k (by omega)
    have h4 := pst_rg (op_cr h2 (k := k) (by omega))
    have h5 := h1 (pst (at0 w k)).toNat (by omega)
    rw [wsF]
    omega

theorem c_X3_copyFrom {g : GE} {l : Launch} {M : Mem} {s t : Nat} {A : Ab} (hS : IsS g s) (hT : IsS g t) (hA : Sd M t A) (hap : s + 11 ≤ t ∨ t + 11 ≤ s) : Cv g l μX3_copyFrom [vR g s, vR g t] M (fun M' => Sd M' s A ∧ OffS s M M') := by
  refine Cv.of (by decide +kernel) rfl rfl (fun x hx hr => ?_)
  have loop2 : ∀ (f : Nat), ∀ (k : Nat) (z : Int) (M' : Mem), z = k → k ≤ 4 → 4 - k < f → (∀ p : Nat, p < 6 → M' (s + 1) p = A.1.getD p 0) → (∀ r : Nat, r < k → Wd M' (s + 3 + 2 * r) (A.2.getD r [])) → OffS s M M' → K x g 0 0 LAY (NN g) M' 28 [(0, vR g s), (1, vR g t), (2, vI z)] [] := by
    intro f
    induction f with
    | zero => intro k z M' hz hk hf hp hr2 ho; omega
    | succ f ih =>
      intro k z M' hz hk hf hp hr2 ho
      refine k_iload_n hx dX3_copyFrom_28 2 rfl ?_
      refine k_iconst hx dX3_copyFrom_29 ?_
      refine k_icmp_ge hx dX3_copyFrom_30 (by omega) (fun h_30 => ?_) (fun h_30 => ?_)
      · refine k_rv hx hr dX3_copyFrom_54 ?_
        exact ⟨⟨hA.1, hp, fun r hr4 => hr2 r (by omega)⟩, ho⟩
      · have hk4 : k < 4 := by omega
        have hv := (hA.same (M' := M') (fun a h1 h2 => ho a (by omega))).2.2 k hk4
        have hvl := (hA.1.2.2.2 k hk4).2
        refine k_aload_n hx dX3_copyFrom_33 0 rfl ?_
        refine k_get (v := vR g (s + 2)) hx fX3_17 dX3_copyFrom_34 hS.2.2.2.1 hS.1 rfl ?_
        refine k_iload_n hx dX3_copyFrom_37 2 rfl ?_
        refine k_aald (q := (s + 3 + 2 * k)) hx dX3_copyFrom_38 hS.2.2.2.2.2.1 hS.2.2.1 (by decide) (by simp only [List.length_cons, List.length_nil]; omega) (Nat.le_of_ble_eq_true rfl) (ropes_at hz hk4) ?_
        refine k_aload_n hx dX3_copyFrom_39 1 rfl ?_
        refine k_get (v := vR g (t + 2)) hx fX3_17 dX3_copyFrom_40 hT.2.2.2.1 hT.1 rfl ?_
        refine k_iload_n hx dX3_copyFrom_43 2 rfl ?_
        refine k_aald (q := (t + 3 + 2 * k)) hx dX3_copyFrom_44 hT.2.2.2.2.2.1 hT.2.2.1 (by decide) (by simp only [List.length_cons, List.length_nil]; omega) (Nat.le_of_ble_eq_true rfl) (ropes_at hz hk4) ?_
        refine k_vv (rest := []) hx vX3_24 dX3_copyFrom_45 (c_X4_copyFrom (hS.w hk4) (hT.w hk4) hv hvl (by omega) hvl) (hS.w hk4).2.2.1 (hS.w hk4).1 rfl rfl rfl ⟨rfl, rfl⟩ ⟨by decide, by decide⟩ (fun M_45 p_45 => ?_)
        refine k_iinc (ls' := [(0, vR g s), (1, vR g t), (2, vI (z + 1))]) hx dX3_copyFrom_48 2 rfl rfl rfl (by decide) ?_
        refine k_goto hx dX3_copyFrom_51 ?_
        refine ih (k + 1) (z + 1) M_45 (by omega) (by omega) (by omega) (fun p hp6 => by rw [p_45.2 _ (by omega) (by omega)]; exact hp p hp6) (fun r hrk => ?_) (ho.tr (fun a ha => p_45.2 a (by omega) (by omega)))
        by_cases hrk2 : r = k
        · subst hrk2; exact p_45.1
        · exact (hr2 r (by omega)).same (p_45.2 _ (by omega) (by omega)) (p_45.2 _ (by omega) (by omega))
  have loop1 : ∀ (f : Nat), ∀ (k : Nat) (z : Int) (M' : Mem), z = k → k ≤ 6 → 6 - k < f → (∀ p : Nat, p < k → M' (s + 1) p = A.1.getD p 0) → OffS s M M' → K x g 0 0 LAY (NN g) M' 2 [(0, vR g s), (1, vR g t), (2, vI z)] [] := by
    intro f
    induction f with
    | zero => intro k z M' hz hk hf hp ho; omega
    | succ f ih =>
      intro k z M' hz hk hf hp ho
      refine k_iload_n hx dX3_copyFrom_2 2 rfl ?_
      refine k_bipush hx dX3_copyFrom_3 (by decide +kernel) ?_
      refine k_icmp_ge hx dX3_copyFrom_5 (by omega) (fun h_5 => ?_) (fun h_5 => ?_)
      · refine K.sub [0, 1] rfl ?_
        refine k_iconst hx dX3_copyFrom_26 ?_
        refine k_istore_n (ls' := [(0, vR g s), (1, vR g t), (2, vI 0)]) hx dX3_copyFrom_27 rfl rfl (by decide) ?_
        exact loop2 5 0 0 M' rfl (by omega) (by omega) (fun p hp6 => hp p (by omega)) (fun r hr => absurd hr (by omega)) ho
      · refine k_aload_n hx dX3_copyFrom_8 0 rfl ?_
        refine k_get (v := vR g (s + 1)) hx fX3_9 dX3_copyFrom_9 hS.2.2.2.1 hS.1 rfl ?_
        refine k_iload_n hx dX3_copyFrom_12 2 rfl ?_
        refine k_aload_n hx dX3_copyFrom_13 1 rfl ?_
        refine k_get (v := vR g (t + 1)) hx fX3_9 dX3_copyFrom_14 hT.2.2.2.1 hT.1 rfl ?_
        refine k_iload_n hx dX3_copyFrom_17 2 rfl ?_
        refine k_iald (v := (A.1.getD k 0)) hx dX3_copyFrom_18 hT.2.2.2.2.1 hT.2.1 (by omega) (by decide) (by rw [ho _ (by omega), hz]; exact hA.2.1 k (by omega)) ?_
        refine k_iastN hx dX3_copyFrom_19 hS.2.2.2.2.1 hS.2.1 (by omega) (by decide) (fun M_19 hM_19 => ?_)
        refine k_iinc (ls' := [(0, vR g s), (1, vR g t), (2, vI (z + 1))]) hx dX3_copyFrom_20 2 rfl rfl rfl (by decide) ?_
        refine k_goto hx dX3_copyFrom_23 ?_
        refine ih (k + 1) (z + 1) M_19 (by omega) (by omega) (by omega) (fun p hpk => ?_) (ho.tr (fun a ha => by rw [hM_19, up_i (by omega)]))
        rw [hM_19]
        by_cases hpk2 : p = k
        · subst hpk2; rw [← hz, up_s]
        · rw [up_k (by omega)]; exact hp p (by omega)
  refine k_iconst hx dX3_copyFrom_0 ?_
  refine k_istore_n (ls' := [(0, vR g s), (1, vR g t), (2, vI 0)]) hx dX3_copyFrom_1 rfl rfl (by decide) ?_
  exact loop1 7 0 0 M rfl (by omega) (by omega) (fun p hp => absurd hp (by omega)) OffS.rf
theorem c_X3_allCrossings {g : GE} {l : Launch} {M : Mem} {s : Nat} {A : Ab} (hS : IsS g s) (hA : Sd M s A) : Cp g l μX3_allCrossings [vR g s] M (allC A) := by
  refine Ci.of (by decide +kernel) rfl rfl (fun x hx hr => ?_)
  have l0 := (hA.2.2 0 (by decide)).1; have l1 := (hA.2.2 1 (by decide)).1; have l2 := (hA.2.2 2 (by decide)).1; have l3 := (hA.2.2 3 (by decide)).1
  have m0 := (hA.1.2.2.2 0 (by decide)).2; have m1 := (hA.1.2.2.2 1 (by decide)).2; have m2 := (hA.1.2.2.2 2 (by decide)).2; have m3 := (hA.1.2.2.2 3 (by decide)).2
  have loop : ∀ (f : Nat), ∀ (k : Nat) (y z : Int), z = k → k ≤ 4 → 4 - k < f → y = (if 0 < k then ((A.2.getD 0 []).length : Int) else 0) + (if 1 < k then ((A.2.getD 1 []).length : Int) else 0) + (if 2 < k then ((A.2.getD 2 []).length : Int) else 0) + (if 3 < k then ((A.2.getD 3 []).length : Int) else 0) → K x g 0 0 LAY (NN g) M 4 [(0, vR g s), (1, vI y), (2, vI z)] [] := by
    intro f
    induction f with
    | zero => intro k y z hz hk hf hy; omega
    | succ f ih =>
      intro k y z hz hk hf hy
      refine k_iload_n hx dX3_allCrossings_4 2 rfl ?_
      refine k_iconst hx dX3_allCrossings_5 ?_
      refine k_icmp_ge hx dX3_allCrossings_6 (by omega) (fun h_6 => ?_) (fun h_6 => ?_)
      · refine k_iload_n hx dX3_allCrossings_27 1 rfl ?_
        refine k_ri hx hr dX3_allCrossings_28 ?_
        refine ⟨?_, rfl⟩
        rw [hy, show k = 4 by omega]; simp [allC]
      · have hk4 : k < 4 := by omega
        refine k_iload_n hx dX3_allCrossings_9 1 rfl ?_
        refine k_aload_n hx dX3_allCrossings_10 0 rfl ?_
        refine k_get (v := vR g (s + 2)) hx fX3_17 dX3_allCrossings_11 hS.2.2.2.1 hS.1 rfl ?_
        refine k_iload_n hx dX3_allCrossings_14 2 rfl ?_
        refine k_aald (q := (s + 3 + 2 * k)) hx dX3_allCrossings_15 hS.2.2.2.2.2.1 hS.2.2.1 (by decide) (by simp only [List.length_cons, List.length_nil]; omega) (Nat.le_of_ble_eq_true rfl) (ropes_at hz hk4) ?_
        refine k_get (v := vI ((A.2.getD k []).length)) hx fX3_28 dX3_allCrossings_16 (hS.w hk4).2.2.1 (hS.w hk4).1 (congrArg vI (show M (s + 3 + 2 * k) 1 = ((A.2.getD k []).length) from (hA.2.2 k hk4).1)) ?_
        refine k_iadd hx dX3_allCrossings_19 ?_
        refine k_istore_n (ls' := [(0, vR g s), (1, vI (y + ((A.2.getD k []).length))), (2, vI z)]) hx dX3_allCrossings_20 rfl rfl (by decide) ?_
        refine k_iinc (ls' := [(0, vR g s), (1, vI (y + ((A.2.getD k []).length))), (2, vI (z + 1))]) hx dX3_allCrossings_21 2 rfl rfl rfl (by decide) ?_
        refine k_goto hx dX3_allCrossings_24 ?_
        refine ih (k + 1) _ (z + 1) (by omega) (by omega) (by omega) ?_
        rw [hy]
        rcases (show k = 0 ∨ k = 1 ∨ k = 2 ∨ k = 3 by omega) with rfl | rfl | rfl | rfl <;> simp <;> omega
  refine k_iconst hx dX3_allCrossings_0 ?_
  refine k_istore_n (ls' := [(0, vR g s), (1, vI 0)]) hx dX3_allCrossings_1 rfl rfl (by decide) ?_
  refine k_iconst hx dX3_allCrossings_2 ?_
  refine k_istore_n (ls' := [(0, vR g s), (1, vI 0), (2, vI 0)]) hx dX3_allCrossings_3 rfl rfl (by decide) ?_
  exact loop 5 0 0 0 rfl (by omega) (by omega) (by simp)
theorem c_X3_widthsAlong {g : GE} {l : Launch} {M : Mem} {s j cj : Nat} {A : Ab} {v : List Int} (hS : IsS g s) (hA : Sd M s A) (hJ : IsW g j cj) (hv : Wd M j v) (hcj : v.length ≤ cj) : Cp g l μX3_widthsAlong [vR g s, vR g j] M (wsum A.1 v) := by
  refine Ci.of (by decide +kernel) rfl rfl (fun x hx hr => ?_)
  have hlv := hv.1; have h480j := hJ.2.2.2.2
  have loop : ∀ (f : Nat), ∀ (k : Nat) (y z : Int), z = k → k ≤ v.length → v.length - k < f → y = wsF A.1 v k → K x g 0 0 LAY (NN g) M 4 [(0, vR g s), (1, vR g j), (2, vI y), (3, vI z)] [] := by
    intro f
    induction f with
    | zero => intro k y z hz hk hf hy; omega
    | succ f ih =>
      intro k y z hz hk hf hy
      refine k_iload_n hx dX3_widthsAlong_4 3 rfl ?_
      refine k_aload_n hx dX3_widthsAlong_5 1 rfl ?_
      refine k_get (v := vI (M j 1)) hx fX3_28 dX3_widthsAlong_6 hJ.2.2.1 hJ.1 rfl ?_
      refine k_icmp_ge hx dX3_widthsAlong_9 (by omega) (fun h_9 => ?_) (fun h_9 => ?_)
      · refine k_iload_n hx dX3_widthsAlong_50 2 rfl ?_
        refine k_ri hx hr dX3_widthsAlong_51 ?_
        exact ⟨by rw [hy, show k = v.length by omega]; rfl, rfl⟩
      · have c1 := op_cr hv.2.2 (k := k) (by omega)
        have c2 := pst_rg c1
        have e1 : at0 v z = at0 v k := by rw [hz]
        rw [← e1] at c1 c2
        have e2 : M (s + 1) (pst (at0 v z)) = A.1.getD (pst (at0 v k)).toNat 0 := by
          have := hA.2.1 (pst (at0 v z)).toNat (by omega)
          rw [show (((pst (at0 v z)).toNat : Nat) : Int) = pst (at0 v z) by omega] at this
          rw [this, e1]
        have hst : wsF A.1 v (k + 1) = wsF A.1 v k + A.1.getD (pst (at0 v k)).toNat 0 := rfl
        refine k_aload_n hx dX3_widthsAlong_12 1 rfl ?_
        refine k_iload_n hx dX3_widthsAlong_13 3 rfl ?_
        refine k_vp (rest := []) (e := (at0 v z)) hx vX3_32 dX3_widthsAlong_14 (c_X4_at hJ hv hcj (z := z) (by omega)) hJ.2.2.1 hJ.1 rfl rfl rfl ⟨rfl, rfl⟩ ⟨by decide, by decide⟩ ?_
        refine k_np (rest := []) (e := (pst (at0 v z))) hx nX3_36 dX3_widthsAlong_17 (c_X5_postOf (z := (at0 v z)) (by omega)) rfl rfl rfl ⟨rfl, rfl⟩ ⟨by decide, by decide⟩ ?_
        refine k_istore (ls' := [(0, vR g s), (1, vR g j), (2, vI y), (3, vI z), (4, vI (pst (at0 v z)))]) hx dX3_widthsAlong_20 rfl rfl (by decide) ?_
        refine k_iload_n hx dX3_widthsAlong_22 2 rfl ?_
        refine k_iload hx dX3_widthsAlong_23 4 rfl ?_
        refine k_np (rest := [vI y]) (e := (b2i (decide (0 ≤ (pst (at0 v z)) ∧ (pst (at0 v z)) < 6)))) hx nX3_39 dX3_widthsAlong_25 (c_X5_isPost (z := (pst (at0 v z))) (by omega)) rfl rfl rfl ⟨rfl, rfl⟩ ⟨by decide, by decide⟩ ?_
        refine k_beq hx dX3_widthsAlong_28 (fun h_28 => absurd h_28 (by omega)) (fun h_28 => ?_)
        refine k_aload_n hx dX3_widthsAlong_31 0 rfl ?_
        refine k_get (v := vR g (s + 1)) hx fX3_9 dX3_widthsAlong_32 hS.2.2.2.1 hS.1 rfl ?_
        refine k_iload hx dX3_widthsAlong_35 4 rfl ?_
        refine k_iald (v := (A.1.getD (pst (at0 v k)).toNat 0)) hx dX3_widthsAlong_37 hS.2.2.2.2.1 hS.2.1 (by omega) (by decide) (e2) ?_
        refine k_goto hx dX3_widthsAlong_38 ?_
        refine k_iadd hx dX3_widthsAlong_42 ?_
        refine k_istore_n (ls' := [(0, vR g s), (1, vR g j), (2, vI (y + (A.1.getD (pst (at0 v k)).toNat 0))), (3, vI z), (4, vI (pst (at0 v z)))]) hx dX3_widthsAlong_43 rfl rfl (by decide) ?_
        refine k_iinc (ls' := [(0, vR g s), (1, vR g j), (2, vI (y + (A.1.getD (pst (at0 v k)).toNat 0))), (3, vI (z + 1)), (4, vI (pst (at0 v z)))]) hx dX3_widthsAlong_44 3 rfl rfl rfl (by decide) ?_
        refine k_goto hx dX3_widthsAlong_47 ?_
        refine K.sub [0, 1, 2, 3] rfl ?_
        exact ih (k + 1) _ (z + 1) (by omega) (by omega) (by omega) (by rw [hst, hy])
  refine k_iconst hx dX3_widthsAlong_0 ?_
  refine k_istore_n (ls' := [(0, vR g s), (1, vR g j), (2, vI 0)]) hx dX3_widthsAlong_1 rfl rfl (by decide) ?_
  refine k_iconst hx dX3_widthsAlong_2 ?_
  refine k_istore_n (ls' := [(0, vR g s), (1, vR g j), (2, vI 0), (3, vI 0)]) hx dX3_widthsAlong_3 rfl rfl (by decide) ?_
  exact loop (v.length + 1) 0 0 0 rfl (by omega) (by omega) rfl
/-- the past: the latest state first -/
def Pd (M : Mem) (ps : List Ab) : Prop := ∃ nx : Nat, nx < 6 ∧ M 12 1 = nx ∧ M 12 2 = ps.length ∧ ps.length ≤ 6 ∧ ∀ (j : Nat) (A : Ab), ps[j]? = some A → Sd M (14 + 11 * ((nx + 5 - j) % 6)) A
theorem isS_p {g : GE} {k : Nat} (h : k < 6) : IsS g (14 + 11 * k) := by
  rcases (show k = 0 ∨ k = 1 ∨ k = 2 ∨ k = 3 ∨ k = 4 ∨ k = 5 by omega) with rfl | rfl | rfl | rfl | rfl | rfl
  · exact isS_14
  · exact isS_25
  · exact isS_36
  · exact isS_47
  · exact isS_58
  · exact isS_69
theorem past_at {k : Nat} {z : Int} (hz : z = k) (hk : k < 6) : ([some 14, some 25, some 36, some 47, some 58, some 69] : List (Option Nat)).getD z.toNat none = some (14 + 11 * k) := by
  subst hz
  rcases (show k = 0 ∨ k = 1 ∨ k = 2 ∨ k = 3 ∨ k = 4 ∨ k = 5 by omega) with rfl | rfl | rfl | rfl | rfl | rfl <;> rfl
theorem Pd.same {M M' : Mem} {ps : List Ab} (h : Pd M ps) (ho : ∀ a, 12 ≤ a → a < 80 → M' a = M a) : Pd M' ps := by
  obtain ⟨nx, h1, h2, h3, h4, h5⟩ := h
  refine ⟨nx, h1, by rw [ho 12 (by omega) (by omega)]; exact h2, by rw [ho 12 (by omega) (by omega)]; exact h3, h4, fun j A hj => (h5 j A hj).same (fun a ha hb => ho a (by omega) (by omega))⟩

theorem c_X1_remember {g : GE} {l : Launch} {M : Mem} {A : Ab} {ps : List Ab} (hP : Pd M ps) (hA : Sd M 1 A) : Cv g l μX1_remember [vR g 12, vR g 1] M (fun M' => Pd M' ((A :: ps).take 6) ∧ ∀ a, (a < 12 ∨ 80 ≤ a) → M' a = M a) := by
  refine Cv.of (by decide +kernel) rfl rfl (fun x hx hr => ?_)
  obtain ⟨nx, h1, h2, h3, h4, h5⟩ := hP
  refine k_aload_n hx dX1_remember_0 0 rfl ?_
  refine k_get (v := vR g 13) hx fX1_11 dX1_remember_1 n_12 L_12 rfl ?_
  refine k_aload_n hx dX1_remember_4 0 rfl ?_
  refine k_get (v := vI nx) hx fX1_18 dX1_remember_5 n_12 L_12 (congrArg vI (show M 12 1 = nx from h2)) ?_
  refine k_aald (q := (14 + 11 * nx)) hx dX1_remember_8 n_13 L_13 (by decide) (by simp; omega) (by decide) (past_at (k := nx) rfl h1) ?_
  refine k_aload_n hx dX1_remember_9 1 rfl ?_
  refine k_vv (rest := []) hx vX1_25 dX1_remember_10 (c_X3_copyFrom (isS_p (g := g) h1) isS_1 hA (by omega)) (isS_p (g := g) h1).2.2.2.1 (isS_p (g := g) h1).1 rfl rfl rfl ⟨rfl, rfl⟩ ⟨by decide, by decide⟩ (fun M_10 p_10 => ?_)
  obtain ⟨q1, q2⟩ := p_10
  refine k_aload_n hx dX1_remember_13 0 rfl ?_
  refine k_aload_n hx dX1_remember_14 0 rfl ?_
  refine k_get (v := vI nx) hx fX1_18 dX1_remember_15 n_12 L_12 (congrArg vI (show M_10 12 1 = nx from by rw [q2 12 (by omega)]; exact h2)) ?_
  refine k_iconst hx dX1_remember_18 ?_
  refine k_iadd hx dX1_remember_19 ?_
  refine k_bipush hx dX1_remember_20 (by decide +kernel) ?_
  refine k_irem hx dX1_remember_22 (by omega) ?_
  refine k_putI (kz := 1) hx fX1_18 dX1_remember_23 n_12 L_12 rfl rfl (fun M_23 hM_23 => ?_)
  refine k_aload_n hx dX1_remember_26 0 rfl ?_
  refine k_aload_n hx dX1_remember_27 0 rfl ?_
  refine k_get (v := vI ps.length) hx fX1_22 dX1_remember_28 n_12 L_12 (congrArg vI (show M_23 12 2 = ps.length from by rw [hM_23, up_k (by omega), q2 12 (by omega)]; exact h3)) ?_
  refine k_iconst hx dX1_remember_31 ?_
  refine k_iadd hx dX1_remember_32 ?_
  refine k_bipush hx dX1_remember_33 (by decide +kernel) ?_
  refine k_sp (rest := [vR g 12]) (e := (min (ps.length + 1) 6)) hx sX1_29 dX1_remember_35 (c_min (a := (ps.length + 1)) (b := 6) (by omega)) rfl rfl rfl ⟨rfl, rfl⟩ ⟨by decide, by decide⟩ ?_
  refine k_putI (kz := 2) hx fX1_22 dX1_remember_38 n_12 L_12 rfl rfl (fun M_38 hM_38 => ?_)
  refine k_rv hx hr dX1_remember_41 ?_
  subst hM_38; subst hM_23
  have hmod : ((nx : Int) + 1) % 6 = (((nx + 1) % 6 : Nat) : Int) := by omega
  refine ⟨⟨(nx + 1) % 6, by omega, ?_, ?_, ?_, fun j B hj => ?_⟩, fun a ha => by rw [up_i (by omega), up_i (by omega)]; exact q2 a (by omega)⟩
  · rw [up_k (by omega), up_s, hmod]
  · rw [up_s, List.length_take, List.length_cons]; omega
  · rw [List.length_take, List.length_cons]; omega
  · have hne : ∀ a, a ≠ 12 → up (up M_10 12 1 (((nx : Int) + 1) % 6)) 12 2 (min ((ps.length : Int) + 1) 6) a = M_10 a := fun a ha => by rw [up_i ha, up_i ha]
    have hj6 : j < 6 := by
      have := (List.getElem?_eq_some_iff.mp hj).1
      rw [List.length_take] at this; omega
    rw [List.getElem?_take, if_pos hj6] at hj
    cases j with
    | zero =>
      rw [List.getElem?_cons_zero] at hj
      cases hj
      rw [show ((nx + 1) % 6 + 5 - 0) % 6 = nx by omega]
      exact q1.same (fun a _ _ => hne a (by omega))
    | succ j =>
      rw [List.getElem?_cons_succ] at hj
      have h6 := h5 j B hj
      rw [show ((nx + 1) % 6 + 5 - (j + 1)) % 6 = (nx + 5 - j) % 6 by omega]
      exact h6.same (fun a _ _ => by rw [hne a (by omega)]; exact q2 a (by omega))
end
section
/-! the class: words that are laid into the shared ones; questions about words -/
def OffW (M M' : Mem) : Prop := ∀ a, (a < 114 ∨ 120 ≤ a) → M' a = M a
theorem OffW.rf {M : Mem} : OffW M M := fun _ _ => rfl
theorem OffW.tr {M M' M'' : Mem} (h : OffW M M') (k : OffW M' M'') : OffW M M'' := fun a h1 => (k a h1).trans (h a h1)
theorem Off.w {i : Nat} {M M' : Mem} (h : Off i M M') (hi : 114 ≤ i ∧ i < 119) : OffW M M' := fun a ha => h a (by omega) (by omega)
/-- what a crossing becomes as posts change places -/
def swp (p b c : Int) : List Int := if pst c = p + b then [if b = 0 then p + b else op (p + b), p + 1 - b + (c - pst c), op (if b = 0 then p + b else op (p + b))] else if pst c = p + 1 - b then [p + b + (c - pst c)] else [c]
def swF (p b : Int) (v : List Int) : List Int := red (v.flatMap (swp p b))
theorem swp_len (p b c : Int) : (swp p b c).length ≤ 3 := by unfold swp; split; simp; split <;> simp
theorem swp_cr {p b c : Int} (hp : 0 ≤ p ∧ p < 5) (hb : 0 ≤ b ∧ b < 2) (hc : 0 ≤ c ∧ c < 12) : Cr (swp p b c) := by
  have h6 := pst_rg hc
  have hs : c - pst c = 0 ∨ c - pst c = 6 := by unfold pst; split <;> omega
  have ho := op_rg (c := p + b) (by omega)
  have hb2 : 0 ≤ (if b = 0 then p + b else op (p + b)) ∧ (if b = 0 then p + b else op (p + b)) < 12 := by split <;> omega
  have ho2 := op_rg hb2
  unfold swp
  split
  · intro d hd
    rcases List.mem_cons.mp hd with rfl | hd
    · exact hb2
    · rcases List.mem_cons.mp hd with rfl | hd
      · omega
      · rw [List.mem_singleton.mp hd]; exact ho2
  · split
    · exact Cr.one (by omega)
    · exact Cr.one hc
theorem flat_snoc {f : Int → List Int} {v : List Int} {k : Nat} (h : k < v.length) : (v.take (k + 1)).flatMap f = (v.take k).flatMap f ++ f (at0 v k) := by
  rw [← take_at0 h, List.flatMap_append]; simp
theorem red_app (a b : List Int) : red (a ++ b) = b.foldl psh (red a) := by unfold red; rw [List.foldl_append]
theorem fold_len : ∀ (b s : List Int), (b.foldl psh s).length ≤ s.length + b.length
  | [], s => by simp
  | c :: b, s => by
    have h1 := fold_len b (psh s c)
    have h2 := psh_len (w := s) (c := c)
    rw [List.foldl_cons, List.length_cons]; omega
theorem flat_len {f : Int → List Int} (hf : ∀ c, (f c).length ≤ 3) : ∀ v : List Int, (v.flatMap f).length ≤ 3 * v.length
  | [] => by simp
  | c :: v => by
    have h1 := flat_len hf v
    have h2 := hf c
    rw [List.flatMap_cons, List.length_append, List.length_cons]; omega
theorem swF_len (p b : Int) (v : List Int) : (swF p b v).length ≤ 3 * v.length := Nat.le_trans (red_len_le _) (flat_len (swp_len p b) v)
theorem swF_cr {p b : Int} {v : List Int} (hp : 0 ≤ p ∧ p < 5) (hb : 0 ≤ b ∧ b < 2) (hv : Cr v) : Cr (swF p b v) := red_cr fun d hd => by
  obtain ⟨c, hc, hd⟩ := List.mem_flatMap.mp hd
  exact swp_cr hp hb (hv c hc) d hd
def bit (S p : Int) : Int := S / 2 ^ p.toNat % 2
theorem bit_rg (S p : Int) : 0 ≤ bit S p ∧ bit S p < 2 := by unfold bit; omega
theorem bit_fin : ∀ S : Fin 64, ∀ p : Fin 6, (zI ((S : Nat) : Int) >>> (zI ((p : Nat) : Int) &&& 31)) &&& zI 1 = zI (bit ((S : Nat) : Int) ((p : Nat) : Int)) := by decide +kernel
theorem bit_ok {S p : Int} (hS : 0 ≤ S ∧ S < 64) (hp : 0 ≤ p ∧ p < 6) : (zI S >>> (zI p &&& 31)) &&& zI 1 = zI (bit S p) := by
  have := bit_fin ⟨S.toNat, by omega⟩ ⟨p.toNat, by omega⟩
  simpa [show ((S.toNat : Nat) : Int) = S by omega, show ((p.toNat : Nat) : Int) = p by omega, Int.max_eq_left hS.1, Int.max_eq_left hp.1] using this
/-- what is left of a word when posts are pulled out, pulled -/
def wF (S : Int) (v : List Int) : List Int := red (v.filter (fun c => decide (bit S (pst c) = 0)))
theorem filt_snoc {f : Int → Bool} {v : List Int} {k : Nat} (h : k < v.length) : (v.take (k + 1)).filter f = (v.take k).filter f ++ (if f (at0 v k) = true then [at0 v k] else []) := by
  rw [← take_at0 h, List.filter_append, List.filter_cons]
  split <;> simp

theorem c_X5_crossingOrNoSuch {g : GE} {l : Launch} {M : Mem} {j cj : Nat} {v : List Int} (hJ : IsW g j cj) (hv : Wd M j v) (hcj : v.length ≤ cj) {z : Int} (hz : -2147483648 ≤ z ∧ z < 2147483648) : Cp g l μX5_crossingOrNoSuch [vR g j, vI z] M (at0 v z) := by
  refine Ci.of (by decide +kernel) rfl rfl (fun x hx hr => ?_)
  have hr0 := at0_rg hv.2.2 z
  refine k_aload_n hx dX5_crossingOrNoSuch_0 0 rfl ?_
  refine k_iload_n hx dX5_crossingOrNoSuch_1 1 rfl ?_
  refine k_vp (rest := []) (e := (at0 v z)) hx vX5_215 dX5_crossingOrNoSuch_2 (c_X4_at hJ hv hcj (z := z) (by omega)) hJ.2.2.1 hJ.1 rfl rfl rfl ⟨rfl, rfl⟩ ⟨by decide, by decide⟩ ?_
  refine k_istore_n (ls' := [(0, vR g j), (1, vI z), (2, vI (at0 v z))]) hx dX5_crossingOrNoSuch_5 rfl rfl (by decide) ?_
  refine k_iload_n hx dX5_crossingOrNoSuch_6 2 rfl ?_
  refine k_iconst hx dX5_crossingOrNoSuch_7 ?_
  refine k_icmp_ne hx dX5_crossingOrNoSuch_8 (by omega) (fun h_8 => ?_) (fun h_8 => ?_)
  · refine k_iload_n hx dX5_crossingOrNoSuch_15 2 rfl ?_
    refine k_ri hx hr dX5_crossingOrNoSuch_16 ?_
    exact ⟨by omega, rfl⟩
  · refine k_iconst hx dX5_crossingOrNoSuch_11 ?_
    refine k_goto hx dX5_crossingOrNoSuch_12 ?_
    refine k_ri hx hr dX5_crossingOrNoSuch_16 ?_
    exact ⟨by omega, rfl⟩
theorem c_X5_layPulled {g : GE} {l : Launch} {M : Mem} {j cj : Nat} {v : List Int} (hJ : IsW g j cj) (hv : Wd M j v) (hcj : v.length ≤ cj) (hj : j < 113) : Cv g l μX5_layPulled [vR g 0, vR g j] M (fun M' => Wd M' 114 (red v) ∧ Off 114 M M') := by
  refine Cv.of (by decide +kernel) rfl rfl (fun x hx hr => ?_)
  have h480 := hJ.2.2.2.2
  refine k_aload_n hx dX5_layPulled_0 0 rfl ?_
  refine k_get (v := vR g 114) hx fX5_50 dX5_layPulled_1 n_0 L_0 rfl ?_
  refine k_aload_n hx dX5_layPulled_4 1 rfl ?_
  refine k_vv (rest := []) hx vX5_106 dX5_layPulled_5 (c_X4_copyFrom isW_114 hJ hv hcj (by omega) (by omega)) n_114 L_114 rfl rfl rfl ⟨rfl, rfl⟩ ⟨by decide, by decide⟩ (fun M_5 p_5 => ?_)
  refine k_aload_n hx dX5_layPulled_8 0 rfl ?_
  refine k_get (v := vR g 114) hx fX5_50 dX5_layPulled_9 n_0 L_0 rfl ?_
  refine k_vi (rest := []) hx vX5_89 dX5_layPulled_12 (c_X4_cancelPairs isW_114 p_5.1 (by omega)) n_114 L_114 rfl rfl rfl ⟨rfl, rfl⟩ ⟨by decide, by decide⟩ (fun z_12 M_12 p_12 => ?_)
  refine k_pop hx dX5_layPulled_15 rfl ?_
  refine k_rv hx hr dX5_layPulled_16 ?_
  exact ⟨p_12.2.1, p_5.2.tr p_12.2.2⟩
theorem c_X5_layLoop {g : GE} {l : Launch} {M : Mem} {j cj : Nat} {v : List Int} (hJ : IsW g j cj) (hv : Wd M j v) (hcj : v.length ≤ cj) (hj : j < 113) : Cv g l μX5_layLoop [vR g 0, vR g j] M (fun M' => Wd M' 118 (tight (red v)) ∧ Off 118 M M') := by
  refine Cv.of (by decide +kernel) rfl rfl (fun x hx hr => ?_)
  have h480 := hJ.2.2.2.2
  refine k_aload_n hx dX5_layLoop_0 0 rfl ?_
  refine k_get (v := vR g 118) hx fX5_57 dX5_layLoop_1 n_0 L_0 rfl ?_
  refine k_aload_n hx dX5_layLoop_4 1 rfl ?_
  refine k_vv (rest := []) hx vX5_106 dX5_layLoop_5 (c_X4_copyFrom isW_118 hJ hv hcj (by omega) (by omega)) n_118 L_118 rfl rfl rfl ⟨rfl, rfl⟩ ⟨by decide, by decide⟩ (fun M_5 p_5 => ?_)
  refine k_aload_n hx dX5_layLoop_8 0 rfl ?_
  refine k_get (v := vR g 118) hx fX5_57 dX5_layLoop_9 n_0 L_0 rfl ?_
  refine k_vv (rest := []) hx vX5_218 dX5_layLoop_12 (c_X4_tighten isW_118 p_5.1 (by omega)) n_118 L_118 rfl rfl rfl ⟨rfl, rfl⟩ ⟨by decide, by decide⟩ (fun M_12 p_12 => ?_)
  refine k_rv hx hr dX5_layLoop_15 ?_
  exact ⟨p_12.1, p_5.2.tr p_12.2⟩
theorem leastS_lt {w : List Int} : leastS w < w.length ∨ (w.length = 0 ∧ leastS w = 0) := by
  unfold leastS
  cases h : w.length with
  | zero => exact Or.inr ⟨rfl, rfl⟩
  | succ n => have := lsF_lt w n; exact Or.inl (by omega)
abbrev lst (v : List Int) : List Int := least (tight (red v))
theorem lst_len (v : List Int) : (lst v).length ≤ v.length := by
  have h1 := tight_len (red v); have h2 := red_len_le v; rw [least_len]; omega
theorem c_X5_layLeast {g : GE} {l : Launch} {M : Mem} {j cj : Nat} {v : List Int} (hJ : IsW g j cj) (hv : Wd M j v) (hcj : v.length ≤ cj) (hj : j < 117) {k : Nat} (hk : k = 114 ∨ k = 116) : Cv g l μX5_layLeast [vR g 0, vR g j, vR g k] M (fun M' => Wd M' k (lst v) ∧ ∀ a, a ≠ k → a ≠ k + 1 → a ≠ 118 → a ≠ 119 → M' a = M a) := by
  refine Cv.of (by decide +kernel) rfl rfl (fun x hx hr => ?_)
  have h480 := hJ.2.2.2.2
  have hK : IsW g k 480 := by rcases hk with rfl | rfl; exact isW_114; exact isW_116
  have htl := tight_len (red v)
  have hrl := red_len_le v
  refine k_aload_n hx dX5_layLeast_0 0 rfl ?_
  refine k_get (v := vR g 118) hx fX5_57 dX5_layLeast_1 n_0 L_0 rfl ?_
  refine k_aload_n hx dX5_layLeast_4 1 rfl ?_
  refine k_vv (rest := []) hx vX5_106 dX5_layLeast_5 (c_X4_copyFrom isW_118 hJ hv hcj (by omega) (by omega)) n_118 L_118 rfl rfl rfl ⟨rfl, rfl⟩ ⟨by decide, by decide⟩ (fun M_5 p_5 => ?_)
  refine k_aload_n hx dX5_layLeast_8 0 rfl ?_
  refine k_get (v := vR g 118) hx fX5_57 dX5_layLeast_9 n_0 L_0 rfl ?_
  refine k_vv (rest := []) hx vX5_218 dX5_layLeast_12 (c_X4_tighten isW_118 p_5.1 (by omega)) n_118 L_118 rfl rfl rfl ⟨rfl, rfl⟩ ⟨by decide, by decide⟩ (fun M_12 p_12 => ?_)
  refine k_aload_n hx dX5_layLeast_15 2 rfl ?_
  refine k_aload_n hx dX5_layLeast_16 0 rfl ?_
  refine k_get (v := vR g 118) hx fX5_57 dX5_layLeast_17 n_0 L_0 rfl ?_
  refine k_aload_n hx dX5_layLeast_20 0 rfl ?_
  refine k_get (v := vR g 118) hx fX5_57 dX5_layLeast_21 n_0 L_0 rfl ?_
  refine k_vp (rest := [vR g 118, vR g k]) (e := (leastS (tight (red v)) : Nat)) hx vX5_221 dX5_layLeast_24 (c_X4_leastStart isW_118 p_12.1 (by omega)) n_118 L_118 rfl rfl rfl ⟨rfl, rfl⟩ ⟨by decide, by decide⟩ ?_
  refine k_vv (rest := []) hx vX5_224 dX5_layLeast_27 (c_X4_copyFromStart hK isW_118 p_12.1 (by omega) (by omega) (by omega) leastS_lt) hK.2.2.1 hK.1 rfl rfl rfl ⟨rfl, rfl⟩ ⟨by decide, by decide⟩ (fun M_27 p_27 => ?_)
  refine k_rv hx hr dX5_layLeast_30 ?_
  exact ⟨p_27.1, fun a h1 h2 h3 h4 => by rw [p_27.2 a h1 h2, p_12.2 a h3 h4, p_5.2 a h3 h4]⟩
theorem c_X5_addSwapped {g : GE} {l : Launch} {M : Mem} {s : List Int} (hs : Wd M 114 s) (hsl : s.length + 3 ≤ 480) {p b : Int} (hp : 0 ≤ p ∧ p < 5) (hb : 0 ≤ b ∧ b < 2) {c : Int} (hc : 0 ≤ c ∧ c < 12) : Cv g l μX5_addSwapped [vR g 0, vI c, vI p, vI b] M (fun M' => Wd M' 114 ((swp p b c).foldl psh s) ∧ Off 114 M M') := by
  refine Cv.of (by decide +kernel) rfl rfl (fun x hx hr => ?_)
  have h6 := pst_rg hc
  have hsd : c - pst c = 0 ∨ c - pst c = 6 := by unfold pst; split <;> omega
  have ho := op_rg (c := p + b) (by omega)
  obtain ⟨b1, hb1⟩ : ∃ b1, b1 = (if b = 0 then p + b else op (p + b)) := ⟨_, rfl⟩
  obtain ⟨b2, hb2⟩ : ∃ b2, b2 = p + 1 - b + (c - pst c) := ⟨_, rfl⟩
  have hc1 : 0 ≤ b1 ∧ b1 < 12 := by rw [hb1]; split <;> omega
  have hc2 : 0 ≤ b2 ∧ b2 < 12 := by omega
  have hc3 := op_rg hc1
  have hl1 := psh_len (w := s) (c := b1)
  have hl2 := psh_len (w := psh s b1) (c := b2)
  have join : ∀ (y : Int), pst c = p + b → y = b1 → K x g 0 0 LAY (NN g) M 47 [(0, vR g 0), (1, vI c), (2, vI p), (3, vI b), (4, vI (p + b)), (5, vI (p + 1 - b)), (6, vI (pst c)), (7, vI (c - pst c)), (8, vI y)] [] := by
    intro y hpc hy
    subst hy
    refine k_aload_n hx dX5_addSwapped_47 0 rfl ?_
    refine k_get (v := vR g 114) hx fX5_50 dX5_addSwapped_48 n_0 L_0 rfl ?_
    refine k_iload hx dX5_addSwapped_51 8 rfl ?_
    refine k_vi (rest := []) hx vX5_238 dX5_addSwapped_53 (c_X4_addPulled isW_114 hs (by omega) (by omega) (c := y) hc1) n_114 L_114 rfl rfl rfl ⟨rfl, rfl⟩ ⟨by decide, by decide⟩ (fun z_53 M_53 p_53 => ?_)
    obtain ⟨-, q1, q2, -⟩ := p_53
    refine k_pop hx dX5_addSwapped_56 rfl ?_
    refine k_aload_n hx dX5_addSwapped_57 0 rfl ?_
    refine k_get (v := vR g 114) hx fX5_50 dX5_addSwapped_58 n_0 L_0 rfl ?_
    refine k_iload hx dX5_addSwapped_61 5 rfl ?_
    refine k_iload hx dX5_addSwapped_63 7 rfl ?_
    refine k_iadd hx dX5_addSwapped_65 ?_
    rw [← hb2]
    refine k_vi (rest := []) hx vX5_238 dX5_addSwapped_66 (c_X4_addPulled isW_114 q1 (by omega) (by omega) (c := b2) hc2) n_114 L_114 rfl rfl rfl ⟨rfl, rfl⟩ ⟨by decide, by decide⟩ (fun z_66 M_66 p_66 => ?_)
    obtain ⟨-, r1, r2, -⟩ := p_66
    refine k_pop hx dX5_addSwapped_69 rfl ?_
    refine k_aload_n hx dX5_addSwapped_70 0 rfl ?_
    refine k_get (v := vR g 114) hx fX5_50 dX5_addSwapped_71 n_0 L_0 rfl ?_
    refine k_iload hx dX5_addSwapped_74 8 rfl ?_
    refine k_sp (rest := [vR g 114]) (e := (op y)) hx sX5_235 dX5_addSwapped_76 (c_X5_opposite (z := y) (by omega)) rfl rfl rfl ⟨rfl, rfl⟩ ⟨by decide, by decide⟩ ?_
    refine k_vi (rest := []) hx vX5_238 dX5_addSwapped_79 (c_X4_addPulled isW_114 r1 (by omega) (by omega) (c := op y) hc3) n_114 L_114 rfl rfl rfl ⟨rfl, rfl⟩ ⟨by decide, by decide⟩ (fun z_79 M_79 p_79 => ?_)
    obtain ⟨-, t1, t2, -⟩ := p_79
    refine k_pop hx dX5_addSwapped_82 rfl ?_
    refine k_goto hx dX5_addSwapped_83 ?_
    refine k_rv hx hr dX5_addSwapped_118 ?_
    refine ⟨?_, q2.tr (r2.tr t2)⟩
    unfold swp
    rw [if_pos hpc, ← hb1, ← hb2]
    exact t1
  refine k_iload_n hx dX5_addSwapped_0 2 rfl ?_
  refine k_iload_n hx dX5_addSwapped_1 3 rfl ?_
  refine k_iadd hx dX5_addSwapped_2 ?_
  refine k_istore (ls' := [(0, vR g 0), (1, vI c), (2, vI p), (3, vI b), (4, vI (p + b))]) hx dX5_addSwapped_3 rfl rfl (by decide) ?_
  refine k_iload_n hx dX5_addSwapped_5 2 rfl ?_
  refine k_iconst hx dX5_addSwapped_6 ?_
  refine k_iadd hx dX5_addSwapped_7 ?_
  refine k_iload_n hx dX5_addSwapped_8 3 rfl ?_
  refine k_isub hx dX5_addSwapped_9 ?_
  refine k_istore (ls' := [(0, vR g 0), (1, vI c), (2, vI p), (3, vI b), (4, vI (p + b)), (5, vI ((p + 1) - b))]) hx dX5_addSwapped_10 rfl rfl (by decide) ?_
  refine k_iload_n hx dX5_addSwapped_12 1 rfl ?_
  refine k_sp (rest := []) (e := (pst c)) hx sX5_232 dX5_addSwapped_13 (c_X5_postOf (z := c) (by omega)) rfl rfl rfl ⟨rfl, rfl⟩ ⟨by decide, by decide⟩ ?_
  refine k_istore (ls' := [(0, vR g 0), (1, vI c), (2, vI p), (3, vI b), (4, vI (p + b)), (5, vI ((p + 1) - b)), (6, vI (pst c))]) hx dX5_addSwapped_16 rfl rfl (by decide) ?_
  refine k_iload_n hx dX5_addSwapped_18 1 rfl ?_
  refine k_iload hx dX5_addSwapped_19 6 rfl ?_
  refine k_isub hx dX5_addSwapped_21 ?_
  refine k_istore (ls' := [(0, vR g 0), (1, vI c), (2, vI p), (3, vI b), (4, vI (p + b)), (5, vI ((p + 1) - b)), (6, vI (pst c)), (7, vI (c - (pst c)))]) hx dX5_addSwapped_22 rfl rfl (by decide) ?_
  refine k_iload hx dX5_addSwapped_24 6 rfl ?_
  refine k_iload hx dX5_addSwapped_26 4 rfl ?_
  refine k_icmp_ne hx dX5_addSwapped_28 (by omega) (fun h_28 => ?_) (fun h_28 => ?_)
  · refine k_iload hx dX5_addSwapped_86 6 rfl ?_
    refine k_iload hx dX5_addSwapped_88 5 rfl ?_
    refine k_icmp_ne hx dX5_addSwapped_90 (by omega) (fun h_90 => ?_) (fun h_90 => ?_)
    · refine k_aload_n hx dX5_addSwapped_109 0 rfl ?_
      refine k_get (v := vR g 114) hx fX5_50 dX5_addSwapped_110 n_0 L_0 rfl ?_
      refine k_iload_n hx dX5_addSwapped_113 1 rfl ?_
      refine k_vi (rest := []) hx vX5_238 dX5_addSwapped_114 (c_X4_addPulled isW_114 hs (by omega) (by omega) (c := c) hc) n_114 L_114 rfl rfl rfl ⟨rfl, rfl⟩ ⟨by decide, by decide⟩ (fun z_114 M_114 p_114 => ?_)
      obtain ⟨-, q1, q2, -⟩ := p_114
      refine k_pop hx dX5_addSwapped_117 rfl ?_
      refine k_rv hx hr dX5_addSwapped_118 ?_
      refine ⟨?_, q2⟩
      unfold swp
      rw [if_neg h_28, if_neg h_90]
      exact q1
    · refine k_aload_n hx dX5_addSwapped_93 0 rfl ?_
      refine k_get (v := vR g 114) hx fX5_50 dX5_addSwapped_94 n_0 L_0 rfl ?_
      refine k_iload hx dX5_addSwapped_97 4 rfl ?_
      refine k_iload hx dX5_addSwapped_99 7 rfl ?_
      refine k_iadd hx dX5_addSwapped_101 ?_
      refine k_vi (rest := []) hx vX5_238 dX5_addSwapped_102 (c_X4_addPulled isW_114 hs (by omega) (by omega) (c := p + b + (c - pst c)) (by omega)) n_114 L_114 rfl rfl rfl ⟨rfl, rfl⟩ ⟨by decide, by decide⟩ (fun z_102 M_102 p_102 => ?_)
      obtain ⟨-, q1, q2, -⟩ := p_102
      refine k_pop hx dX5_addSwapped_105 rfl ?_
      refine k_goto hx dX5_addSwapped_106 ?_
      refine k_rv hx hr dX5_addSwapped_118 ?_
      refine ⟨?_, q2⟩
      unfold swp
      rw [if_neg h_28, if_pos h_90]
      exact q1
  · refine k_iload_n hx dX5_addSwapped_31 3 rfl ?_
    refine k_ifne hx dX5_addSwapped_32 (by omega) (fun h_32 => ?_) (fun h_32 => ?_)
    · refine k_iload hx dX5_addSwapped_40 4 rfl ?_
      refine k_sp (rest := []) (e := (op (p + b))) hx sX5_235 dX5_addSwapped_42 (c_X5_opposite (z := (p + b)) (by omega)) rfl rfl rfl ⟨rfl, rfl⟩ ⟨by decide, by decide⟩ ?_
      refine k_istore (ls' := [(0, vR g 0), (1, vI c), (2, vI p), (3, vI b), (4, vI (p + b)), (5, vI ((p + 1) - b)), (6, vI (pst c)), (7, vI (c - (pst c))), (8, vI (op (p + b)))]) hx dX5_addSwapped_45 rfl rfl (by decide) ?_
      exact join _ h_28 (by rw [hb1, if_neg h_32])
    · refine k_iload hx dX5_addSwapped_35 4 rfl ?_
      refine k_goto hx dX5_addSwapped_37 ?_
      refine k_istore (ls' := [(0, vR g 0), (1, vI c), (2, vI p), (3, vI b), (4, vI (p + b)), (5, vI ((p + 1) - b)), (6, vI (pst c)), (7, vI (c - (pst c))), (8, vI (p + b))]) hx dX5_addSwapped_45 rfl rfl (by decide) ?_
      exact join _ h_28 (by rw [hb1, if_pos h_32])
theorem c_X5_laySwapped {g : GE} {l : Launch} {M : Mem} {j cj : Nat} {v : List Int} (hJ : IsW g j cj) (hv : Wd M j v) (hcj : v.length ≤ cj) (hj : j < 113) (h120 : v.length ≤ 120) {p b : Int} (hp : 0 ≤ p ∧ p < 5) (hb : 0 ≤ b ∧ b < 2) : Cv g l μX5_laySwapped [vR g 0, vR g j, vI p, vI b] M (fun M' => Wd M' 114 (swF p b v) ∧ Off 114 M M') := by
  refine Cv.of (by decide +kernel) rfl rfl (fun x hx hr => ?_)
  have h480 := hJ.2.2.2.2
  have loop : ∀ (f : Nat), ∀ (k : Nat) (z : Int) (M' : Mem), z = k → k ≤ v.length → v.length - k < f → Wd M' 114 (red ((v.take k).flatMap (swp p b))) → Off 114 M M' → K x g 0 0 LAY (NN g) M' 10 [(0, vR g 0), (1, vR g j), (2, vI p), (3, vI b), (4, vI z)] [] := by
    intro f
    induction f with
    | zero => intro k z M' hz hk hf hwd ho; omega
    | succ f ih =>
      intro k z M' hz hk hf hwd ho
      have hv' := hv.off ho (by omega) (by omega) (by omega)
      refine k_iload hx dX5_laySwapped_10 4 rfl ?_
      refine k_aload_n hx dX5_laySwapped_12 1 rfl ?_
      refine k_get (v := vI v.length) hx fX5_79 dX5_laySwapped_13 hJ.2.2.1 hJ.1 (congrArg vI (show M' j 1 = v.length from hv'.1)) ?_
      refine k_icmp_ge hx dX5_laySwapped_16 (by omega) (fun h_16 => ?_) (fun h_16 => ?_)
      · refine k_rv hx hr dX5_laySwapped_37 ?_
        exact ⟨by rwa [List.take_of_length_le (by omega)] at hwd, ho⟩
      · have e1 : at0 v z = at0 v k := by rw [hz]
        have c1 := op_cr hv.2.2 (k := k) (by omega)
        rw [← e1] at c1
        have hln : (red ((v.take k).flatMap (swp p b))).length ≤ 3 * k := by
          have h1 := red_len_le ((v.take k).flatMap (swp p b)); have h2 := flat_len (swp_len p b) (v.take k); rw [List.length_take] at h2; omega
        refine k_aload_n hx dX5_laySwapped_19 0 rfl ?_
        refine k_aload_n hx dX5_laySwapped_20 1 rfl ?_
        refine k_iload hx dX5_laySwapped_21 4 rfl ?_
        refine k_vp (rest := [vR g 0]) (e := (at0 v z)) hx vX5_215 dX5_laySwapped_23 (c_X4_at hJ hv' hcj (z := z) (by omega)) hJ.2.2.1 hJ.1 rfl rfl rfl ⟨rfl, rfl⟩ ⟨by decide, by decide⟩ ?_
        refine k_iload_n hx dX5_laySwapped_26 2 rfl ?_
        refine k_iload_n hx dX5_laySwapped_27 3 rfl ?_
        refine k_vv (rest := []) hx vX5_228 dX5_laySwapped_28 (c_X5_addSwapped hwd (by omega) hp hb c1) n_0 L_0 rfl rfl rfl ⟨rfl, rfl⟩ ⟨by decide, by decide⟩ (fun M_28 p_28 => ?_)
        obtain ⟨q1, q2⟩ := p_28
        rw [← red_app, e1, ← flat_snoc (by omega)] at q1
        refine k_iinc (ls' := [(0, vR g 0), (1, vR g j), (2, vI p), (3, vI b), (4, vI (z + 1))]) hx dX5_laySwapped_31 4 rfl rfl rfl (by decide) ?_
        refine k_goto hx dX5_laySwapped_34 ?_
        exact ih (k + 1) (z + 1) M_28 (by omega) (by omega) (by omega) q1 (ho.tr q2)
  refine k_aload_n hx dX5_laySwapped_0 0 rfl ?_
  refine k_get (v := vR g 114) hx fX5_50 dX5_laySwapped_1 n_0 L_0 rfl ?_
  refine k_vv (rest := []) hx vX5_100 dX5_laySwapped_4 (c_X4_clear isW_114) n_114 L_114 rfl rfl rfl ⟨rfl, rfl⟩ ⟨by decide, by decide⟩ (fun M_4 p_4 => ?_)
  refine k_iconst hx dX5_laySwapped_7 ?_
  refine k_istore (ls' := [(0, vR g 0), (1, vR g j), (2, vI p), (3, vI b), (4, vI 0)]) hx dX5_laySwapped_8 rfl rfl (by decide) ?_
  exact loop (v.length + 1) 0 0 M_4 rfl (by omega) (by omega) (by subst p_4; exact Wd.nil) (by rw [p_4]; exact off_up)
def csw (A : Ab) (p b : Int) : Int := (swF p b (A.2.getD 0 [])).length + (swF p b (A.2.getD 1 [])).length + (swF p b (A.2.getD 2 [])).length + (swF p b (A.2.getD 3 [])).length
theorem csw_rg {A : Ab} (hA : OkA A) (p b : Int) : 0 ≤ csw A p b ∧ csw A p b ≤ 1440 := by
  have h0 := swF_len p b (A.2.getD 0 []); have h1 := swF_len p b (A.2.getD 1 []); have h2 := swF_len p b (A.2.getD 2 []); have h3 := swF_len p b (A.2.getD 3 [])
  have m0 := (hA.2.2.2 0 (by decide)).2; have m1 := (hA.2.2.2 1 (by decide)).2; have m2 := (hA.2.2.2 2 (by decide)).2; have m3 := (hA.2.2.2 3 (by decide)).2
  unfold csw; omega
theorem c_X5_crossingsIfSwapped {g : GE} {l : Launch} {M : Mem} {A : Ab} (hA : Sd M 1 A) {p b : Int} (hp : 0 ≤ p ∧ p < 5) (hb : 0 ≤ b ∧ b < 2) : Ci g l μX5_crossingsIfSwapped [vR g 0, vI p, vI b] M (fun z M' => z = csw A p b ∧ Off 114 M M') := by
  refine Ci.of (by decide +kernel) rfl rfl (fun x hx hr => ?_)
  have loop : ∀ (f : Nat), ∀ (k : Nat) (y z : Int) (M' : Mem), z = k → k ≤ 4 → 4 - k < f → y = (if 0 < k then ((swF p b (A.2.getD 0 [])).length : Int) else 0) + (if 1 < k then ((swF p b (A.2.getD 1 [])).length : Int) else 0) + (if 2 < k then ((swF p b (A.2.getD 2 [])).length : Int) else 0) + (if 3 < k then ((swF p b (A.2.getD 3 [])).length : Int) else 0) → Off 114 M M' → K x g 0 0 LAY (NN g) M' 5 [(0, vR g 0), (1, vI p), (2, vI b), (3, vI y), (4, vI z)] [] := by
    intro f
    induction f with
    | zero => intro k y z M' hz hk hf hy ho; omega
    | succ f ih =>
      intro k y z M' hz hk hf hy ho
      refine k_iload hx dX5_crossingsIfSwapped_5 4 rfl ?_
      refine k_iconst hx dX5_crossingsIfSwapped_7 ?_
      refine k_icmp_ge hx dX5_crossingsIfSwapped_8 (by omega) (fun h_8 => ?_) (fun h_8 => ?_)
      · refine k_iload_n hx dX5_crossingsIfSwapped_43 3 rfl ?_
        refine k_ri hx hr dX5_crossingsIfSwapped_44 ?_
        refine ⟨?_, ho⟩
        rw [hy, show k = 4 by omega]; simp [csw]
      · have hk4 : k < 4 := by omega
        have hv := (hA.2.2 k hk4).off ho (by omega) (by omega) (by omega)
        have hvl := (hA.1.2.2.2 k hk4).2
        refine k_aload_n hx dX5_crossingsIfSwapped_11 0 rfl ?_
        refine k_aload_n hx dX5_crossingsIfSwapped_12 0 rfl ?_
        refine k_get (v := vR g 1) hx fX5_12 dX5_crossingsIfSwapped_13 n_0 L_0 rfl ?_
        refine k_get (v := vR g 3) hx fX5_75 dX5_crossingsIfSwapped_16 n_1 L_1 rfl ?_
        refine k_iload hx dX5_crossingsIfSwapped_19 4 rfl ?_
        refine k_aald (q := (1 + 3 + 2 * k)) hx dX5_crossingsIfSwapped_21 n_3 L_3 (by decide) (by simp only [List.length_cons, List.length_nil]; omega) (by decide) (ropes_at (s := 1) hz hk4) ?_
        refine k_iload_n hx dX5_crossingsIfSwapped_22 1 rfl ?_
        refine k_iload_n hx dX5_crossingsIfSwapped_23 2 rfl ?_
        refine k_vv (rest := []) hx vX5_115 dX5_crossingsIfSwapped_24 (c_X5_laySwapped ((isS_1 (g := g)).w hk4) hv hvl (by omega) hvl hp hb) n_0 L_0 rfl rfl rfl ⟨rfl, rfl⟩ ⟨by decide, by decide⟩ (fun M_24 p_24 => ?_)
        refine k_iload_n hx dX5_crossingsIfSwapped_27 3 rfl ?_
        refine k_aload_n hx dX5_crossingsIfSwapped_28 0 rfl ?_
        refine k_get (v := vR g 114) hx fX5_50 dX5_crossingsIfSwapped_29 n_0 L_0 rfl ?_
        refine k_get (v := vI ((swF p b (A.2.getD k [])).length)) hx fX5_79 dX5_crossingsIfSwapped_32 n_114 L_114 (congrArg vI (show M_24 114 1 = ((swF p b (A.2.getD k [])).length) from p_24.1.1)) ?_
        refine k_iadd hx dX5_crossingsIfSwapped_35 ?_
        refine k_istore_n (ls' := [(0, vR g 0), (1, vI p), (2, vI b), (3, vI (y + ((swF p b (A.2.getD k [])).length))), (4, vI z)]) hx dX5_crossingsIfSwapped_36 rfl rfl (by decide) ?_
        refine k_iinc (ls' := [(0, vR g 0), (1, vI p), (2, vI b), (3, vI (y + ((swF p b (A.2.getD k [])).length))), (4, vI (z + 1))]) hx dX5_crossingsIfSwapped_37 4 rfl rfl rfl (by decide) ?_
        refine k_goto hx dX5_crossingsIfSwapped_40 ?_
        refine ih (k + 1) _ (z + 1) M_24 (by omega) (by omega) (by omega) ?_ (ho.tr p_24.2)
        rw [hy]
        rcases (show k = 0 ∨ k = 1 ∨ k = 2 ∨ k = 3 by omega) with rfl | rfl | rfl | rfl <;> simp <;> omega
  refine k_iconst hx dX5_crossingsIfSwapped_0 ?_
  refine k_istore_n (ls' := [(0, vR g 0), (1, vI p), (2, vI b), (3, vI 0)]) hx dX5_crossingsIfSwapped_1 rfl rfl (by decide) ?_
  refine k_iconst hx dX5_crossingsIfSwapped_2 ?_
  refine k_istore (ls' := [(0, vR g 0), (1, vI p), (2, vI b), (3, vI 0), (4, vI 0)]) hx dX5_crossingsIfSwapped_3 rfl rfl (by decide) ?_
  exact loop 5 0 0 0 M rfl (by omega) (by omega) (by simp) Off.rf
theorem c_X5_fallsWithout {g : GE} {l : Launch} {M : Mem} {j cj : Nat} {v : List Int} (hJ : IsW g j cj) (hv : Wd M j v) (hcj : v.length ≤ cj) (hj : j < 113) {S : Int} (hS : 0 ≤ S ∧ S < 64) : Ci g l μX5_fallsWithout [vR g 0, vR g j, vI S] M (fun z M' => z = b2i (decide (wF S v = [])) ∧ Off 114 M M') := by
  refine Ci.of (by decide +kernel) rfl rfl (fun x hx hr => ?_)
  have h480 := hJ.2.2.2.2
  have loop : ∀ (f : Nat), ∀ (k : Nat) (z : Int) (M' : Mem), z = k → k ≤ v.length → v.length - k < f → Wd M' 114 (red ((v.take k).filter (fun c => decide (bit S (pst c) = 0)))) → Off 114 M M' → K x g 0 0 LAY (NN g) M' 9 [(0, vR g 0), (1, vR g j), (2, vI S), (3, vI z)] [] := by
    intro f
    induction f with
    | zero => intro k z M' hz hk hf hwd ho; omega
    | succ f ih =>
      intro k z M' hz hk hf hwd ho
      have hv' := hv.off ho (by omega) (by omega) (by omega)
      refine k_iload_n hx dX5_fallsWithout_9 3 rfl ?_
      refine k_aload_n hx dX5_fallsWithout_10 1 rfl ?_
      refine k_get (v := vI v.length) hx fX5_79 dX5_fallsWithout_11 hJ.2.2.1 hJ.1 (congrArg vI (show M' j 1 = v.length from hv'.1)) ?_
      refine k_icmp_ge hx dX5_fallsWithout_14 (by omega) (fun h_14 => ?_) (fun h_14 => ?_)
      · have hkv : v.take k = v := List.take_of_length_le (by omega)
        rw [hkv] at hwd
        refine k_aload_n hx dX5_fallsWithout_52 0 rfl ?_
        refine k_get (v := vR g 114) hx fX5_50 dX5_fallsWithout_53 n_0 L_0 rfl ?_
        refine k_get (v := vI ((wF S v).length)) hx fX5_79 dX5_fallsWithout_56 n_114 L_114 (congrArg vI (show M' 114 1 = ((wF S v).length) from hwd.1)) ?_
        refine k_ifne hx dX5_fallsWithout_59 (by have := hwd.1; have : (wF S v).length ≤ v.length := Nat.le_trans (red_len_le _) (List.length_filter_le _ _); omega) (fun h_59 => ?_) (fun h_59 => ?_)
        · refine k_iconst hx dX5_fallsWithout_66 ?_
          refine k_rz hx hr dX5_fallsWithout_67 (by first | exact Or.inl rfl | exact Or.inr rfl | exact b2i_or _) ?_
          exact ⟨b2i_f (fun q => h_59 (by rw [q]; rfl)), ho⟩
        · refine k_iconst hx dX5_fallsWithout_62 ?_
          refine k_goto hx dX5_fallsWithout_63 ?_
          refine k_rz hx hr dX5_fallsWithout_67 (by first | exact Or.inl rfl | exact Or.inr rfl | exact b2i_or _) ?_
          exact ⟨b2i_t (List.length_eq_zero_iff.mp (by omega)), ho⟩
      · have e1 : at0 v z = at0 v k := by rw [hz]
        have c1 := op_cr hv.2.2 (k := k) (by omega)
        rw [← e1] at c1
        have c2 := pst_rg c1
        have hbr := bit_rg S (pst (at0 v z))
        have hsn := filt_snoc (f := fun c => decide (bit S (pst c) = 0)) (v := v) (k := k) (by omega)
        have hln : (red ((v.take k).filter (fun c => decide (bit S (pst c) = 0)))).length ≤ k := by
          have h1 := red_len_le ((v.take k).filter (fun c => decide (bit S (pst c) = 0))); have h2 := List.length_filter_le (fun c => decide (bit S (pst c) = 0)) (v.take k); rw [List.length_take] at h2; omega
        refine k_aload_n hx dX5_fallsWithout_17 1 rfl ?_
        refine k_iload_n hx dX5_fallsWithout_18 3 rfl ?_
        refine k_vp (rest := []) (e := (at0 v z)) hx vX5_215 dX5_fallsWithout_19 (c_X4_at hJ hv' hcj (z := z) (by omega)) hJ.2.2.1 hJ.1 rfl rfl rfl ⟨rfl, rfl⟩ ⟨by decide, by decide⟩ ?_
        refine k_istore (ls' := [(0, vR g 0), (1, vR g j), (2, vI S), (3, vI z), (4, vI (at0 v z))]) hx dX5_fallsWithout_22 rfl rfl (by decide) ?_
        refine k_iload_n hx dX5_fallsWithout_24 2 rfl ?_
        refine k_iload hx dX5_fallsWithout_25 4 rfl ?_
        refine k_sp (rest := [vI S]) (e := (pst (at0 v z))) hx sX5_232 dX5_fallsWithout_27 (c_X5_postOf (z := (at0 v z)) (by omega)) rfl rfl rfl ⟨rfl, rfl⟩ ⟨by decide, by decide⟩ ?_
        refine k_ishr (v := zI ((zI S >>> (zI (pst (at0 v z)) &&& 31)).toInt)) hx dX5_fallsWithout_30 ((zI_of _).symm) ?_
        refine k_iconst hx dX5_fallsWithout_31 ?_
        refine k_iand (v := zI (bit S (pst (at0 v z)))) hx dX5_fallsWithout_32 (by rw [zI_of]; exact bit_ok hS c2) ?_
        refine k_ifne hx dX5_fallsWithout_33 (by omega) (fun h_33 => ?_) (fun h_33 => ?_)
        · refine k_iinc (ls' := [(0, vR g 0), (1, vR g j), (2, vI S), (3, vI (z + 1)), (4, vI (at0 v z))]) hx dX5_fallsWithout_46 3 rfl rfl rfl (by decide) ?_
          refine k_goto hx dX5_fallsWithout_49 ?_
          refine K.sub [0, 1, 2, 3] rfl ?_
          rw [if_neg (by rw [← e1]; simpa using h_33), List.append_nil] at hsn
          exact ih (k + 1) (z + 1) M' (by omega) (by omega) (by omega) (by rw [hsn]; exact hwd) ho
        · refine k_aload_n hx dX5_fallsWithout_36 0 rfl ?_
          refine k_get (v := vR g 114) hx fX5_50 dX5_fallsWithout_37 n_0 L_0 rfl ?_
          refine k_iload hx dX5_fallsWithout_40 4 rfl ?_
          refine k_vi (rest := []) hx vX5_238 dX5_fallsWithout_42 (c_X4_addPulled isW_114 hwd (by omega) (by omega) (c := at0 v z) c1) n_114 L_114 rfl rfl rfl ⟨rfl, rfl⟩ ⟨by decide, by decide⟩ (fun z_42 M_42 p_42 => ?_)
          obtain ⟨-, q1, q2, -⟩ := p_42
          rw [if_pos (by rw [← e1]; simpa using h_33)] at hsn
          have q3 : Wd M_42 114 (red ((v.take (k + 1)).filter (fun c => decide (bit S (pst c) = 0)))) := by rw [hsn, red_app, ← e1]; exact q1
          refine k_pop hx dX5_fallsWithout_45 rfl ?_
          refine k_iinc (ls' := [(0, vR g 0), (1, vR g j), (2, vI S), (3, vI (z + 1)), (4, vI (at0 v z))]) hx dX5_fallsWithout_46 3 rfl rfl rfl (by decide) ?_
          refine k_goto hx dX5_fallsWithout_49 ?_
          refine K.sub [0, 1, 2, 3] rfl ?_
          exact ih (k + 1) (z + 1) M_42 (by omega) (by omega) (by omega) q3 (ho.tr q2)
  refine k_aload_n hx dX5_fallsWithout_0 0 rfl ?_
  refine k_get (v := vR g 114) hx fX5_50 dX5_fallsWithout_1 n_0 L_0 rfl ?_
  refine k_vv (rest := []) hx vX5_100 dX5_fallsWithout_4 (c_X4_clear isW_114) n_114 L_114 rfl rfl rfl ⟨rfl, rfl⟩ ⟨by decide, by decide⟩ (fun M_4 p_4 => ?_)
  refine k_iconst hx dX5_fallsWithout_7 ?_
  refine k_istore_n (ls' := [(0, vR g 0), (1, vR g j), (2, vI S), (3, vI 0)]) hx dX5_fallsWithout_8 rfl rfl (by decide) ?_
  exact loop (v.length + 1) 0 0 M_4 rfl (by omega) (by omega) (by subst p_4; exact Wd.nil) (by rw [p_4]; exact off_up)
end
section
/-! words, purely: pulled words, their turned ones, filters; the most crossings that can stay -/
def Rd (s : List Int) : Prop := ∀ (t : List Int) (c d : Int) (u : List Int), s = t ++ c :: d :: u → c ≠ op d
theorem Rd.nil : Rd [] := fun t c d u h => by simp at h
theorem Rd.pre {s t : List Int} (h : Rd (s ++ t)) : Rd s := fun a c d u e => h a c d (u ++ t) (by rw [e]; simp)
theorem Rd.snoc {s : List Int} {c : Int} (h : Rd s) (hc : s.getLast? ≠ some (op c)) : Rd (s ++ [c]) := by
  intro t a d u e
  rcases List.eq_nil_or_concat u with rfl | ⟨u', x, rfl⟩
  · have e2 : s ++ [c] = (t ++ [a]) ++ [d] := by rw [e]; simp
    have h1 := List.append_inj' e2 rfl
    have hd : c = d := by simpa using h1.2
    subst hd
    intro q
    apply hc
    rw [h1.1, List.getLast?_append, q]; simp
  · have e2 : s ++ [c] = (t ++ a :: d :: u') ++ [x] := by rw [e]; simp
    have h1 := List.append_inj' e2 rfl
    exact h t a d u' h1.1
theorem rd_psh {s : List Int} (h : Rd s) (c : Int) : Rd (psh s c) := by
  unfold psh
  split
  · rename_i hl
    rcases List.eq_nil_or_concat s with rfl | ⟨s', x, rfl⟩
    · exact Rd.nil
    · rw [List.concat_eq_append] at h ⊢
      rw [List.dropLast_concat]
      exact h.pre
  · rename_i hl
    exact h.snoc hl
def act (s w : List Int) : List Int := w.foldl psh s
theorem act_app (s a b : List Int) : act s (a ++ b) = act (act s a) b := by unfold act; rw [List.foldl_append]
theorem rd_act {s : List Int} (h : Rd s) : ∀ w : List Int, Rd (act s w)
  | [] => h
  | c :: w => rd_act (rd_psh h c) w
theorem red_act (w : List Int) : red w = act [] w := rfl
theorem rd_red (w : List Int) : Rd (red w) := rd_act Rd.nil w
theorem cr_act {s : List Int} (h : Cr s) : ∀ w : List Int, Cr w → Cr (act s w)
  | [], _ => h
  | c :: w, hw => cr_act (cr_psh h (hw c List.mem_cons_self)) w (fun d hd => hw d (List.mem_cons_of_mem _ hd))
theorem psh_psh {s : List Int} {c : Int} (h : Rd s) (hc : 0 ≤ c ∧ c < 12) : psh (psh s c) (op c) = s := by
  by_cases hl : s.getLast? = some (op c)
  · have e1 : psh s c = s.dropLast := by unfold psh; rw [if_pos hl]
    rw [e1]
    rcases List.eq_nil_or_concat s with rfl | ⟨s', x, rfl⟩
    · simp at hl
    · rw [List.concat_eq_append] at h hl ⊢
      rw [List.dropLast_concat]
      have hx : x = op c := by simpa using hl
      subst hx
      unfold psh
      rw [if_neg]
      rw [op_op hc]
      intro q
      rcases List.eq_nil_or_concat s' with rfl | ⟨s2, y, rfl⟩
      · simp at q
      · rw [List.concat_eq_append] at h q
        have hy : y = c := by simpa using q
        subst hy
        exact h s2 y (op y) [] (by simp) (op_op hc).symm
  · have e1 : psh s c = s ++ [c] := by unfold psh; rw [if_neg hl]
    rw [e1]
    unfold psh
    rw [if_pos (by rw [op_op hc]; simp), List.dropLast_concat]
theorem trn_snoc (w : List Int) (c : Int) : trn (w ++ [c]) = op c :: trn w := by simp [trn]
theorem trn_cons (w : List Int) (c : Int) : trn (c :: w) = trn w ++ [op c] := by simp [trn]
theorem trn_app (a b : List Int) : trn (a ++ b) = trn b ++ trn a := by simp [trn]
theorem trn_trn {w : List Int} (h : Cr w) : trn (trn w) = w := by
  induction w with
  | nil => rfl
  | cons c w ih => rw [trn_cons, trn_snoc, op_op (h c List.mem_cons_self), ih (fun d hd => h d (List.mem_cons_of_mem _ hd))]
theorem act_trn {w : List Int} (hw : Cr w) : ∀ {s : List Int}, Rd s → act (act s w) (trn w) = s := by
  induction w with
  | nil => intro s _; rfl
  | cons c w ih =>
    intro s hs
    have hc := hw c List.mem_cons_self
    rw [trn_cons, act_app]
    have h1 : act s (c :: w) = act (psh s c) w := rfl
    rw [h1, ih (fun d hd => hw d (List.mem_cons_of_mem _ hd)) (rd_psh hs c)]
    exact psh_psh hs hc
theorem red_trn_nil {a b : List Int} (hb : Cr b) : red (a ++ trn b) = [] ↔ red a = red b := by
  rw [red_act, act_app, ← red_act]
  constructor
  · intro h
    have h2 := act_trn (cr_trn hb) (rd_red a)
    rw [h, trn_trn hb] at h2
    exact h2.symm
  · intro h
    rw [h]
    exact act_trn hb Rd.nil
/-- a filter that doesn't part a crossing from its opposite -/
theorem red_filter {f : Int → Bool} (hf : ∀ c, 0 ≤ c ∧ c < 12 → f (op c) = f c) : ∀ (w s : List Int), Cr w → Cr s → Rd s → act (red (s.filter f)) (w.filter f) = red ((act s w).filter f)
  | [], s, _, _, _ => rfl
  | c :: w, s, hw, hs, hr => by
    have hc := hw c List.mem_cons_self
    have hw' : Cr w := fun d hd => hw d (List.mem_cons_of_mem _ hd)
    have key : act (red (s.filter f)) ([c].filter f) = red ((psh s c).filter f) := by
      by_cases hl : s.getLast? = some (op c)
      · have e1 : psh s c = s.dropLast := by unfold psh; rw [if_pos hl]
        rw [e1]
        rcases List.eq_nil_or_concat s with rfl | ⟨s', x, rfl⟩
        · simp at hl
        · rw [List.concat_eq_append] at hl ⊢
          rw [List.dropLast_concat]
          have hx : x = op c := by simpa using hl
          subst hx
          rw [List.filter_append]
          cases hfc : f c with
          | false =>
            have h1 : [c].filter f = [] := by simp [hfc]
            have h2 : [op c].filter f = [] := by simp [hf c hc, hfc]
            rw [h1, h2, List.append_nil]; rfl
          | true =>
            have h1 : [c].filter f = [c] := by simp [hfc]
            have h2 : [op c].filter f = [op c] := by simp [hf c hc, hfc]
            rw [h1, h2]
            have h3 : red (s'.filter f ++ [op c]) = psh (red (s'.filter f)) (op c) := by unfold red; rw [List.foldl_append]; rfl
            rw [h3]
            show psh (psh (red (s'.filter f)) (op c)) c = _
            have h4 := psh_psh (c := op c) (rd_red (s'.filter f)) (op_rg hc)
            rwa [op_op hc] at h4
      · have e1 : psh s c = s ++ [c] := by unfold psh; rw [if_neg hl]
        rw [e1, List.filter_append]
        unfold red
        rw [List.foldl_append]; rfl
    have e2 : (c :: w).filter f = [c].filter f ++ w.filter f := by rw [← List.filter_append]; rfl
    rw [e2, act_app, key]
    exact red_filter hf w (psh s c) hw' (cr_psh hs hc) (rd_psh hr c)
theorem red_filter_nil {f : Int → Bool} (hf : ∀ c, 0 ≤ c ∧ c < 12 → f (op c) = f c) {w : List Int} (hw : Cr w) (h : red w = []) : red (w.filter f) = [] := by
  have h1 := red_filter hf w [] hw (fun c hc => by cases hc) Rd.nil
  rw [← red_act, h] at h1
  exact h1
theorem pst_op {c : Int} (h : 0 ≤ c ∧ c < 12) : pst (op c) = pst c := by unfold pst op; split <;> split <;> omega
/-- a rope that falls by a set falls by every larger one -/
theorem wF_mono {S S' : Int} {v : List Int} (hv : Cr v) (hsub : ∀ p : Int, 0 ≤ p ∧ p < 6 → bit S' p = 0 → bit S p = 0) (h : wF S v = []) : wF S' v = [] := by
  unfold wF at h ⊢
  have e : v.filter (fun c => decide (bit S' (pst c) = 0)) = (v.filter (fun c => decide (bit S (pst c) = 0))).filter (fun c => decide (bit S' (pst c) = 0)) := by
    rw [List.filter_filter]
    apply List.filter_congr
    intro c hc
    by_cases h1 : bit S' (pst c) = 0
    · simp [h1, hsub _ (pst_rg (hv c hc)) h1]
    · simp [h1]
  rw [e]
  exact red_filter_nil (fun c hc => by rw [pst_op hc]) (fun c hc => hv c (List.mem_filter.mp hc).1) h
/-! the most crossings that can stay -/
def mxS (t : List Int) (c : Int) (g : Nat → Nat) (m k : Nat) : Nat := if at0 t k = op c then max m (g k) else m
def mst : Nat → List Int → Nat
  | 0, _ => 0
  | _ + 1, [] => 0
  | f + 1, c :: t => (List.range t.length).foldl (mxS t c (fun k => 2 + mst f (t.take k) + mst f (t.drop (k + 1)))) (mst f t)
theorem foldl_max {t : List Int} {c : Int} {g : Nat → Nat} (l : List Nat) : ∀ m0 : Nat, (m0 ≤ l.foldl (mxS t c g) m0) ∧ (∀ k ∈ l, at0 t k = op c → g k ≤ l.foldl (mxS t c g) m0) ∧ (l.foldl (mxS t c g) m0 = m0 ∨ ∃ k ∈ l, at0 t k = op c ∧ l.foldl (mxS t c g) m0 = g k) := by
  induction l with
  | nil => intro m0; exact ⟨Nat.le_refl _, (fun k hk => by cases hk), Or.inl rfl⟩
  | cons a l ih =>
    intro m0
    rw [List.foldl_cons]
    by_cases hq : at0 t a = op c
    · have e : mxS t c g m0 a = max m0 (g a) := if_pos hq
      rw [e]
      obtain ⟨h1, h2, h3⟩ := ih (max m0 (g a))
      refine ⟨by omega, fun k hk hqk => ?_, ?_⟩
      · rcases List.mem_cons.mp hk with rfl | hk
        · omega
        · exact h2 k hk hqk
      · rcases h3 with h3 | ⟨k, hk, hqk, h3⟩
        · by_cases hm : m0 ≤ g a
          · exact Or.inr ⟨a, List.mem_cons_self, hq, by rw [h3]; omega⟩
          · exact Or.inl (by rw [h3]; omega)
        · exact Or.inr ⟨k, List.mem_cons_of_mem _ hk, hqk, h3⟩
    · have e : mxS t c g m0 a = m0 := if_neg hq
      rw [e]
      obtain ⟨h1, h2, h3⟩ := ih m0
      refine ⟨h1, fun k hk hqk => ?_, ?_⟩
      · rcases List.mem_cons.mp hk with rfl | hk
        · exact absurd hqk hq
        · exact h2 k hk hqk
      · rcases h3 with h3 | ⟨k, hk, hqk, h3⟩
        · exact Or.inl h3
        · exact Or.inr ⟨k, List.mem_cons_of_mem _ hk, hqk, h3⟩
theorem mst_fuel : ∀ (f f' : Nat) (w : List Int), w.length ≤ f → w.length ≤ f' → mst f w = mst f' w
  | 0, 0, _, _, _ => rfl
  | 0, f' + 1, w, h, _ => by have : w = [] := List.length_eq_zero_iff.mp (by omega); subst this; rfl
  | f + 1, 0, w, _, h => by have : w = [] := List.length_eq_zero_iff.mp (by omega); subst this; rfl
  | f + 1, f' + 1, [], _, _ => rfl
  | f + 1, f' + 1, c :: t, h, h' => by
    rw [List.length_cons] at h h'
    unfold mst
    rw [mst_fuel f f' t (by omega) (by omega)]
    have e : (fun k => 2 + mst f (t.take k) + mst f (t.drop (k + 1))) = (fun k => 2 + mst f' (t.take k) + mst f' (t.drop (k + 1))) := funext fun k => by
      rw [mst_fuel f f' (t.take k) (by rw [List.length_take]; omega) (by rw [List.length_take]; omega), mst_fuel f f' (t.drop (k + 1)) (by rw [List.length_drop]; omega) (by rw [List.length_drop]; omega)]
    rw [e]
def Mx (w : List Int) : Nat := mst w.length w
theorem mx_nil : Mx [] = 0 := rfl
theorem mx_cons (c : Int) (t : List Int) : Mx (c :: t) = (List.range t.length).foldl (mxS t c (fun k => 2 + Mx (t.take k) + Mx (t.drop (k + 1)))) (Mx t) := by
  have h : Mx (c :: t) = (List.range t.length).foldl (mxS t c (fun k => 2 + mst t.length (t.take k) + mst t.length (t.drop (k + 1)))) (mst t.length t) := rfl
  rw [h]
  have e : (fun k => 2 + mst t.length (t.take k) + mst t.length (t.drop (k + 1))) = (fun k => 2 + Mx (t.take k) + Mx (t.drop (k + 1))) := funext fun k => by
    unfold Mx
    rw [mst_fuel t.length _ (t.take k) (by rw [List.length_take]; omega) (Nat.le_refl _), mst_fuel t.length _ (t.drop (k + 1)) (by rw [List.length_drop]; omega) (Nat.le_refl _)]
  rw [e]
  rfl
theorem mx_tail (c : Int) (t : List Int) : Mx t ≤ Mx (c :: t) := by rw [mx_cons]; exact (foldl_max _ _).1
theorem mx_pair (c : Int) (p q : List Int) : 2 + Mx p + Mx q ≤ Mx (c :: (p ++ op c :: q)) := by
  rw [mx_cons]
  have h := (foldl_max (t := p ++ op c :: q) (c := c) (g := fun k => 2 + Mx ((p ++ op c :: q).take k) + Mx ((p ++ op c :: q).drop (k + 1))) (List.range (p ++ op c :: q).length) (Mx (p ++ op c :: q))).2.1 p.length (by simp) (by rw [at0_n (by simp)]; simp)
  simpa using h
theorem mx_cases (c : Int) (t : List Int) : Mx (c :: t) = Mx t ∨ ∃ p q, t = p ++ op c :: q ∧ Mx (c :: t) = 2 + Mx p + Mx q := by
  rw [mx_cons]
  rcases (foldl_max (t := t) (c := c) (g := fun k => 2 + Mx (t.take k) + Mx (t.drop (k + 1))) (List.range t.length) (Mx t)).2.2 with h | ⟨k, hk, hq, h⟩
  · exact Or.inl h
  · have hk2 : k < t.length := List.mem_range.mp hk
    refine Or.inr ⟨t.take k, t.drop (k + 1), ?_, h⟩
    rw [← hq, at0_n hk2, ← List.drop_eq_getElem_cons hk2, List.take_append_drop]
theorem mx_app : ∀ (n : Nat) (a b : List Int), a.length ≤ n → Mx a + Mx b ≤ Mx (a ++ b)
  | 0, a, b, h => by have : a = [] := List.length_eq_zero_iff.mp (by omega); subst this; simp [mx_nil]
  | n + 1, [], b, _ => by simp [mx_nil]
  | n + 1, c :: t, b, h => by
    rw [List.length_cons] at h
    rcases mx_cases c t with e | ⟨p, q, rfl, e⟩
    · have h1 := mx_app n t b (by omega)
      have h2 := mx_tail c (t ++ b)
      rw [List.cons_append]; omega
    · rw [List.length_append, List.length_cons] at h
      have h1 := mx_app n q b (by omega)
      have h2 := mx_pair c p (q ++ b)
      rw [e, List.cons_append, List.append_assoc, List.cons_append]; omega
theorem mx_ap (a b : List Int) : Mx a + Mx b ≤ Mx (a ++ b) := mx_app _ a b (Nat.le_refl _)
/-- one crossing more, anywhere -/
theorem mx_ins : ∀ (n : Nat) (a b : List Int) (x : Int), a.length + b.length ≤ n → Mx (a ++ b) ≤ Mx (a ++ x :: b)
  | _, [], b, x, _ => mx_tail x b
  | 0, c :: t, b, x, h => by simp at h
  | n + 1, c :: t, b, x, h => by
    rw [List.length_cons] at h
    rw [List.cons_append, List.cons_append]
    rcases mx_cases c (t ++ b) with e | ⟨p, q, e1, e⟩
    · have h1 := mx_ins n t b x (by omega)
      have h2 := mx_tail c (t ++ x :: b)
      omega
    · rcases List.append_eq_append_iff.mp e1 with ⟨a', h1, h2⟩ | ⟨c', h1, h2⟩
      · -- p = t ++ a', b = a' ++ op c :: q
        subst h1; subst h2
        have h3 := mx_ins n t a' x (by simp at h; omega)
        have h4 := mx_pair c (t ++ x :: a') q
        have h5 : t ++ x :: (a' ++ op c :: q) = (t ++ x :: a') ++ op c :: q := by simp
        rw [h5]; omega
      · cases c' with
        | nil =>
          rw [List.append_nil] at h1
          rw [List.nil_append] at h2
          subst h1; subst h2
          have h3 := mx_ins n t [] x (by simp at h; simp; omega)
          rw [List.append_nil] at h3
          have h4 := mx_pair c (t ++ [x]) q
          have h5 : t ++ x :: op c :: q = (t ++ [x]) ++ op c :: q := by simp
          rw [h5]; omega
        | cons y c' =>
          rw [List.cons_append] at h2
          injection h2 with h6 h7
          subst h6; subst h1; subst h7
          have h3 := mx_ins n c' b x (by simp at h; omega)
          have h4 := mx_pair c p (c' ++ x :: b)
          have h5 : p ++ op c :: c' ++ x :: b = p ++ op c :: (c' ++ x :: b) := by simp
          rw [h5]; omega
theorem mx_in (a b : List Int) (x : Int) : Mx (a ++ b) ≤ Mx (a ++ x :: b) := mx_ins _ a b x (Nat.le_refl _)
theorem mx_ap3 (a b c : List Int) : Mx a + Mx b + Mx c ≤ Mx (a ++ b ++ c) := by have := mx_ap a b; have := mx_ap (a ++ b) c; omega
/-- the first crossingoes behind -/
theorem mx_r1 {c : Int} (hc : 0 ≤ c ∧ c < 12) (t : List Int) : Mx (c :: t) ≤ Mx (t ++ [c]) := by
  rcases mx_cases c t with e | ⟨p, q, rfl, e⟩
  · have := mx_in t [] c; rw [List.append_nil] at this; omega
  · have h1 := mx_pair (op c) q []
    rw [op_op hc, mx_nil] at h1
    have h2 := mx_ap p (op c :: (q ++ [c]))
    have h3 : p ++ op c :: q ++ [c] = p ++ op c :: (q ++ [c]) := by simp
    rw [h3]; omega
theorem mx_r2 {c : Int} (hc : 0 ≤ c ∧ c < 12) : ∀ (n : Nat) (t : List Int), t.length ≤ n → Cr t → Mx (t ++ [c]) ≤ Mx (c :: t)
  | _, [], _, _ => Nat.le_refl _
  | 0, d :: t, h, _ => by simp at h
  | n + 1, d :: t, h, ht => by
    rw [List.length_cons] at h
    have hd := ht d List.mem_cons_self
    have ht' : Cr t := fun x hx => ht x (List.mem_cons_of_mem _ hx)
    rw [List.cons_append]
    rcases mx_cases d (t ++ [c]) with e | ⟨p, q, e1, e⟩
    · have h1 := mx_r2 hc n t (by omega) ht'
      have h2 := mx_in [c] t d
      have h3 : [c] ++ t = c :: t := rfl
      have h4 : [c] ++ d :: t = c :: d :: t := rfl
      rw [h3, h4] at h2
      omega
    · rcases List.eq_nil_or_concat q with rfl | ⟨q', x, rfl⟩
      · have h1 := List.append_inj' e1 rfl
        have h2 : c = op d := by simpa using h1.2
        have h3 := h1.1
        subst h3
        have h4 := mx_pair c [] t
        rw [h2, op_op hd] at h4
        rw [mx_nil] at e
        rw [List.nil_append, mx_nil, ← h2] at h4
        omega
      · rw [List.concat_eq_append] at e1 e
        have e2 : t ++ [c] = (p ++ op d :: q') ++ [x] := by rw [e1]; simp
        have h1 := List.append_inj' e2 rfl
        have h2 : c = x := by simpa using h1.2
        subst h2
        have h3 := h1.1
        subst h3
        rw [List.length_append, List.length_cons] at h
        have h4 := mx_r2 hc n q' (by omega) (fun y hy => ht' y (by simp [hy]))
        have h5 := mx_pair d p q'
        rcases mx_cases c q' with e3 | ⟨p3, q3, rfl, e3⟩
        · have h6 := mx_tail c (d :: (p ++ op d :: q'))
          omega
        · have h6 := mx_pair c (d :: (p ++ op d :: p3)) q3
          have h7 := mx_pair d p p3
          have h8 : d :: (p ++ op d :: (p3 ++ op c :: q3)) = (d :: (p ++ op d :: p3)) ++ op c :: q3 := by simp
          rw [h8]; omega
/-- a pair that cancels -/
theorem mx_pr1 {a : Int} (ha : 0 ≤ a ∧ a < 12) : ∀ (n : Nat) (u v : List Int), u.length + v.length ≤ n → Mx (u ++ v) + 2 ≤ Mx (u ++ a :: op a :: v)
  | _, [], v, _ => by have := mx_pair a [] v; rw [mx_nil, List.nil_append] at this; rw [List.nil_append, List.nil_append]; omega
  | 0, c :: u, v, h => by simp at h
  | n + 1, c :: u, v, h => by
    rw [List.length_cons] at h
    rw [List.cons_append, List.cons_append]
    rcases mx_cases c (u ++ v) with e | ⟨p, q, e1, e⟩
    · have h1 := mx_pr1 ha n u v (by omega)
      have h2 := mx_tail c (u ++ a :: op a :: v)
      omega
    · rcases List.append_eq_append_iff.mp e1 with ⟨a', h1, h2⟩ | ⟨c', h1, h2⟩
      · subst h1; subst h2
        have h3 := mx_pr1 ha n u a' (by simp at h; omega)
        have h4 := mx_pair c (u ++ a :: op a :: a') q
        have h5 : u ++ a :: op a :: (a' ++ op c :: q) = (u ++ a :: op a :: a') ++ op c :: q := by simp
        rw [h5]; omega
      · cases c' with
        | nil =>
          rw [List.append_nil] at h1
          rw [List.nil_append] at h2
          subst h1; subst h2
          have h3 := mx_pr1 ha n u [] (by simp at h; simp; omega)
          rw [List.append_nil] at h3
          have h4 := mx_pair c (u ++ [a, op a]) q
          have h5 : u ++ a :: op a :: op c :: q = (u ++ [a, op a]) ++ op c :: q := by simp
          rw [h5]; omega
        | cons y c' =>
          rw [List.cons_append] at h2
          injection h2 with h6 h7
          subst h6; subst h1; subst h7
          have h3 := mx_pr1 ha n c' v (by simp at h; omega)
          have h4 := mx_pair c p (c' ++ a :: op a :: v)
          have h5 : p ++ op c :: c' ++ a :: op a :: v = p ++ op c :: (c' ++ a :: op a :: v) := by simp
          rw [h5]; omega
theorem mx_c2 {c : Int} (hc : 0 ≤ c ∧ c < 12) (t : List Int) : Mx (c :: t) ≤ Mx t + 2 := by
  rcases mx_cases c t with e | ⟨p, q, rfl, e⟩
  · omega
  · have h1 := mx_ap p q
    have h2 := mx_in p q (op c)
    omega
theorem op_inj {a b : Int} (ha : 0 ≤ a ∧ a < 12) (hb : 0 ≤ b ∧ b < 12) (h : op a = op b) : a = b := by rw [← op_op ha, h, op_op hb]
theorem mx_pr2 {a : Int} (ha : 0 ≤ a ∧ a < 12) : ∀ (n : Nat) (u v : List Int), u.length + v.length ≤ n → Cr u → Cr v → Mx (u ++ a :: op a :: v) ≤ Mx (u ++ v) + 2
  | _, [], v, _, _, hv => by
    rw [List.nil_append, List.nil_append]
    have hA := op_rg ha
    rcases mx_cases a (op a :: v) with e | ⟨p, q, e1, e⟩
    · have := mx_c2 hA v; omega
    · cases p with
      | nil => rw [List.nil_append] at e1; injection e1 with h1 h2; subst h2; rw [mx_nil] at e; omega
      | cons y p =>
        rw [List.cons_append] at e1
        injection e1 with h1 h2
        subst h1; subst h2
        have h3 := mx_r1 hA p
        have h4 := mx_ap (p ++ [op a]) q
        have h5 : p ++ op a :: q = p ++ [op a] ++ q := by simp
        rw [← h5] at h4; omega
  | 0, c :: u, v, h, _, _ => by simp at h
  | n + 1, c :: u, v, h, hu, hv => by
    rw [List.length_cons] at h
    have hA := op_rg ha
    have hc := hu c List.mem_cons_self
    have hu' : Cr u := fun x hx => hu x (List.mem_cons_of_mem _ hx)
    rw [List.cons_append, List.cons_append]
    rcases mx_cases c (u ++ a :: op a :: v) with e | ⟨p, q, e1, e⟩
    · have h1 := mx_pr2 ha n u v (by omega) hu' hv
      have h2 := mx_tail c (u ++ v)
      omega
    · rcases List.append_eq_append_iff.mp e1 with ⟨a', h1, h2⟩ | ⟨c', h1, h2⟩
      · -- p = u ++ a', a :: op a :: v = a' ++ op c :: q
        cases a' with
        | nil =>
          rw [List.nil_append] at h2
          rw [List.append_nil] at h1
          injection h2 with h3 h4
          subst h1; subst h4
          -- op c = a, c = op a
          have hca : c = op a := by rw [h3, op_op hc]
          have h5 : Mx p + Mx (op a :: v) ≤ Mx (op a :: (p ++ v)) := by
            rcases mx_cases (op a) v with e3 | ⟨p2, q2, rfl, e3⟩
            · have := mx_ap p v; have := mx_tail (op a) (p ++ v); omega
            · rw [op_op ha] at e3 ⊢
              have h6 := mx_pair (op a) (p ++ p2) q2
              rw [op_op ha] at h6
              have h7 := mx_ap p p2
              have h8 : p ++ (p2 ++ a :: q2) = p ++ p2 ++ a :: q2 := by simp
              rw [h8]; omega
          rw [hca] at e ⊢; omega
        | cons y a' =>
          rw [List.cons_append] at h2
          injection h2 with h3 h4
          subst h3
          cases a' with
          | nil =>
            rw [List.nil_append] at h4
            injection h4 with h5 h6
            subst h6
            have hca : a = c := op_inj ha hc h5
            subst hca
            subst h1
            have h7 := mx_r2 ha _ u (Nat.le_refl _) hu'
            have h8 := mx_ap (a :: u) v
            rw [List.cons_append] at h8
            omega
          | cons y2 a' =>
            rw [List.cons_append] at h4
            injection h4 with h5 h6
            subst h5; subst h6; subst h1
            have h7 := mx_pr2 ha n u a' (by simp at h; omega) hu' (fun x hx => hv x (by simp [hx]))
            have h8 := mx_pair c (u ++ a') q
            have h9 : u ++ (a' ++ op c :: q) = u ++ a' ++ op c :: q := by simp
            rw [h9]; omega
      · cases c' with
        | nil =>
          rw [List.append_nil] at h1
          rw [List.nil_append] at h2
          injection h2 with h3 h4
          subst h1; subst h4
          have hca : c = op a := by rw [← h3, op_op hc]
          have h5 : Mx u + Mx (op a :: v) ≤ Mx (op a :: (u ++ v)) := by
            rcases mx_cases (op a) v with e3 | ⟨p2, q2, rfl, e3⟩
            · have := mx_ap u v; have := mx_tail (op a) (u ++ v); omega
            · rw [op_op ha] at e3 ⊢
              have h6 := mx_pair (op a) (u ++ p2) q2
              rw [op_op ha] at h6
              have h7 := mx_ap u p2
              have h8 : u ++ (p2 ++ a :: q2) = u ++ p2 ++ a :: q2 := by simp
              rw [h8]; omega
          rw [hca] at e ⊢; omega
        | cons y c' =>
          rw [List.cons_append] at h2
          injection h2 with h3 h4
          subst h3; subst h1; subst h4
          have h5 := mx_pr2 ha n c' v (by simp at h; omega) (fun x hx => hu' x (by simp [hx])) hv
          have h6 := mx_pair c p (c' ++ v)
          have h7 : p ++ op c :: c' ++ v = p ++ op c :: (c' ++ v) := by simp
          rw [h7]; omega
/-- as many are to be cut of a word as of it pulled -/
theorem mx_red : ∀ (w s : List Int), Cr w → Cr s → ((s ++ w).length : Int) - Mx (s ++ w) = ((act s w).length : Int) - Mx (act s w)
  | [], s, _, _ => by rw [List.append_nil]; rfl
  | c :: w, s, hw, hs => by
    have hc := hw c List.mem_cons_self
    have hw' : Cr w := fun d hd => hw d (List.mem_cons_of_mem _ hd)
    have ih := mx_red w (psh s c) hw' (cr_psh hs hc)
    have e0 : act s (c :: w) = act (psh s c) w := rfl
    rw [e0, ← ih]
    by_cases hl : s.getLast? = some (op c)
    · have e1 : psh s c = s.dropLast := by unfold psh; rw [if_pos hl]
      rw [e1]
      rcases List.eq_nil_or_concat s with rfl | ⟨s', x, rfl⟩
      · simp at hl
      · rw [List.concat_eq_append] at hl hs ⊢
        rw [List.dropLast_concat]
        have hx : x = op c := by simpa using hl
        subst hx
        have hs' : Cr s' := fun d hd => hs d (by simp [hd])
        have h1 := mx_pr1 (op_rg hc) _ s' w (Nat.le_refl _)
        have h2 := mx_pr2 (op_rg hc) _ s' w (Nat.le_refl _) hs' hw'
        rw [op_op hc] at h1 h2
        have h3 : s' ++ [op c] ++ c :: w = s' ++ op c :: c :: w := by simp
        have h4 : (s' ++ op c :: c :: w).length = (s' ++ w).length + 2 := by simp; omega
        rw [h3]; omega
    · have e1 : psh s c = s ++ [c] := by unfold psh; rw [if_neg hl]
      rw [e1]
      have h3 : s ++ c :: w = s ++ [c] ++ w := by simp
      rw [h3]
theorem mx_cut {w : List Int} (hw : Cr w) : (w.length : Int) - Mx w = ((red w).length : Int) - Mx (red w) := mx_red w [] hw (fun c hc => by cases hc)
theorem mx_le : ∀ (n : Nat) (w : List Int), w.length ≤ n → Mx w ≤ w.length
  | _, [], _ => Nat.le_refl _
  | 0, c :: t, h => by simp at h
  | n + 1, c :: t, h => by
    rw [List.length_cons] at h ⊢
    rcases mx_cases c t with e | ⟨p, q, rfl, e⟩
    · have := mx_le n t (by omega); omega
    · rw [List.length_append, List.length_cons] at h ⊢
      have := mx_le n p (by omega); have := mx_le n q (by omega); omega
end
section
/-! the scissors -/
def tri : Nat → Nat
  | 0 => 0
  | n + 1 => tri n + n
theorem tri_int (n : Nat) : (n : Int) * (n - 1) = 2 * (tri n : Int) := by
  induction n with
  | zero => simp [tri]
  | succ n ih =>
    have e : ((n + 1 : Nat) : Int) * (((n + 1 : Nat) : Int) - 1) = (n : Int) * (n - 1) + 2 * n := by
      rw [show ((n + 1 : Nat) : Int) - 1 = n by omega, show ((n + 1 : Nat) : Int) = n + 1 by omega, Int.add_mul, Int.mul_sub]; omega
    rw [e, ih, tri]; omega
theorem tri_mono {a b : Nat} (h : a ≤ b) : tri a ≤ tri b := by
  induction b with
  | zero => have : a = 0 := by omega
            subst this; exact Nat.le_refl _
  | succ b ih =>
    by_cases h2 : a = b + 1
    · subst h2; exact Nat.le_refl _
    · have := ih (by omega); rw [tri]; omega
theorem tri_121 : tri 121 = 7260 := by decide +kernel
theorem tri_in {a b : Nat} (h : a < b) (hb : b ≤ 120) : tri b + a < 7260 := by
  have h1 : tri (b + 1) = tri b + b := rfl
  have h2 := tri_mono (show b + 1 ≤ 121 by omega)
  rw [tri_121] at h2; omega
theorem tri_lt {a b b' : Nat} (h : a < b) (hb : b < b') : tri b + a < tri b' := by
  have h1 : tri (b + 1) = tri b + b := rfl
  have h2 := tri_mono (show b + 1 ≤ b' by omega)
  omega
theorem tri_le120 {b : Nat} (hb : b ≤ 120) : tri b ≤ 7140 := by
  have h2 := tri_mono hb
  have : tri 120 = 7140 := by decide +kernel
  omega

theorem xor12 : ∀ a : Fin 12, 0 ≤ (zI ((a : Nat) : Int) ^^^ zI 12).toInt := by decide +kernel
/-- q is the first place from m on that holds c (the length, if none) -/
def Nxe (r : List Int) (m : Nat) (c : Int) (q : Nat) : Prop := m ≤ q ∧ q ≤ r.length ∧ (∀ j, m ≤ j → j < q → at0 r j ≠ c) ∧ (q < r.length → at0 r q = c)
/-- the links of the place k -/
def Lk (M : Mem) (r : List Int) (k : Nat) : Prop := (∃ q : Nat, M 111 k = q ∧ Nxe r (k + 1) (op (at0 r k)) q) ∧ (∃ q : Nat, M 112 k = q ∧ Nxe r (k + 1) (at0 r k) q)
theorem Nxe.down {r : List Int} {m : Nat} {c : Int} {q : Nat} (h : Nxe r (m + 1) c q) (hm : at0 r m ≠ c) : Nxe r m c q :=
  ⟨by have := h.1; omega, h.2.1, fun j h1 h2 => by
    by_cases hj : j = m
    · subst hj; exact hm
    · exact h.2.2.1 j (by omega) h2, h.2.2.2⟩
def Off4 (M M' : Mem) : Prop := ∀ a, (a < 110 ∨ 114 ≤ a) → M' a = M a
theorem Off4.tr {M M' M'' : Mem} (h : Off4 M M') (k : Off4 M' M'') : Off4 M M'' := fun a h1 => (k a h1).trans (h a h1)
theorem off4_up {M : Mem} {i : Nat} {k z : Int} (h : 110 ≤ i ∧ i < 114) : Off4 M (up M i k z) := fun a ha => up_i (by omega)

/-- the best of the first m places -/
def FM (t : List Int) (c : Int) (m : Nat) : Nat := (List.range m).foldl (mxS t c (fun k => 2 + Mx (t.take k) + Mx (t.drop (k + 1)))) (Mx t)
theorem FM_succ (t : List Int) (c : Int) (m : Nat) : FM t c (m + 1) = if at0 t m = op c then max (FM t c m) (2 + Mx (t.take m) + Mx (t.drop (m + 1))) else FM t c m := by
  unfold FM; rw [List.range_succ, List.foldl_append]; rfl
theorem FM_skip {t : List Int} {c : Int} {m : Nat} : ∀ (d : Nat), (∀ k, m ≤ k → k < m + d → at0 t k ≠ op c) → FM t c (m + d) = FM t c m
  | 0, _ => rfl
  | d + 1, h => by
    rw [show m + (d + 1) = (m + d) + 1 by omega, FM_succ, if_neg (h (m + d) (by omega) (by omega)), FM_skip d (fun k h1 h2 => h k h1 (by omega))]
theorem FM_mono (t : List Int) (c : Int) {m n : Nat} (h : m ≤ n) : FM t c m ≤ FM t c n := by
  induction n with
  | zero => have : m = 0 := by omega
            subst this; exact Nat.le_refl _
  | succ n ih =>
    by_cases h2 : m = n + 1
    · subst h2; exact Nat.le_refl _
    · have h3 := ih (by omega)
      rw [FM_succ]; split <;> omega
theorem FM_all (c : Int) (t : List Int) : FM t c t.length = Mx (c :: t) := (mx_cons c t).symm
theorem slc_cons {r : List Int} {a b : Nat} (h : a < b) (hb : b ≤ r.length) : slc r a b = at0 r a :: slc r (a + 1) b := by
  unfold slc
  rw [List.drop_eq_getElem_cons (by rw [List.length_take]; omega), at0_n (by omega)]
  simp
theorem slc_take {r : List Int} {a b k : Nat} (h : a + k ≤ b) : (slc r a b).take k = slc r a (a + k) := by
  unfold slc
  rw [List.take_drop, List.take_take, Nat.min_eq_left (by omega)]
theorem slc_drop {r : List Int} {a b k : Nat} : (slc r a b).drop k = slc r (a + k) b := by
  unfold slc
  rw [List.drop_drop]
end
section
/-! sets of posts: their sizes, and by which a rope falls -/
section LDC
variable {x : Fx} {g : GE} {cc : ByteArray} {own : String} {nL : Nat} {R : Room} {cs sl : Nat} {L : Lay} {n : Nat} {M : Mem} {pc pc' : Nat} {ls : List (Nat × Value)} {st : List Value}
theorem k_ldcw (hx : Cx x g cc own nL R) {index : Nat} {v : Int} (hd : At cc pc (.ldc_w index) 3 pc') (hc : Cond.constant own index (zI v) ∈ TB) (kk : K x g cs sl L n M pc' ls (vI v :: st)) : K x g cs sl L n M pc ls st := by
  intro H locs la hR hS hl
  obtain ⟨hex, hcc, hnl, how, hts, hK, -⟩ := hx
  obtain ⟨hd1, hd2⟩ := hd
  subst hd2
  exact lv_ldcw hex hcc how (hts _ hc) hd1 (kk H locs la hR hS hl)
theorem k_lcmpI (hx : Cx x g cc own nL R) {a b : Int64} {v : Int} (hd : At cc pc .lcmp 1 pc') (hv : lg_cmp a b = zI v) (k : K x g cs sl L n M pc' ls (vI v :: st)) : K x g cs sl L n M pc ls (.long b :: .long a :: st) := k_lcmp hx hd (by rw [hv]; exact k)
end LDC
def ush (a k : Int) : Int32 := ((zI a).toUInt32 >>> ((zI k).toUInt32 &&& Int32.toUInt32 31)).toInt32
def bc1 (a : Int) : Int := a - (ush a 1 &&& zI 1431655765).toInt
def bc2 (a : Int) : Int := (zI a &&& zI 858993459).toInt + (ush a 2 &&& zI 858993459).toInt
def bc3 (a : Int) : Int := (zI (a + (ush a 4).toInt) &&& zI 252645135).toInt
def bc4 (a : Int) : Int := a + (ush a 8).toInt
def bc5 (a : Int) : Int := a + (ush a 16).toInt
def bc6 (a : Int) : Int := (zI a &&& zI 63).toInt
/-- how many posts a set has -/
def bcn (S : Int) : Int := bit S 0 + bit S 1 + bit S 2 + bit S 3 + bit S 4 + bit S 5
theorem bcn_fin : ∀ S : Fin 64, bc6 (bc5 (bc4 (bc3 (bc2 (bc1 ((S : Nat) : Int)))))) = bcn ((S : Nat) : Int) := by decide +kernel
theorem bcn_ok {S : Int} (h : 0 ≤ S ∧ S < 64) : bc6 (bc5 (bc4 (bc3 (bc2 (bc1 S))))) = bcn S := by
  have := bcn_fin ⟨S.toNat, by omega⟩
  simpa [Int.max_eq_left h.1] using this
theorem bcn_rg (S : Int) : 0 ≤ bcn S ∧ bcn S ≤ 6 := by
  have h0 := bit_rg S 0; have h1 := bit_rg S 1; have h2 := bit_rg S 2; have h3 := bit_rg S 3; have h4 := bit_rg S 4; have h5 := bit_rg S 5
  unfold bcn; omega

/-- bits of a long -/
def lb (F : Int64) (q : Nat) : Bool := F.toBitVec.getLsbD q
theorem sh_fin : ∀ q : Fin 64, (((zI ((q : Nat) : Int)).toInt64 &&& 63).toBitVec.smod 64).toNat = (q : Nat) := by decide +kernel
theorem sh_ok {q : Nat} (h : q < 64) : (((zI (q : Int)).toInt64 &&& 63).toBitVec.smod 64).toNat = q := sh_fin ⟨q, h⟩
theorem lb_shr {F : Int64} {q : Nat} (h : q < 64) : (F >>> ((zI (q : Int)).toInt64 &&& 63)) &&& 1 = if lb F q = true then 1 else 0 := by
  apply Int64.toBitVec.inj
  apply BitVec.eq_of_getLsbD_eq
  intro i hi
  have e1 : (F >>> ((zI (q : Int)).toInt64 &&& 63)).toBitVec = F.toBitVec.sshiftRight q := by
    show BitVec.sshiftRight' F.toBitVec (((zI (q : Int)).toInt64 &&& 63).toBitVec.smod 64) = _
    unfold BitVec.sshiftRight'
    rw [sh_ok h]
  rw [Int64.toBitVec_and, BitVec.getLsbD_and, e1, BitVec.getLsbD_sshiftRight]
  have h1 : (1 : Int64).toBitVec = 1#64 := rfl
  rw [h1]
  by_cases hi0 : i = 0
  · subst hi0
    have : F.toBitVec.getLsbD q = lb F q := rfl
    by_cases hb : lb F q = true
    · rw [if_pos hb]; simp [h, this, hb]
    · rw [if_neg hb]
      have hb2 : F.toBitVec.getLsbD q = false := by rw [this]; simpa using hb
      simp [h]; simpa [BitVec.getLsbD_eq_getElem h] using hb2
  · have h2 : (1#64).getLsbD i = false := by simp [BitVec.getLsbD_one, hi0]
    rw [h2, Bool.and_false]
    split
    · rw [h1, h2]
    · simp
theorem lb_or {F : Int64} {s q : Nat} (hs : s < 64) (hq : q < 64) : lb (F ||| (1 <<< ((zI (s : Int)).toInt64 &&& 63))) q = (lb F q || decide (q = s)) := by
  unfold lb
  have e1 : ((1 : Int64) <<< ((zI (s : Int)).toInt64 &&& 63)).toBitVec = (1#64) <<< s := by
    show (1#64) <<< (((zI (s : Int)).toInt64 &&& 63).toBitVec.smod 64) = _
    rw [BitVec.shiftLeft_eq', sh_ok hs]
  rw [Int64.toBitVec_or, BitVec.getLsbD_or, e1, BitVec.getLsbD_shiftLeft]
  by_cases h : q = s
  · subst h; simp [hq]
  · by_cases h2 : q < s
    · simp [h, h2]
    · have : q - s ≠ 0 := by omega
      simp [h, h2, BitVec.getLsbD_one, this]
theorem lb_0 (q : Nat) : lb 0 q = false := by unfold lb; have : (0 : Int64).toBitVec = 0#64 := rfl
                                              rw [this]; simp
theorem shl_fin : ∀ p : Fin 6, zI 1 <<< (zI ((p : Nat) : Int) &&& 31) = zI (2 ^ (p : Nat)) := by decide +kernel
theorem lgc (b : Bool) : lg_cmp (if b = true then 1 else 0) 1 = zI (if b = true then 0 else -1) := by cases b <;> decide +kernel
theorem bit_sub_fin : ∀ S : Fin 64, ∀ p : Fin 6, bit ((S : Nat) : Int) ((p : Nat) : Int) = 1 → 2 ^ (p : Nat) ≤ (S : Nat) ∧ ∀ q : Fin 6, bit (((S : Nat) - 2 ^ (p : Nat) : Nat) : Int) ((q : Nat) : Int) = if p = q then 0 else bit ((S : Nat) : Int) ((q : Nat) : Int) := by decide +kernel
theorem bit_sub {S p : Nat} (hS : S < 64) (hp : p < 6) (h : bit S p = 1) : 2 ^ p ≤ S := (bit_sub_fin ⟨S, hS⟩ ⟨p, hp⟩ h).1
theorem bit_sub0 {S p q : Nat} (hS : S < 64) (hp : p < 6) (hq : q < 6) (h : bit S p = 1) (h2 : bit S q = 0) : bit ((S - 2 ^ p : Nat) : Int) q = 0 := by
  have := (bit_sub_fin ⟨S, hS⟩ ⟨p, hp⟩ h).2 ⟨q, hq⟩
  simp only at this
  rw [this]
  split
  · rfl
  · exact h2
theorem bit_ok2 {S p : Int} (hS : 0 ≤ S ∧ S < 64) (hp : 0 ≤ p ∧ p < 6) : zI ((zI S >>> (zI p &&& 31)).toInt) &&& zI 1 = zI (bit S p) := by rw [zI_of]; exact bit_ok hS hp
/-- a part with one post less for which f holds -/
def hfp (f : Nat → Bool) (S : Nat) : Nat → Bool
  | 0 => false
  | k + 1 => hfp f S k || (decide (bit S k = 1) && f (S - 2 ^ k))

def fl (v : List Int) (S : Nat) : Bool := decide (wF S v = [])
/-- a rope falls by a set, but by no smaller part of it -/
def mn (v : List Int) (S : Nat) : Bool := fl v S && !hfp (fl v) S 6
theorem hfp_iff {f : Nat → Bool} {S : Nat} : ∀ m, hfp f S m = true ↔ ∃ p, p < m ∧ bit S p = 1 ∧ f (S - 2 ^ p) = true
  | 0 => by simp [hfp]
  | m + 1 => by
    rw [hfp, Bool.or_eq_true, hfp_iff m, Bool.and_eq_true, decide_eq_true_eq]
    constructor
    · rintro (⟨p, h1, h2⟩ | h)
      · exact ⟨p, by omega, h2⟩
      · exact ⟨m, by omega, h⟩
    · rintro ⟨p, h1, h2⟩
      by_cases hp : p = m
      · subst hp; exact Or.inr h2
      · exact Or.inl ⟨p, by omega, h2⟩
theorem fl_mono {v : List Int} (hv : Cr v) {S : Nat} (hS : S < 64) (h : hfp (fl v) S 6 = true) : fl v S = true := by
  obtain ⟨p, hp, hb, hf⟩ := (hfp_iff 6).mp h
  unfold fl at hf ⊢
  have h1 := of_decide_eq_true hf
  refine decide_eq_true (wF_mono hv (fun q hq h0 => ?_) h1)
  have := bit_sub0 (q := q.toNat) hS hp (by omega) hb (by rw [show ((q.toNat : Nat) : Int) = q by omega]; exact h0)
  rwa [show ((q.toNat : Nat) : Int) = q by omega] at this
def cF (v : List Int) : Nat → Nat
  | 0 => 0
  | k + 1 => if mn v k = true then cF v k + 1 else cF v k
def bF (v : List Int) : Nat → Nat
  | 0 => 63
  | k + 1 => if mn v k = true ∧ bcn k < bcn (bF v k) then k else bF v k
theorem bF_lt (v : List Int) : ∀ k, k ≤ 64 → bF v k < 64
  | 0, _ => by simp [bF]
  | k + 1, h => by have := bF_lt v k (by omega); rw [bF]; split <;> omega
theorem cF_le (v : List Int) : ∀ k, cF v k ≤ k
  | 0 => Nat.le_refl _
  | k + 1 => by have := cF_le v k; rw [cF]; split <;> omega
abbrev rope (A : Ab) (z : Int) : List Int := A.2.getD z.toNat []
theorem isS1w {g : GE} {z : Int} (h : 0 ≤ z ∧ z < 4) : IsW g (4 + 2 * z.toNat) 120 := by
  have := (isS_1 (g := g)).w (k := z.toNat) (by omega)
  rwa [show 1 + 3 + 2 * z.toNat = 4 + 2 * z.toNat by omega] at this
theorem rope_at {z : Int} (h : 0 ≤ z ∧ z < 4) : ([some 4, some 6, some 8, some 10] : List (Option Nat)).getD z.toNat none = some (4 + 2 * z.toNat) := by
  have := ropes_at (s := 1) (k := z.toNat) (z := z) (by omega) (by omega)
  rwa [show 1 + 3 + 2 * z.toNat = 4 + 2 * z.toNat by omega] at this
theorem Sd.rope {M : Mem} {A : Ab} (h : Sd M 1 A) {z : Int} (hz : 0 ≤ z ∧ z < 4) : Wd M (4 + 2 * z.toNat) (rope A z) ∧ (rope A z).length ≤ 120 := by
  have h1 := h.2.2 z.toNat (by omega)
  rw [show 1 + 3 + 2 * z.toNat = 4 + 2 * z.toNat by omega] at h1
  exact ⟨h1, (h.1.2.2.2 z.toNat (by omega)).2⟩
def fellA (A : Ab) (z w : Int) : Int := if 0 ≤ z ∧ z < 4 then (if w < 0 ∨ 1 < w then -2 else if w = 0 then cF (rope A z) 64 else bF (rope A z) 64) else -1
end
section
/-! the pad: what is open, the fault -/
def crs (c : Int) : Int := if 97 ≤ c ∧ c ≤ 102 then c - 97 else if 65 ≤ c ∧ c ≤ 70 then c - 65 + 6 else -1
/-- what is open, the innermost first: sign, start, middle -/
def OpR (M : Mem) (os : List (Int × Int × Int)) : Prop := M 104 5 = os.length ∧ os.length ≤ 4 ∧ ∀ (j : Nat) (e : Int × Int × Int), os[j]? = some e → M 106 (os.length - 1 - j : Nat) = e.1 ∧ M 107 (os.length - 1 - j : Nat) = e.2.1 ∧ M 108 (os.length - 1 - j : Nat) = e.2.2
def OffP (M M' : Mem) : Prop := (∀ a, a ≠ 104 → a ≠ 106 → a ≠ 107 → a ≠ 108 → M' a = M a) ∧ ∀ k, k ≠ 5 → M' 104 k = M 104 k
theorem OffP.rf {M : Mem} : OffP M M := ⟨fun _ _ _ _ _ => rfl, fun _ _ => rfl⟩
theorem OffP.tr {M M' M'' : Mem} (h : OffP M M') (k : OffP M' M'') : OffP M M'' := ⟨fun a h1 h2 h3 h4 => (k.1 a h1 h2 h3 h4).trans (h.1 a h1 h2 h3 h4), fun j hj => (k.2 j hj).trans (h.2 j hj)⟩
theorem OpR.pop {M : Mem} {e : Int × Int × Int} {t : List (Int × Int × Int)} (h : OpR M (e :: t)) {z : Int} (hz : z = t.length) : OpR (up M 104 5 z) t := by
  obtain ⟨h1, h2, h3⟩ := h
  rw [List.length_cons] at h2
  refine ⟨by rw [up_s, hz], by omega, fun j d hj => ?_⟩
  have := h3 (j + 1) d (by rw [List.getElem?_cons_succ]; exact hj)
  have hj2 := (List.getElem?_eq_some_iff.mp hj).1
  rw [List.length_cons, show t.length + 1 - 1 - (j + 1) = t.length - 1 - j by omega] at this
  rw [up_i (by omega), up_i (by omega), up_i (by omega)]
  exact this

def inn : List (Int × Int × Int) → Int
  | [] => 0
  | e :: _ => e.1
/-- one character more: the stage and what is open behind it -/
def fcl (os : List (Int × Int × Int)) (c : Int) : Option (Int × List (Int × Int × Int)) := match os with
  | [] => none
  | e :: t => if c = 44 ∧ e.1 = 91 then some (0, (44, e.2.1, 0) :: t) else if (c = 41 ∧ e.1 = 40) ∨ (c = 93 ∧ e.1 = 44) then some (1, t) else none
def fst (sg : Int) (os : List (Int × Int × Int)) (c : Int) : Option (Int × List (Int × Int × Int)) :=
  if crs c ≠ -1 then some (1, os) else if c = 40 ∨ c = 91 then (if os.length < 4 then some (0, (c, 0, 0) :: os) else none) else if sg = 0 then none else if c = 39 then (if sg = 1 then some (2, os) else none) else if 50 ≤ c ∧ c ≤ 57 then (if sg = 3 then none else some (3, os)) else fcl os c
/-- what a step's answer says -/
def FP (M : Mem) (o : Option (Int × List (Int × Int × Int))) (z : Int) (M' : Mem) : Prop := OffP M M' ∧ match o with
  | none => z = -1
  | some q => z = q.1 ∧ OpR M' q.2

/-- the fault of a text, from the place n on -/
def fgo : List Int → Int → Int → List (Int × Int × Int) → Int
  | [], n, sg, os => if sg = 0 ∨ os ≠ [] then n else -6
  | c :: cs, n, sg, os => match fst sg os c with
    | none => n
    | some q => fgo cs (n + 1) q.1 q.2
def faultT (w : List Int) : Int := fgo w 0 0 []
/-- the pad holds the text w -/
def Pw (M : Mem) (w : List Int) : Prop := M 104 1 = w.length ∧ w.length ≤ 60 ∧ (∀ k : Nat, k < w.length → M 105 k = w.getD k 0) ∧ ∀ c ∈ w, 33 ≤ c ∧ c ≤ 126
theorem Pw.off {M M' : Mem} {w : List Int} (h : Pw M w) (ho : OffP M M') : Pw M' w := by
  unfold Pw; rw [ho.2 1 (by omega), ho.1 105 (by omega) (by omega) (by omega) (by omega)]; exact h
theorem fst_ok {sg : Int} {os : List (Int × Int × Int)} {c : Int} {q : Int × List (Int × Int × Int)} (hs : ∀ e ∈ os, e.1 = 40 ∨ e.1 = 91 ∨ e.1 = 44) (h : fst sg os c = some q) : (0 ≤ q.1 ∧ q.1 ≤ 3) ∧ ∀ e ∈ q.2, e.1 = 40 ∨ e.1 = 91 ∨ e.1 = 44 := by
  unfold fst at h
  split at h
  · cases h; exact ⟨by omega, hs⟩
  · split at h
    · rename_i hc
      split at h
      · cases h
        refine ⟨by omega, fun e he => ?_⟩
        rcases List.mem_cons.mp he with rfl | he
        · rcases hc with rfl | rfl
          · exact Or.inl rfl
          · exact Or.inr (Or.inl rfl)
        · exact hs e he
      · cases h
    · split at h
      · cases h
      · split at h
        · split at h
          · cases h; exact ⟨by omega, hs⟩
          · cases h
        · split at h
          · split at h
            · cases h
            · cases h; exact ⟨by omega, hs⟩
          · unfold fcl at h
            split at h
            · cases h
            · rename_i e t _
              split at h
              · cases h
                refine ⟨by omega, fun d hd => ?_⟩
                rcases List.mem_cons.mp hd with rfl | hd
                · exact Or.inr (Or.inr rfl)
                · exact hs d (List.mem_cons_of_mem _ hd)
              · split at h
                · cases h; exact ⟨by omega, fun d hd => hs d (List.mem_cons_of_mem _ hd)⟩
                · cases h
end
section
/-! the pad: characters given as a number -/
def uN (v : Int64) : Nat := v.toBitVec.toNat
theorem uN_lt (v : Int64) : uN v < 2 ^ 64 := v.toBitVec.isLt
def lsr (v : Int64) (k : Int) : Int64 := (v.toUInt64 >>> ((zI k).toInt64.toUInt64 &&& Int64.toUInt64 63)).toInt64
theorem shu_fin : ∀ q : Fin 64, (((zI ((q : Nat) : Int)).toInt64.toUInt64 &&& Int64.toUInt64 63).toBitVec % 64).toNat = (q : Nat) := by decide +kernel
theorem uN_lsr (v : Int64) {k : Nat} (h : k < 64) : uN (lsr v k) = uN v / 2 ^ k := by
  have h1 := shu_fin ⟨k, h⟩
  simp only at h1
  show (v.toBitVec >>> (((zI (k : Int)).toInt64.toUInt64 &&& Int64.toUInt64 63).toBitVec % 64)).toNat = _
  rw [BitVec.ushiftRight_eq', h1, BitVec.toNat_ushiftRight, Nat.shiftRight_eq_div_pow]
  rfl
theorem uN_and (v : Int64) : uN (v &&& 255) = uN v % 256 := by
  show (v.toBitVec &&& 255#64).toNat = _
  rw [BitVec.toNat_and]
  have : (255#64).toNat = 2 ^ 8 - 1 := rfl
  rw [this, Nat.and_two_pow_sub_one_eq_mod]
  rfl
theorem l2i_and (v : Int64) : (v &&& 255).toInt32 = zI (uN v % 256 : Nat) := by
  have h := uN_and v
  have hlt : uN v % 256 < 256 := Nat.mod_lt _ (by decide)
  apply Int32.toBitVec.inj
  apply BitVec.eq_of_toNat_eq
  show ((v &&& 255).toBitVec.signExtend 32).toNat = (BitVec.ofInt 32 ((uN v % 256 : Nat) : Int)).toNat
  have e1 : (v &&& 255).toBitVec.signExtend 32 = (v &&& 255).toBitVec.setWidth 32 := BitVec.signExtend_eq_setWidth_of_le _ (by decide)
  rw [e1, BitVec.toNat_setWidth, BitVec.toNat_ofInt]
  have e2 : (v &&& 255).toBitVec.toNat = uN v % 256 := h
  rw [e2]
  omega
theorem lg0 (v : Int64) : (lg_cmp v 0).toInt = 0 ↔ uN v = 0 := by
  have e : v = 0 ↔ uN v = 0 := by
    constructor
    · intro h; rw [h]; rfl
    · intro h; exact Int64.toBitVec.inj (BitVec.eq_of_toNat_eq h)
  rw [← e]
  unfold lg_cmp
  by_cases h1 : v > 0
  · rw [if_pos h1]
    constructor
    · intro h; exact absurd h (by decide)
    · intro h; subst h; exact absurd h1 (by decide)
  · rw [if_neg h1]
    by_cases h2 : v = 0
    · rw [if_pos h2]; simp [h2]
    · rw [if_neg h2]
      constructor
      · intro h; exact absurd h (by decide)
      · intro h; exact absurd h h2
/-- how many characters a number holds: 0 if it holds none, or anything else -/
def chF : Nat → Nat → Nat → Nat
  | 0, k, _ => k
  | f + 1, k, r => if r = 0 then k else if 33 ≤ r % 256 ∧ r % 256 ≤ 126 then chF f (k + 1) (r / 256) else 0
def chIn (n : Nat) : Nat := chF 8 0 n
def chs (n m : Nat) : List Int := (List.range m).map (fun i => ((n / 256 ^ (m - 1 - i) % 256 : Nat) : Int))
theorem chF_le : ∀ (f k r : Nat), chF f k r ≤ k + f
  | 0, k, r => Nat.le_refl _
  | f + 1, k, r => by
    rw [chF]
    split
    · omega
    · split
      · have := chF_le f (k + 1) (r / 256); omega
      · omega
/-- the characters that were counted are characters -/
theorem chF_ok : ∀ (f k r : Nat), (chF f k r = 0 → k = 0 ∨ True) ∧ (0 < chF f k r → ∀ j, k + j < chF f k r → 33 ≤ r / 256 ^ j % 256 ∧ r / 256 ^ j % 256 ≤ 126)
  | 0, k, r => ⟨fun _ => Or.inr trivial, fun _ j h => by rw [chF] at h; omega⟩
  | f + 1, k, r => by
    refine ⟨fun _ => Or.inr trivial, fun hp j hj => ?_⟩
    rw [chF] at hp hj
    split at hj
    · omega
    · rename_i hr
      rw [if_neg hr] at hp
      split at hj
      · rename_i hc
        rw [if_pos hc] at hp
        cases j with
        | zero => simpa using hc
        | succ j =>
          have := (chF_ok f (k + 1) (r / 256)).2 hp j (by omega)
          rwa [Nat.div_div_eq_div_mul, show 256 * 256 ^ j = 256 ^ (j + 1) by rw [Nat.pow_succ, Nat.mul_comm]] at this
      · omega
theorem chs_len (n m : Nat) : (chs n m).length = m := by simp [chs]
theorem chs_mem {n m : Nat} (h : chIn n = m) (hm : 0 < m) : ∀ c ∈ chs n m, 33 ≤ c ∧ c ≤ 126 := by
  intro c hc
  obtain ⟨i, hi, rfl⟩ := List.mem_map.mp hc
  have hi2 := List.mem_range.mp hi
  have := (chF_ok 8 0 n).2 (by unfold chIn at h; omega) (m - 1 - i) (by unfold chIn at h; omega)
  omega

theorem OffP.up1 {M : Mem} : True := trivial
def Off104 (M M' : Mem) : Prop := ∀ a, a ≠ 104 → a ≠ 105 → M' a = M a
theorem getD_snoc {w : List Int} {c : Int} {k : Nat} : (w ++ [c]).getD k 0 = if k < w.length then w.getD k 0 else if k = w.length then c else 0 := by
  simp only [List.getD_eq_getElem?_getD]
  by_cases h : k < w.length
  · rw [if_pos h, List.getElem?_append_left h]
  · rw [if_neg h, List.getElem?_append_right (by omega)]
    by_cases h2 : k = w.length
    · rw [if_pos h2, h2]; simp
    · rw [if_neg h2, List.getElem?_eq_none (by simp; omega)]; rfl
theorem chs_take {n m i : Nat} (h : i < m) : (chs n m).take (i + 1) = (chs n m).take i ++ [((n / 256 ^ (m - 1 - i) % 256 : Nat) : Int)] := by
  have hl := chs_len n m
  rw [List.take_succ_eq_append_getElem (by omega)]
  congr 2
  simp [chs]
end
section
/-! the pad read as a word -/
abbrev Os : Type := List (Int × Int × Int)
def sgn (os : Os) : List Int := os.map (fun e => e.1)
/-- one character read -/
def rst (w : List Int) (b : Nat) (os : Os) (c : Int) : List Int × Nat × Os :=
  if crs c ≠ -1 then (w ++ [crs c], w.length, os)
  else if c = 40 ∨ c = 91 then (w, b, (c, w.length, w.length) :: os)
  else if c = 44 then (w, b, match os with | [] => [] | e :: t => (44, e.2.1, w.length) :: t)
  else if c = 39 then (turnF w b, b, os)
  else if 50 ≤ c ∧ c ≤ 57 then (w ++ rpt ((c - 48).toNat - 1) (w.drop b), b, os)
  else match os with
    | [] => (w, b, [])
    | e :: t => (if c = 41 then w else w ++ (trn (slc w e.2.1.toNat e.2.2.toNat) ++ trn (slc w e.2.2.toNat w.length)), e.2.1.toNat, t)
def rgo : List Int → List Int → Nat → Os → List Int
  | [], w, _, _ => w
  | c :: cs, w, b, os => rgo cs (rst w b os c).1 (rst w b os c).2.1 (rst w b os c).2.2
/-- the word of a text -/
def textW (t : List Int) : List Int := rgo t [] 0 []
def OkR (w : List Int) (b : Nat) (os : Os) : Prop := Cr w ∧ b ≤ w.length ∧ ∀ e ∈ os, 0 ≤ e.2.1 ∧ e.2.1 ≤ e.2.2 ∧ e.2.2 ≤ w.length
theorem crs_rg {c : Int} (h : crs c ≠ -1) : 0 ≤ crs c ∧ crs c < 12 := by
  unfold crs at h ⊢
  split
  · omega
  · rename_i h1
    rw [if_neg h1] at h
    split
    · omega
    · rename_i h2; rw [if_neg h2] at h; exact absurd rfl h
theorem rst_ok {w : List Int} {b : Nat} {os : Os} {c : Int} (h : OkR w b os) : OkR (rst w b os c).1 (rst w b os c).2.1 (rst w b os c).2.2 ∧ w.length ≤ (rst w b os c).1.length := by
  obtain ⟨h1, h2, h3⟩ := h
  unfold rst
  split
  · rename_i hc
    refine ⟨⟨h1.app (Cr.one (crs_rg hc)), by simp, fun e he => ?_⟩, by simp⟩
    have := h3 e he; simp only [List.length_append, List.length_cons, List.length_nil]; omega
  · split
    · refine ⟨⟨h1, h2, fun e he => ?_⟩, Nat.le_refl _⟩
      rcases List.mem_cons.mp he with rfl | he
      · simp
      · exact h3 e he
    · split
      · refine ⟨⟨h1, h2, ?_⟩, Nat.le_refl _⟩
        cases os with
        | nil => intro e he; cases he
        | cons e t =>
          intro d hd
          rcases List.mem_cons.mp hd with rfl | hd
          · have := h3 e List.mem_cons_self; simp only; omega
          · exact h3 d (List.mem_cons_of_mem _ hd)
      · split
        · have e1 := turnF_len h2
          refine ⟨⟨turnF_cr h1 b, by simp only [e1]; exact h2, fun e he => ?_⟩, by simp only [e1]; exact Nat.le_refl _⟩
          have := h3 e he; simp only [e1]; exact this
        · split
          · refine ⟨⟨h1.app (rpt_cr (h1.drop b) _), by simp only [List.length_append]; omega, fun e he => ?_⟩, by simp only [List.length_append]; omega⟩
            have := h3 e he; simp only [List.length_append]; omega
          · cases os with
            | nil => exact ⟨⟨h1, h2, fun e he => by cases he⟩, Nat.le_refl _⟩
            | cons e t =>
              have he := h3 e List.mem_cons_self
              simp only
              split
              · exact ⟨⟨h1, by omega, fun d hd => h3 d (List.mem_cons_of_mem _ hd)⟩, Nat.le_refl _⟩
              · refine ⟨⟨h1.app ((cr_trn (slc_cr h1 _ _)).app (cr_trn (slc_cr h1 _ _))), by simp only [List.length_append]; omega, fun d hd => ?_⟩, by simp only [List.length_append]; omega⟩
                have := h3 d (List.mem_cons_of_mem _ hd); simp only [List.length_append]; omega
theorem rgo_len : ∀ (cs w : List Int) (b : Nat) (os : Os), OkR w b os → w.length ≤ (rgo cs w b os).length
  | [], w, b, os, _ => Nat.le_refl _
  | c :: cs, w, b, os, h => by
    have h1 := rst_ok (c := c) h
    have h2 := rgo_len cs _ _ _ h1.1
    rw [rgo]; omega
theorem rgo_cr : ∀ (cs w : List Int) (b : Nat) (os : Os), OkR w b os → Cr (rgo cs w b os)
  | [], w, b, os, h => h.1
  | c :: cs, w, b, os, h => by rw [rgo]; exact rgo_cr cs _ _ _ (rst_ok h).1
theorem textW_cr (t : List Int) : Cr (textW t) := rgo_cr t [] 0 [] ⟨(fun c h => by cases h), Nat.le_refl _, (fun e h => by cases h)⟩
/-- what a step without a fault says of what is open -/
theorem fst_sg {sg : Int} {o0 os : Os} {c : Int} {q : Int × Os} {w : List Int} {b : Nat} (hs : sgn o0 = sgn os) (h : fst sg o0 c = some q) : sgn q.2 = sgn (rst w b os c).2.2 ∧ (crs c = -1 → ¬ (c = 40 ∨ c = 91) → c = 44 → os ≠ []) ∧ (crs c = -1 → (c = 40 ∨ c = 91) → os.length < 4) ∧ (crs c = -1 → ¬ (c = 40 ∨ c = 91) → c ≠ 44 → c ≠ 39 → ¬ (50 ≤ c ∧ c ≤ 57) → os ≠ [] ∧ (c = 41 ∨ c = 93)) := by
  have hl : o0.length = os.length := by have := congrArg List.length hs; simpa [sgn] using this
  unfold fst at h
  unfold rst
  split at h
  · rename_i hc
    cases h
    rw [if_pos hc]
    exact ⟨hs, fun h => absurd h hc, fun h => absurd h hc, fun h => absurd h hc⟩
  · rename_i hc
    rw [if_neg hc]
    split at h
    · rename_i h40
      rw [if_pos h40]
      split at h
      · rename_i h4
        cases h
        exact ⟨by simp only [sgn, List.map_cons] at hs ⊢; rw [hs], fun _ h => absurd h40 h, fun _ _ => by omega, fun _ h => absurd h40 h⟩
      · cases h
    · rename_i h40
      rw [if_neg h40]
      split at h
      · cases h
      · split at h
        · rename_i h39
          split at h
          · cases h
            rw [if_neg (by omega), if_pos h39]
            exact ⟨hs, fun _ _ h => by omega, fun _ h => absurd h h40, fun _ _ _ h => absurd h39 h⟩
          · cases h
        · rename_i h39
          split at h
          · rename_i hd
            split at h
            · cases h
            · cases h
              rw [if_neg (by omega), if_neg h39, if_pos hd]
              exact ⟨hs, fun _ _ h => by omega, fun _ h => absurd h h40, fun _ _ _ _ h => absurd hd h⟩
          · rename_i hd
            unfold fcl at h
            split at h
            · cases h
            · rename_i e0 t0
              cases os with
              | nil => simp at hl
              | cons e t =>
                simp only [sgn, List.map_cons] at hs
                injection hs with hs1 hs2
                split at h
                · rename_i h44
                  cases h
                  rw [if_pos h44.1]
                  exact ⟨by simp only [sgn, List.map_cons]; rw [hs2], (fun _ _ _ h => by cases h), fun _ h => absurd h h40, fun _ _ h => absurd h44.1 h⟩
                · split at h
                  · rename_i h44 h41
                    cases h
                    rw [if_neg (by omega), if_neg h39, if_neg hd]
                    exact ⟨hs2, (fun _ _ _ h => by cases h), fun _ h => absurd h h40, fun _ _ _ _ _ => ⟨(fun h => by cases h), by omega⟩⟩
                  · cases h

theorem slc_ap {w s : List Int} {a b : Nat} (h : b ≤ w.length) : slc (w ++ s) a b = slc w a b := by unfold slc; rw [List.take_append_of_le_length h]
def OffR (M M' : Mem) : Prop := (∀ a, a ≠ 104 → a ≠ 106 → a ≠ 107 → a ≠ 108 → a ≠ 114 → a ≠ 115 → M' a = M a) ∧ ∀ k, k ≠ 5 → M' 104 k = M 104 k
theorem OffR.tr {M M' M'' : Mem} (h : OffR M M') (k : OffR M' M'') : OffR M M'' := ⟨fun a h1 h2 h3 h4 h5 h6 => (k.1 a h1 h2 h3 h4 h5 h6).trans (h.1 a h1 h2 h3 h4 h5 h6), fun j hj => (k.2 j hj).trans (h.2 j hj)⟩
theorem OffP.r {M M' : Mem} (h : OffP M M') : OffR M M' := ⟨fun a h1 h2 h3 h4 _ _ => h.1 a h1 h2 h3 h4, h.2⟩
theorem Off.r {M M' : Mem} (h : Off 114 M M') : OffR M M' := ⟨fun a _ _ _ _ h5 h6 => h a h5 h6, fun k _ => by rw [h 104 (by omega) (by omega)]⟩
theorem OpR.off {M M' : Mem} {os : Os} (h : OpR M os) (ho : Off 114 M M') : OpR M' os := by
  unfold OpR; rw [ho 104 (by omega) (by omega), ho 106 (by omega) (by omega), ho 107 (by omega) (by omega), ho 108 (by omega) (by omega)]; exact h
theorem Wd.offP {M M' : Mem} {w : List Int} (h : Wd M 114 w) (ho : OffP M M') : Wd M' 114 w := h.same (ho.1 114 (by omega) (by omega) (by omega) (by omega)) (ho.1 115 (by omega) (by omega) (by omega) (by omega))
theorem Pw.offR {M M' : Mem} {w : List Int} (h : Pw M w) (ho : OffR M M') : Pw M' w := by
  unfold Pw; rw [ho.2 1 (by omega), ho.1 105 (by omega) (by omega) (by omega) (by omega) (by omega) (by omega)]; exact h
end
section
/-! the class's own methods, over one abstract state -/
/-- now, the past, the two slots, the pad -/
abbrev Sg : Type := Ab × List Ab × (Option Ab × Option Ab) × List Int
def slo (σ : Sg) (k : Nat) : Option Ab := if k = 0 then σ.2.2.1.1 else σ.2.2.1.2
def Inv (M : Mem) (σ : Sg) : Prop := Sd M 1 σ.1 ∧ Pd M σ.2.1 ∧ (∀ k : Nat, k < 2 → M 103 k = if (slo σ k).isSome = true then 1 else 0) ∧ (∀ (k : Nat) (A : Ab), k < 2 → slo σ k = some A → Sd M (81 + 11 * k) A) ∧ Pw M σ.2.2.2
abbrev rcd (σ : Sg) : List Ab × (Option Ab × Option Ab) × List Int := ((σ.1 :: σ.2.1).take 6, σ.2.2)
/-- the answer, and the state behind it; the reference's cells stay -/
def PO (M : Mem) (q : Int × Sg) : Int → Mem → Prop := fun z M' => z = q.1 ∧ Inv M' q.2 ∧ ∀ a, 120 ≤ a → M' a = M a
theorem Inv.same {M M' : Mem} {σ : Sg} (h : Inv M σ) (ho : ∀ a, a < 114 → M' a = M a) : Inv M' σ := by
  obtain ⟨h1, h2, h3, h4, h5⟩ := h
  refine ⟨h1.same (fun a _ _ => ho a (by omega)), h2.same (fun a _ _ => ho a (by omega)), fun k hk => by rw [ho 103 (by omega)]; exact h3 k hk, fun k A hk hs => (h4 k A hk hs).same (fun a _ _ => ho a (by omega)), ?_⟩
  unfold Pw; rw [ho 104 (by omega), ho 105 (by omega)]; exact h5
theorem Inv.set {M M' : Mem} {A A' : Ab} {ρ : List Ab × (Option Ab × Option Ab) × List Int} (h : Inv M (A, ρ)) (hA : Sd M' 1 A') (ho : ∀ a, 12 ≤ a → a < 114 → M' a = M a) : Inv M' (A', ρ) := by
  obtain ⟨h1, h2, h3, h4, h5⟩ := h
  refine ⟨hA, h2.same (fun a _ _ => ho a (by omega) (by omega)), fun k hk => by rw [ho 103 (by omega) (by omega)]; exact h3 k hk, fun k A hk hs => (h4 k A hk hs).same (fun a _ _ => ho a (by omega) (by omega)), ?_⟩
  unfold Pw; rw [ho 104 (by omega) (by omega), ho 105 (by omega) (by omega)]; exact h5
theorem Inv.rec {M M' : Mem} {σ : Sg} (h : Inv M σ) (hp : Pd M' ((σ.1 :: σ.2.1).take 6) ∧ ∀ a, (a < 12 ∨ 80 ≤ a) → M' a = M a) : Inv M' (σ.1, rcd σ) := by
  obtain ⟨h1, h2, h3, h4, h5⟩ := h
  obtain ⟨hp, ho⟩ := hp
  refine ⟨h1.same (fun a _ _ => ho a (by omega)), hp, fun k hk => by rw [ho 103 (by omega)]; exact h3 k hk, fun k A hk hs => (h4 k A hk hs).same (fun a _ _ => ho a (by omega)), ?_⟩
  unfold Pw; rw [ho 104 (by omega), ho 105 (by omega)]; exact h5
def setR (A : Ab) (z : Int) (v : List Int) : Ab := (A.1, A.2.set z.toNat v)
theorem getD_set {α : Type} {l : List α} {i j : Nat} {v d : α} (hi : i < l.length) : (l.set i v).getD j d = if j = i then v else l.getD j d := by
  simp only [List.getD_eq_getElem?_getD, List.getElem?_set]
  by_cases h : j = i
  · subst h; simp [hi]
  · rw [if_neg (Ne.symm h), if_neg h]
theorem Sd.setR {M M' : Mem} {A : Ab} (h : Sd M 1 A) {z : Int} (hz : 0 ≤ z ∧ z < 4) {v : List Int} (hw : Wd M' (4 + 2 * z.toNat) v) (ho : Off (4 + 2 * z.toNat) M M') (hl : v.length ≤ 120) : Sd M' 1 (setR A z v) := by
  obtain ⟨⟨a1, a2, a3, a4⟩, h2, h3⟩ := h
  have hzl : z.toNat < A.2.length := by omega
  refine ⟨⟨a1, by show (A.2.set z.toNat v).length = 4; rw [List.length_set]; exact a2, a3, fun r hr => ?_⟩, fun p hp => by rw [ho 2 (by omega) (by omega)]; exact h2 p hp, fun r hr => ?_⟩
  · show Cr ((A.2.set z.toNat v).getD r []) ∧ ((A.2.set z.toNat v).getD r []).length ≤ 120
    rw [getD_set hzl]
    split
    · exact ⟨hw.2.2, hl⟩
    · exact a4 r hr
  · show Wd M' (1 + 3 + 2 * r) ((A.2.set z.toNat v).getD r [])
    rw [getD_set hzl]
    split
    · rename_i hrz; subst hrz; rw [show 1 + 3 + 2 * z.toNat = 4 + 2 * z.toNat by omega]; exact hw
    · exact (h3 r hr).off ho (by omega) (by omega) (by omega)

theorem c_X4_dropLast {g : GE} {l : Launch} {M : Mem} {i cap : Nat} {w : List Int} (hW : IsW g i cap) (hw : Wd M i w) (hc : w.length ≤ cap) {m : Nat} (hm : m ≤ w.length) : Cv g l μX4_dropLast [vR g i, vI m] M (fun M' => Wd M' i (w.take (w.length - m)) ∧ Off i M M') := by
  refine Cv.of (by decide +kernel) rfl rfl (fun x hx hr => ?_)
  have hl := hw.1; have h480 := hW.2.2.2.2
  refine k_aload_n hx dX4_dropLast_0 0 rfl ?_
  refine k_iconst hx dX4_dropLast_1 ?_
  refine k_aload_n hx dX4_dropLast_2 0 rfl ?_
  refine k_get (v := vI w.length) hx fX4_21 dX4_dropLast_3 hW.2.2.1 hW.1 (congrArg vI (show M i 1 = w.length from hl)) ?_
  refine k_iload_n hx dX4_dropLast_6 1 rfl ?_
  refine k_isub hx dX4_dropLast_7 ?_
  refine k_sp (rest := [vR g i]) (e := (max 0 (w.length - m))) hx sX4_9 dX4_dropLast_8 (c_max (a := 0) (b := (w.length - m)) (by omega)) rfl rfl rfl ⟨rfl, rfl⟩ ⟨by decide, by decide⟩ ?_
  refine k_putI (kz := 1) hx fX4_21 dX4_dropLast_11 hW.2.2.1 hW.1 rfl rfl (fun M_11 hM_11 => ?_)
  refine k_rv hx hr dX4_dropLast_14 ?_
  have e : max 0 ((w.length : Int) - m) = ((w.length - m : Nat) : Int) := by omega
  rw [e] at hM_11
  subst hM_11
  exact ⟨hw.cut (by omega), off_up⟩
def aWidth (σ : Sg) (z w : Int) : Int × Sg := if 0 ≤ z ∧ z < 6 then (if w < 1 ∨ 99 < w then (-2, σ) else (σ.1.1.getD z.toNat 0, ((σ.1.1.set z.toNat w, σ.1.2), rcd σ))) else (-1, σ)
def aCross (σ : Sg) (z c : Int) : Int × Sg := if 0 ≤ z ∧ z < 4 then (if c < 0 ∨ 12 ≤ c then (-2, σ) else if 120 ≤ (rope σ.1 z).length then (-4, σ) else ((rope σ.1 z).length + 1, (setR σ.1 z (rope σ.1 z ++ [c]), rcd σ))) else (-1, σ)
def aBack (σ : Sg) (z m : Int) : Int × Sg := if 0 ≤ z ∧ z < 4 then (if m < 1 ∨ 120 < m then (-2, σ) else if (rope σ.1 z).length < m then (-5, σ) else ((rope σ.1 z).length - m, (setR σ.1 z ((rope σ.1 z).take ((rope σ.1 z).length - m.toNat)), rcd σ))) else (-1, σ)
def aPull (σ : Sg) (z : Int) : Int × Sg := if 0 ≤ z ∧ z < 4 then (((rope σ.1 z).length - (red (rope σ.1 z)).length) / 2, (setR σ.1 z (red (rope σ.1 z)), rcd σ)) else (-1, σ)
def aJoin (σ : Sg) (z y : Int) : Int × Sg := if (0 ≤ z ∧ z < 4) ∧ (0 ≤ y ∧ y < 4) then (if 120 < (rope σ.1 z).length + (rope σ.1 y).length then (-4, σ) else ((rope σ.1 z).length + (rope σ.1 y).length, (setR σ.1 z (rope σ.1 z ++ rope σ.1 y), rcd σ))) else (-1, σ)
def aTurn (σ : Sg) (z : Int) : Int × Sg := if 0 ≤ z ∧ z < 4 then ((rope σ.1 z).length, (setR σ.1 z (trn (rope σ.1 z)), rcd σ)) else (-1, σ)
def wv (σ : Sg) (z y : Int) : List Int := red (rope σ.1 z ++ rope σ.1 y ++ trn (rope σ.1 z) ++ trn (rope σ.1 y))
def aWeave (σ : Sg) (z y : Int) : Int × Sg := if ((0 ≤ z ∧ z < 4) ∧ (0 ≤ y ∧ y < 4)) ∧ z ≠ y then (if 120 < (wv σ z y).length then (-4, σ) else ((wv σ z y).length, (setR σ.1 z (wv σ z y), rcd σ))) else (-1, σ)
theorem turnF_0 (w : List Int) : turnF w 0 = trn w := by simp [turnF]

theorem c_X5_width {g : GE} {l : Launch} {M : Mem} {σ : Sg} (hI : Inv M σ) {z : Int} (hzr : -2147483648 ≤ z ∧ z < 2147483648) {w : Int} (hwr : -2147483648 ≤ w ∧ w < 2147483648) : Ci g l μX5_width [vR g 0, vI z, vI w] M (PO M (aWidth σ z w)) := by
  refine Ci.of (by decide +kernel) rfl rfl (fun x hx hr => ?_)
  refine k_iload_n hx dX5_width_0 1 rfl ?_
  refine k_sp (rest := []) (e := (b2i (decide (0 ≤ z ∧ z < 6)))) hx sX5_60 dX5_width_1 (c_X5_isPost (z := z) (by omega)) rfl rfl rfl ⟨rfl, rfl⟩ ⟨by decide, by decide⟩ ?_
  refine k_bne hx dX5_width_4 (fun h_4 => ?_) (fun h_4 => ?_)
  · refine k_iload_n hx dX5_width_9 2 rfl ?_
    refine k_iconst hx dX5_width_10 ?_
    refine k_icmp_lt hx dX5_width_11 (by omega) (fun h_11 => ?_) (fun h_11 => ?_)
    · refine k_bipush hx dX5_width_20 (by decide +kernel) ?_
      refine k_ri hx hr dX5_width_22 ?_
      exact ⟨by unfold aWidth; rw [if_pos h_4, if_pos (by omega)], by unfold aWidth; rw [if_pos h_4, if_pos (by omega)]; exact hI, fun _ _ => rfl⟩
    · refine k_iload_n hx dX5_width_14 2 rfl ?_
      refine k_bipush hx dX5_width_15 (by decide +kernel) ?_
      refine k_icmp_le hx dX5_width_17 (by omega) (fun h_17 => ?_) (fun h_17 => ?_)
      · refine k_aload_n hx dX5_width_23 0 rfl ?_
        refine k_get (v := vR g 12) hx fX5_19 dX5_width_24 n_0 L_0 rfl ?_
        refine k_aload_n hx dX5_width_27 0 rfl ?_
        refine k_get (v := vR g 1) hx fX5_12 dX5_width_28 n_0 L_0 rfl ?_
        refine k_vv (rest := []) hx vX5_64 dX5_width_31 (c_X1_remember hI.2.1 hI.1) n_12 L_12 rfl rfl rfl ⟨rfl, rfl⟩ ⟨by decide, by decide⟩ (fun M_31 p_31 => ?_)
        have hI2 := hI.rec p_31
        have hS2 : Sd M_31 1 σ.1 := hI2.1
        have hoM : ∀ a, 120 ≤ a → M_31 a = M a := fun a ha => p_31.2 a (by omega)
        refine k_aload_n hx dX5_width_34 0 rfl ?_
        refine k_get (v := vR g 1) hx fX5_12 dX5_width_35 n_0 L_0 rfl ?_
        refine k_get (v := vR g 2) hx fX5_68 dX5_width_38 n_1 L_1 rfl ?_
        refine k_iload_n hx dX5_width_41 1 rfl ?_
        refine k_iald (v := (σ.1.1.getD z.toNat 0)) hx dX5_width_42 n_2 L_2 (by omega) (by decide) (by have := hS2.2.1 z.toNat (by omega); rwa [show ((z.toNat : Nat) : Int) = z by omega] at this) ?_
        refine k_istore_n (ls' := [(0, vR g 0), (1, vI z), (2, vI w), (3, vI (σ.1.1.getD z.toNat 0))]) hx dX5_width_43 rfl rfl (by decide) ?_
        refine k_aload_n hx dX5_width_44 0 rfl ?_
        refine k_get (v := vR g 1) hx fX5_12 dX5_width_45 n_0 L_0 rfl ?_
        refine k_get (v := vR g 2) hx fX5_68 dX5_width_48 n_1 L_1 rfl ?_
        refine k_iload_n hx dX5_width_51 1 rfl ?_
        refine k_iload_n hx dX5_width_52 2 rfl ?_
        refine k_iastN hx dX5_width_53 n_2 L_2 (by omega) (by decide) (fun M_53 hM_53 => ?_)
        refine k_iload_n hx dX5_width_54 3 rfl ?_
        refine k_ri hx hr dX5_width_55 ?_
        refine ⟨by unfold aWidth; rw [if_pos h_4, if_neg (by omega)], ?_, fun a ha => by rw [hM_53, up_i (by omega)]; exact hoM a ha⟩
        unfold aWidth
        rw [if_pos h_4, if_neg (by omega)]
        refine hI2.set ?_ (fun a h1 h2 => by rw [hM_53, up_i (by omega)])
        obtain ⟨⟨a1, a2, a3, a4⟩, h2, h3⟩ := hS2
        have hzl : z.toNat < σ.1.1.length := by omega
        refine ⟨⟨by show (σ.1.1.set z.toNat w).length = 6; rw [List.length_set]; exact a1, a2, fun p hp => ?_, a4⟩, fun p hp => ?_, fun r hr => (h3 r hr).same (by rw [hM_53, up_i (by omega)]) (by rw [hM_53, up_i (by omega)])⟩
        · show 1 ≤ (σ.1.1.set z.toNat w).getD p 0 ∧ (σ.1.1.set z.toNat w).getD p 0 ≤ 99
          rw [getD_set hzl]; split; omega; exact a3 p hp
        · show M_53 2 p = (σ.1.1.set z.toNat w).getD p 0
          rw [getD_set hzl, hM_53]
          split
          · rename_i hpz; subst hpz; rw [show ((z.toNat : Nat) : Int) = z by omega, up_s]
          · rw [up_k (by omega)]; exact h2 p hp
      · refine k_bipush hx dX5_width_20 (by decide +kernel) ?_
        refine k_ri hx hr dX5_width_22 ?_
        exact ⟨by unfold aWidth; rw [if_pos h_4, if_pos (by omega)], by unfold aWidth; rw [if_pos h_4, if_pos (by omega)]; exact hI, fun _ _ => rfl⟩
  · refine k_iconst hx dX5_width_7 ?_
    refine k_ri hx hr dX5_width_8 ?_
    exact ⟨by unfold aWidth; rw [if_neg h_4], by unfold aWidth; rw [if_neg h_4]; exact hI, fun _ _ => rfl⟩
theorem c_X5_cross {g : GE} {l : Launch} {M : Mem} {σ : Sg} (hI : Inv M σ) {z : Int} (hzr : -2147483648 ≤ z ∧ z < 2147483648) {c : Int} (hcr : -2147483648 ≤ c ∧ c < 2147483648) : Ci g l μX5_cross [vR g 0, vI z, vI c] M (PO M (aCross σ z c)) := by
  refine Ci.of (by decide +kernel) rfl rfl (fun x hx hr => ?_)
  refine k_iload_n hx dX5_cross_0 1 rfl ?_
  refine k_sp (rest := []) (e := (b2i (decide (0 ≤ z ∧ z < 4)))) hx sX5_72 dX5_cross_1 (c_X5_isRope (z := z) (by omega)) rfl rfl rfl ⟨rfl, rfl⟩ ⟨by decide, by decide⟩ ?_
  refine k_bne hx dX5_cross_4 (fun h_4 => ?_) (fun h_4 => ?_)
  · refine k_iload_n hx dX5_cross_9 2 rfl ?_
    refine k_iflt hx dX5_cross_10 (by omega) (fun h_10 => ?_) (fun h_10 => ?_)
    · refine k_bipush hx dX5_cross_19 (by decide +kernel) ?_
      refine k_ri hx hr dX5_cross_21 ?_
      exact ⟨by unfold aCross; rw [if_pos h_4, if_pos (by omega)], by unfold aCross; rw [if_pos h_4, if_pos (by omega)]; exact hI, fun _ _ => rfl⟩
    · refine k_iload_n hx dX5_cross_13 2 rfl ?_
      refine k_bipush hx dX5_cross_14 (by decide +kernel) ?_
      refine k_icmp_lt hx dX5_cross_16 (by omega) (fun h_16 => ?_) (fun h_16 => ?_)
      · refine k_aload_n hx dX5_cross_22 0 rfl ?_
        refine k_get (v := vR g 1) hx fX5_12 dX5_cross_23 n_0 L_0 rfl ?_
        refine k_get (v := vR g 3) hx fX5_75 dX5_cross_26 n_1 L_1 rfl ?_
        refine k_iload_n hx dX5_cross_29 1 rfl ?_
        obtain ⟨hv, hvl⟩ := hI.1.rope h_4
        refine k_aald (q := (4 + 2 * z.toNat)) hx dX5_cross_30 n_3 L_3 (by decide) (by simp only [List.length_cons, List.length_nil]; omega) (by decide) (rope_at h_4) ?_
        refine k_astore_n (ls' := [(0, vR g 0), (1, vI z), (2, vI c), (3, vR g (4 + 2 * z.toNat))]) hx dX5_cross_31 rfl rfl (by decide) ?_
        refine k_aload_n hx dX5_cross_32 3 rfl ?_
        refine k_get (v := vI ((rope σ.1 z).length)) hx fX5_79 dX5_cross_33 (isS1w (g := g) h_4).2.2.1 (isS1w (g := g) h_4).1 (congrArg vI (show M (4 + 2 * z.toNat) 1 = ((rope σ.1 z).length) from hv.1)) ?_
        refine k_bipush hx dX5_cross_36 (by decide +kernel) ?_
        refine k_icmp_lt hx dX5_cross_38 (by omega) (fun h_38 => ?_) (fun h_38 => ?_)
        · refine k_aload_n hx dX5_cross_44 0 rfl ?_
          refine k_get (v := vR g 12) hx fX5_19 dX5_cross_45 n_0 L_0 rfl ?_
          refine k_aload_n hx dX5_cross_48 0 rfl ?_
          refine k_get (v := vR g 1) hx fX5_12 dX5_cross_49 n_0 L_0 rfl ?_
          refine k_vv (rest := []) hx vX5_64 dX5_cross_52 (c_X1_remember hI.2.1 hI.1) n_12 L_12 rfl rfl rfl ⟨rfl, rfl⟩ ⟨by decide, by decide⟩ (fun M_52 p_52 => ?_)
          have hI2 := hI.rec p_52
          have hS2 : Sd M_52 1 σ.1 := hI2.1
          have hoM : ∀ a, 120 ≤ a → M_52 a = M a := fun a ha => p_52.2 a (by omega)
          have hv2 := (hS2.rope h_4).1
          refine k_aload_n hx dX5_cross_55 3 rfl ?_
          refine k_iload_n hx dX5_cross_56 2 rfl ?_
          refine k_vi (rest := []) hx vX5_83 dX5_cross_57 (c_X4_add (isS1w (g := g) h_4) hv2 hvl (by omega) (c := c) (by omega)) (isS1w (g := g) h_4).2.2.1 (isS1w (g := g) h_4).1 rfl rfl rfl ⟨rfl, rfl⟩ ⟨by decide, by decide⟩ (fun z_57 M_57 p_57 => ?_)
          obtain ⟨rfl, q1, q2, -⟩ := p_57
          refine k_pop hx dX5_cross_60 rfl ?_
          refine k_aload_n hx dX5_cross_61 3 rfl ?_
          refine k_get (v := vI ((rope σ.1 z).length + 1)) hx fX5_79 dX5_cross_62 (isS1w (g := g) h_4).2.2.1 (isS1w (g := g) h_4).1 (congrArg vI (show M_57 (4 + 2 * z.toNat) 1 = ((rope σ.1 z).length + 1) from by rw [q1.1]; simp)) ?_
          refine k_ri hx hr dX5_cross_65 ?_
          refine ⟨by unfold aCross; rw [if_pos h_4, if_neg (by omega), if_neg (by omega)], ?_, fun a ha => by rw [q2 a (by omega) (by omega)]; exact hoM a ha⟩
          unfold aCross
          rw [if_pos h_4, if_neg (by omega), if_neg (by omega)]
          exact hI2.set (hS2.setR h_4 q1 q2 (by rw [List.length_append]; simp only [List.length_singleton]; omega)) (fun a h1 h2 => q2 a (by omega) (by omega))
        · refine k_bipush hx dX5_cross_41 (by decide +kernel) ?_
          refine k_ri hx hr dX5_cross_43 ?_
          exact ⟨by unfold aCross; rw [if_pos h_4, if_neg (by omega), if_pos (by omega)], by unfold aCross; rw [if_pos h_4, if_neg (by omega), if_pos (by omega)]; exact hI, fun _ _ => rfl⟩
      · refine k_bipush hx dX5_cross_19 (by decide +kernel) ?_
        refine k_ri hx hr dX5_cross_21 ?_
        exact ⟨by unfold aCross; rw [if_pos h_4, if_pos (by omega)], by unfold aCross; rw [if_pos h_4, if_pos (by omega)]; exact hI, fun _ _ => rfl⟩
  · refine k_iconst hx dX5_cross_7 ?_
    refine k_ri hx hr dX5_cross_8 ?_
    exact ⟨by unfold aCross; rw [if_neg h_4], by unfold aCross; rw [if_neg h_4]; exact hI, fun _ _ => rfl⟩
theorem c_X5_back {g : GE} {l : Launch} {M : Mem} {σ : Sg} (hI : Inv M σ) {z : Int} (hzr : -2147483648 ≤ z ∧ z < 2147483648) {m : Int} (hmr : -2147483648 ≤ m ∧ m < 2147483648) : Ci g l μX5_back [vR g 0, vI z, vI m] M (PO M (aBack σ z m)) := by
  refine Ci.of (by decide +kernel) rfl rfl (fun x hx hr => ?_)
  refine k_iload_n hx dX5_back_0 1 rfl ?_
  refine k_sp (rest := []) (e := (b2i (decide (0 ≤ z ∧ z < 4)))) hx sX5_72 dX5_back_1 (c_X5_isRope (z := z) (by omega)) rfl rfl rfl ⟨rfl, rfl⟩ ⟨by decide, by decide⟩ ?_
  refine k_bne hx dX5_back_4 (fun h_4 => ?_) (fun h_4 => ?_)
  · refine k_iload_n hx dX5_back_9 2 rfl ?_
    refine k_iconst hx dX5_back_10 ?_
    refine k_icmp_lt hx dX5_back_11 (by omega) (fun h_11 => ?_) (fun h_11 => ?_)
    · refine k_bipush hx dX5_back_20 (by decide +kernel) ?_
      refine k_ri hx hr dX5_back_22 ?_
      exact ⟨by unfold aBack; rw [if_pos h_4, if_pos (by omega)], by unfold aBack; rw [if_pos h_4, if_pos (by omega)]; exact hI, fun _ _ => rfl⟩
    · refine k_iload_n hx dX5_back_14 2 rfl ?_
      refine k_bipush hx dX5_back_15 (by decide +kernel) ?_
      refine k_icmp_le hx dX5_back_17 (by omega) (fun h_17 => ?_) (fun h_17 => ?_)
      · refine k_aload_n hx dX5_back_23 0 rfl ?_
        refine k_get (v := vR g 1) hx fX5_12 dX5_back_24 n_0 L_0 rfl ?_
        refine k_get (v := vR g 3) hx fX5_75 dX5_back_27 n_1 L_1 rfl ?_
        refine k_iload_n hx dX5_back_30 1 rfl ?_
        obtain ⟨hv, hvl⟩ := hI.1.rope h_4
        refine k_aald (q := (4 + 2 * z.toNat)) hx dX5_back_31 n_3 L_3 (by decide) (by simp only [List.length_cons, List.length_nil]; omega) (by decide) (rope_at h_4) ?_
        refine k_astore_n (ls' := [(0, vR g 0), (1, vI z), (2, vI m), (3, vR g (4 + 2 * z.toNat))]) hx dX5_back_32 rfl rfl (by decide) ?_
        refine k_iload_n hx dX5_back_33 2 rfl ?_
        refine k_aload_n hx dX5_back_34 3 rfl ?_
        refine k_get (v := vI ((rope σ.1 z).length)) hx fX5_79 dX5_back_35 (isS1w (g := g) h_4).2.2.1 (isS1w (g := g) h_4).1 (congrArg vI (show M (4 + 2 * z.toNat) 1 = ((rope σ.1 z).length) from hv.1)) ?_
        refine k_icmp_le hx dX5_back_38 (by omega) (fun h_38 => ?_) (fun h_38 => ?_)
        · refine k_aload_n hx dX5_back_44 0 rfl ?_
          refine k_get (v := vR g 12) hx fX5_19 dX5_back_45 n_0 L_0 rfl ?_
          refine k_aload_n hx dX5_back_48 0 rfl ?_
          refine k_get (v := vR g 1) hx fX5_12 dX5_back_49 n_0 L_0 rfl ?_
          refine k_vv (rest := []) hx vX5_64 dX5_back_52 (c_X1_remember hI.2.1 hI.1) n_12 L_12 rfl rfl rfl ⟨rfl, rfl⟩ ⟨by decide, by decide⟩ (fun M_52 p_52 => ?_)
          have hI2 := hI.rec p_52
          have hS2 : Sd M_52 1 σ.1 := hI2.1
          have hoM : ∀ a, 120 ≤ a → M_52 a = M a := fun a ha => p_52.2 a (by omega)
          have hv2 := (hS2.rope h_4).1
          obtain ⟨mn, rfl⟩ : ∃ mn : Nat, m = mn := ⟨m.toNat, by omega⟩
          refine k_aload_n hx dX5_back_55 3 rfl ?_
          refine k_iload_n hx dX5_back_56 2 rfl ?_
          refine k_vv (rest := []) hx vX5_86 dX5_back_57 (c_X4_dropLast (isS1w (g := g) h_4) hv2 hvl (m := mn) (by omega)) (isS1w (g := g) h_4).2.2.1 (isS1w (g := g) h_4).1 rfl rfl rfl ⟨rfl, rfl⟩ ⟨by decide, by decide⟩ (fun M_57 p_57 => ?_)
          obtain ⟨q1, q2⟩ := p_57
          refine k_aload_n hx dX5_back_60 3 rfl ?_
          refine k_get (v := vI ((rope σ.1 z).length - (mn : Nat))) hx fX5_79 dX5_back_61 (isS1w (g := g) h_4).2.2.1 (isS1w (g := g) h_4).1 (congrArg vI (show M_57 (4 + 2 * z.toNat) 1 = ((rope σ.1 z).length - (mn : Nat)) from by rw [q1.1, List.length_take]; omega)) ?_
          refine k_ri hx hr dX5_back_64 ?_
          refine ⟨by unfold aBack; rw [if_pos h_4, if_neg (by omega), if_neg (by omega)], ?_, fun a ha => by rw [q2 a (by omega) (by omega)]; exact hoM a ha⟩
          unfold aBack
          rw [if_pos h_4, if_neg (by omega), if_neg (by omega)]
          exact hI2.set (hS2.setR h_4 q1 q2 (by rw [List.length_take]; omega)) (fun a h1 h2 => q2 a (by omega) (by omega))
        · refine k_bipush hx dX5_back_41 (by decide +kernel) ?_
          refine k_ri hx hr dX5_back_43 ?_
          exact ⟨by unfold aBack; rw [if_pos h_4, if_neg (by omega), if_pos (by omega)], by unfold aBack; rw [if_pos h_4, if_neg (by omega), if_pos (by omega)]; exact hI, fun _ _ => rfl⟩
      · refine k_bipush hx dX5_back_20 (by decide +kernel) ?_
        refine k_ri hx hr dX5_back_22 ?_
        exact ⟨by unfold aBack; rw [if_pos h_4, if_pos (by omega)], by unfold aBack; rw [if_pos h_4, if_pos (by omega)]; exact hI, fun _ _ => rfl⟩
  · refine k_iconst hx dX5_back_7 ?_
    refine k_ri hx hr dX5_back_8 ?_
    exact ⟨by unfold aBack; rw [if_neg h_4], by unfold aBack; rw [if_neg h_4]; exact hI, fun _ _ => rfl⟩
theorem c_X5_pull {g : GE} {l : Launch} {M : Mem} {σ : Sg} (hI : Inv M σ) {z : Int} (hzr : -2147483648 ≤ z ∧ z < 2147483648) : Ci g l μX5_pull [vR g 0, vI z] M (PO M (aPull σ z)) := by
  refine Ci.of (by decide +kernel) rfl rfl (fun x hx hr => ?_)
  refine k_iload_n hx dX5_pull_0 1 rfl ?_
  refine k_sp (rest := []) (e := (b2i (decide (0 ≤ z ∧ z < 4)))) hx sX5_72 dX5_pull_1 (c_X5_isRope (z := z) (by omega)) rfl rfl rfl ⟨rfl, rfl⟩ ⟨by decide, by decide⟩ ?_
  refine k_bne hx dX5_pull_4 (fun h_4 => ?_) (fun h_4 => ?_)
  · refine k_aload_n hx dX5_pull_9 0 rfl ?_
    refine k_get (v := vR g 12) hx fX5_19 dX5_pull_10 n_0 L_0 rfl ?_
    refine k_aload_n hx dX5_pull_13 0 rfl ?_
    refine k_get (v := vR g 1) hx fX5_12 dX5_pull_14 n_0 L_0 rfl ?_
    refine k_vv (rest := []) hx vX5_64 dX5_pull_17 (c_X1_remember hI.2.1 hI.1) n_12 L_12 rfl rfl rfl ⟨rfl, rfl⟩ ⟨by decide, by decide⟩ (fun M_17 p_17 => ?_)
    have hI2 := hI.rec p_17
    have hS2 : Sd M_17 1 σ.1 := hI2.1
    have hoM : ∀ a, 120 ≤ a → M_17 a = M a := fun a ha => p_17.2 a (by omega)
    obtain ⟨hv2, hvl⟩ := hS2.rope h_4
    have hrl := red_len_le (rope σ.1 z)
    refine k_aload_n hx dX5_pull_20 0 rfl ?_
    refine k_get (v := vR g 1) hx fX5_12 dX5_pull_21 n_0 L_0 rfl ?_
    refine k_get (v := vR g 3) hx fX5_75 dX5_pull_24 n_1 L_1 rfl ?_
    refine k_iload_n hx dX5_pull_27 1 rfl ?_
    refine k_aald (q := (4 + 2 * z.toNat)) hx dX5_pull_28 n_3 L_3 (by decide) (by simp only [List.length_cons, List.length_nil]; omega) (by decide) (rope_at h_4) ?_
    refine k_vi (rest := []) hx vX5_89 dX5_pull_29 (c_X4_cancelPairs (isS1w (g := g) h_4) hv2 hvl) (isS1w (g := g) h_4).2.2.1 (isS1w (g := g) h_4).1 rfl rfl rfl ⟨rfl, rfl⟩ ⟨by decide, by decide⟩ (fun z_29 M_29 p_29 => ?_)
    obtain ⟨q0, q1, q2⟩ := p_29
    refine k_ri hx hr dX5_pull_32 ?_
    refine ⟨by unfold aPull; rw [if_pos h_4]; exact q0, ?_, fun a ha => by rw [q2 a (by omega) (by omega)]; exact hoM a ha⟩
    unfold aPull
    rw [if_pos h_4]
    exact hI2.set (hS2.setR h_4 q1 q2 (Nat.le_trans hrl hvl)) (fun a h1 h2 => q2 a (by omega) (by omega))
  · refine k_iconst hx dX5_pull_7 ?_
    refine k_ri hx hr dX5_pull_8 ?_
    exact ⟨by unfold aPull; rw [if_neg h_4], by unfold aPull; rw [if_neg h_4]; exact hI, fun _ _ => rfl⟩
theorem c_X5_turn {g : GE} {l : Launch} {M : Mem} {σ : Sg} (hI : Inv M σ) {z : Int} (hzr : -2147483648 ≤ z ∧ z < 2147483648) : Ci g l μX5_turn [vR g 0, vI z] M (PO M (aTurn σ z)) := by
  refine Ci.of (by decide +kernel) rfl rfl (fun x hx hr => ?_)
  refine k_iload_n hx dX5_turn_0 1 rfl ?_
  refine k_sp (rest := []) (e := (b2i (decide (0 ≤ z ∧ z < 4)))) hx sX5_72 dX5_turn_1 (c_X5_isRope (z := z) (by omega)) rfl rfl rfl ⟨rfl, rfl⟩ ⟨by decide, by decide⟩ ?_
  refine k_bne hx dX5_turn_4 (fun h_4 => ?_) (fun h_4 => ?_)
  · refine k_aload_n hx dX5_turn_9 0 rfl ?_
    refine k_get (v := vR g 12) hx fX5_19 dX5_turn_10 n_0 L_0 rfl ?_
    refine k_aload_n hx dX5_turn_13 0 rfl ?_
    refine k_get (v := vR g 1) hx fX5_12 dX5_turn_14 n_0 L_0 rfl ?_
    refine k_vv (rest := []) hx vX5_64 dX5_turn_17 (c_X1_remember hI.2.1 hI.1) n_12 L_12 rfl rfl rfl ⟨rfl, rfl⟩ ⟨by decide, by decide⟩ (fun M_17 p_17 => ?_)
    have hI2 := hI.rec p_17
    have hS2 : Sd M_17 1 σ.1 := hI2.1
    have hoM : ∀ a, 120 ≤ a → M_17 a = M a := fun a ha => p_17.2 a (by omega)
    obtain ⟨hv2, hvl⟩ := hS2.rope h_4
    refine k_aload_n hx dX5_turn_20 0 rfl ?_
    refine k_get (v := vR g 1) hx fX5_12 dX5_turn_21 n_0 L_0 rfl ?_
    refine k_get (v := vR g 3) hx fX5_75 dX5_turn_24 n_1 L_1 rfl ?_
    refine k_iload_n hx dX5_turn_27 1 rfl ?_
    refine k_aald (q := (4 + 2 * z.toNat)) hx dX5_turn_28 n_3 L_3 (by decide) (by simp only [List.length_cons, List.length_nil]; omega) (by decide) (rope_at h_4) ?_
    refine k_astore_n (ls' := [(0, vR g 0), (1, vI z), (2, vR g (4 + 2 * z.toNat))]) hx dX5_turn_29 rfl rfl (by decide) ?_
    refine k_aload_n hx dX5_turn_30 2 rfl ?_
    refine k_iconst hx dX5_turn_31 ?_
    refine k_vv (rest := []) hx vX5_97 dX5_turn_32 (c_X4_turnFrom (isS1w (g := g) h_4) hv2 hvl (a := 0) (by omega)) (isS1w (g := g) h_4).2.2.1 (isS1w (g := g) h_4).1 rfl rfl rfl ⟨rfl, rfl⟩ ⟨by decide, by decide⟩ (fun M_32 p_32 => ?_)
    obtain ⟨q1, q2⟩ := p_32
    rw [turnF_0] at q1
    refine k_aload_n hx dX5_turn_35 2 rfl ?_
    refine k_get (v := vI ((rope σ.1 z).length)) hx fX5_79 dX5_turn_36 (isS1w (g := g) h_4).2.2.1 (isS1w (g := g) h_4).1 (congrArg vI (show M_32 (4 + 2 * z.toNat) 1 = ((rope σ.1 z).length) from by rw [q1.1, trn_len])) ?_
    refine k_ri hx hr dX5_turn_39 ?_
    refine ⟨by unfold aTurn; rw [if_pos h_4], ?_, fun a ha => by rw [q2 a (by omega) (by omega)]; exact hoM a ha⟩
    unfold aTurn
    rw [if_pos h_4]
    exact hI2.set (hS2.setR h_4 q1 q2 (by rw [trn_len]; exact hvl)) (fun a h1 h2 => q2 a (by omega) (by omega))
  · refine k_iconst hx dX5_turn_7 ?_
    refine k_ri hx hr dX5_turn_8 ?_
    exact ⟨by unfold aTurn; rw [if_neg h_4], by unfold aTurn; rw [if_neg h_4]; exact hI, fun _ _ => rfl⟩
theorem c_X5_join {g : GE} {l : Launch} {M : Mem} {σ : Sg} (hI : Inv M σ) {z y : Int} (hzr : -2147483648 ≤ z ∧ z < 2147483648) (hyr : -2147483648 ≤ y ∧ y < 2147483648) : Ci g l μX5_join [vR g 0, vI z, vI y] M (PO M (aJoin σ z y)) := by
  refine Ci.of (by decide +kernel) rfl rfl (fun x hx hr => ?_)
  refine k_iload_n hx dX5_join_0 1 rfl ?_
  refine k_sp (rest := []) (e := (b2i (decide (0 ≤ z ∧ z < 4)))) hx sX5_72 dX5_join_1 (c_X5_isRope (z := z) (by omega)) rfl rfl rfl ⟨rfl, rfl⟩ ⟨by decide, by decide⟩ ?_
  refine k_beq hx dX5_join_4 (fun h_4 => ?_) (fun h_4 => ?_)
  · refine k_iconst hx dX5_join_14 ?_
    refine k_ri hx hr dX5_join_15 ?_
    exact ⟨by unfold aJoin; rw [if_neg (by omega)], by unfold aJoin; rw [if_neg (by omega)]; exact hI, fun _ _ => rfl⟩
  · refine k_iload_n hx dX5_join_7 2 rfl ?_
    refine k_sp (rest := []) (e := (b2i (decide (0 ≤ y ∧ y < 4)))) hx sX5_72 dX5_join_8 (c_X5_isRope (z := y) (by omega)) rfl rfl rfl ⟨rfl, rfl⟩ ⟨by decide, by decide⟩ ?_
    refine k_bne hx dX5_join_11 (fun h_11 => ?_) (fun h_11 => ?_)
    · refine k_aload_n hx dX5_join_16 0 rfl ?_
      refine k_get (v := vR g 1) hx fX5_12 dX5_join_17 n_0 L_0 rfl ?_
      refine k_get (v := vR g 3) hx fX5_75 dX5_join_20 n_1 L_1 rfl ?_
      refine k_iload_n hx dX5_join_23 1 rfl ?_
      obtain ⟨hv, hvl⟩ := hI.1.rope h_4
      obtain ⟨hu, hul⟩ := hI.1.rope h_11
      refine k_aald (q := (4 + 2 * z.toNat)) hx dX5_join_24 n_3 L_3 (by decide) (by simp only [List.length_cons, List.length_nil]; omega) (by decide) (rope_at h_4) ?_
      refine k_astore_n (ls' := [(0, vR g 0), (1, vI z), (2, vI y), (3, vR g (4 + 2 * z.toNat))]) hx dX5_join_25 rfl rfl (by decide) ?_
      refine k_aload_n hx dX5_join_26 3 rfl ?_
      refine k_get (v := vI ((rope σ.1 z).length)) hx fX5_79 dX5_join_27 (isS1w (g := g) h_4).2.2.1 (isS1w (g := g) h_4).1 (congrArg vI (show M (4 + 2 * z.toNat) 1 = ((rope σ.1 z).length) from hv.1)) ?_
      refine k_aload_n hx dX5_join_30 0 rfl ?_
      refine k_get (v := vR g 1) hx fX5_12 dX5_join_31 n_0 L_0 rfl ?_
      refine k_get (v := vR g 3) hx fX5_75 dX5_join_34 n_1 L_1 rfl ?_
      refine k_iload_n hx dX5_join_37 2 rfl ?_
      refine k_aald (q := (4 + 2 * y.toNat)) hx dX5_join_38 n_3 L_3 (by decide) (by simp only [List.length_cons, List.length_nil]; omega) (by decide) (rope_at h_11) ?_
      refine k_get (v := vI ((rope σ.1 y).length)) hx fX5_79 dX5_join_39 (isS1w (g := g) h_11).2.2.1 (isS1w (g := g) h_11).1 (congrArg vI (show M (4 + 2 * y.toNat) 1 = ((rope σ.1 y).length) from hu.1)) ?_
      refine k_iadd hx dX5_join_42 ?_
      refine k_bipush hx dX5_join_43 (by decide +kernel) ?_
      refine k_icmp_le hx dX5_join_45 (by omega) (fun h_45 => ?_) (fun h_45 => ?_)
      · refine k_aload_n hx dX5_join_51 0 rfl ?_
        refine k_get (v := vR g 12) hx fX5_19 dX5_join_52 n_0 L_0 rfl ?_
        refine k_aload_n hx dX5_join_55 0 rfl ?_
        refine k_get (v := vR g 1) hx fX5_12 dX5_join_56 n_0 L_0 rfl ?_
        refine k_vv (rest := []) hx vX5_64 dX5_join_59 (c_X1_remember hI.2.1 hI.1) n_12 L_12 rfl rfl rfl ⟨rfl, rfl⟩ ⟨by decide, by decide⟩ (fun M_59 p_59 => ?_)
        have hI2 := hI.rec p_59
        have hS2 : Sd M_59 1 σ.1 := hI2.1
        have hoM : ∀ a, 120 ≤ a → M_59 a = M a := fun a ha => p_59.2 a (by omega)
        have hv2 := (hS2.rope h_4).1
        have hu2 := (hS2.rope h_11).1
        refine k_aload_n hx dX5_join_62 3 rfl ?_
        refine k_aload_n hx dX5_join_63 0 rfl ?_
        refine k_get (v := vR g 1) hx fX5_12 dX5_join_64 n_0 L_0 rfl ?_
        refine k_get (v := vR g 3) hx fX5_75 dX5_join_67 n_1 L_1 rfl ?_
        refine k_iload_n hx dX5_join_70 2 rfl ?_
        refine k_aald (q := (4 + 2 * y.toNat)) hx dX5_join_71 n_3 L_3 (by decide) (by simp only [List.length_cons, List.length_nil]; omega) (by decide) (rope_at h_11) ?_
        refine k_vv (rest := []) hx vX5_93 dX5_join_72 (c_X4_addWord (isS1w (g := g) h_4) hv2 hvl (isS1w (g := g) h_11) hu2 hul (fun h => by omega) (fun h => by rw [show y = z by omega]) (by omega)) (isS1w (g := g) h_4).2.2.1 (isS1w (g := g) h_4).1 rfl rfl rfl ⟨rfl, rfl⟩ ⟨by decide, by decide⟩ (fun M_72 p_72 => ?_)
        obtain ⟨q1, q2⟩ := p_72
        refine k_aload_n hx dX5_join_75 3 rfl ?_
        refine k_get (v := vI ((rope σ.1 z).length + (rope σ.1 y).length)) hx fX5_79 dX5_join_76 (isS1w (g := g) h_4).2.2.1 (isS1w (g := g) h_4).1 (congrArg vI (show M_72 (4 + 2 * z.toNat) 1 = ((rope σ.1 z).length + (rope σ.1 y).length) from by rw [q1.1, List.length_append]; simp)) ?_
        refine k_ri hx hr dX5_join_79 ?_
        refine ⟨by unfold aJoin; rw [if_pos (by omega), if_neg (by omega)], ?_, fun a ha => by rw [q2 a (by omega) (by omega)]; exact hoM a ha⟩
        unfold aJoin
        rw [if_pos (by omega), if_neg (by omega)]
        exact hI2.set (hS2.setR h_4 q1 q2 (by rw [List.length_append]; omega)) (fun a h1 h2 => q2 a (by omega) (by omega))
      · refine k_bipush hx dX5_join_48 (by decide +kernel) ?_
        refine k_ri hx hr dX5_join_50 ?_
        exact ⟨by unfold aJoin; rw [if_pos (by omega), if_pos (by omega)], by unfold aJoin; rw [if_pos (by omega), if_pos (by omega)]; exact hI, fun _ _ => rfl⟩
    · refine k_iconst hx dX5_join_14 ?_
      refine k_ri hx hr dX5_join_15 ?_
      exact ⟨by unfold aJoin; rw [if_neg (by omega)], by unfold aJoin; rw [if_neg (by omega)]; exact hI, fun _ _ => rfl⟩
theorem c_X5_weave {g : GE} {l : Launch} {M : Mem} {σ : Sg} (hI : Inv M σ) {z y : Int} (hzr : -2147483648 ≤ z ∧ z < 2147483648) (hyr : -2147483648 ≤ y ∧ y < 2147483648) : Ci g l μX5_weave [vR g 0, vI z, vI y] M (PO M (aWeave σ z y)) := by
  refine Ci.of (by decide +kernel) rfl rfl (fun x hx hr => ?_)
  refine k_iload_n hx dX5_weave_0 1 rfl ?_
  refine k_sp (rest := []) (e := (b2i (decide (0 ≤ z ∧ z < 4)))) hx sX5_72 dX5_weave_1 (c_X5_isRope (z := z) (by omega)) rfl rfl rfl ⟨rfl, rfl⟩ ⟨by decide, by decide⟩ ?_
  refine k_beq hx dX5_weave_4 (fun h_4 => ?_) (fun h_4 => ?_)
  · refine k_iconst hx dX5_weave_19 ?_
    refine k_ri hx hr dX5_weave_20 ?_
    exact ⟨by unfold aWeave; rw [if_neg (by omega)], by unfold aWeave; rw [if_neg (by omega)]; exact hI, fun _ _ => rfl⟩
  · refine k_iload_n hx dX5_weave_7 2 rfl ?_
    refine k_sp (rest := []) (e := (b2i (decide (0 ≤ y ∧ y < 4)))) hx sX5_72 dX5_weave_8 (c_X5_isRope (z := y) (by omega)) rfl rfl rfl ⟨rfl, rfl⟩ ⟨by decide, by decide⟩ ?_
    refine k_beq hx dX5_weave_11 (fun h_11 => ?_) (fun h_11 => ?_)
    · refine k_iconst hx dX5_weave_19 ?_
      refine k_ri hx hr dX5_weave_20 ?_
      exact ⟨by unfold aWeave; rw [if_neg (by omega)], by unfold aWeave; rw [if_neg (by omega)]; exact hI, fun _ _ => rfl⟩
    · refine k_iload_n hx dX5_weave_14 1 rfl ?_
      refine k_iload_n hx dX5_weave_15 2 rfl ?_
      refine k_icmp_ne hx dX5_weave_16 (by omega) (fun h_16 => ?_) (fun h_16 => ?_)
      · refine k_aload_n hx dX5_weave_21 0 rfl ?_
        refine k_get (v := vR g 1) hx fX5_12 dX5_weave_22 n_0 L_0 rfl ?_
        refine k_get (v := vR g 3) hx fX5_75 dX5_weave_25 n_1 L_1 rfl ?_
        refine k_iload_n hx dX5_weave_28 1 rfl ?_
        obtain ⟨hv, hvl⟩ := hI.1.rope h_4
        obtain ⟨hu, hul⟩ := hI.1.rope h_11
        have l1 : (rope σ.1 z ++ rope σ.1 y).length = (rope σ.1 z).length + (rope σ.1 y).length := List.length_append
        have l2 : (rope σ.1 z ++ rope σ.1 y ++ trn (rope σ.1 z)).length = (rope σ.1 z).length + (rope σ.1 y).length + (rope σ.1 z).length := by rw [List.length_append, l1, trn_len]
        have l3 : (rope σ.1 z ++ rope σ.1 y ++ trn (rope σ.1 z) ++ trn (rope σ.1 y)).length = (rope σ.1 z).length + (rope σ.1 y).length + (rope σ.1 z).length + (rope σ.1 y).length := by rw [List.length_append, l2, trn_len]
        have l4 := red_len_le (rope σ.1 z ++ rope σ.1 y ++ trn (rope σ.1 z) ++ trn (rope σ.1 y))
        refine k_aald (q := (4 + 2 * z.toNat)) hx dX5_weave_29 n_3 L_3 (by decide) (by simp only [List.length_cons, List.length_nil]; omega) (by decide) (rope_at h_4) ?_
        refine k_astore_n (ls' := [(0, vR g 0), (1, vI z), (2, vI y), (3, vR g (4 + 2 * z.toNat))]) hx dX5_weave_30 rfl rfl (by decide) ?_
        refine k_aload_n hx dX5_weave_31 0 rfl ?_
        refine k_get (v := vR g 114) hx fX5_50 dX5_weave_32 n_0 L_0 rfl ?_
        refine k_vv (rest := []) hx vX5_100 dX5_weave_35 (c_X4_clear isW_114) n_114 L_114 rfl rfl rfl ⟨rfl, rfl⟩ ⟨by decide, by decide⟩ (fun M_35 p_35 => ?_)
        have o1 : Off 114 M M_35 := by rw [p_35]; exact off_up
        have w1 : Wd M_35 114 [] := by rw [p_35]; exact Wd.nil
        refine k_aload_n hx dX5_weave_38 0 rfl ?_
        refine k_get (v := vR g 114) hx fX5_50 dX5_weave_39 n_0 L_0 rfl ?_
        refine k_aload_n hx dX5_weave_42 3 rfl ?_
        refine k_vv (rest := []) hx vX5_93 dX5_weave_43 (c_X4_addWord isW_114 w1 (by simp) (isS1w (g := g) h_4) (hv.off o1 (by omega) (by omega) (by omega)) hvl (fun _ => by omega) (fun h => by omega) (by simp only [List.length_nil]; omega)) n_114 L_114 rfl rfl rfl ⟨rfl, rfl⟩ ⟨by decide, by decide⟩ (fun M_43 p_43 => ?_)
        have o2 := o1.tr p_43.2
        have w2 := p_43.1
        rw [List.nil_append] at w2
        refine k_aload_n hx dX5_weave_46 0 rfl ?_
        refine k_get (v := vR g 114) hx fX5_50 dX5_weave_47 n_0 L_0 rfl ?_
        refine k_aload_n hx dX5_weave_50 0 rfl ?_
        refine k_get (v := vR g 1) hx fX5_12 dX5_weave_51 n_0 L_0 rfl ?_
        refine k_get (v := vR g 3) hx fX5_75 dX5_weave_54 n_1 L_1 rfl ?_
        refine k_iload_n hx dX5_weave_57 2 rfl ?_
        refine k_aald (q := (4 + 2 * y.toNat)) hx dX5_weave_58 n_3 L_3 (by decide) (by simp only [List.length_cons, List.length_nil]; omega) (by decide) (rope_at h_11) ?_
        refine k_vv (rest := []) hx vX5_93 dX5_weave_59 (c_X4_addWord isW_114 w2 (by omega) (isS1w (g := g) h_11) (hu.off o2 (by omega) (by omega) (by omega)) hul (fun _ => by omega) (fun h => by omega) (by omega)) n_114 L_114 rfl rfl rfl ⟨rfl, rfl⟩ ⟨by decide, by decide⟩ (fun M_59 p_59 => ?_)
        have o3 := o2.tr p_59.2
        refine k_aload_n hx dX5_weave_62 0 rfl ?_
        refine k_get (v := vR g 114) hx fX5_50 dX5_weave_63 n_0 L_0 rfl ?_
        refine k_aload_n hx dX5_weave_66 3 rfl ?_
        refine k_vv (rest := []) hx vX5_103 dX5_weave_67 (c_X4_addTurned isW_114 p_59.1 (by omega) (isS1w (g := g) h_4) (hv.off o3 (by omega) (by omega) (by omega)) hvl (by omega) (by omega)) n_114 L_114 rfl rfl rfl ⟨rfl, rfl⟩ ⟨by decide, by decide⟩ (fun M_67 p_67 => ?_)
        have o4 := o3.tr p_67.2
        refine k_aload_n hx dX5_weave_70 0 rfl ?_
        refine k_get (v := vR g 114) hx fX5_50 dX5_weave_71 n_0 L_0 rfl ?_
        refine k_aload_n hx dX5_weave_74 0 rfl ?_
        refine k_get (v := vR g 1) hx fX5_12 dX5_weave_75 n_0 L_0 rfl ?_
        refine k_get (v := vR g 3) hx fX5_75 dX5_weave_78 n_1 L_1 rfl ?_
        refine k_iload_n hx dX5_weave_81 2 rfl ?_
        refine k_aald (q := (4 + 2 * y.toNat)) hx dX5_weave_82 n_3 L_3 (by decide) (by simp only [List.length_cons, List.length_nil]; omega) (by decide) (rope_at h_11) ?_
        refine k_vv (rest := []) hx vX5_103 dX5_weave_83 (c_X4_addTurned isW_114 p_67.1 (by omega) (isS1w (g := g) h_11) (hu.off o4 (by omega) (by omega) (by omega)) hul (by omega) (by omega)) n_114 L_114 rfl rfl rfl ⟨rfl, rfl⟩ ⟨by decide, by decide⟩ (fun M_83 p_83 => ?_)
        have o5 := o4.tr p_83.2
        refine k_aload_n hx dX5_weave_86 0 rfl ?_
        refine k_get (v := vR g 114) hx fX5_50 dX5_weave_87 n_0 L_0 rfl ?_
        refine k_vi (rest := []) hx vX5_89 dX5_weave_90 (c_X4_cancelPairs isW_114 p_83.1 (by omega)) n_114 L_114 rfl rfl rfl ⟨rfl, rfl⟩ ⟨by decide, by decide⟩ (fun z_90 M_90 p_90 => ?_)
        have o6 := o5.tr p_90.2.2
        have w6 : Wd M_90 114 (wv σ z y) := p_90.2.1
        have hwl : (wv σ z y).length ≤ 480 := by unfold wv; omega
        have hI1 := hI.same (M' := M_90) (fun a ha => o6 a (by omega) (by omega))
        refine k_pop hx dX5_weave_93 rfl ?_
        refine k_aload_n hx dX5_weave_94 0 rfl ?_
        refine k_get (v := vR g 114) hx fX5_50 dX5_weave_95 n_0 L_0 rfl ?_
        refine k_get (v := vI ((wv σ z y).length)) hx fX5_79 dX5_weave_98 n_114 L_114 (congrArg vI (show M_90 114 1 = ((wv σ z y).length) from w6.1)) ?_
        refine k_bipush hx dX5_weave_101 (by decide +kernel) ?_
        refine k_icmp_le hx dX5_weave_103 (by omega) (fun h_103 => ?_) (fun h_103 => ?_)
        · refine k_aload_n hx dX5_weave_109 0 rfl ?_
          refine k_get (v := vR g 12) hx fX5_19 dX5_weave_110 n_0 L_0 rfl ?_
          refine k_aload_n hx dX5_weave_113 0 rfl ?_
          refine k_get (v := vR g 1) hx fX5_12 dX5_weave_114 n_0 L_0 rfl ?_
          refine k_vv (rest := []) hx vX5_64 dX5_weave_117 (c_X1_remember hI1.2.1 hI1.1) n_12 L_12 rfl rfl rfl ⟨rfl, rfl⟩ ⟨by decide, by decide⟩ (fun M_117 p_117 => ?_)
          have hI2 := hI1.rec p_117
          have hS2 : Sd M_117 1 σ.1 := hI2.1
          have w7 := w6.same (p_117.2 114 (by omega)) (p_117.2 115 (by omega))
          refine k_aload_n hx dX5_weave_120 3 rfl ?_
          refine k_aload_n hx dX5_weave_121 0 rfl ?_
          refine k_get (v := vR g 114) hx fX5_50 dX5_weave_122 n_0 L_0 rfl ?_
          refine k_vv (rest := []) hx vX5_106 dX5_weave_125 (c_X4_copyFrom (isS1w (g := g) h_4) isW_114 w7 (by omega) (by omega) (by omega)) (isS1w (g := g) h_4).2.2.1 (isS1w (g := g) h_4).1 rfl rfl rfl ⟨rfl, rfl⟩ ⟨by decide, by decide⟩ (fun M_125 p_125 => ?_)
          obtain ⟨q1, q2⟩ := p_125
          refine k_aload_n hx dX5_weave_128 3 rfl ?_
          refine k_get (v := vI ((wv σ z y).length)) hx fX5_79 dX5_weave_129 (isS1w (g := g) h_4).2.2.1 (isS1w (g := g) h_4).1 (congrArg vI (show M_125 (4 + 2 * z.toNat) 1 = ((wv σ z y).length) from q1.1)) ?_
          refine k_ri hx hr dX5_weave_132 ?_
          refine ⟨by unfold aWeave; rw [if_pos (by omega), if_neg (by omega)], ?_, fun a ha => by rw [q2 a (by omega) (by omega), p_117.2 a (by omega)]; exact o6 a (by omega) (by omega)⟩
          unfold aWeave
          rw [if_pos (by omega), if_neg (by omega)]
          exact hI2.set (hS2.setR h_4 q1 q2 (by omega)) (fun a h1 h2 => q2 a (by omega) (by omega))
        · refine k_bipush hx dX5_weave_106 (by decide +kernel) ?_
          refine k_ri hx hr dX5_weave_108 ?_
          exact ⟨by unfold aWeave; rw [if_pos (by omega), if_pos (by omega)], by unfold aWeave; rw [if_pos (by omega), if_pos (by omega)]; exact hI1, fun a ha => o6 a (by omega) (by omega)⟩
      · refine k_iconst hx dX5_weave_19 ?_
        refine k_ri hx hr dX5_weave_20 ?_
        exact ⟨by unfold aWeave; rw [if_neg (by omega)], by unfold aWeave; rw [if_neg (by omega)]; exact hI, fun _ _ => rfl⟩
end
section
/-! the class's own methods: the pad, the slots, the questions -/
theorem Inv.pad {M M' : Mem} {A : Ab} {ps : List Ab} {sl : Option Ab × Option Ab} {t t' : List Int} (h : Inv M (A, ps, sl, t)) (ht : Pw M' t') (ho : ∀ a, a < 104 → M' a = M a) : Inv M' (A, ps, sl, t') := by
  obtain ⟨h1, h2, h3, h4, h5⟩ := h
  exact ⟨h1.same (fun a _ _ => ho a (by omega)), h2.same (fun a _ _ => ho a (by omega)), fun k hk => by rw [ho 103 (by omega)]; exact h3 k hk, fun k A hk hs => (h4 k A hk hs).same (fun a _ _ => ho a (by omega)), ht⟩
theorem Inv.scis {M M' : Mem} {σ : Sg} (h : Inv M σ) (ho : ∀ a, (a < 110 ∨ 114 ≤ a) → M' a = M a) : Inv M' σ := by
  obtain ⟨h1, h2, h3, h4, h5⟩ := h
  refine ⟨h1.same (fun a _ _ => ho a (by omega)), h2.same (fun a _ _ => ho a (by omega)), fun k hk => by rw [ho 103 (by omega)]; exact h3 k hk, fun k A hk hs => (h4 k A hk hs).same (fun a _ _ => ho a (by omega)), ?_⟩
  unfold Pw; rw [ho 104 (by omega), ho 105 (by omega)]; exact h5
theorem Pw.nil {M : Mem} : Pw (up M 104 1 0) [] := ⟨up_s, by decide, fun k h => by simp at h, fun c h => by cases h⟩
theorem chIn_le (n : Nat) : chIn n ≤ 8 := by have := chF_le 8 0 n; unfold chIn; omega
theorem fgo_rg : ∀ (w : List Int) (z sg : Int) (os : List (Int × Int × Int)), 0 ≤ z → -6 ≤ fgo w z sg os ∧ fgo w z sg os ≤ z + w.length
  | [], z, sg, os, h => by rw [fgo]; simp only [List.length_nil]; split <;> omega
  | c :: t, z, sg, os, h => by
    rw [fgo]
    split
    · simp only [List.length_cons]; omega
    · rename_i q _
      have := fgo_rg t (z + 1) q.1 q.2 (by omega)
      simp only [List.length_cons]; omega
theorem faultT_rg {M : Mem} {w : List Int} (h : Pw M w) : -6 ≤ faultT w ∧ faultT w ≤ 60 := by
  have h1 := fgo_rg w 0 0 [] (by omega)
  have := h.2.1
  unfold faultT; omega
def aPut (σ : Sg) (v : Int64) : Int × Sg := if chIn (uN v) = 0 then (-2, σ) else if 60 < σ.2.2.2.length + chIn (uN v) then (-4, σ) else ((σ.2.2.2.length + chIn (uN v) : Nat), (σ.1, σ.2.1, σ.2.2.1, σ.2.2.2 ++ chs (uN v) (chIn (uN v))))
def aWipe (σ : Sg) : Int × Sg := (σ.2.2.2.length, (σ.1, σ.2.1, σ.2.2.1, []))
def aLoad (σ : Sg) (z : Int) : Int × Sg := if 0 ≤ z ∧ z < 4 then (if faultT σ.2.2.2 = -6 then (if 120 < (textW σ.2.2.2).length then (-4, σ) else ((textW σ.2.2.2).length, (setR σ.1 z (textW σ.2.2.2), (σ.1 :: σ.2.1).take 6, σ.2.2.1, []))) else (-3, σ)) else (-1, σ)
def aQ (σ : Sg) (z : Int) : Int × Sg := (z, σ)
def qRope (z : Int) (y : Int) : Int := if 0 ≤ z ∧ z < 4 then y else -1
def aUndo (σ : Sg) : Int × Sg := match σ.2.1 with
  | [] => (-5, σ)
  | A :: ps => (ps.length, (A, ps, σ.2.2))
def setS (s : Option Ab × Option Ab) (k : Nat) (A : Ab) : Option Ab × Option Ab := if k = 0 then (some A, s.2) else (s.1, some A)
def aSave (σ : Sg) (z : Int) : Int × Sg := if 0 ≤ z ∧ z < 2 then (allC σ.1, (σ.1, σ.2.1, setS σ.2.2.1 z.toNat σ.1, σ.2.2.2)) else (-2, σ)
def aRestore (σ : Sg) (z : Int) : Int × Sg := if 0 ≤ z ∧ z < 2 then (match slo σ z.toNat with
  | none => (-5, σ)
  | some A => (allC A, (A, rcd σ))) else (-2, σ)
theorem isSlot_S {g : GE} {z : Int} (h : 0 ≤ z ∧ z < 2) : IsS g (81 + 11 * z.toNat) := by
  rcases (show z = 0 ∨ z = 1 by omega) with rfl | rfl
  · exact isS_81
  · exact isS_92
theorem slot_at {z : Int} (h : 0 ≤ z ∧ z < 2) : ([some 81, some 92] : List (Option Nat)).getD z.toNat none = some (81 + 11 * z.toNat) := by
  rcases (show z = 0 ∨ z = 1 by omega) with rfl | rfl <;> rfl

theorem c_X5_crossing {g : GE} {l : Launch} {M : Mem} {σ : Sg} (hI : Inv M σ) {z : Int} (hzr : -2147483648 ≤ z ∧ z < 2147483648) {k : Int} (hkr : -2147483648 ≤ k ∧ k < 2147483648) : Ci g l μX5_crossing [vR g 0, vI z, vI k] M (PO M (aQ σ (qRope z (at0 (rope σ.1 z) k)))) := by
  refine Ci.of (by decide +kernel) rfl rfl (fun x hx hr => ?_)
  refine k_iload_n hx dX5_crossing_0 1 rfl ?_
  refine k_sp (rest := []) (e := (b2i (decide (0 ≤ z ∧ z < 4)))) hx sX5_72 dX5_crossing_1 (c_X5_isRope (z := z) (by omega)) rfl rfl rfl ⟨rfl, rfl⟩ ⟨by decide, by decide⟩ ?_
  refine k_bne hx dX5_crossing_4 (fun h_4 => ?_) (fun h_4 => ?_)
  · refine k_aload_n hx dX5_crossing_9 0 rfl ?_
    refine k_get (v := vR g 1) hx fX5_12 dX5_crossing_10 n_0 L_0 rfl ?_
    refine k_get (v := vR g 3) hx fX5_75 dX5_crossing_13 n_1 L_1 rfl ?_
    refine k_iload_n hx dX5_crossing_16 1 rfl ?_
    obtain ⟨hv, hvl⟩ := hI.1.rope h_4
    refine k_aald (q := (4 + 2 * z.toNat)) hx dX5_crossing_17 n_3 L_3 (by decide) (by simp only [List.length_cons, List.length_nil]; omega) (by decide) (rope_at h_4) ?_
    refine k_iload_n hx dX5_crossing_18 2 rfl ?_
    refine k_sp (rest := []) (e := (at0 (rope σ.1 z) k)) hx sX5_139 dX5_crossing_19 (c_X5_crossingOrNoSuch (isS1w (g := g) h_4) hv hvl hkr) rfl rfl rfl ⟨rfl, rfl⟩ ⟨by decide, by decide⟩ ?_
    refine k_ri hx hr dX5_crossing_22 ?_
    exact ⟨by unfold aQ qRope; rw [if_pos h_4], hI, fun _ _ => rfl⟩
  · refine k_iconst hx dX5_crossing_7 ?_
    refine k_ri hx hr dX5_crossing_8 ?_
    exact ⟨by unfold aQ qRope; rw [if_neg h_4], hI, fun _ _ => rfl⟩
theorem c_X5_least {g : GE} {l : Launch} {M : Mem} {σ : Sg} (hI : Inv M σ) {z : Int} (hzr : -2147483648 ≤ z ∧ z < 2147483648) {k : Int} (hkr : -2147483648 ≤ k ∧ k < 2147483648) : Ci g l μX5_least [vR g 0, vI z, vI k] M (PO M (aQ σ (qRope z (at0 (lst (rope σ.1 z)) k)))) := by
  refine Ci.of (by decide +kernel) rfl rfl (fun x hx hr => ?_)
  refine k_iload_n hx dX5_least_0 1 rfl ?_
  refine k_sp (rest := []) (e := (b2i (decide (0 ≤ z ∧ z < 4)))) hx sX5_72 dX5_least_1 (c_X5_isRope (z := z) (by omega)) rfl rfl rfl ⟨rfl, rfl⟩ ⟨by decide, by decide⟩ ?_
  refine k_bne hx dX5_least_4 (fun h_4 => ?_) (fun h_4 => ?_)
  · refine k_aload_n hx dX5_least_9 0 rfl ?_
    refine k_aload_n hx dX5_least_10 0 rfl ?_
    refine k_get (v := vR g 1) hx fX5_12 dX5_least_11 n_0 L_0 rfl ?_
    refine k_get (v := vR g 3) hx fX5_75 dX5_least_14 n_1 L_1 rfl ?_
    refine k_iload_n hx dX5_least_17 1 rfl ?_
    obtain ⟨hv, hvl⟩ := hI.1.rope h_4
    have hll := lst_len (rope σ.1 z)
    refine k_aald (q := (4 + 2 * z.toNat)) hx dX5_least_18 n_3 L_3 (by decide) (by simp only [List.length_cons, List.length_nil]; omega) (by decide) (rope_at h_4) ?_
    refine k_aload_n hx dX5_least_19 0 rfl ?_
    refine k_get (v := vR g 114) hx fX5_50 dX5_least_20 n_0 L_0 rfl ?_
    refine k_vv (rest := []) hx vX5_174 dX5_least_23 (c_X5_layLeast (isS1w (g := g) h_4) hv hvl (by omega) (k := 114) (Or.inl rfl)) n_0 L_0 rfl rfl rfl ⟨rfl, rfl⟩ ⟨by decide, by decide⟩ (fun M_23 p_23 => ?_)
    obtain ⟨q1, q2⟩ := p_23
    refine k_aload_n hx dX5_least_26 0 rfl ?_
    refine k_get (v := vR g 114) hx fX5_50 dX5_least_27 n_0 L_0 rfl ?_
    refine k_iload_n hx dX5_least_30 2 rfl ?_
    refine k_sp (rest := []) (e := (at0 (lst (rope σ.1 z)) k)) hx sX5_139 dX5_least_31 (c_X5_crossingOrNoSuch isW_114 q1 (by omega) hkr) rfl rfl rfl ⟨rfl, rfl⟩ ⟨by decide, by decide⟩ ?_
    refine k_ri hx hr dX5_least_34 ?_
    exact ⟨by unfold aQ qRope; rw [if_pos h_4], hI.same (fun a ha => q2 a (by omega) (by omega) (by omega) (by omega)), fun a ha => q2 a (by omega) (by omega) (by omega) (by omega)⟩
  · refine k_iconst hx dX5_least_7 ?_
    refine k_ri hx hr dX5_least_8 ?_
    exact ⟨by unfold aQ qRope; rw [if_neg h_4], hI, fun _ _ => rfl⟩
theorem c_X5_falls {g : GE} {l : Launch} {M : Mem} {σ : Sg} (hI : Inv M σ) {z : Int} (hzr : -2147483648 ≤ z ∧ z < 2147483648) {S : Int} (hSr : -2147483648 ≤ S ∧ S < 2147483648) : Ci g l μX5_falls [vR g 0, vI z, vI S] M (PO M (aQ σ (if (0 ≤ z ∧ z < 4) ∧ (0 ≤ S ∧ S < 64) then b2i (decide (wF S (rope σ.1 z) = [])) else -1))) := by
  refine Ci.of (by decide +kernel) rfl rfl (fun x hx hr => ?_)
  refine k_iload_n hx dX5_falls_0 1 rfl ?_
  refine k_sp (rest := []) (e := (b2i (decide (0 ≤ z ∧ z < 4)))) hx sX5_72 dX5_falls_1 (c_X5_isRope (z := z) (by omega)) rfl rfl rfl ⟨rfl, rfl⟩ ⟨by decide, by decide⟩ ?_
  refine k_beq hx dX5_falls_4 (fun h_4 => ?_) (fun h_4 => ?_)
  · refine k_iconst hx dX5_falls_17 ?_
    refine k_ri hx hr dX5_falls_18 ?_
    exact ⟨by unfold aQ; rw [if_neg (by omega)], hI, fun _ _ => rfl⟩
  · refine k_iload_n hx dX5_falls_7 2 rfl ?_
    refine k_iflt hx dX5_falls_8 (by omega) (fun h_8 => ?_) (fun h_8 => ?_)
    · refine k_iconst hx dX5_falls_17 ?_
      refine k_ri hx hr dX5_falls_18 ?_
      exact ⟨by unfold aQ; rw [if_neg (by omega)], hI, fun _ _ => rfl⟩
    · refine k_iload_n hx dX5_falls_11 2 rfl ?_
      refine k_bipush hx dX5_falls_12 (by decide +kernel) ?_
      refine k_icmp_lt hx dX5_falls_14 (by omega) (fun h_14 => ?_) (fun h_14 => ?_)
      · refine k_aload_n hx dX5_falls_19 0 rfl ?_
        refine k_aload_n hx dX5_falls_20 0 rfl ?_
        refine k_get (v := vR g 1) hx fX5_12 dX5_falls_21 n_0 L_0 rfl ?_
        refine k_get (v := vR g 3) hx fX5_75 dX5_falls_24 n_1 L_1 rfl ?_
        refine k_iload_n hx dX5_falls_27 1 rfl ?_
        obtain ⟨hv, hvl⟩ := hI.1.rope h_4
        refine k_aald (q := (4 + 2 * z.toNat)) hx dX5_falls_28 n_3 L_3 (by decide) (by simp only [List.length_cons, List.length_nil]; omega) (by decide) (rope_at h_4) ?_
        refine k_iload_n hx dX5_falls_29 2 rfl ?_
        refine k_vi (rest := []) hx vX5_162 dX5_falls_30 (c_X5_fallsWithout (isS1w (g := g) h_4) hv hvl (by omega) (S := S) (by omega)) n_0 L_0 rfl rfl rfl ⟨rfl, rfl⟩ ⟨by decide, by decide⟩ (fun z_30 M_30 p_30 => ?_)
        obtain ⟨rfl, q2⟩ := p_30
        refine k_sp (rest := []) (e := (b2i (decide (wF S (rope σ.1 z) = [])))) hx sX5_166 dX5_falls_33 (c_X5_oneIf (b := (decide (wF S (rope σ.1 z) = [])))) rfl rfl rfl ⟨rfl, rfl⟩ ⟨by decide, by decide⟩ ?_
        refine k_ri hx hr dX5_falls_36 ?_
        exact ⟨by unfold aQ; rw [if_pos (by omega)], hI.same (fun a ha => q2 a (by omega) (by omega)), fun a ha => q2 a (by omega) (by omega)⟩
      · refine k_iconst hx dX5_falls_17 ?_
        refine k_ri hx hr dX5_falls_18 ?_
        exact ⟨by unfold aQ; rw [if_neg (by omega)], hI, fun _ _ => rfl⟩
theorem c_X5_winds {g : GE} {l : Launch} {M : Mem} {σ : Sg} (hI : Inv M σ) {z : Int} (hzr : -2147483648 ≤ z ∧ z < 2147483648) {p : Int} (hpr : -2147483648 ≤ p ∧ p < 2147483648) : Ci g l μX5_winds [vR g 0, vI z, vI p] M (PO M (aQ σ (if (0 ≤ z ∧ z < 4) ∧ (0 ≤ p ∧ p < 6) then 1000 + wnd (rope σ.1 z) p else -1))) := by
  refine Ci.of (by decide +kernel) rfl rfl (fun x hx hr => ?_)
  refine k_iload_n hx dX5_winds_0 1 rfl ?_
  refine k_sp (rest := []) (e := (b2i (decide (0 ≤ z ∧ z < 4)))) hx sX5_72 dX5_winds_1 (c_X5_isRope (z := z) (by omega)) rfl rfl rfl ⟨rfl, rfl⟩ ⟨by decide, by decide⟩ ?_
  refine k_beq hx dX5_winds_4 (fun h_4 => ?_) (fun h_4 => ?_)
  · refine k_iconst hx dX5_winds_14 ?_
    refine k_ri hx hr dX5_winds_15 ?_
    exact ⟨by unfold aQ; rw [if_neg (by omega)], hI, fun _ _ => rfl⟩
  · refine k_iload_n hx dX5_winds_7 2 rfl ?_
    refine k_sp (rest := []) (e := (b2i (decide (0 ≤ p ∧ p < 6)))) hx sX5_60 dX5_winds_8 (c_X5_isPost (z := p) (by omega)) rfl rfl rfl ⟨rfl, rfl⟩ ⟨by decide, by decide⟩ ?_
    refine k_bne hx dX5_winds_11 (fun h_11 => ?_) (fun h_11 => ?_)
    · refine k_sipush hx dX5_winds_16 (by decide +kernel) ?_
      refine k_aload_n hx dX5_winds_19 0 rfl ?_
      refine k_get (v := vR g 1) hx fX5_12 dX5_winds_20 n_0 L_0 rfl ?_
      refine k_get (v := vR g 3) hx fX5_75 dX5_winds_23 n_1 L_1 rfl ?_
      refine k_iload_n hx dX5_winds_26 1 rfl ?_
      obtain ⟨hv, hvl⟩ := hI.1.rope h_4
      refine k_aald (q := (4 + 2 * z.toNat)) hx dX5_winds_27 n_3 L_3 (by decide) (by simp only [List.length_cons, List.length_nil]; omega) (by decide) (rope_at h_4) ?_
      refine k_iload_n hx dX5_winds_28 2 rfl ?_
      refine k_vp (rest := [vI 1000]) (e := (wnd (rope σ.1 z) p)) hx vX5_170 dX5_winds_29 (c_X4_windings (isS1w (g := g) h_4) hv hvl (p := p) (by omega)) (isS1w (g := g) h_4).2.2.1 (isS1w (g := g) h_4).1 rfl rfl rfl ⟨rfl, rfl⟩ ⟨by decide, by decide⟩ ?_
      refine k_iadd hx dX5_winds_32 ?_
      refine k_ri hx hr dX5_winds_33 ?_
      exact ⟨by unfold aQ; rw [if_pos (by omega)], hI, fun _ _ => rfl⟩
    · refine k_iconst hx dX5_winds_14 ?_
      refine k_ri hx hr dX5_winds_15 ?_
      exact ⟨by unfold aQ; rw [if_neg (by omega)], hI, fun _ _ => rfl⟩
theorem c_X5_ifSwapped {g : GE} {l : Launch} {M : Mem} {σ : Sg} (hI : Inv M σ) {p b : Int} (hpr : -2147483648 ≤ p ∧ p < 2147483648) (hbr : -2147483648 ≤ b ∧ b < 2147483648) : Ci g l μX5_ifSwapped [vR g 0, vI p, vI b] M (PO M (aQ σ (if 0 ≤ p ∧ p < 5 then (if 0 ≤ b ∧ b < 2 then csw σ.1 p b else -2) else -1))) := by
  refine Ci.of (by decide +kernel) rfl rfl (fun x hx hr => ?_)
  refine k_iload_n hx dX5_ifSwapped_0 1 rfl ?_
  refine k_sp (rest := []) (e := (b2i (decide (0 ≤ p ∧ p < 5)))) hx sX5_109 dX5_ifSwapped_1 (c_X5_isSwap (z := p) (by omega)) rfl rfl rfl ⟨rfl, rfl⟩ ⟨by decide, by decide⟩ ?_
  refine k_bne hx dX5_ifSwapped_4 (fun h_4 => ?_) (fun h_4 => ?_)
  · refine k_iload_n hx dX5_ifSwapped_9 2 rfl ?_
    refine k_sp (rest := []) (e := (b2i (decide (0 ≤ b ∧ b < 2)))) hx sX5_112 dX5_ifSwapped_10 (c_X5_isBack (z := b) (by omega)) rfl rfl rfl ⟨rfl, rfl⟩ ⟨by decide, by decide⟩ ?_
    refine k_bne hx dX5_ifSwapped_13 (fun h_13 => ?_) (fun h_13 => ?_)
    · refine k_aload_n hx dX5_ifSwapped_19 0 rfl ?_
      refine k_iload_n hx dX5_ifSwapped_20 1 rfl ?_
      refine k_iload_n hx dX5_ifSwapped_21 2 rfl ?_
      refine k_vi (rest := []) hx vX5_203 dX5_ifSwapped_22 (c_X5_crossingsIfSwapped hI.1 (p := p) (b := b) (by omega) (by omega)) n_0 L_0 rfl rfl rfl ⟨rfl, rfl⟩ ⟨by decide, by decide⟩ (fun z_22 M_22 p_22 => ?_)
      obtain ⟨q1, q2⟩ := p_22
      refine k_ri hx hr dX5_ifSwapped_25 ?_
      exact ⟨by unfold aQ; rw [if_pos (by omega), if_pos (by omega)]; exact q1, hI.same (fun a ha => q2 a (by omega) (by omega)), fun a ha => q2 a (by omega) (by omega)⟩
    · refine k_bipush hx dX5_ifSwapped_16 (by decide +kernel) ?_
      refine k_ri hx hr dX5_ifSwapped_18 ?_
      exact ⟨by unfold aQ; rw [if_pos (by omega), if_neg (by omega)], hI, fun _ _ => rfl⟩
  · refine k_iconst hx dX5_ifSwapped_7 ?_
    refine k_ri hx hr dX5_ifSwapped_8 ?_
    exact ⟨by unfold aQ; rw [if_neg (by omega)], hI, fun _ _ => rfl⟩
end
section
/-! the class's own methods: slots, swaps, and what is split by a number -/
theorem slo_set {A B A' : Ab} {ps ps' : List Ab} {s : Option Ab × Option Ab} {t t' : List Int} {k j : Nat} (hk : k < 2) (hj : j < 2) : slo (A, ps, setS s j B, t) k = if k = j then some B else slo (A', ps', s, t') k := by
  rcases (show k = 0 ∨ k = 1 by omega) with rfl | rfl <;> rcases (show j = 0 ∨ j = 1 by omega) with rfl | rfl <;> rfl
theorem ext4 {l m : List (List Int)} (hl : l.length = 4) (hm : m.length = 4) (h : ∀ r : Nat, r < 4 → l.getD r [] = m.getD r []) : l = m := by
  refine List.ext_getElem (by omega) (fun n h1 h2 => ?_)
  have := h n (by omega)
  simpa [List.getD_eq_getElem?_getD, h1, h2] using this
theorem map_getD4 {l : List (List Int)} {f : List Int → List Int} {r : Nat} (h : r < l.length) : (l.map f).getD r [] = f (l.getD r []) := by
  simp [List.getD_eq_getElem?_getD, h]
def aSwap (σ : Sg) (p b : Int) : Int × Sg := if 0 ≤ p ∧ p < 5 then (if 0 ≤ b ∧ b < 2 then (if ∀ r : Nat, r < 4 → (swF p b (σ.1.2.getD r [])).length ≤ 120 then (allC (σ.1.1, σ.1.2.map (swF p b)), ((σ.1.1, σ.1.2.map (swF p b)), rcd σ)) else (-4, σ)) else (-2, σ)) else (-1, σ)
def qOf (A : Ab) (w : List Int) (k : Int) : Int := if k = 0 then w.length else if k = 1 then wsum A.1 w else if k = 2 then (red w).length else if k = 3 then wsum A.1 (red w) else if k = 4 then (tight (red w)).length else if k = 5 then power (tight (red w)) else if k = 6 then pset (tight (red w)) else if k = 7 then firstP w else if k = 8 then b2i (decide (wF 0 w = [])) else -2
theorem qOf_out {A : Ab} {w : List Int} {k : Int} (h : k < 0 ∨ 8 < k) : qOf A w k = -2 := by
  unfold qOf
  rw [if_neg (by omega), if_neg (by omega), if_neg (by omega), if_neg (by omega), if_neg (by omega), if_neg (by omega), if_neg (by omega), if_neg (by omega), if_neg (by omega)]
def qCount (σ : Sg) (k : Int) : Int := if 0 ≤ k ∧ k < 6 then σ.1.1.getD k.toNat 0 else if k = 6 then allC σ.1 else if k = 7 then σ.2.2.2.length else if k = 8 then σ.2.1.length else -2
def qBoth (v u : List Int) (k : Int) : Int := if k = 0 then b2i (decide (lst v = lst u)) else if k = 1 then b2i (decide (lst v = lst (trn u))) else if k = 2 then b2i (decide (red (v ++ u) = red (u ++ v))) else if k = 3 then b2i (decide (red v = red u)) else -2
theorem qBoth_out {v u : List Int} {k : Int} (h : k < 0 ∨ 3 < k) : qBoth v u k = -2 := by
  unfold qBoth
  rw [if_neg (by omega), if_neg (by omega), if_neg (by omega), if_neg (by omega)]
def bsG (A : Ab) : Nat → Int × Int × Int
  | 0 => (0, 0, csw A 0 0)
  | j + 1 => if csw A (j / 2 : Nat) (j % 2 : Nat) < (bsG A j).2.2 then ((j / 2 : Nat), (j % 2 : Nat), csw A (j / 2 : Nat) (j % 2 : Nat)) else bsG A j
theorem bsG_rg {A : Ab} (hA : OkA A) : ∀ j, 0 ≤ (bsG A j).2.2 ∧ (bsG A j).2.2 ≤ 1440
  | 0 => csw_rg hA 0 0
  | j + 1 => by
    rw [bsG]; split
    · exact csw_rg hA _ _
    · exact bsG_rg hA j
def qBest (A : Ab) (w : Int) : Int := if 0 ≤ w ∧ w ≤ 2 then (if w = 0 then (bsG A 10).1 else if w = 1 then (bsG A 10).2.1 else (bsG A 10).2.2) else -2

theorem c_X5_ofRope {g : GE} {l : Launch} {M : Mem} {σ : Sg} (hI : Inv M σ) {z : Int} (hzr : -2147483648 ≤ z ∧ z < 2147483648) {k : Int} (hkr : -2147483648 ≤ k ∧ k < 2147483648) : Ci g l μX5_ofRope [vR g 0, vI z, vI k] M (PO M (aQ σ (qRope z (qOf σ.1 (rope σ.1 z) k)))) := by
  refine Ci.of (by decide +kernel) rfl rfl (fun x hx hr => ?_)
  refine k_iload_n hx dX5_ofRope_0 1 rfl ?_
  refine k_sp (rest := []) (e := (b2i (decide (0 ≤ z ∧ z < 4)))) hx sX5_72 dX5_ofRope_1 (c_X5_isRope (z := z) (by omega)) rfl rfl rfl ⟨rfl, rfl⟩ ⟨by decide, by decide⟩ ?_
  refine k_bne hx dX5_ofRope_4 (fun h_4 => ?_) (fun h_4 => ?_)
  · refine k_aload_n hx dX5_ofRope_9 0 rfl ?_
    refine k_get (v := vR g 1) hx fX5_12 dX5_ofRope_10 n_0 L_0 rfl ?_
    refine k_get (v := vR g 3) hx fX5_75 dX5_ofRope_13 n_1 L_1 rfl ?_
    refine k_iload_n hx dX5_ofRope_16 1 rfl ?_
    obtain ⟨hv, hvl⟩ := hI.1.rope h_4
    have hl1 := red_len_le (rope σ.1 z)
    have hl2 := tight_len (red (rope σ.1 z))
    refine k_aald (q := (4 + 2 * z.toNat)) hx dX5_ofRope_17 n_3 L_3 (by decide) (by simp only [List.length_cons, List.length_nil]; omega) (by decide) (rope_at h_4) ?_
    refine k_astore_n (ls' := [(0, vR g 0), (1, vI z), (2, vI k), (3, vR g (4 + 2 * z.toNat))]) hx dX5_ofRope_18 rfl rfl (by decide) ?_
    refine k_iload_n hx dX5_ofRope_19 2 rfl ?_
    rcases (show k = 0 ∨ k = 1 ∨ k = 2 ∨ k = 3 ∨ k = 4 ∨ k = 5 ∨ k = 6 ∨ k = 7 ∨ k = 8 ∨ (k < 0 ∨ 8 < k) by omega) with rfl | rfl | rfl | rfl | rfl | rfl | rfl | rfl | rfl | hout
    · refine k_tsIn (off := 52) (tgt := 72) hx dX5_ofRope_20 (by omega) (by omega) (by omega) (rfl) rfl ?_
      refine k_aload_n hx dX5_ofRope_72 3 rfl ?_
      refine k_get (v := vI ((rope σ.1 z).length)) hx fX5_79 dX5_ofRope_73 (isS1w (g := g) h_4).2.2.1 (isS1w (g := g) h_4).1 (congrArg vI (show M (4 + 2 * z.toNat) 1 = ((rope σ.1 z).length) from hv.1)) ?_
      refine k_ri hx hr dX5_ofRope_76 ?_
      exact ⟨by unfold aQ qRope; rw [if_pos h_4]; rfl, hI, fun _ _ => rfl⟩
    · refine k_tsIn (off := 57) (tgt := 77) hx dX5_ofRope_20 (by omega) (by omega) (by omega) (rfl) rfl ?_
      refine k_aload_n hx dX5_ofRope_77 0 rfl ?_
      refine k_get (v := vR g 1) hx fX5_12 dX5_ofRope_78 n_0 L_0 rfl ?_
      refine k_aload_n hx dX5_ofRope_81 3 rfl ?_
      refine k_vp (rest := []) (e := (wsum σ.1.1 (rope σ.1 z))) hx vX5_143 dX5_ofRope_82 (c_X3_widthsAlong isS_1 hI.1 (isS1w (g := g) h_4) hv hvl) n_1 L_1 rfl rfl rfl ⟨rfl, rfl⟩ ⟨by decide, by decide⟩ ?_
      refine k_ri hx hr dX5_ofRope_85 ?_
      exact ⟨by unfold aQ qRope; rw [if_pos h_4]; rfl, hI, fun _ _ => rfl⟩
    · refine k_tsIn (off := 66) (tgt := 86) hx dX5_ofRope_20 (by omega) (by omega) (by omega) (rfl) rfl ?_
      refine k_aload_n hx dX5_ofRope_86 0 rfl ?_
      refine k_aload_n hx dX5_ofRope_87 3 rfl ?_
      refine k_vv (rest := []) hx vX5_147 dX5_ofRope_88 (c_X5_layPulled (isS1w (g := g) h_4) hv hvl (by omega)) n_0 L_0 rfl rfl rfl ⟨rfl, rfl⟩ ⟨by decide, by decide⟩ (fun M_88 p_88 => ?_)
      obtain ⟨q1, q2⟩ := p_88
      refine k_aload_n hx dX5_ofRope_91 0 rfl ?_
      refine k_get (v := vR g 114) hx fX5_50 dX5_ofRope_92 n_0 L_0 rfl ?_
      refine k_get (v := vI ((red (rope σ.1 z)).length)) hx fX5_79 dX5_ofRope_95 n_114 L_114 (congrArg vI (show M_88 114 1 = ((red (rope σ.1 z)).length) from q1.1)) ?_
      refine k_ri hx hr dX5_ofRope_98 ?_
      exact ⟨by unfold aQ qRope; rw [if_pos h_4]; rfl, hI.same (fun a ha => q2 a (by omega) (by omega)), fun a ha => q2 a (by omega) (by omega)⟩
    · refine k_tsIn (off := 79) (tgt := 99) hx dX5_ofRope_20 (by omega) (by omega) (by omega) (rfl) rfl ?_
      refine k_aload_n hx dX5_ofRope_99 0 rfl ?_
      refine k_aload_n hx dX5_ofRope_100 3 rfl ?_
      refine k_vv (rest := []) hx vX5_147 dX5_ofRope_101 (c_X5_layPulled (isS1w (g := g) h_4) hv hvl (by omega)) n_0 L_0 rfl rfl rfl ⟨rfl, rfl⟩ ⟨by decide, by decide⟩ (fun M_101 p_101 => ?_)
      obtain ⟨q1, q2⟩ := p_101
      refine k_aload_n hx dX5_ofRope_104 0 rfl ?_
      refine k_get (v := vR g 1) hx fX5_12 dX5_ofRope_105 n_0 L_0 rfl ?_
      refine k_aload_n hx dX5_ofRope_108 0 rfl ?_
      refine k_get (v := vR g 114) hx fX5_50 dX5_ofRope_109 n_0 L_0 rfl ?_
      refine k_vp (rest := []) (e := (wsum σ.1.1 (red (rope σ.1 z)))) hx vX5_143 dX5_ofRope_112 (c_X3_widthsAlong isS_1 (hI.same (fun a ha => q2 a (by omega) (by omega))).1 isW_114 q1 (by omega)) n_1 L_1 rfl rfl rfl ⟨rfl, rfl⟩ ⟨by decide, by decide⟩ ?_
      refine k_ri hx hr dX5_ofRope_115 ?_
      exact ⟨by unfold aQ qRope; rw [if_pos h_4]; rfl, hI.same (fun a ha => q2 a (by omega) (by omega)), fun a ha => q2 a (by omega) (by omega)⟩
    · refine k_tsIn (off := 96) (tgt := 116) hx dX5_ofRope_20 (by omega) (by omega) (by omega) (rfl) rfl ?_
      refine k_aload_n hx dX5_ofRope_116 0 rfl ?_
      refine k_aload_n hx dX5_ofRope_117 3 rfl ?_
      refine k_vv (rest := []) hx vX5_150 dX5_ofRope_118 (c_X5_layLoop (isS1w (g := g) h_4) hv hvl (by omega)) n_0 L_0 rfl rfl rfl ⟨rfl, rfl⟩ ⟨by decide, by decide⟩ (fun M_118 p_118 => ?_)
      obtain ⟨q1, q2⟩ := p_118
      refine k_aload_n hx dX5_ofRope_121 0 rfl ?_
      refine k_get (v := vR g 118) hx fX5_57 dX5_ofRope_122 n_0 L_0 rfl ?_
      refine k_get (v := vI ((tight (red (rope σ.1 z))).length)) hx fX5_79 dX5_ofRope_125 n_118 L_118 (congrArg vI (show M_118 118 1 = ((tight (red (rope σ.1 z))).length) from q1.1)) ?_
      refine k_ri hx hr dX5_ofRope_128 ?_
      exact ⟨by unfold aQ qRope; rw [if_pos h_4]; rfl, hI.same (fun a ha => q2 a (by omega) (by omega)), fun a ha => q2 a (by omega) (by omega)⟩
    · refine k_tsIn (off := 109) (tgt := 129) hx dX5_ofRope_20 (by omega) (by omega) (by omega) (rfl) rfl ?_
      refine k_aload_n hx dX5_ofRope_129 0 rfl ?_
      refine k_aload_n hx dX5_ofRope_130 3 rfl ?_
      refine k_vv (rest := []) hx vX5_150 dX5_ofRope_131 (c_X5_layLoop (isS1w (g := g) h_4) hv hvl (by omega)) n_0 L_0 rfl rfl rfl ⟨rfl, rfl⟩ ⟨by decide, by decide⟩ (fun M_131 p_131 => ?_)
      obtain ⟨q1, q2⟩ := p_131
      refine k_aload_n hx dX5_ofRope_134 0 rfl ?_
      refine k_get (v := vR g 118) hx fX5_57 dX5_ofRope_135 n_0 L_0 rfl ?_
      refine k_vp (rest := []) (e := (power (tight (red (rope σ.1 z))))) hx vX5_153 dX5_ofRope_138 (c_X4_power isW_118 q1 (by omega)) n_118 L_118 rfl rfl rfl ⟨rfl, rfl⟩ ⟨by decide, by decide⟩ ?_
      refine k_ri hx hr dX5_ofRope_141 ?_
      exact ⟨by unfold aQ qRope; rw [if_pos h_4]; rfl, hI.same (fun a ha => q2 a (by omega) (by omega)), fun a ha => q2 a (by omega) (by omega)⟩
    · refine k_tsIn (off := 122) (tgt := 142) hx dX5_ofRope_20 (by omega) (by omega) (by omega) (rfl) rfl ?_
      refine k_aload_n hx dX5_ofRope_142 0 rfl ?_
      refine k_aload_n hx dX5_ofRope_143 3 rfl ?_
      refine k_vv (rest := []) hx vX5_150 dX5_ofRope_144 (c_X5_layLoop (isS1w (g := g) h_4) hv hvl (by omega)) n_0 L_0 rfl rfl rfl ⟨rfl, rfl⟩ ⟨by decide, by decide⟩ (fun M_144 p_144 => ?_)
      obtain ⟨q1, q2⟩ := p_144
      refine k_aload_n hx dX5_ofRope_147 0 rfl ?_
      refine k_get (v := vR g 118) hx fX5_57 dX5_ofRope_148 n_0 L_0 rfl ?_
      refine k_vp (rest := []) (e := (pset (tight (red (rope σ.1 z))))) hx vX5_156 dX5_ofRope_151 (c_X4_posts isW_118 q1 (by omega)) n_118 L_118 rfl rfl rfl ⟨rfl, rfl⟩ ⟨by decide, by decide⟩ ?_
      refine k_ri hx hr dX5_ofRope_154 ?_
      exact ⟨by unfold aQ qRope; rw [if_pos h_4]; rfl, hI.same (fun a ha => q2 a (by omega) (by omega)), fun a ha => q2 a (by omega) (by omega)⟩
    · refine k_tsIn (off := 135) (tgt := 155) hx dX5_ofRope_20 (by omega) (by omega) (by omega) (rfl) rfl ?_
      refine k_aload_n hx dX5_ofRope_155 3 rfl ?_
      refine k_vp (rest := []) (e := (firstP (rope σ.1 z))) hx vX5_159 dX5_ofRope_156 (c_X4_firstPair (isS1w (g := g) h_4) hv hvl) (isS1w (g := g) h_4).2.2.1 (isS1w (g := g) h_4).1 rfl rfl rfl ⟨rfl, rfl⟩ ⟨by decide, by decide⟩ ?_
      refine k_ri hx hr dX5_ofRope_159 ?_
      exact ⟨by unfold aQ qRope; rw [if_pos h_4]; rfl, hI, fun _ _ => rfl⟩
    · refine k_tsIn (off := 140) (tgt := 160) hx dX5_ofRope_20 (by omega) (by omega) (by omega) (rfl) rfl ?_
      refine k_aload_n hx dX5_ofRope_160 0 rfl ?_
      refine k_aload_n hx dX5_ofRope_161 3 rfl ?_
      refine k_iconst hx dX5_ofRope_162 ?_
      refine k_vi (rest := []) hx vX5_162 dX5_ofRope_163 (c_X5_fallsWithout (isS1w (g := g) h_4) hv hvl (by omega) (S := 0) (by omega)) n_0 L_0 rfl rfl rfl ⟨rfl, rfl⟩ ⟨by decide, by decide⟩ (fun z_163 M_163 p_163 => ?_)
      obtain ⟨rfl, q2⟩ := p_163
      refine k_sp (rest := []) (e := (b2i (decide (wF 0 (rope σ.1 z) = [])))) hx sX5_166 dX5_ofRope_166 (c_X5_oneIf (b := (decide (wF 0 (rope σ.1 z) = [])))) rfl rfl rfl ⟨rfl, rfl⟩ ⟨by decide, by decide⟩ ?_
      refine k_ri hx hr dX5_ofRope_169 ?_
      exact ⟨by unfold aQ qRope; rw [if_pos h_4]; rfl, hI.same (fun a ha => q2 a (by omega) (by omega)), fun a ha => q2 a (by omega) (by omega)⟩
    · refine k_tsOut hx dX5_ofRope_20 (tgt := 170) rfl (by omega) (by omega) ?_
      refine k_bipush hx dX5_ofRope_170 (by decide +kernel) ?_
      refine k_ri hx hr dX5_ofRope_172 ?_
      exact ⟨by unfold aQ qRope; rw [if_pos h_4, qOf_out hout], hI, fun _ _ => rfl⟩
  · refine k_iconst hx dX5_ofRope_7 ?_
    refine k_ri hx hr dX5_ofRope_8 ?_
    exact ⟨by unfold aQ qRope; rw [if_neg h_4], hI, fun _ _ => rfl⟩
theorem c_X5_count {g : GE} {l : Launch} {M : Mem} {σ : Sg} (hI : Inv M σ) {k : Int} (hkr : -2147483648 ≤ k ∧ k < 2147483648) : Ci g l μX5_count [vR g 0, vI k] M (PO M (aQ σ (qCount σ k))) := by
  refine Ci.of (by decide +kernel) rfl rfl (fun x hx hr => ?_)
  refine k_iload_n hx dX5_count_0 1 rfl ?_
  refine k_sp (rest := []) (e := (b2i (decide (0 ≤ k ∧ k < 6)))) hx sX5_60 dX5_count_1 (c_X5_isPost (z := k) (by omega)) rfl rfl rfl ⟨rfl, rfl⟩ ⟨by decide, by decide⟩ ?_
  refine k_beq hx dX5_count_4 (fun h_4 => ?_) (fun h_4 => ?_)
  · refine k_iload_n hx dX5_count_17 1 rfl ?_
    rcases (show k = 6 ∨ k = 7 ∨ k = 8 ∨ (k < 6 ∨ 8 < k) by omega) with rfl | rfl | rfl | hout
    · refine k_tsIn (off := 26) (tgt := 44) hx dX5_count_18 (by omega) (by omega) (by omega) (rfl) rfl ?_
      refine k_aload_n hx dX5_count_44 0 rfl ?_
      refine k_get (v := vR g 1) hx fX5_12 dX5_count_45 n_0 L_0 rfl ?_
      refine k_vp (rest := []) (e := (allC σ.1)) hx vX5_119 dX5_count_48 (c_X3_allCrossings isS_1 hI.1) n_1 L_1 rfl rfl rfl ⟨rfl, rfl⟩ ⟨by decide, by decide⟩ ?_
      refine k_ri hx hr dX5_count_51 ?_
      exact ⟨rfl, hI, fun _ _ => rfl⟩
    · refine k_tsIn (off := 34) (tgt := 52) hx dX5_count_18 (by omega) (by omega) (by omega) (rfl) rfl ?_
      refine k_aload_n hx dX5_count_52 0 rfl ?_
      refine k_get (v := vR g 104) hx fX5_34 dX5_count_53 n_0 L_0 rfl ?_
      refine k_get (v := vI σ.2.2.2.length) hx fX5_126 dX5_count_56 n_104 L_104 (congrArg vI (show M 104 1 = σ.2.2.2.length from hI.2.2.2.2.1)) ?_
      refine k_ri hx hr dX5_count_59 ?_
      exact ⟨rfl, hI, fun _ _ => rfl⟩
    · refine k_tsIn (off := 42) (tgt := 60) hx dX5_count_18 (by omega) (by omega) (by omega) (rfl) rfl ?_
      refine k_aload_n hx dX5_count_60 0 rfl ?_
      refine k_get (v := vR g 12) hx fX5_19 dX5_count_61 n_0 L_0 rfl ?_
      refine k_get (v := vI σ.2.1.length) hx fX5_178 dX5_count_64 n_12 L_12 (congrArg vI (show M 12 2 = σ.2.1.length from by obtain ⟨-, -, -, h, -⟩ := hI.2.1; exact h)) ?_
      refine k_ri hx hr dX5_count_67 ?_
      exact ⟨rfl, hI, fun _ _ => rfl⟩
    · refine k_tsOut hx dX5_count_18 (tgt := 68) rfl (by omega) (by omega) ?_
      refine k_bipush hx dX5_count_68 (by decide +kernel) ?_
      refine k_ri hx hr dX5_count_70 ?_
      exact ⟨by unfold aQ qCount; rw [if_neg h_4, if_neg (by omega), if_neg (by omega), if_neg (by omega)], hI, fun _ _ => rfl⟩
  · refine k_aload_n hx dX5_count_7 0 rfl ?_
    refine k_get (v := vR g 1) hx fX5_12 dX5_count_8 n_0 L_0 rfl ?_
    refine k_get (v := vR g 2) hx fX5_68 dX5_count_11 n_1 L_1 rfl ?_
    refine k_iload_n hx dX5_count_14 1 rfl ?_
    refine k_iald (v := (σ.1.1.getD k.toNat 0)) hx dX5_count_15 n_2 L_2 (by omega) (by decide) (by have := hI.1.2.1 k.toNat (by omega); rwa [show ((k.toNat : Nat) : Int) = k by omega] at this) ?_
    refine k_ri hx hr dX5_count_16 ?_
    exact ⟨by unfold aQ qCount; rw [if_pos h_4], hI, fun _ _ => rfl⟩
end
section
/-! the class's own methods: swaps, felling -/
theorem Ct.imp {g : GE} {l : Launch} {μ : Mu} {mc ms : Nat} {av : List Value} {L : Lay} {n : Nat} {M : Mem} {post post' : Option Value → Lay → Nat → Mem → Prop} (h : Ct g l μ mc ms av L n M post) (hq : ∀ r L n M, post r L n M → post' r L n M) : Ct g l μ mc ms av L n M post' := by
  have h : MetFree l μ.1 (headSpec (mW μ) (mRm μ mc ms)) (Pz g av L n M) (fun _ _ _ _ _ => True) (fun a st o t => Qz g post a st o t ∧ ∃ Lc, FrameEnd st o t Lc mc ms ∧ ∀ q ∈ Lc, g.1 ≤ q.base) := h
  show MetFree l μ.1 (headSpec (mW μ) (mRm μ mc ms)) (Pz g av L n M) (fun _ _ _ _ _ => True) (fun a st o t => Qz g post' a st o t ∧ ∃ Lc, FrameEnd st o t Lc mc ms ∧ ∀ q ∈ Lc, g.1 ≤ q.base)
  intro p e ha hc hk s m args below hf happ hP hK
  obtain ⟨n, o, h1, h2, h3, ⟨⟨⟨r, L, n', M, g1, g2, g3⟩, h4⟩, h5⟩⟩ := h p e ha hc hk s m args below hf happ hP hK
  exact ⟨n, o, h1, h2, h3, ⟨⟨⟨r, L, n', M, g1, hq _ _ _ _ g2, g3⟩, h4⟩, h5⟩⟩
theorem Ci.imp {g : GE} {l : Launch} {μ : Mu} {av : List Value} {M : Mem} {post post' : Int → Mem → Prop} (h : Ci g l μ av M post) (hq : ∀ z M', post z M' → post' z M') : Ci g l μ av M post' := by
  refine Ct.imp h (fun r L n M h => ?_)
  obtain ⟨z, h1, h2, h3, h4⟩ := h
  exact ⟨z, h1, h2, h3, hq _ _ h4⟩
theorem c_X5_swap {g : GE} {l : Launch} {M : Mem} {σ : Sg} (hI : Inv M σ) {p b : Int} (hpr : -2147483648 ≤ p ∧ p < 2147483648) (hbr : -2147483648 ≤ b ∧ b < 2147483648) : Ci g l μX5_swap [vR g 0, vI p, vI b] M (PO M (aSwap σ p b)) := by
  refine Ci.of (by decide +kernel) rfl rfl (fun x hx hr => ?_)
  refine k_iload_n hx dX5_swap_0 1 rfl ?_
  refine k_sp (rest := []) (e := (b2i (decide (0 ≤ p ∧ p < 5)))) hx sX5_109 dX5_swap_1 (c_X5_isSwap (z := p) (by omega)) rfl rfl rfl ⟨rfl, rfl⟩ ⟨by decide, by decide⟩ ?_
  refine k_bne hx dX5_swap_4 (fun h_4 => ?_) (fun h_4 => ?_)
  · refine k_iload_n hx dX5_swap_9 2 rfl ?_
    refine k_sp (rest := []) (e := (b2i (decide (0 ≤ b ∧ b < 2)))) hx sX5_112 dX5_swap_10 (c_X5_isBack (z := b) (by omega)) rfl rfl rfl ⟨rfl, rfl⟩ ⟨by decide, by decide⟩ ?_
    refine k_bne hx dX5_swap_13 (fun h_13 => ?_) (fun h_13 => ?_)
    · refine k_iconst hx dX5_swap_19 ?_
      refine k_istore_n (ls' := [(0, vR g 0), (1, vI p), (2, vI b), (3, vI 0)]) hx dX5_swap_20 rfl rfl (by decide) ?_
      have loop2 : ∀ (f : Nat) (k : Nat) (z : Int) (M' : Mem) (B : Ab), z = k → k ≤ 4 → 4 - k < f → Inv M' (B, rcd σ) → B.1 = σ.1.1 → (∀ r : Nat, r < 4 → B.2.getD r [] = if r < k then swF p b (σ.1.2.getD r []) else σ.1.2.getD r []) → (∀ a, 120 ≤ a → M' a = M a) → (∀ r : Nat, r < 4 → (swF p b (σ.1.2.getD r [])).length ≤ 120) → K x g 0 0 LAY (NN g) M' 75 [(0, vR g 0), (1, vI p), (2, vI b), (3, vI z)] [] := by
        intro f
        induction f with
        | zero => intro k z M' B hz hk hf hJ hB1 hB2 hm hfit; omega
        | succ f ih =>
          intro k z M' B hz hk hf hJ hB1 hB2 hm hfit
          refine k_iload_n hx dX5_swap_75 3 rfl ?_
          refine k_iconst hx dX5_swap_76 ?_
          refine k_icmp_ge hx dX5_swap_77 (by omega) (fun h_77 => ?_) (fun h_77 => ?_)
          · refine k_aload_n hx dX5_swap_117 0 rfl ?_
            refine k_get (v := vR g 1) hx fX5_12 dX5_swap_118 n_0 L_0 rfl ?_
            have hBe : B = (σ.1.1, σ.1.2.map (swF p b)) := by
              have h0 : B.2.length = 4 := hJ.1.1.2.1
              have h1 : σ.1.2.length = 4 := hI.1.1.2.1
              refine Prod.ext hB1 (ext4 h0 (by rw [List.length_map]; exact h1) (fun r hr4 => ?_))
              rw [hB2 r hr4, if_pos (by omega), map_getD4 (by omega)]
            refine k_vp (rest := []) (e := (allC B)) hx vX5_119 dX5_swap_121 (c_X3_allCrossings isS_1 hJ.1) n_1 L_1 rfl rfl rfl ⟨rfl, rfl⟩ ⟨by decide, by decide⟩ ?_
            refine k_ri hx hr dX5_swap_124 ?_
            subst hBe
            exact ⟨by unfold aSwap; rw [if_pos h_4, if_pos h_13, if_pos hfit], by unfold aSwap; rw [if_pos h_4, if_pos h_13, if_pos hfit]; exact hJ, hm⟩
          · have hz4 : 0 ≤ z ∧ z < 4 := by omega
            have hzk : z.toNat = k := by omega
            obtain ⟨hv, hvl⟩ := hJ.1.rope hz4
            refine k_aload_n hx dX5_swap_80 0 rfl ?_
            refine k_aload_n hx dX5_swap_81 0 rfl ?_
            refine k_get (v := vR g 1) hx fX5_12 dX5_swap_82 n_0 L_0 rfl ?_
            refine k_get (v := vR g 3) hx fX5_75 dX5_swap_85 n_1 L_1 rfl ?_
            refine k_iload_n hx dX5_swap_88 3 rfl ?_
            refine k_aald (q := (4 + 2 * z.toNat)) hx dX5_swap_89 n_3 L_3 (by decide) (by simp only [List.length_cons, List.length_nil]; omega) (by decide) (rope_at hz4) ?_
            refine k_iload_n hx dX5_swap_90 1 rfl ?_
            refine k_iload_n hx dX5_swap_91 2 rfl ?_
            refine k_vv (rest := []) hx vX5_115 dX5_swap_92 (c_X5_laySwapped (isS1w (g := g) hz4) hv hvl (by omega) hvl h_4 h_13) n_0 L_0 rfl rfl rfl ⟨rfl, rfl⟩ ⟨by decide, by decide⟩ (fun M_92 p_92 => ?_)
            obtain ⟨q1, q2⟩ := p_92
            have e1 : rope B z = σ.1.2.getD k [] := by show B.2.getD z.toNat [] = _; rw [hzk, hB2 k (by omega), if_neg (by omega)]
            have hfk := hfit k (by omega)
            rw [e1] at q1
            refine k_aload_n hx dX5_swap_95 0 rfl ?_
            refine k_get (v := vR g 1) hx fX5_12 dX5_swap_96 n_0 L_0 rfl ?_
            refine k_get (v := vR g 3) hx fX5_75 dX5_swap_99 n_1 L_1 rfl ?_
            refine k_iload_n hx dX5_swap_102 3 rfl ?_
            refine k_aald (q := (4 + 2 * z.toNat)) hx dX5_swap_103 n_3 L_3 (by decide) (by simp only [List.length_cons, List.length_nil]; omega) (by decide) (rope_at hz4) ?_
            refine k_aload_n hx dX5_swap_104 0 rfl ?_
            refine k_get (v := vR g 114) hx fX5_50 dX5_swap_105 n_0 L_0 rfl ?_
            refine k_vv (rest := []) hx vX5_106 dX5_swap_108 (c_X4_copyFrom (isS1w (g := g) hz4) isW_114 q1 (by omega) (by omega) (by omega)) (isS1w (g := g) hz4).2.2.1 (isS1w (g := g) hz4).1 rfl rfl rfl ⟨rfl, rfl⟩ ⟨by decide, by decide⟩ (fun M_108 p_108 => ?_)
            obtain ⟨q3, q4⟩ := p_108
            refine k_iinc (ls' := [(0, vR g 0), (1, vI p), (2, vI b), (3, vI (z + 1))]) hx dX5_swap_111 3 rfl rfl rfl (by decide) ?_
            refine k_goto hx dX5_swap_114 ?_
            have hJ2 : Inv M_92 (B, rcd σ) := hJ.same (fun a ha => q2 a (by omega) (by omega))
            refine ih (k + 1) (z + 1) M_108 (setR B z (swF p b (σ.1.2.getD k []))) (by omega) (by omega) (by omega) (hJ2.set (hJ2.1.setR hz4 q3 q4 hfk) (fun a h1 h2 => q4 a (by omega) (by omega))) hB1 (fun r hr4 => ?_) (fun a ha => by rw [q4 a (by omega) (by omega), q2 a (by omega) (by omega)]; exact hm a ha) hfit
            have hBl : B.2.length = 4 := hJ.1.1.2.1
            show (B.2.set z.toNat _).getD r [] = _
            rw [getD_set (by omega)]
            by_cases hrk : r = k
            · rw [if_pos (by omega), if_pos (by omega), hrk]
            · rw [if_neg (by omega), hB2 r hr4]
              by_cases hrk2 : r < k
              · rw [if_pos hrk2, if_pos (by omega)]
              · rw [if_neg hrk2, if_neg (by omega)]
      have loop1 : ∀ (f : Nat) (k : Nat) (z : Int) (M' : Mem), z = k → k ≤ 4 → 4 - k < f → (∀ r : Nat, r < k → (swF p b (σ.1.2.getD r [])).length ≤ 120) → Off 114 M M' → K x g 0 0 LAY (NN g) M' 21 [(0, vR g 0), (1, vI p), (2, vI b), (3, vI z)] [] := by
        intro f
        induction f with
        | zero => intro k z M' hz hk hf hfit ho; omega
        | succ f ih =>
          intro k z M' hz hk hf hfit ho
          refine k_iload_n hx dX5_swap_21 3 rfl ?_
          refine k_iconst hx dX5_swap_22 ?_
          refine k_icmp_ge hx dX5_swap_23 (by omega) (fun h_23 => ?_) (fun h_23 => ?_)
          · have hJ : Inv M' σ := hI.same (fun a ha => ho a (by omega) (by omega))
            refine k_aload_n hx dX5_swap_62 0 rfl ?_
            refine k_get (v := vR g 12) hx fX5_19 dX5_swap_63 n_0 L_0 rfl ?_
            refine k_aload_n hx dX5_swap_66 0 rfl ?_
            refine k_get (v := vR g 1) hx fX5_12 dX5_swap_67 n_0 L_0 rfl ?_
            refine k_vv (rest := []) hx vX5_64 dX5_swap_70 (c_X1_remember hJ.2.1 hJ.1) n_12 L_12 rfl rfl rfl ⟨rfl, rfl⟩ ⟨by decide, by decide⟩ (fun M_70 p_70 => ?_)
            have hI2 := hJ.rec p_70
            refine k_iconst hx dX5_swap_73 ?_
            refine k_istore_n (ls' := [(0, vR g 0), (1, vI p), (2, vI b), (3, vI 0)]) hx dX5_swap_74 rfl rfl (by decide) ?_
            exact loop2 5 0 0 M_70 σ.1 rfl (by omega) (by omega) hI2 rfl (fun r hr4 => by rw [if_neg (by omega)]) (fun a ha => by rw [p_70.2 a (by omega)]; exact ho a (by omega) (by omega)) (fun r hr4 => hfit r (by omega))
          · have hz4 : 0 ≤ z ∧ z < 4 := by omega
            have hzk : z.toNat = k := by omega
            have hJ : Inv M' σ := hI.same (fun a ha => ho a (by omega) (by omega))
            obtain ⟨hv, hvl⟩ := hJ.1.rope hz4
            refine k_aload_n hx dX5_swap_26 0 rfl ?_
            refine k_aload_n hx dX5_swap_27 0 rfl ?_
            refine k_get (v := vR g 1) hx fX5_12 dX5_swap_28 n_0 L_0 rfl ?_
            refine k_get (v := vR g 3) hx fX5_75 dX5_swap_31 n_1 L_1 rfl ?_
            refine k_iload_n hx dX5_swap_34 3 rfl ?_
            refine k_aald (q := (4 + 2 * z.toNat)) hx dX5_swap_35 n_3 L_3 (by decide) (by simp only [List.length_cons, List.length_nil]; omega) (by decide) (rope_at hz4) ?_
            refine k_iload_n hx dX5_swap_36 1 rfl ?_
            refine k_iload_n hx dX5_swap_37 2 rfl ?_
            refine k_vv (rest := []) hx vX5_115 dX5_swap_38 (c_X5_laySwapped (isS1w (g := g) hz4) hv hvl (by omega) hvl h_4 h_13) n_0 L_0 rfl rfl rfl ⟨rfl, rfl⟩ ⟨by decide, by decide⟩ (fun M_38 p_38 => ?_)
            obtain ⟨q1, q2⟩ := p_38
            have e1 : rope σ.1 z = σ.1.2.getD k [] := by show σ.1.2.getD z.toNat [] = _; rw [hzk]
            rw [e1] at q1
            have hsl : (swF p b (σ.1.2.getD k [])).length ≤ 480 := by rw [← e1]; have := swF_len p b (rope σ.1 z); omega
            refine k_aload_n hx dX5_swap_41 0 rfl ?_
            refine k_get (v := vR g 114) hx fX5_50 dX5_swap_42 n_0 L_0 rfl ?_
            refine k_get (v := vI ((swF p b (σ.1.2.getD k [])).length)) hx fX5_79 dX5_swap_45 n_114 L_114 (congrArg vI (show M_38 114 1 = ((swF p b (σ.1.2.getD k [])).length) from q1.1)) ?_
            refine k_bipush hx dX5_swap_48 (by decide +kernel) ?_
            refine k_icmp_le hx dX5_swap_50 (by omega) (fun h_50 => ?_) (fun h_50 => ?_)
            · refine k_iinc (ls' := [(0, vR g 0), (1, vI p), (2, vI b), (3, vI (z + 1))]) hx dX5_swap_56 3 rfl rfl rfl (by decide) ?_
              refine k_goto hx dX5_swap_59 ?_
              refine ih (k + 1) (z + 1) M_38 (by omega) (by omega) (by omega) (fun r hr4 => ?_) (ho.tr q2)
              by_cases hrk : r = k
              · subst hrk; omega
              · exact hfit r (by omega)
            · refine k_bipush hx dX5_swap_53 (by decide +kernel) ?_
              refine k_ri hx hr dX5_swap_55 ?_
              have hno : ¬ ∀ r : Nat, r < 4 → (swF p b (σ.1.2.getD r [])).length ≤ 120 := fun h => by have := h k (by omega); omega
              exact ⟨by unfold aSwap; rw [if_pos h_4, if_pos h_13, if_neg hno], by unfold aSwap; rw [if_pos h_4, if_pos h_13, if_neg hno]; exact hJ.same (fun a ha => q2 a (by omega) (by omega)), fun a ha => (ho.tr q2) a (by omega) (by omega)⟩
      exact loop1 5 0 0 M rfl (by omega) (by omega) (fun r h => absurd h (by omega)) Off.rf
    · refine k_bipush hx dX5_swap_16 (by decide +kernel) ?_
      refine k_ri hx hr dX5_swap_18 ?_
      exact ⟨by unfold aSwap; rw [if_pos h_4, if_neg h_13], by unfold aSwap; rw [if_pos h_4, if_neg h_13]; exact hI, fun _ _ => rfl⟩
  · refine k_iconst hx dX5_swap_7 ?_
    refine k_ri hx hr dX5_swap_8 ?_
    exact ⟨by unfold aSwap; rw [if_neg h_4], by unfold aSwap; rw [if_neg h_4]; exact hI, fun _ _ => rfl⟩
end
section
/-! rows of making: objects and arrays stand behind one another -/
def clr (M : Mem) (i : Nat) : Mem := fun a b => if a = i then 0 else M a b
theorem clr_s {M : Mem} {i : Nat} {k : Int} : clr M i i k = 0 := if_pos rfl
theorem clr_n {M : Mem} {i a : Nat} (h : a ≠ i) : clr M i a = M a := funext fun _ => if_neg h
theorem rep_mk1 {g : GE} {n : Nat} {L : Lay} {M : Mem} {H H1 : Heap} {k : LK} (hR : Rep g n L M H) (hs : H1.size = g.1 + n + 1) (ho : ∀ q : Nat, q < g.1 + n → H1[q]? = H[q]?) (hc : cellAt g (g.1 + n) (fun _ => 0) H1 k) : Rep g (n + 1) (upL L n k) (clr M n) H1 := by
  refine ⟨by rw [hs]; omega, fun j hj => ?_⟩
  by_cases hjn : j = n
  · subst hjn
    rw [upL_s, show clr M j j = fun _ => 0 from funext fun b => if_pos rfl]
    exact hc
  · rw [upL_n hjn, clr_n hjn]
    exact (hR.2 j (by omega)).kept (ho _ (by omega))
def df : FS → Value
  | none => .int 0
  | some _ => .null
theorem df_ok {g : GE} {k : Nat} {o : FS} (h : o = none ∨ o = some none) : df o = fv g (fun _ => 0) k o := by
  rcases h with rfl | rfl
  · show Value.int 0 = Value.int (zI 0)
    rw [zI_0]
  · rfl
/-- the entry 'index' of 'own' makes an object of class ci, its fields fs at first -/
def NW (own : String) (index ci : Nat) (fs : List FS) : Prop := ∃ (C : String) (T : u_T) (N : Nat) (ty : Nat → FieldType), classes[ci]? = some (C, T, N) ∧ Cond.classLink own index C ∈ TB ∧ Cond.instantiable C N ∈ TB ∧ Cond.initialized C ∈ TB ∧ (∀ w ∈ u_ws C T N, w ∈ TB) ∧ (∀ k, k < N → parseFieldDescriptor (T k).2.2.1 = some (ty k)) ∧ fs.length = N ∧ (∀ k, k < N → defaultValue (ty k) = df (fs.getD k none)) ∧ ∀ o ∈ fs, o = none ∨ o = some none
section MAKE
variable {x : Fx} {g : GE} {cc : ByteArray} {own : String} {nL : Nat} {R : Room} {cs sl : Nat} {L : Lay} {n : Nat} {M : Mem} {pc pc' tgt : Nat} {ls : List (Nat × Value)} {st : List Value}
theorem k_new (hx : Cx x g cc own nL R) {index ci N : Nat} {fs : List FS} (hn : NW own index ci fs) (hd : At cc pc (.new index) 3 pc') (hN : fs.length = N) (hc : cs + 1 ≤ R.cells ∧ sl + N ≤ R.slots) (kk : ∀ L' M', L' = upL L n (kO ci fs) → M' = clr M n → K x g (cs + 1) (sl + N) L' (n + 1) M' pc' ls (vR g n :: st)) : K x g cs sl L n M pc ls st := by
  intro H locs la hR hS hl
  obtain ⟨hex, hcc, hnl, how, hts, hK, hRm⟩ := hx
  obtain ⟨C, T, N', ty, hci, h1, h2, h3, hin, hty, hlen, hdf, hfs⟩ := hn
  obtain ⟨hd1, hd2⟩ := hd
  subst hd2
  have hNN : N' = N := hlen.symm.trans hN
  subst hNN
  have hKn := hK.1.1 ci _ hci
  refine W.newcK hex hcc how (hts _ h1) (hts _ h2) (hts _ h3) rfl hd1 (by rw [hRm]; exact hc.1) (by rw [hRm]; exact hc.2) hKn.2.1 (h := g.1 + n) hR.1 fun H1 kC hkC e1 z1 o1 => ?_
  have hob := u_born ty hts hin hKn hkC e1 hty
  refine kk _ _ rfl rfl H1 locs la (rep_mk1 hR z1 o1 ⟨_, hci, hob.to (fun k hk => ?_)⟩) ⟨by have := hS.1; have := hR.1; omega, fun q q1 q2 => (o1 q (by have := hS.1; have := hR.1; omega)).trans (hS.2.1 q q1 q2), hS.2.2⟩ hl
  rw [hdf k hk]
  refine df_ok ?_
  have hk2 : k < fs.length := by rw [hlen]; exact hk
  rw [List.getD_eq_getElem?_getD, List.getElem?_eq_getElem hk2]
  exact hfs _ (List.getElem_mem hk2)
theorem k_newaG (hx : Cx x g cc own nL R) {t N : Nat} {z : Int} {at' : ArrayType} (ht : (t = 0 ∧ at' = .int) ∨ (t = 1 ∧ at' = .boolean)) (hd : At cc pc (.newarray at') 2 pc') (hz : z = N) (hN : N ≤ 100000) (hc : cs + 1 ≤ R.cells ∧ sl + N ≤ R.slots) (kk : ∀ L' M', L' = upL L n (kA t N) → M' = clr M n → K x g (cs + 1) (sl + N) L' (n + 1) M' pc' ls (vR g n :: st)) : K x g cs sl L n M pc ls (vI z :: st) := by
  intro H locs la hR hS hl
  obtain ⟨hex, hcc, hnl, how, hts, hK, hRm⟩ := hx
  obtain ⟨hd1, hd2⟩ := hd
  subst hd2
  subst hz
  have hcl : (zI (N : Int)).toNatClampNeg = N := by
    have := zI_clamp (z := (N : Int)) (N := N + 1) (by omega) (by omega) (by omega)
    omega
  have hng : ¬ zI (N : Int) < 0 := by
    rw [← zI_0, zI_lt (by omega)]; omega
  have key : ∀ (ty : FieldType) (H1 : Heap) (cA : ClassId), newarray.typeOf at' = ty → defaultValue ty = .int 0 → cA = g.2.2.1 t → H1[g.1 + n]? = some (arrV cA N (fun _ => defaultValue (newarray.typeOf at'))) → H1.size = g.1 + n + 1 → (∀ q, q < g.1 + n → H1[q]? = H[q]?) → W (xP x) (xL x) (xE x) (xR x) (xS x) (xM x) (xA x) (xB x) (xT x) (xC x) H1 locs (cs + 1) (sl + N) (xQ x) (F0 (xM x) (pc + 2) la (vR g n :: st)) := by
    intro ty H1 cA hty hdv hcA e1 z1 o1
    subst hcA
    refine kk _ _ rfl rfl H1 locs la (rep_mk1 hR z1 o1 ?_) ⟨by have := hS.1; have := hR.1; omega, fun q q1 q2 => (o1 q (by have := hS.1; have := hR.1; omega)).trans (hS.2.1 q q1 q2), hS.2.2⟩ hl
    show H1[g.1 + n]? = some (arrV (g.2.2.1 t) N (fun _ => Value.int (zI 0)))
    rw [e1, hty, hdv, zI_0]
  rcases ht with ⟨rfl, rfl⟩ | ⟨rfl, rfl⟩
  · refine va_newaK (atype := .int) hex hcc (hts _ ac_I) rfl hd1 rfl hng hcl (by show N * 4 ≤ 536870912; omega) (by rw [hRm]; exact hc.1) (by rw [hRm]; exact hc.2) (h := g.1 + n) hR.1 fun H1 cA e1 z1 o1 hAr hNm => ?_
    have h0 : (xS x).vm.findClass ("[" ++ (newarray.typeOf .int).toString) = some (g.2.2.1 0) := (hK.1.2 0 _ rfl).2
    exact key _ H1 cA rfl rfl (Option.some.inj (hNm.symm.trans h0)) e1 z1 o1
  · refine va_newaK (atype := .boolean) hex hcc (hts _ ac_Z) rfl hd1 rfl hng hcl (by show N * 1 ≤ 536870912; omega) (by rw [hRm]; exact hc.1) (by rw [hRm]; exact hc.2) (h := g.1 + n) hR.1 fun H1 cA e1 z1 o1 hAr hNm => ?_
    have h0 : (xS x).vm.findClass ("[" ++ (newarray.typeOf .boolean).toString) = some (g.2.2.1 1) := (hK.1.2 1 _ rfl).2
    exact key _ H1 cA rfl rfl (Option.some.inj (hNm.symm.trans h0)) e1 z1 o1
theorem k_newaI (hx : Cx x g cc own nL R) {N : Nat} {z : Int} (hd : At cc pc (.newarray .int) 2 pc') (hz : z = N) (hN : N ≤ 100000) (hc : cs + 1 ≤ R.cells ∧ sl + N ≤ R.slots) (kk : ∀ L' M', L' = upL L n (kA 0 N) → M' = clr M n → K x g (cs + 1) (sl + N) L' (n + 1) M' pc' ls (vR g n :: st)) : K x g cs sl L n M pc ls (vI z :: st) := k_newaG hx (Or.inl ⟨rfl, rfl⟩) hd hz hN hc kk
theorem k_newaZ (hx : Cx x g cc own nL R) {N : Nat} {z : Int} (hd : At cc pc (.newarray .boolean) 2 pc') (hz : z = N) (hN : N ≤ 100000) (hc : cs + 1 ≤ R.cells ∧ sl + N ≤ R.slots) (kk : ∀ L' M', L' = upL L n (kA 1 N) → M' = clr M n → K x g (cs + 1) (sl + N) L' (n + 1) M' pc' ls (vR g n :: st)) : K x g cs sl L n M pc ls (vI z :: st) := k_newaG hx (Or.inr ⟨rfl, rfl⟩) hd hz hN hc kk
theorem k_anew (hx : Cx x g cc own nL R) {t N index : Nat} {C : String} {z : Int} {qs : List (Option Nat)} (ht : (t = 2 ∧ C = RX3) ∨ (t = 3 ∧ C = RX4)) (hlk : Cond.classLink own index C ∈ TB) (hd : At cc pc (.anewarray index) 3 pc') (hz : z = N) (hN : N ≤ 100000) (hqs : qs = List.replicate N none) (hc : cs + 1 ≤ R.cells ∧ sl + N ≤ R.slots) (kk : ∀ L' M', L' = upL L n (kR t qs) → M' = clr M n → K x g (cs + 1) (sl + N) L' (n + 1) M' pc' ls (vR g n :: st)) : K x g cs sl L n M pc ls (vI z :: st) := by
  intro H locs la hR hS hl
  obtain ⟨hex, hcc, hnl, how, hts, hK, hRm⟩ := hx
  obtain ⟨hd1, hd2⟩ := hd
  subst hd2
  subst hz
  have hcl : (zI (N : Int)).toNatClampNeg = N := by
    have := zI_clamp (z := (N : Int)) (N := N + 1) (by omega) (by omega) (by omega)
    omega
  have hng : ¬ zI (N : Int) < 0 := by
    rw [← zI_0, zI_lt (by omega)]; omega
  have hao : va_AO C (xS x) := by rcases ht with ⟨-, rfl⟩ | ⟨-, rfl⟩; exact hK.2.2.1; exact hK.2.2.2
  have hnm : (xS x).vm.findClass ("[" ++ (FieldType.object C).toString) = some (g.2.2.1 t) := by
    rcases ht with ⟨rfl, rfl⟩ | ⟨rfl, rfl⟩
    · obtain ⟨_, _, _, _, _, h⟩ := (hK.1.2 2 _ rfl).2; exact h
    · obtain ⟨_, _, _, _, _, h⟩ := (hK.1.2 3 _ rfl).2; exact h
  refine W.anew hex hcc how (hts _ hlk) (va_AO.use hao) rfl hd1 rfl hng (by rw [hcl]; omega) (by rw [hRm]; exact hc.1) (by rw [hRm, hcl]; exact hc.2) fun cA kA comp f1 f2 f3 f4 => ?_
  have hcA : cA = g.2.2.1 t := Option.some.inj (f1.symm.trans hnm)
  rw [hcl]
  generalize hH1 : H.push ({ cls := cA, slots := Array.replicate N .null, vm := .none } : Cell) = H1
  have hRs := hR.1
  have z1 : H1.size = g.1 + n + 1 := by rw [← hH1, Array.size_push, hRs]
  have e1 : H1[g.1 + n]? = some (arrV cA N (fun _ => .null)) := by rw [← hH1, ← hRs, Array.getElem?_push_size, ← arrV_new]
  have o1 : ∀ q : Nat, q < g.1 + n → H1[q]? = H[q]? := fun q hq => by rw [← hH1, Array.getElem?_push, if_neg (by omega)]
  have hv : Value.ref H.size = vR g n := by rw [hRs]
  rw [hv]
  refine kk _ _ rfl rfl H1 locs la (rep_mk1 hR z1 o1 ?_) ⟨by have := hS.1; omega, fun q q1 q2 => (o1 q (by have := hS.1; omega)).trans (hS.2.1 q q1 q2), hS.2.2⟩ hl
  subst hqs
  show H1[g.1 + n]? = some (arrV (g.2.2.1 t) (List.replicate N none).length _)
  rw [e1, hcA]
  have hf : (fun j => va_rf (((List.replicate N (none : Option Nat)).getD j none).map (fun q => g.1 + q))) = fun _ => Value.null := by
    funext j
    have : (List.replicate N (none : Option Nat)).getD j none = none := by
      rw [List.getD_eq_getElem?_getD, List.getElem?_replicate]; split <;> rfl
    rw [this]; rfl
  rw [hf, List.length_replicate]
theorem k_aast (hx : Cx x g cc own nL R) {t i q ci : Nat} {qs qs' : List (Option Nat)} {z : Int} {fs : List FS} (ht : (t = 2 ∧ ci = 3) ∨ (t = 3 ∧ ci = 4)) (hd : At cc pc .aastore 1 pc') (hi : i < n) (hL : L i = kR t qs) (hq : q < n) (hLq : L q = kO ci fs) (hz : 0 ≤ z ∧ z < qs.length) (hN : qs.length ≤ 2147483647) (hs : qs' = qs.set z.toNat (some q)) (kk : ∀ L', L' = upL L i (kR t qs') → K x g cs sl L' n M pc' ls st) : K x g cs sl L n M pc ls (vR g q :: vI z :: vR g i :: st) := by
  intro H locs la hR hS hl
  obtain ⟨hex, hcc, hnl, how, hts, hK, -⟩ := hx
  obtain ⟨hd1, hd2⟩ := hd
  subst hd2
  have hcell := hR.2 i hi
  rw [hL] at hcell
  have hcq := hR.2 q hq
  rw [hLq] at hcq
  have hc := zI_clamp hz.1 hz.2 hN
  have h1 := zI_in hz.1 hz.2 hN
  have hidx : (zI z).toNatClampNeg = z.toNat := by omega
  obtain ⟨C, T, N, hci, hty⟩ : ∃ (C : String) (T : u_T) (N : Nat), classes[ci]? = some (C, T, N) ∧ tyT t = .object C := by
    rcases ht with ⟨rfl, rfl⟩ | ⟨rfl, rfl⟩
    · exact ⟨_, _, _, rfl, rfl⟩
    · exact ⟨_, _, _, rfl, rfl⟩
  obtain ⟨kA, comp, k1, k2, k3, -⟩ : ∃ (kA : Class) (comp : ClassId), (xS x).vm.classes[g.2.2.1 t]? = some kA ∧ kA.kind = .array comp (.object C) ∧ (xS x).vm.findClass C = some comp ∧ True := by
    rcases ht with ⟨rfl, rfl⟩ | ⟨rfl, rfl⟩
    · cases hci
      obtain ⟨kA, comp, a1, a2, a3, -⟩ := (hK.1.2 2 _ rfl).2
      exact ⟨kA, comp, a1, a2, a3, trivial⟩
    · cases hci
      obtain ⟨kA, comp, a1, a2, a3, -⟩ := (hK.1.2 3 _ rfl).2
      exact ⟨kA, comp, a1, a2, a3, trivial⟩
  obtain ⟨cellV, g1, g2, g3, -⟩ := cellAt.obj hci hcq
  have hcls := (hK.1.1 ci _ hci).2
  have hcomp : comp = g.2.1.1 ci := Option.some.inj (k3.symm.trans hcls.1)
  subst hcomp
  obtain ⟨kC, hkC, -⟩ := hcls.2
  refine W.aast hex hcc hcell (fun q h => by cases h) (fun h => by cases h) k1 k2 rfl hkC ⟨fun q => h1 (Or.inl q), by show _ < (arrV _ _ _).slots.size; rw [arrV_size]; omega⟩ g1 (fun q h => by rw [g3] at h; cases h) (by rw [g2]; exact hkC) (by rw [g2]; exact va_assign hcls) rfl rfl hd1 fun H1 e1 z1 o1 => ?_
  refine kk _ rfl H1 _ la (hR.upL z1 o1 hi ?_) (hS.put z1 o1 (Nat.le_add_right _ _)) hl
  subst hs
  show H1[g.1 + i]? = some (arrV (g.2.2.1 t) (qs.set z.toNat (some q)).length _)
  rw [e1, arrV_store, List.length_set, hidx]
  congr 2
  funext j
  by_cases hj : j = z.toNat
  · subst hj
    have hlt : z.toNat < qs.length := by omega
    simp [updV, List.getD_eq_getElem?_getD, hlt, va_rf]
  · simp [updV, hj, List.getD_eq_getElem?_getD, List.getElem?_set, Ne.symm hj]
theorem k_objI (hx : Cx x g cc own nL R) {index i : Nat} (hlk : Cond.methodLink own index Lib.objectInit ∈ TB) (hd : At cc pc (.invokespecial index) 3 pc') (hroom : Nat.ble 1 R.frames = true ∧ Nat.ble 12 R.locals = true) (kk : K x g cs sl L n M pc' ls []) : K x g cs sl L n M pc ls [vR g i] := by
  intro H locs la hR hS hl
  obtain ⟨hex, hcc, hnl, how, hts, hK, hRm⟩ := hx
  obtain ⟨hd1, hd2⟩ := hd
  subst hd2
  exact W.objInit hex hcc how (hts _ hlk) (hts _ o_in) (hts _ o_code) rfl hl.1 rfl hd1 (by rw [hRm]; exact Nat.le_of_ble_eq_true hroom.1) (by rw [hRm]; exact Nat.le_of_ble_eq_true hroom.2) (kk H locs la hR hS hl)
theorem k_iincV (hx : Cx x g cc own nL R) {k : Nat} {c a v : Int} (hd : At cc pc (.iinc k c) 3 pc') (j : Nat) (hj : ls[j]? = some (k, vI a)) (hv : a + c = v) {ls' : List (Nat × Value)} (hs : setL ls k (vI v) = ls') (hok : okL ls k = true) (hk : k < nL) (kk : K x g cs sl L n M pc' ls' st) : K x g cs sl L n M pc ls st := by
  subst hv
  exact k_iinc hx hd j hj hs hok hk kk
theorem k_putFN (hx : Cx x g cc own nL R) (hin2 : (xT x).name = "<init>") {index ci k i : Nat} {fs fs' : List FS} {v : Value} {o : FS} {ft : FieldType} (hf : FL own index ci k true ft) (hown : ∀ q : vw_C, classes[ci]? = some q → q.1 = own) (hd : At cc pc (.putfield index) 3 pc') (hi : i < n) (hL : L i = kO ci fs) (hv : ∀ m : Int → Int, fv g m k o = v) (hz : narrow ft v = v ∧ fits ft v = true) (hs : fs' = fs.set k o) (hk2 : k < fs.length) (kk : ∀ L', L' = upL L i (kO ci fs') → K x g cs sl L' n M pc' ls st) : K x g cs sl L n M pc ls (v :: vR g i :: st) :=
  k_putF hx hin2 hf hown hd hi hL hv hz hs hk2 (kk _ rfl)
end MAKE
end
section
/-! constructors -/
/-- the object at s and what it makes, m cells -/
def Mk (s m : Nat) (L : Lay) (M : Mem) (P : Mem → Prop) : Option Value → Lay → Nat → Mem → Prop := fun r L' n' M' => r = none ∧ n' = s + m ∧ (∀ j, j < s → L' j = L j) ∧ (∀ j, j < s → M' j = M j) ∧ (∀ j, s ≤ j → j < s + m → L' j = LAY j) ∧ P M'
theorem c_maxG {g : GE} {l : Launch} {L : Lay} {n : Nat} {M : Mem} {a b : Int} (h : (-2147483648 ≤ a ∧ a < 2147483648) ∧ (-2147483648 ≤ b ∧ b < 2147483648)) : Ct g l μJ9_max_7cf53 0 0 [vI a, vI b] L n M (fun r L' n' M' => r = some (vI (max a b)) ∧ L' = L ∧ n' = n ∧ M' = M) := by
  refine Ct.ofJ (by decide +kernel) rfl (fun x _ hx _ hr => ?_)
  show K x g 0 0 L n M 0 [(0, vI a), (1, vI b)] []
  refine k_iload_n hx dJ9_max_7cf53_0 0 rfl ?_
  refine k_iload_n hx dJ9_max_7cf53_1 1 rfl ?_
  refine k_icmp_lt hx dJ9_max_7cf53_2 (by omega) (fun h_2 => ?_) (fun h_2 => ?_)
  · refine k_iload_n hx dJ9_max_7cf53_9 1 rfl ?_
    refine k_iret hx hr dJ9_max_7cf53_10 ?_
    exact ⟨by rw [show max a b = b by omega], rfl, rfl, rfl⟩
  · refine k_iload_n hx dJ9_max_7cf53_5 0 rfl ?_
    refine k_goto hx dJ9_max_7cf53_6 ?_
    refine k_iret hx hr dJ9_max_7cf53_10 ?_
    exact ⟨by rw [show max a b = a by omega], rfl, rfl, rfl⟩
theorem nwX1_9 : NW RX1 9 3 [some none, some none] := ⟨RX3, TX3, 2, tyX3, rfl, wX1_9, in_X3, ini_X3, inX3, tyX3_ok, rfl, (fun k hk => by rcases (show k = 0 ∨ k = 1 by omega) with rfl | rfl <;> rfl), (by simp)⟩
theorem nwX3_15 : NW RX3 15 4 [some none, none] := ⟨RX4, TX4, 2, tyX4, rfl, wX3_15, in_X4, ini_X4, inX4, tyX4_ok, rfl, (fun k hk => by rcases (show k = 0 ∨ k = 1 by omega) with rfl | rfl <;> rfl), (by simp)⟩
theorem nwX5_9 : NW RX5 9 3 [some none, some none] := ⟨RX3, TX3, 2, tyX3, rfl, wX5_9, in_X3, ini_X3, inX3, tyX3_ok, rfl, (fun k hk => by rcases (show k = 0 ∨ k = 1 by omega) with rfl | rfl <;> rfl), (by simp)⟩
theorem nwX5_16 : NW RX5 16 1 [some none, none, none] := ⟨RX1, TX1, 3, tyX1, rfl, wX5_16, in_X1, ini_X1, inX1, tyX1_ok, rfl, (fun k hk => by rcases (show k = 0 ∨ k = 1 ∨ k = 2 by omega) with rfl | rfl | rfl <;> rfl), (by simp)⟩
theorem nwX5_31 : NW RX5 31 0 [some none, none, some none, some none, some none, none] := ⟨RX0, TX0, 6, tyX0, rfl, wX5_31, in_X0, ini_X0, inX0, tyX0_ok, rfl, (fun k hk => by rcases (show k = 0 ∨ k = 1 ∨ k = 2 ∨ k = 3 ∨ k = 4 ∨ k = 5 by omega) with rfl | rfl | rfl | rfl | rfl | rfl <;> rfl), (by simp)⟩
theorem nwX5_38 : NW RX5 38 2 [some none, some none, some none, some none] := ⟨RX2, TX2, 4, tyX2, rfl, wX5_38, in_X2, ini_X2, inX2, tyX2_ok, rfl, (fun k hk => by rcases (show k = 0 ∨ k = 1 ∨ k = 2 ∨ k = 3 by omega) with rfl | rfl | rfl | rfl <;> rfl), (by simp)⟩
theorem nwX5_45 : NW RX5 45 4 [some none, none] := ⟨RX4, TX4, 2, tyX4, rfl, wX5_45, in_X4, ini_X4, inX4, tyX4_ok, rfl, (fun k hk => by rcases (show k = 0 ∨ k = 1 by omega) with rfl | rfl <;> rfl), (by simp)⟩
set_option maxHeartbeats 4000000 in
theorem i_X4 {g : GE} {l : Launch} {L : Lay} {M : Mem} {i cap : Nat} (hW : IsW g i cap) (hT : L i = kO 4 [some none, none]) : Ct g l μX4_init 1 (0 + cap) [vR g i, vI cap] L (i + 1) M (Mk i 2 L M (fun M' => M' i 1 = 0)) := by
  refine Ct.of (by decide +kernel) rfl (fun x _ hx hnm hr => ?_)
  have h480 := hW.2.2.2.2
  show K x g 0 0 L (i + 1) M 0 [(0, vR g i), (1, vI cap)] []
  refine k_aload_n hx dX4_init_0 0 rfl ?_
  refine k_objI hx oX4 dX4_init_1 ⟨rfl, rfl⟩ ?_
  refine k_aload_n hx dX4_init_4 0 rfl ?_
  refine k_iload_n hx dX4_init_5 1 rfl ?_
  refine k_iconst hx dX4_init_6 ?_
  refine k_callS (rest := [vR g i]) hx sX4_9 dX4_init_7 (c_maxG (a := (cap : Int)) (b := 0) (by omega)) rfl rfl rfl ⟨rfl, rfl⟩ ⟨Nat.zero_le _, Nat.zero_le _⟩ (fun r2 L2 n2 M2 h2 => ?_)
  obtain ⟨hr2, hL2, hn2, hM2⟩ := h2
  rw [hr2, hL2, hn2, hM2, show max (cap : Int) 0 = cap by omega]
  show K x g 0 0 L (i + 1) M 10 [(0, vR g i), (1, vI cap)] [vI cap, vR g i]
  refine k_newaI (N := cap) hx dX4_init_10 rfl (by omega) ⟨Nat.le_refl _, Nat.le_refl _⟩ (fun L1 M1 hL1 hM1 => ?_)
  show K x g 1 (0 + cap) L1 (i + 2) M1 12 [(0, vR g i), (1, vI cap)] [vR g (i + 1), vR g i]
  have hT1 : L1 i = kO 4 [some none, none] := by rw [hL1, upL_n (by omega)]; exact hT
  have hN1 : L1 (i + 1) = kA 0 cap := by rw [hL1]; exact upL_s
  refine k_putFN (o := some (some (i + 1))) (fs' := [some (some (i + 1)), none]) hx hnm fX4_15 (fun q h => by cases h; rfl) dX4_init_12 (by omega) hT1 (fun m => rfl) ⟨rfl, rfl⟩ rfl (by simp only [List.length_cons, List.length_nil]; omega) (fun L2 hL2 => ?_)
  have hT2 : L2 i = kO 4 [some (some (i + 1)), none] := by rw [hL2]; exact upL_s
  refine k_aload_n hx dX4_init_15 0 rfl ?_
  refine k_iconst hx dX4_init_16 ?_
  refine k_putI (kz := 1) hx fX4_21 dX4_init_17 (by omega) hT2 rfl rfl (fun M3 hM3 => ?_)
  refine k_vret hx hr dX4_init_20 ?_
  refine ⟨rfl, rfl, fun j hj => ?_, fun j hj => ?_, fun j j0 j1 => ?_, ?_⟩
  · rw [hL2, upL_n (by omega), hL1, upL_n (by omega)]
  · rw [hM3, up_i (by omega), hM1, clr_n (by omega)]
  · rcases (show j = i ∨ j = (i + 1) by omega) with rfl | rfl
    · rw [hL2, upL_s]; exact hW.1.symm
    · rw [hL2, upL_n (by omega), hL1, upL_s]; exact hW.2.1.symm
  · show M3 i 1 = 0
    exact (by rw [hM3, up_s])
set_option maxHeartbeats 4000000 in
theorem i_X3 {g : GE} {l : Launch} {L : Lay} {M : Mem} {s : Nat} (hS : IsS g s) (hT : L s = kO 3 [some none, some none]) : Ct g l μX3_init 10 498 [vR g s] L (s + 1) M (Mk s 11 L M (fun M' => M' (s + 1) 0 = 1 ∧ M' (s + 1) 1 = 1 ∧ M' (s + 1) 2 = 1 ∧ M' (s + 1) 3 = 1 ∧ M' (s + 1) 4 = 1 ∧ M' (s + 1) 5 = 1 ∧ M' (s + 3) 1 = 0 ∧ M' (s + 5) 1 = 0 ∧ M' (s + 7) 1 = 0 ∧ M' (s + 9) 1 = 0)) := by
  refine Ct.of (by decide +kernel) rfl (fun x _ hx hnm hr => ?_)
  show K x g 0 0 L (s + 1) M 0 [(0, vR g s)] []
  refine k_aload_n hx dX3_init_0 0 rfl ?_
  refine k_objI hx oX3 dX3_init_1 ⟨rfl, rfl⟩ ?_
  refine k_aload_n hx dX3_init_4 0 rfl ?_
  refine k_bipush hx dX3_init_5 (by decide +kernel) ?_
  refine k_newaI (N := 6) hx dX3_init_7 rfl (by omega) ⟨Nat.le_of_ble_eq_true rfl, Nat.le_of_ble_eq_true rfl⟩ (fun L1 M1 hL1 hM1 => ?_)
  show K x g 1 6 L1 (s + 2) M1 9 [(0, vR g s)] [vR g (s + 1), vR g s]
  have hT1 : L1 s = kO 3 [some none, some none] := by rw [hL1, upL_n (by omega)]; exact hT
  have hN1 : L1 (s + 1) = kA 0 6 := by rw [hL1]; exact upL_s
  refine k_putFN (o := some (some (s + 1))) (fs' := [some (some (s + 1)), some none]) hx hnm fX3_9 (fun q h => by cases h; rfl) dX3_init_9 (by omega) hT1 (fun m => rfl) ⟨rfl, rfl⟩ rfl (by simp only [List.length_cons, List.length_nil]; omega) (fun L2 hL2 => ?_)
  have hT2 : L2 s = kO 3 [some (some (s + 1)), some none] := by rw [hL2]; exact upL_s
  refine k_iconst hx dX3_init_12 ?_
  refine k_istore_n (ls' := [(0, vR g s), (1, vI 0)]) hx dX3_init_13 rfl rfl (by decide) ?_
  refine k_iload_n hx dX3_init_14 1 rfl ?_
  refine k_bipush hx dX3_init_15 (by decide +kernel) ?_
  refine k_icmp_ge hx dX3_init_17 (by omega) (fun q => absurd q (by omega)) (fun _ => ?_)
  refine k_aload_n hx dX3_init_20 0 rfl ?_
  refine k_get (v := vR g (s + 1)) hx fX3_9 dX3_init_21 (by omega) hT2 rfl ?_
  refine k_iload_n hx dX3_init_24 1 rfl ?_
  refine k_iconst hx dX3_init_25 ?_
  refine k_iastN hx dX3_init_26 (by omega) (show L2 (s + 1) = kA 0 6 by rw [hL2, upL_n (by omega), hL1]; exact upL_s) (by omega) (by decide) (fun M3 hM3 => ?_)
  refine k_iincV (v := 1) (ls' := [(0, vR g s), (1, vI 1)]) hx dX3_init_27 1 rfl rfl rfl rfl (by decide) ?_
  refine k_goto hx dX3_init_30 ?_
  refine k_iload_n hx dX3_init_14 1 rfl ?_
  refine k_bipush hx dX3_init_15 (by decide +kernel) ?_
  refine k_icmp_ge hx dX3_init_17 (by omega) (fun q => absurd q (by omega)) (fun _ => ?_)
  refine k_aload_n hx dX3_init_20 0 rfl ?_
  refine k_get (v := vR g (s + 1)) hx fX3_9 dX3_init_21 (by omega) hT2 rfl ?_
  refine k_iload_n hx dX3_init_24 1 rfl ?_
  refine k_iconst hx dX3_init_25 ?_
  refine k_iastN hx dX3_init_26 (by omega) (show L2 (s + 1) = kA 0 6 by rw [hL2, upL_n (by omega), hL1]; exact upL_s) (by omega) (by decide) (fun M4 hM4 => ?_)
  refine k_iincV (v := 2) (ls' := [(0, vR g s), (1, vI 2)]) hx dX3_init_27 1 rfl rfl rfl rfl (by decide) ?_
  refine k_goto hx dX3_init_30 ?_
  refine k_iload_n hx dX3_init_14 1 rfl ?_
  refine k_bipush hx dX3_init_15 (by decide +kernel) ?_
  refine k_icmp_ge hx dX3_init_17 (by omega) (fun q => absurd q (by omega)) (fun _ => ?_)
  refine k_aload_n hx dX3_init_20 0 rfl ?_
  refine k_get (v := vR g (s + 1)) hx fX3_9 dX3_init_21 (by omega) hT2 rfl ?_
  refine k_iload_n hx dX3_init_24 1 rfl ?_
  refine k_iconst hx dX3_init_25 ?_
  refine k_iastN hx dX3_init_26 (by omega) (show L2 (s + 1) = kA 0 6 by rw [hL2, upL_n (by omega), hL1]; exact upL_s) (by omega) (by decide) (fun M5 hM5 => ?_)
  refine k_iincV (v := 3) (ls' := [(0, vR g s), (1, vI 3)]) hx dX3_init_27 1 rfl rfl rfl rfl (by decide) ?_
  refine k_goto hx dX3_init_30 ?_
  refine k_iload_n hx dX3_init_14 1 rfl ?_
  refine k_bipush hx dX3_init_15 (by decide +kernel) ?_
  refine k_icmp_ge hx dX3_init_17 (by omega) (fun q => absurd q (by omega)) (fun _ => ?_)
  refine k_aload_n hx dX3_init_20 0 rfl ?_
  refine k_get (v := vR g (s + 1)) hx fX3_9 dX3_init_21 (by omega) hT2 rfl ?_
  refine k_iload_n hx dX3_init_24 1 rfl ?_
  refine k_iconst hx dX3_init_25 ?_
  refine k_iastN hx dX3_init_26 (by omega) (show L2 (s + 1) = kA 0 6 by rw [hL2, upL_n (by omega), hL1]; exact upL_s) (by omega) (by decide) (fun M6 hM6 => ?_)
  refine k_iincV (v := 4) (ls' := [(0, vR g s), (1, vI 4)]) hx dX3_init_27 1 rfl rfl rfl rfl (by decide) ?_
  refine k_goto hx dX3_init_30 ?_
  refine k_iload_n hx dX3_init_14 1 rfl ?_
  refine k_bipush hx dX3_init_15 (by decide +kernel) ?_
  refine k_icmp_ge hx dX3_init_17 (by omega) (fun q => absurd q (by omega)) (fun _ => ?_)
  refine k_aload_n hx dX3_init_20 0 rfl ?_
  refine k_get (v := vR g (s + 1)) hx fX3_9 dX3_init_21 (by omega) hT2 rfl ?_
  refine k_iload_n hx dX3_init_24 1 rfl ?_
  refine k_iconst hx dX3_init_25 ?_
  refine k_iastN hx dX3_init_26 (by omega) (show L2 (s + 1) = kA 0 6 by rw [hL2, upL_n (by omega), hL1]; exact upL_s) (by omega) (by decide) (fun M7 hM7 => ?_)
  refine k_iincV (v := 5) (ls' := [(0, vR g s), (1, vI 5)]) hx dX3_init_27 1 rfl rfl rfl rfl (by decide) ?_
  refine k_goto hx dX3_init_30 ?_
  refine k_iload_n hx dX3_init_14 1 rfl ?_
  refine k_bipush hx dX3_init_15 (by decide +kernel) ?_
  refine k_icmp_ge hx dX3_init_17 (by omega) (fun q => absurd q (by omega)) (fun _ => ?_)
  refine k_aload_n hx dX3_init_20 0 rfl ?_
  refine k_get (v := vR g (s + 1)) hx fX3_9 dX3_init_21 (by omega) hT2 rfl ?_
  refine k_iload_n hx dX3_init_24 1 rfl ?_
  refine k_iconst hx dX3_init_25 ?_
  refine k_iastN hx dX3_init_26 (by omega) (show L2 (s + 1) = kA 0 6 by rw [hL2, upL_n (by omega), hL1]; exact upL_s) (by omega) (by decide) (fun M8 hM8 => ?_)
  refine k_iincV (v := 6) (ls' := [(0, vR g s), (1, vI 6)]) hx dX3_init_27 1 rfl rfl rfl rfl (by decide) ?_
  refine k_goto hx dX3_init_30 ?_
  refine k_iload_n hx dX3_init_14 1 rfl ?_
  refine k_bipush hx dX3_init_15 (by decide +kernel) ?_
  refine k_icmp_ge hx dX3_init_17 (by omega) (fun _ => ?_) (fun q => absurd q (by omega))
  refine k_aload_n hx dX3_init_33 0 rfl ?_
  refine k_iconst hx dX3_init_34 ?_
  refine k_anew (N := 4) (t := 3) (qs := [none, none, none, none]) hx (by first | exact Or.inl ⟨rfl, rfl⟩ | exact Or.inr ⟨rfl, rfl⟩) wX3_15a dX3_init_35 rfl (by omega) rfl ⟨Nat.le_of_ble_eq_true rfl, Nat.le_of_ble_eq_true rfl⟩ (fun L9 M9 hL9 hM9 => ?_)
  show K x g 2 10 L9 (s + 3) M9 38 [(0, vR g s), (1, vI 6)] [vR g (s + 2), vR g s]
  have hT9 : L9 s = kO 3 [some (some (s + 1)), some none] := by rw [hL9, upL_n (by omega)]; exact hT2
  have hN9 : L9 (s + 2) = kR 3 [none, none, none, none] := by rw [hL9]; exact upL_s
  refine k_putFN (o := some (some (s + 2))) (fs' := [some (some (s + 1)), some (some (s + 2))]) hx hnm fX3_17 (fun q h => by cases h; rfl) dX3_init_38 (by omega) hT9 (fun m => rfl) ⟨rfl, rfl⟩ rfl (by simp only [List.length_cons, List.length_nil]; omega) (fun L10 hL10 => ?_)
  have hA10_2 : L10 (s + 2) = kR 3 [none, none, none, none] := by rw [hL10, upL_n (by omega)]; exact hN9
  have hT10 : L10 s = kO 3 [some (some (s + 1)), some (some (s + 2))] := by rw [hL10]; exact upL_s
  refine k_iconst hx dX3_init_41 ?_
  refine k_istore_n (ls' := [(0, vR g s), (1, vI 0)]) hx dX3_init_42 rfl rfl (by decide) ?_
  refine k_iload_n hx dX3_init_43 1 rfl ?_
  refine k_iconst hx dX3_init_44 ?_
  refine k_icmp_ge hx dX3_init_45 (by omega) (fun q => absurd q (by omega)) (fun _ => ?_)
  refine k_aload_n hx dX3_init_48 0 rfl ?_
  refine k_get (v := vR g (s + 2)) hx fX3_17 dX3_init_49 (by omega) hT10 rfl ?_
  refine k_iload_n hx dX3_init_52 1 rfl ?_
  refine k_new (N := 2) hx nwX3_15 dX3_init_53 rfl ⟨Nat.le_of_ble_eq_true rfl, Nat.le_of_ble_eq_true rfl⟩ (fun L11 M11 hL11 hM11 => ?_)
  show K x g 3 12 L11 (s + 4) M11 56 [(0, vR g s), (1, vI 0)] [vR g (s + 3), vI 0, vR g (s + 2)]
  have hA11_2 : L11 (s + 2) = kR 3 [none, none, none, none] := by rw [hL11, upL_n (by omega)]; exact hA10_2
  have hT11 : L11 s = kO 3 [some (some (s + 1)), some (some (s + 2))] := by rw [hL11, upL_n (by omega)]; exact hT10
  have hN11 : L11 (s + 3) = kO 4 [some none, none] := by rw [hL11]; exact upL_s
  refine k_dup hx dX3_init_56 rfl ?_
  refine k_bipush hx dX3_init_57 (by decide +kernel) ?_
  refine k_callI (rest := [vR g (s + 3), vI 0, vR g (s + 2)]) hx iX3_21 dX3_init_59 (i_X4 (i := (s + 3)) (cap := 120) (hS.2.2.2.2.2.2.1) hN11) rfl rfl rfl ⟨rfl, rfl⟩ ⟨Nat.le_of_ble_eq_true rfl, Nat.le_of_ble_eq_true rfl⟩ (fun r12 L12 n12 M12 h12 => ?_)
  obtain ⟨rfl, rfl, kp12, km12, hl12, hP12⟩ := h12
  show K x g 4 132 L12 (s + 5) M12 62 [(0, vR g s), (1, vI 0)] [vR g (s + 3), vI 0, vR g (s + 2)]
  have hA12_2 : L12 (s + 2) = kR 3 [none, none, none, none] := (kp12 (s + 2) (by omega)).trans hA11_2
  have hT12 : L12 s = kO 3 [some (some (s + 1)), some (some (s + 2))] := (kp12 s (by omega)).trans hT11
  refine k_aast (ci := 4) (qs' := [some (s + 3), none, none, none]) hx (by first | exact Or.inl ⟨rfl, rfl⟩ | exact Or.inr ⟨rfl, rfl⟩) dX3_init_62 (by omega) hA12_2 (by omega) ((hl12 (s + 3) (by omega) (by omega)).trans (hS.2.2.2.2.2.2.1).1) ⟨by omega, by simp only [List.length_cons, List.length_nil]; omega⟩ (by simp only [List.length_cons, List.length_nil]; omega) rfl (fun L13 hL13 => ?_)
  have hT13 : L13 s = kO 3 [some (some (s + 1)), some (some (s + 2))] := by rw [hL13, upL_n (by omega)]; exact hT12
  have hA13_2 : L13 (s + 2) = kR 3 [some (s + 3), none, none, none] := by rw [hL13]; exact upL_s
  refine k_iincV (v := 1) (ls' := [(0, vR g s), (1, vI 1)]) hx dX3_init_63 1 rfl rfl rfl rfl (by decide) ?_
  refine k_goto hx dX3_init_66 ?_
  refine k_iload_n hx dX3_init_43 1 rfl ?_
  refine k_iconst hx dX3_init_44 ?_
  refine k_icmp_ge hx dX3_init_45 (by omega) (fun q => absurd q (by omega)) (fun _ => ?_)
  refine k_aload_n hx dX3_init_48 0 rfl ?_
  refine k_get (v := vR g (s + 2)) hx fX3_17 dX3_init_49 (by omega) hT13 rfl ?_
  refine k_iload_n hx dX3_init_52 1 rfl ?_
  refine k_new (N := 2) hx nwX3_15 dX3_init_53 rfl ⟨Nat.le_of_ble_eq_true rfl, Nat.le_of_ble_eq_true rfl⟩ (fun L14 M14 hL14 hM14 => ?_)
  show K x g 5 134 L14 (s + 6) M14 56 [(0, vR g s), (1, vI 1)] [vR g (s + 5), vI 1, vR g (s + 2)]
  have hA14_2 : L14 (s + 2) = kR 3 [some (s + 3), none, none, none] := by rw [hL14, upL_n (by omega)]; exact hA13_2
  have hT14 : L14 s = kO 3 [some (some (s + 1)), some (some (s + 2))] := by rw [hL14, upL_n (by omega)]; exact hT13
  have hN14 : L14 (s + 5) = kO 4 [some none, none] := by rw [hL14]; exact upL_s
  refine k_dup hx dX3_init_56 rfl ?_
  refine k_bipush hx dX3_init_57 (by decide +kernel) ?_
  refine k_callI (rest := [vR g (s + 5), vI 1, vR g (s + 2)]) hx iX3_21 dX3_init_59 (i_X4 (i := (s + 5)) (cap := 120) (hS.2.2.2.2.2.2.2.1) hN14) rfl rfl rfl ⟨rfl, rfl⟩ ⟨Nat.le_of_ble_eq_true rfl, Nat.le_of_ble_eq_true rfl⟩ (fun r15 L15 n15 M15 h15 => ?_)
  obtain ⟨rfl, rfl, kp15, km15, hl15, hP15⟩ := h15
  show K x g 6 254 L15 (s + 7) M15 62 [(0, vR g s), (1, vI 1)] [vR g (s + 5), vI 1, vR g (s + 2)]
  have hA15_2 : L15 (s + 2) = kR 3 [some (s + 3), none, none, none] := (kp15 (s + 2) (by omega)).trans hA14_2
  have hT15 : L15 s = kO 3 [some (some (s + 1)), some (some (s + 2))] := (kp15 s (by omega)).trans hT14
  refine k_aast (ci := 4) (qs' := [some (s + 3), some (s + 5), none, none]) hx (by first | exact Or.inl ⟨rfl, rfl⟩ | exact Or.inr ⟨rfl, rfl⟩) dX3_init_62 (by omega) hA15_2 (by omega) ((hl15 (s + 5) (by omega) (by omega)).trans (hS.2.2.2.2.2.2.2.1).1) ⟨by omega, by simp only [List.length_cons, List.length_nil]; omega⟩ (by simp only [List.length_cons, List.length_nil]; omega) rfl (fun L16 hL16 => ?_)
  have hT16 : L16 s = kO 3 [some (some (s + 1)), some (some (s + 2))] := by rw [hL16, upL_n (by omega)]; exact hT15
  have hA16_2 : L16 (s + 2) = kR 3 [some (s + 3), some (s + 5), none, none] := by rw [hL16]; exact upL_s
  refine k_iincV (v := 2) (ls' := [(0, vR g s), (1, vI 2)]) hx dX3_init_63 1 rfl rfl rfl rfl (by decide) ?_
  refine k_goto hx dX3_init_66 ?_
  refine k_iload_n hx dX3_init_43 1 rfl ?_
  refine k_iconst hx dX3_init_44 ?_
  refine k_icmp_ge hx dX3_init_45 (by omega) (fun q => absurd q (by omega)) (fun _ => ?_)
  refine k_aload_n hx dX3_init_48 0 rfl ?_
  refine k_get (v := vR g (s + 2)) hx fX3_17 dX3_init_49 (by omega) hT16 rfl ?_
  refine k_iload_n hx dX3_init_52 1 rfl ?_
  refine k_new (N := 2) hx nwX3_15 dX3_init_53 rfl ⟨Nat.le_of_ble_eq_true rfl, Nat.le_of_ble_eq_true rfl⟩ (fun L17 M17 hL17 hM17 => ?_)
  show K x g 7 256 L17 (s + 8) M17 56 [(0, vR g s), (1, vI 2)] [vR g (s + 7), vI 2, vR g (s + 2)]
  have hA17_2 : L17 (s + 2) = kR 3 [some (s + 3), some (s + 5), none, none] := by rw [hL17, upL_n (by omega)]; exact hA16_2
  have hT17 : L17 s = kO 3 [some (some (s + 1)), some (some (s + 2))] := by rw [hL17, upL_n (by omega)]; exact hT16
  have hN17 : L17 (s + 7) = kO 4 [some none, none] := by rw [hL17]; exact upL_s
  refine k_dup hx dX3_init_56 rfl ?_
  refine k_bipush hx dX3_init_57 (by decide +kernel) ?_
  refine k_callI (rest := [vR g (s + 7), vI 2, vR g (s + 2)]) hx iX3_21 dX3_init_59 (i_X4 (i := (s + 7)) (cap := 120) (hS.2.2.2.2.2.2.2.2.1) hN17) rfl rfl rfl ⟨rfl, rfl⟩ ⟨Nat.le_of_ble_eq_true rfl, Nat.le_of_ble_eq_true rfl⟩ (fun r18 L18 n18 M18 h18 => ?_)
  obtain ⟨rfl, rfl, kp18, km18, hl18, hP18⟩ := h18
  show K x g 8 376 L18 (s + 9) M18 62 [(0, vR g s), (1, vI 2)] [vR g (s + 7), vI 2, vR g (s + 2)]
  have hA18_2 : L18 (s + 2) = kR 3 [some (s + 3), some (s + 5), none, none] := (kp18 (s + 2) (by omega)).trans hA17_2
  have hT18 : L18 s = kO 3 [some (some (s + 1)), some (some (s + 2))] := (kp18 s (by omega)).trans hT17
  refine k_aast (ci := 4) (qs' := [some (s + 3), some (s + 5), some (s + 7), none]) hx (by first | exact Or.inl ⟨rfl, rfl⟩ | exact Or.inr ⟨rfl, rfl⟩) dX3_init_62 (by omega) hA18_2 (by omega) ((hl18 (s + 7) (by omega) (by omega)).trans (hS.2.2.2.2.2.2.2.2.1).1) ⟨by omega, by simp only [List.length_cons, List.length_nil]; omega⟩ (by simp only [List.length_cons, List.length_nil]; omega) rfl (fun L19 hL19 => ?_)
  have hT19 : L19 s = kO 3 [some (some (s + 1)), some (some (s + 2))] := by rw [hL19, upL_n (by omega)]; exact hT18
  have hA19_2 : L19 (s + 2) = kR 3 [some (s + 3), some (s + 5), some (s + 7), none] := by rw [hL19]; exact upL_s
  refine k_iincV (v := 3) (ls' := [(0, vR g s), (1, vI 3)]) hx dX3_init_63 1 rfl rfl rfl rfl (by decide) ?_
  refine k_goto hx dX3_init_66 ?_
  refine k_iload_n hx dX3_init_43 1 rfl ?_
  refine k_iconst hx dX3_init_44 ?_
  refine k_icmp_ge hx dX3_init_45 (by omega) (fun q => absurd q (by omega)) (fun _ => ?_)
  refine k_aload_n hx dX3_init_48 0 rfl ?_
  refine k_get (v := vR g (s + 2)) hx fX3_17 dX3_init_49 (by omega) hT19 rfl ?_
  refine k_iload_n hx dX3_init_52 1 rfl ?_
  refine k_new (N := 2) hx nwX3_15 dX3_init_53 rfl ⟨Nat.le_of_ble_eq_true rfl, Nat.le_of_ble_eq_true rfl⟩ (fun L20 M20 hL20 hM20 => ?_)
  show K x g 9 378 L20 (s + 10) M20 56 [(0, vR g s), (1, vI 3)] [vR g (s + 9), vI 3, vR g (s + 2)]
  have hA20_2 : L20 (s + 2) = kR 3 [some (s + 3), some (s + 5), some (s + 7), none] := by rw [hL20, upL_n (by omega)]; exact hA19_2
  have hT20 : L20 s = kO 3 [some (some (s + 1)), some (some (s + 2))] := by rw [hL20, upL_n (by omega)]; exact hT19
  have hN20 : L20 (s + 9) = kO 4 [some none, none] := by rw [hL20]; exact upL_s
  refine k_dup hx dX3_init_56 rfl ?_
  refine k_bipush hx dX3_init_57 (by decide +kernel) ?_
  refine k_callI (rest := [vR g (s + 9), vI 3, vR g (s + 2)]) hx iX3_21 dX3_init_59 (i_X4 (i := (s + 9)) (cap := 120) (hS.2.2.2.2.2.2.2.2.2) hN20) rfl rfl rfl ⟨rfl, rfl⟩ ⟨Nat.le_of_ble_eq_true rfl, Nat.le_of_ble_eq_true rfl⟩ (fun r21 L21 n21 M21 h21 => ?_)
  obtain ⟨rfl, rfl, kp21, km21, hl21, hP21⟩ := h21
  show K x g 10 498 L21 (s + 11) M21 62 [(0, vR g s), (1, vI 3)] [vR g (s + 9), vI 3, vR g (s + 2)]
  have hA21_2 : L21 (s + 2) = kR 3 [some (s + 3), some (s + 5), some (s + 7), none] := (kp21 (s + 2) (by omega)).trans hA20_2
  have hT21 : L21 s = kO 3 [some (some (s + 1)), some (some (s + 2))] := (kp21 s (by omega)).trans hT20
  refine k_aast (ci := 4) (qs' := [some (s + 3), some (s + 5), some (s + 7), some (s + 9)]) hx (by first | exact Or.inl ⟨rfl, rfl⟩ | exact Or.inr ⟨rfl, rfl⟩) dX3_init_62 (by omega) hA21_2 (by omega) ((hl21 (s + 9) (by omega) (by omega)).trans (hS.2.2.2.2.2.2.2.2.2).1) ⟨by omega, by simp only [List.length_cons, List.length_nil]; omega⟩ (by simp only [List.length_cons, List.length_nil]; omega) rfl (fun L22 hL22 => ?_)
  have hT22 : L22 s = kO 3 [some (some (s + 1)), some (some (s + 2))] := by rw [hL22, upL_n (by omega)]; exact hT21
  have hA22_2 : L22 (s + 2) = kR 3 [some (s + 3), some (s + 5), some (s + 7), some (s + 9)] := by rw [hL22]; exact upL_s
  refine k_iincV (v := 4) (ls' := [(0, vR g s), (1, vI 4)]) hx dX3_init_63 1 rfl rfl rfl rfl (by decide) ?_
  refine k_goto hx dX3_init_66 ?_
  refine k_iload_n hx dX3_init_43 1 rfl ?_
  refine k_iconst hx dX3_init_44 ?_
  refine k_icmp_ge hx dX3_init_45 (by omega) (fun _ => ?_) (fun q => absurd q (by omega))
  refine k_vret hx hr dX3_init_69 ?_
  refine ⟨rfl, rfl, fun j hj => ?_, fun j hj => ?_, fun j j0 j1 => ?_, ?_⟩
  · rw [hL22, upL_n (by omega), kp21 _ (by omega), hL20, upL_n (by omega), hL19, upL_n (by omega), kp18 _ (by omega), hL17, upL_n (by omega), hL16, upL_n (by omega), kp15 _ (by omega), hL14, upL_n (by omega), hL13, upL_n (by omega), kp12 _ (by omega), hL11, upL_n (by omega), hL10, upL_n (by omega), hL9, upL_n (by omega), hL2, upL_n (by omega), hL1, upL_n (by omega)]
  · rw [km21 _ (by omega), hM20, clr_n (by omega), km18 _ (by omega), hM17, clr_n (by omega), km15 _ (by omega), hM14, clr_n (by omega), km12 _ (by omega), hM11, clr_n (by omega), hM9, clr_n (by omega), hM8, up_i (by omega), hM7, up_i (by omega), hM6, up_i (by omega), hM5, up_i (by omega), hM4, up_i (by omega), hM3, up_i (by omega), hM1, clr_n (by omega)]
  · rcases (show j = s ∨ j = (s + 1) ∨ j = (s + 2) ∨ ((s + 3) ≤ j ∧ j < (s + 5)) ∨ ((s + 5) ≤ j ∧ j < (s + 7)) ∨ ((s + 7) ≤ j ∧ j < (s + 9)) ∨ ((s + 9) ≤ j ∧ j < (s + 11)) by omega) with rfl | rfl | rfl | ⟨g1, g2⟩ | ⟨g1, g2⟩ | ⟨g1, g2⟩ | ⟨g1, g2⟩
    · rw [hL22, upL_n (by omega), kp21 _ (by omega), hL20, upL_n (by omega), hL19, upL_n (by omega), kp18 _ (by omega), hL17, upL_n (by omega), hL16, upL_n (by omega), kp15 _ (by omega), hL14, upL_n (by omega), hL13, upL_n (by omega), kp12 _ (by omega), hL11, upL_n (by omega), hL10, upL_s]; exact hS.1.symm
    · rw [hL22, upL_n (by omega), kp21 _ (by omega), hL20, upL_n (by omega), hL19, upL_n (by omega), kp18 _ (by omega), hL17, upL_n (by omega), hL16, upL_n (by omega), kp15 _ (by omega), hL14, upL_n (by omega), hL13, upL_n (by omega), kp12 _ (by omega), hL11, upL_n (by omega), hL10, upL_n (by omega), hL9, upL_n (by omega), hL2, upL_n (by omega), hL1, upL_s]; exact hS.2.1.symm
    · rw [hL22, upL_s]; exact hS.2.2.1.symm
    · rw [hL22, upL_n (by omega), kp21 _ (by omega), hL20, upL_n (by omega), hL19, upL_n (by omega), kp18 _ (by omega), hL17, upL_n (by omega), hL16, upL_n (by omega), kp15 _ (by omega), hL14, upL_n (by omega), hL13, upL_n (by omega)]; exact hl12 j g1 g2
    · rw [hL22, upL_n (by omega), kp21 _ (by omega), hL20, upL_n (by omega), hL19, upL_n (by omega), kp18 _ (by omega), hL17, upL_n (by omega), hL16, upL_n (by omega)]; exact hl15 j g1 g2
    · rw [hL22, upL_n (by omega), kp21 _ (by omega), hL20, upL_n (by omega), hL19, upL_n (by omega)]; exact hl18 j g1 g2
    · rw [hL22, upL_n (by omega)]; exact hl21 j g1 g2
  · show M21 (s + 1) 0 = 1 ∧ M21 (s + 1) 1 = 1 ∧ M21 (s + 1) 2 = 1 ∧ M21 (s + 1) 3 = 1 ∧ M21 (s + 1) 4 = 1 ∧ M21 (s + 1) 5 = 1 ∧ M21 (s + 3) 1 = 0 ∧ M21 (s + 5) 1 = 0 ∧ M21 (s + 7) 1 = 0 ∧ M21 (s + 9) 1 = 0
    exact ⟨(by rw [km21 _ (by omega), hM20, clr_n (by omega), km18 _ (by omega), hM17, clr_n (by omega), km15 _ (by omega), hM14, clr_n (by omega), km12 _ (by omega), hM11, clr_n (by omega), hM9, clr_n (by omega), hM8, up_k (by decide), hM7, up_k (by decide), hM6, up_k (by decide), hM5, up_k (by decide), hM4, up_k (by decide), hM3, up_s]), (by rw [km21 _ (by omega), hM20, clr_n (by omega), km18 _ (by omega), hM17, clr_n (by omega), km15 _ (by omega), hM14, clr_n (by omega), km12 _ (by omega), hM11, clr_n (by omega), hM9, clr_n (by omega), hM8, up_k (by decide), hM7, up_k (by decide), hM6, up_k (by decide), hM5, up_k (by decide), hM4, up_s]), (by rw [km21 _ (by omega), hM20, clr_n (by omega), km18 _ (by omega), hM17, clr_n (by omega), km15 _ (by omega), hM14, clr_n (by omega), km12 _ (by omega), hM11, clr_n (by omega), hM9, clr_n (by omega), hM8, up_k (by decide), hM7, up_k (by decide), hM6, up_k (by decide), hM5, up_s]), (by rw [km21 _ (by omega), hM20, clr_n (by omega), km18 _ (by omega), hM17, clr_n (by omega), km15 _ (by omega), hM14, clr_n (by omega), km12 _ (by omega), hM11, clr_n (by omega), hM9, clr_n (by omega), hM8, up_k (by decide), hM7, up_k (by decide), hM6, up_s]), (by rw [km21 _ (by omega), hM20, clr_n (by omega), km18 _ (by omega), hM17, clr_n (by omega), km15 _ (by omega), hM14, clr_n (by omega), km12 _ (by omega), hM11, clr_n (by omega), hM9, clr_n (by omega), hM8, up_k (by decide), hM7, up_s]), (by rw [km21 _ (by omega), hM20, clr_n (by omega), km18 _ (by omega), hM17, clr_n (by omega), km15 _ (by omega), hM14, clr_n (by omega), km12 _ (by omega), hM11, clr_n (by omega), hM9, clr_n (by omega), hM8, up_s]), (by rw [km21 _ (by omega), hM20, clr_n (by omega), km18 _ (by omega), hM17, clr_n (by omega), km15 _ (by omega), hM14, clr_n (by omega)]; exact hP12), (by rw [km21 _ (by omega), hM20, clr_n (by omega), km18 _ (by omega), hM17, clr_n (by omega)]; exact hP15), (by rw [km21 _ (by omega), hM20, clr_n (by omega)]; exact hP18), (by exact hP21)⟩
set_option maxHeartbeats 4000000 in
theorem i_X1 {g : GE} {l : Launch} {L : Lay} {M : Mem} (hT : L 12 = kO 1 [some none, none, none]) : Ct g l μX1_init 67 3006 [vR g 12] L 13 M (Mk 12 68 L M (fun M' => M' 12 1 = 0 ∧ M' 12 2 = 0)) := by
  refine Ct.of (by decide +kernel) rfl (fun x _ hx hnm hr => ?_)
  show K x g 0 0 L 13 M 0 [(0, vR g 12)] []
  refine k_aload_n hx dX1_init_0 0 rfl ?_
  refine k_objI hx oX1 dX1_init_1 ⟨rfl, rfl⟩ ?_
  refine k_aload_n hx dX1_init_4 0 rfl ?_
  refine k_bipush hx dX1_init_5 (by decide +kernel) ?_
  refine k_anew (N := 6) (t := 2) (qs := [none, none, none, none, none, none]) hx (by first | exact Or.inl ⟨rfl, rfl⟩ | exact Or.inr ⟨rfl, rfl⟩) wX1_9a dX1_init_7 rfl (by omega) rfl ⟨Nat.le_of_ble_eq_true rfl, Nat.le_of_ble_eq_true rfl⟩ (fun L1 M1 hL1 hM1 => ?_)
  show K x g 1 6 L1 14 M1 10 [(0, vR g 12)] [vR g 13, vR g 12]
  have hT1 : L1 12 = kO 1 [some none, none, none] := by rw [hL1, upL_n (by omega)]; exact hT
  have hN1 : L1 13 = kR 2 [none, none, none, none, none, none] := by rw [hL1]; exact upL_s
  refine k_putFN (o := some (some 13)) (fs' := [some (some 13), none, none]) hx hnm fX1_11 (fun q h => by cases h; rfl) dX1_init_10 (by omega) hT1 (fun m => rfl) ⟨rfl, rfl⟩ rfl (by simp only [List.length_cons, List.length_nil]; omega) (fun L2 hL2 => ?_)
  have hA2_1 : L2 13 = kR 2 [none, none, none, none, none, none] := by rw [hL2, upL_n (by omega)]; exact hN1
  have hT2 : L2 12 = kO 1 [some (some 13), none, none] := by rw [hL2]; exact upL_s
  refine k_iconst hx dX1_init_13 ?_
  refine k_istore_n (ls' := [(0, vR g 12), (1, vI 0)]) hx dX1_init_14 rfl rfl (by decide) ?_
  refine k_iload_n hx dX1_init_15 1 rfl ?_
  refine k_bipush hx dX1_init_16 (by decide +kernel) ?_
  refine k_icmp_ge hx dX1_init_18 (by omega) (fun q => absurd q (by omega)) (fun _ => ?_)
  refine k_aload_n hx dX1_init_21 0 rfl ?_
  refine k_get (v := vR g 13) hx fX1_11 dX1_init_22 (by omega) hT2 rfl ?_
  refine k_iload_n hx dX1_init_25 1 rfl ?_
  refine k_new (N := 2) hx nwX1_9 dX1_init_26 rfl ⟨Nat.le_of_ble_eq_true rfl, Nat.le_of_ble_eq_true rfl⟩ (fun L3 M3 hL3 hM3 => ?_)
  show K x g 2 8 L3 15 M3 29 [(0, vR g 12), (1, vI 0)] [vR g 14, vI 0, vR g 13]
  have hA3_1 : L3 13 = kR 2 [none, none, none, none, none, none] := by rw [hL3, upL_n (by omega)]; exact hA2_1
  have hT3 : L3 12 = kO 1 [some (some 13), none, none] := by rw [hL3, upL_n (by omega)]; exact hT2
  have hN3 : L3 14 = kO 3 [some none, some none] := by rw [hL3]; exact upL_s
  refine k_dup hx dX1_init_29 rfl ?_
  refine k_callI (rest := [vR g 14, vI 0, vR g 13]) hx iX1_17 dX1_init_30 (i_X3 (s := 14) isS_14 hN3) rfl rfl rfl ⟨rfl, rfl⟩ ⟨Nat.le_of_ble_eq_true rfl, Nat.le_of_ble_eq_true rfl⟩ (fun r4 L4 n4 M4 h4 => ?_)
  obtain ⟨rfl, rfl, kp4, km4, hl4, hP4⟩ := h4
  show K x g 12 506 L4 25 M4 33 [(0, vR g 12), (1, vI 0)] [vR g 14, vI 0, vR g 13]
  have hA4_1 : L4 13 = kR 2 [none, none, none, none, none, none] := (kp4 13 (by omega)).trans hA3_1
  have hT4 : L4 12 = kO 1 [some (some 13), none, none] := (kp4 12 (by omega)).trans hT3
  refine k_aast (ci := 3) (qs' := [some 14, none, none, none, none, none]) hx (by first | exact Or.inl ⟨rfl, rfl⟩ | exact Or.inr ⟨rfl, rfl⟩) dX1_init_33 (by omega) hA4_1 (by omega) ((hl4 14 (by omega) (by omega)).trans (isS_14 (g := g)).1) ⟨by omega, by simp only [List.length_cons, List.length_nil]; omega⟩ (by simp only [List.length_cons, List.length_nil]; omega) rfl (fun L5 hL5 => ?_)
  have hT5 : L5 12 = kO 1 [some (some 13), none, none] := by rw [hL5, upL_n (by omega)]; exact hT4
  have hA5_1 : L5 13 = kR 2 [some 14, none, none, none, none, none] := by rw [hL5]; exact upL_s
  refine k_iincV (v := 1) (ls' := [(0, vR g 12), (1, vI 1)]) hx dX1_init_34 1 rfl rfl rfl rfl (by decide) ?_
  refine k_goto hx dX1_init_37 ?_
  refine k_iload_n hx dX1_init_15 1 rfl ?_
  refine k_bipush hx dX1_init_16 (by decide +kernel) ?_
  refine k_icmp_ge hx dX1_init_18 (by omega) (fun q => absurd q (by omega)) (fun _ => ?_)
  refine k_aload_n hx dX1_init_21 0 rfl ?_
  refine k_get (v := vR g 13) hx fX1_11 dX1_init_22 (by omega) hT5 rfl ?_
  refine k_iload_n hx dX1_init_25 1 rfl ?_
  refine k_new (N := 2) hx nwX1_9 dX1_init_26 rfl ⟨Nat.le_of_ble_eq_true rfl, Nat.le_of_ble_eq_true rfl⟩ (fun L6 M6 hL6 hM6 => ?_)
  show K x g 13 508 L6 26 M6 29 [(0, vR g 12), (1, vI 1)] [vR g 25, vI 1, vR g 13]
  have hA6_1 : L6 13 = kR 2 [some 14, none, none, none, none, none] := by rw [hL6, upL_n (by omega)]; exact hA5_1
  have hT6 : L6 12 = kO 1 [some (some 13), none, none] := by rw [hL6, upL_n (by omega)]; exact hT5
  have hN6 : L6 25 = kO 3 [some none, some none] := by rw [hL6]; exact upL_s
  refine k_dup hx dX1_init_29 rfl ?_
  refine k_callI (rest := [vR g 25, vI 1, vR g 13]) hx iX1_17 dX1_init_30 (i_X3 (s := 25) isS_25 hN6) rfl rfl rfl ⟨rfl, rfl⟩ ⟨Nat.le_of_ble_eq_true rfl, Nat.le_of_ble_eq_true rfl⟩ (fun r7 L7 n7 M7 h7 => ?_)
  obtain ⟨rfl, rfl, kp7, km7, hl7, hP7⟩ := h7
  show K x g 23 1006 L7 36 M7 33 [(0, vR g 12), (1, vI 1)] [vR g 25, vI 1, vR g 13]
  have hA7_1 : L7 13 = kR 2 [some 14, none, none, none, none, none] := (kp7 13 (by omega)).trans hA6_1
  have hT7 : L7 12 = kO 1 [some (some 13), none, none] := (kp7 12 (by omega)).trans hT6
  refine k_aast (ci := 3) (qs' := [some 14, some 25, none, none, none, none]) hx (by first | exact Or.inl ⟨rfl, rfl⟩ | exact Or.inr ⟨rfl, rfl⟩) dX1_init_33 (by omega) hA7_1 (by omega) ((hl7 25 (by omega) (by omega)).trans (isS_25 (g := g)).1) ⟨by omega, by simp only [List.length_cons, List.length_nil]; omega⟩ (by simp only [List.length_cons, List.length_nil]; omega) rfl (fun L8 hL8 => ?_)
  have hT8 : L8 12 = kO 1 [some (some 13), none, none] := by rw [hL8, upL_n (by omega)]; exact hT7
  have hA8_1 : L8 13 = kR 2 [some 14, some 25, none, none, none, none] := by rw [hL8]; exact upL_s
  refine k_iincV (v := 2) (ls' := [(0, vR g 12), (1, vI 2)]) hx dX1_init_34 1 rfl rfl rfl rfl (by decide) ?_
  refine k_goto hx dX1_init_37 ?_
  refine k_iload_n hx dX1_init_15 1 rfl ?_
  refine k_bipush hx dX1_init_16 (by decide +kernel) ?_
  refine k_icmp_ge hx dX1_init_18 (by omega) (fun q => absurd q (by omega)) (fun _ => ?_)
  refine k_aload_n hx dX1_init_21 0 rfl ?_
  refine k_get (v := vR g 13) hx fX1_11 dX1_init_22 (by omega) hT8 rfl ?_
  refine k_iload_n hx dX1_init_25 1 rfl ?_
  refine k_new (N := 2) hx nwX1_9 dX1_init_26 rfl ⟨Nat.le_of_ble_eq_true rfl, Nat.le_of_ble_eq_true rfl⟩ (fun L9 M9 hL9 hM9 => ?_)
  show K x g 24 1008 L9 37 M9 29 [(0, vR g 12), (1, vI 2)] [vR g 36, vI 2, vR g 13]
  have hA9_1 : L9 13 = kR 2 [some 14, some 25, none, none, none, none] := by rw [hL9, upL_n (by omega)]; exact hA8_1
  have hT9 : L9 12 = kO 1 [some (some 13), none, none] := by rw [hL9, upL_n (by omega)]; exact hT8
  have hN9 : L9 36 = kO 3 [some none, some none] := by rw [hL9]; exact upL_s
  refine k_dup hx dX1_init_29 rfl ?_
  refine k_callI (rest := [vR g 36, vI 2, vR g 13]) hx iX1_17 dX1_init_30 (i_X3 (s := 36) isS_36 hN9) rfl rfl rfl ⟨rfl, rfl⟩ ⟨Nat.le_of_ble_eq_true rfl, Nat.le_of_ble_eq_true rfl⟩ (fun r10 L10 n10 M10 h10 => ?_)
  obtain ⟨rfl, rfl, kp10, km10, hl10, hP10⟩ := h10
  show K x g 34 1506 L10 47 M10 33 [(0, vR g 12), (1, vI 2)] [vR g 36, vI 2, vR g 13]
  have hA10_1 : L10 13 = kR 2 [some 14, some 25, none, none, none, none] := (kp10 13 (by omega)).trans hA9_1
  have hT10 : L10 12 = kO 1 [some (some 13), none, none] := (kp10 12 (by omega)).trans hT9
  refine k_aast (ci := 3) (qs' := [some 14, some 25, some 36, none, none, none]) hx (by first | exact Or.inl ⟨rfl, rfl⟩ | exact Or.inr ⟨rfl, rfl⟩) dX1_init_33 (by omega) hA10_1 (by omega) ((hl10 36 (by omega) (by omega)).trans (isS_36 (g := g)).1) ⟨by omega, by simp only [List.length_cons, List.length_nil]; omega⟩ (by simp only [List.length_cons, List.length_nil]; omega) rfl (fun L11 hL11 => ?_)
  have hT11 : L11 12 = kO 1 [some (some 13), none, none] := by rw [hL11, upL_n (by omega)]; exact hT10
  have hA11_1 : L11 13 = kR 2 [some 14, some 25, some 36, none, none, none] := by rw [hL11]; exact upL_s
  refine k_iincV (v := 3) (ls' := [(0, vR g 12), (1, vI 3)]) hx dX1_init_34 1 rfl rfl rfl rfl (by decide) ?_
  refine k_goto hx dX1_init_37 ?_
  refine k_iload_n hx dX1_init_15 1 rfl ?_
  refine k_bipush hx dX1_init_16 (by decide +kernel) ?_
  refine k_icmp_ge hx dX1_init_18 (by omega) (fun q => absurd q (by omega)) (fun _ => ?_)
  refine k_aload_n hx dX1_init_21 0 rfl ?_
  refine k_get (v := vR g 13) hx fX1_11 dX1_init_22 (by omega) hT11 rfl ?_
  refine k_iload_n hx dX1_init_25 1 rfl ?_
  refine k_new (N := 2) hx nwX1_9 dX1_init_26 rfl ⟨Nat.le_of_ble_eq_true rfl, Nat.le_of_ble_eq_true rfl⟩ (fun L12 M12 hL12 hM12 => ?_)
  show K x g 35 1508 L12 48 M12 29 [(0, vR g 12), (1, vI 3)] [vR g 47, vI 3, vR g 13]
  have hA12_1 : L12 13 = kR 2 [some 14, some 25, some 36, none, none, none] := by rw [hL12, upL_n (by omega)]; exact hA11_1
  have hT12 : L12 12 = kO 1 [some (some 13), none, none] := by rw [hL12, upL_n (by omega)]; exact hT11
  have hN12 : L12 47 = kO 3 [some none, some none] := by rw [hL12]; exact upL_s
  refine k_dup hx dX1_init_29 rfl ?_
  refine k_callI (rest := [vR g 47, vI 3, vR g 13]) hx iX1_17 dX1_init_30 (i_X3 (s := 47) isS_47 hN12) rfl rfl rfl ⟨rfl, rfl⟩ ⟨Nat.le_of_ble_eq_true rfl, Nat.le_of_ble_eq_true rfl⟩ (fun r13 L13 n13 M13 h13 => ?_)
  obtain ⟨rfl, rfl, kp13, km13, hl13, hP13⟩ := h13
  show K x g 45 2006 L13 58 M13 33 [(0, vR g 12), (1, vI 3)] [vR g 47, vI 3, vR g 13]
  have hA13_1 : L13 13 = kR 2 [some 14, some 25, some 36, none, none, none] := (kp13 13 (by omega)).trans hA12_1
  have hT13 : L13 12 = kO 1 [some (some 13), none, none] := (kp13 12 (by omega)).trans hT12
  refine k_aast (ci := 3) (qs' := [some 14, some 25, some 36, some 47, none, none]) hx (by first | exact Or.inl ⟨rfl, rfl⟩ | exact Or.inr ⟨rfl, rfl⟩) dX1_init_33 (by omega) hA13_1 (by omega) ((hl13 47 (by omega) (by omega)).trans (isS_47 (g := g)).1) ⟨by omega, by simp only [List.length_cons, List.length_nil]; omega⟩ (by simp only [List.length_cons, List.length_nil]; omega) rfl (fun L14 hL14 => ?_)
  have hT14 : L14 12 = kO 1 [some (some 13), none, none] := by rw [hL14, upL_n (by omega)]; exact hT13
  have hA14_1 : L14 13 = kR 2 [some 14, some 25, some 36, some 47, none, none] := by rw [hL14]; exact upL_s
  refine k_iincV (v := 4) (ls' := [(0, vR g 12), (1, vI 4)]) hx dX1_init_34 1 rfl rfl rfl rfl (by decide) ?_
  refine k_goto hx dX1_init_37 ?_
  refine k_iload_n hx dX1_init_15 1 rfl ?_
  refine k_bipush hx dX1_init_16 (by decide +kernel) ?_
  refine k_icmp_ge hx dX1_init_18 (by omega) (fun q => absurd q (by omega)) (fun _ => ?_)
  refine k_aload_n hx dX1_init_21 0 rfl ?_
  refine k_get (v := vR g 13) hx fX1_11 dX1_init_22 (by omega) hT14 rfl ?_
  refine k_iload_n hx dX1_init_25 1 rfl ?_
  refine k_new (N := 2) hx nwX1_9 dX1_init_26 rfl ⟨Nat.le_of_ble_eq_true rfl, Nat.le_of_ble_eq_true rfl⟩ (fun L15 M15 hL15 hM15 => ?_)
  show K x g 46 2008 L15 59 M15 29 [(0, vR g 12), (1, vI 4)] [vR g 58, vI 4, vR g 13]
  have hA15_1 : L15 13 = kR 2 [some 14, some 25, some 36, some 47, none, none] := by rw [hL15, upL_n (by omega)]; exact hA14_1
  have hT15 : L15 12 = kO 1 [some (some 13), none, none] := by rw [hL15, upL_n (by omega)]; exact hT14
  have hN15 : L15 58 = kO 3 [some none, some none] := by rw [hL15]; exact upL_s
  refine k_dup hx dX1_init_29 rfl ?_
  refine k_callI (rest := [vR g 58, vI 4, vR g 13]) hx iX1_17 dX1_init_30 (i_X3 (s := 58) isS_58 hN15) rfl rfl rfl ⟨rfl, rfl⟩ ⟨Nat.le_of_ble_eq_true rfl, Nat.le_of_ble_eq_true rfl⟩ (fun r16 L16 n16 M16 h16 => ?_)
  obtain ⟨rfl, rfl, kp16, km16, hl16, hP16⟩ := h16
  show K x g 56 2506 L16 69 M16 33 [(0, vR g 12), (1, vI 4)] [vR g 58, vI 4, vR g 13]
  have hA16_1 : L16 13 = kR 2 [some 14, some 25, some 36, some 47, none, none] := (kp16 13 (by omega)).trans hA15_1
  have hT16 : L16 12 = kO 1 [some (some 13), none, none] := (kp16 12 (by omega)).trans hT15
  refine k_aast (ci := 3) (qs' := [some 14, some 25, some 36, some 47, some 58, none]) hx (by first | exact Or.inl ⟨rfl, rfl⟩ | exact Or.inr ⟨rfl, rfl⟩) dX1_init_33 (by omega) hA16_1 (by omega) ((hl16 58 (by omega) (by omega)).trans (isS_58 (g := g)).1) ⟨by omega, by simp only [List.length_cons, List.length_nil]; omega⟩ (by simp only [List.length_cons, List.length_nil]; omega) rfl (fun L17 hL17 => ?_)
  have hT17 : L17 12 = kO 1 [some (some 13), none, none] := by rw [hL17, upL_n (by omega)]; exact hT16
  have hA17_1 : L17 13 = kR 2 [some 14, some 25, some 36, some 47, some 58, none] := by rw [hL17]; exact upL_s
  refine k_iincV (v := 5) (ls' := [(0, vR g 12), (1, vI 5)]) hx dX1_init_34 1 rfl rfl rfl rfl (by decide) ?_
  refine k_goto hx dX1_init_37 ?_
  refine k_iload_n hx dX1_init_15 1 rfl ?_
  refine k_bipush hx dX1_init_16 (by decide +kernel) ?_
  refine k_icmp_ge hx dX1_init_18 (by omega) (fun q => absurd q (by omega)) (fun _ => ?_)
  refine k_aload_n hx dX1_init_21 0 rfl ?_
  refine k_get (v := vR g 13) hx fX1_11 dX1_init_22 (by omega) hT17 rfl ?_
  refine k_iload_n hx dX1_init_25 1 rfl ?_
  refine k_new (N := 2) hx nwX1_9 dX1_init_26 rfl ⟨Nat.le_of_ble_eq_true rfl, Nat.le_of_ble_eq_true rfl⟩ (fun L18 M18 hL18 hM18 => ?_)
  show K x g 57 2508 L18 70 M18 29 [(0, vR g 12), (1, vI 5)] [vR g 69, vI 5, vR g 13]
  have hA18_1 : L18 13 = kR 2 [some 14, some 25, some 36, some 47, some 58, none] := by rw [hL18, upL_n (by omega)]; exact hA17_1
  have hT18 : L18 12 = kO 1 [some (some 13), none, none] := by rw [hL18, upL_n (by omega)]; exact hT17
  have hN18 : L18 69 = kO 3 [some none, some none] := by rw [hL18]; exact upL_s
  refine k_dup hx dX1_init_29 rfl ?_
  refine k_callI (rest := [vR g 69, vI 5, vR g 13]) hx iX1_17 dX1_init_30 (i_X3 (s := 69) isS_69 hN18) rfl rfl rfl ⟨rfl, rfl⟩ ⟨Nat.le_of_ble_eq_true rfl, Nat.le_of_ble_eq_true rfl⟩ (fun r19 L19 n19 M19 h19 => ?_)
  obtain ⟨rfl, rfl, kp19, km19, hl19, hP19⟩ := h19
  show K x g 67 3006 L19 80 M19 33 [(0, vR g 12), (1, vI 5)] [vR g 69, vI 5, vR g 13]
  have hA19_1 : L19 13 = kR 2 [some 14, some 25, some 36, some 47, some 58, none] := (kp19 13 (by omega)).trans hA18_1
  have hT19 : L19 12 = kO 1 [some (some 13), none, none] := (kp19 12 (by omega)).trans hT18
  refine k_aast (ci := 3) (qs' := [some 14, some 25, some 36, some 47, some 58, some 69]) hx (by first | exact Or.inl ⟨rfl, rfl⟩ | exact Or.inr ⟨rfl, rfl⟩) dX1_init_33 (by omega) hA19_1 (by omega) ((hl19 69 (by omega) (by omega)).trans (isS_69 (g := g)).1) ⟨by omega, by simp only [List.length_cons, List.length_nil]; omega⟩ (by simp only [List.length_cons, List.length_nil]; omega) rfl (fun L20 hL20 => ?_)
  have hT20 : L20 12 = kO 1 [some (some 13), none, none] := by rw [hL20, upL_n (by omega)]; exact hT19
  have hA20_1 : L20 13 = kR 2 [some 14, some 25, some 36, some 47, some 58, some 69] := by rw [hL20]; exact upL_s
  refine k_iincV (v := 6) (ls' := [(0, vR g 12), (1, vI 6)]) hx dX1_init_34 1 rfl rfl rfl rfl (by decide) ?_
  refine k_goto hx dX1_init_37 ?_
  refine k_iload_n hx dX1_init_15 1 rfl ?_
  refine k_bipush hx dX1_init_16 (by decide +kernel) ?_
  refine k_icmp_ge hx dX1_init_18 (by omega) (fun _ => ?_) (fun q => absurd q (by omega))
  refine k_aload_n hx dX1_init_40 0 rfl ?_
  refine k_iconst hx dX1_init_41 ?_
  refine k_putI (kz := 1) hx fX1_18 dX1_init_42 (by omega) hT20 rfl rfl (fun M21 hM21 => ?_)
  refine k_aload_n hx dX1_init_45 0 rfl ?_
  refine k_iconst hx dX1_init_46 ?_
  refine k_putI (kz := 2) hx fX1_22 dX1_init_47 (by omega) hT20 rfl rfl (fun M22 hM22 => ?_)
  refine k_vret hx hr dX1_init_50 ?_
  refine ⟨rfl, rfl, fun j hj => ?_, fun j hj => ?_, fun j j0 j1 => ?_, ?_⟩
  · rw [hL20, upL_n (by omega), kp19 _ (by omega), hL18, upL_n (by omega), hL17, upL_n (by omega), kp16 _ (by omega), hL15, upL_n (by omega), hL14, upL_n (by omega), kp13 _ (by omega), hL12, upL_n (by omega), hL11, upL_n (by omega), kp10 _ (by omega), hL9, upL_n (by omega), hL8, upL_n (by omega), kp7 _ (by omega), hL6, upL_n (by omega), hL5, upL_n (by omega), kp4 _ (by omega), hL3, upL_n (by omega), hL2, upL_n (by omega), hL1, upL_n (by omega)]
  · rw [hM22, up_i (by omega), hM21, up_i (by omega), km19 _ (by omega), hM18, clr_n (by omega), km16 _ (by omega), hM15, clr_n (by omega), km13 _ (by omega), hM12, clr_n (by omega), km10 _ (by omega), hM9, clr_n (by omega), km7 _ (by omega), hM6, clr_n (by omega), km4 _ (by omega), hM3, clr_n (by omega), hM1, clr_n (by omega)]
  · rcases (show j = 12 ∨ j = 13 ∨ (14 ≤ j ∧ j < 25) ∨ (25 ≤ j ∧ j < 36) ∨ (36 ≤ j ∧ j < 47) ∨ (47 ≤ j ∧ j < 58) ∨ (58 ≤ j ∧ j < 69) ∨ (69 ≤ j ∧ j < 80) by omega) with rfl | rfl | ⟨g1, g2⟩ | ⟨g1, g2⟩ | ⟨g1, g2⟩ | ⟨g1, g2⟩ | ⟨g1, g2⟩ | ⟨g1, g2⟩
    · rw [hL20, upL_n (by omega), kp19 _ (by omega), hL18, upL_n (by omega), hL17, upL_n (by omega), kp16 _ (by omega), hL15, upL_n (by omega), hL14, upL_n (by omega), kp13 _ (by omega), hL12, upL_n (by omega), hL11, upL_n (by omega), kp10 _ (by omega), hL9, upL_n (by omega), hL8, upL_n (by omega), kp7 _ (by omega), hL6, upL_n (by omega), hL5, upL_n (by omega), kp4 _ (by omega), hL3, upL_n (by omega), hL2, upL_s]; exact rfl
    · rw [hL20, upL_s]; exact rfl
    · rw [hL20, upL_n (by omega), kp19 _ (by omega), hL18, upL_n (by omega), hL17, upL_n (by omega), kp16 _ (by omega), hL15, upL_n (by omega), hL14, upL_n (by omega), kp13 _ (by omega), hL12, upL_n (by omega), hL11, upL_n (by omega), kp10 _ (by omega), hL9, upL_n (by omega), hL8, upL_n (by omega), kp7 _ (by omega), hL6, upL_n (by omega), hL5, upL_n (by omega)]; exact hl4 j g1 g2
    · rw [hL20, upL_n (by omega), kp19 _ (by omega), hL18, upL_n (by omega), hL17, upL_n (by omega), kp16 _ (by omega), hL15, upL_n (by omega), hL14, upL_n (by omega), kp13 _ (by omega), hL12, upL_n (by omega), hL11, upL_n (by omega), kp10 _ (by omega), hL9, upL_n (by omega), hL8, upL_n (by omega)]; exact hl7 j g1 g2
    · rw [hL20, upL_n (by omega), kp19 _ (by omega), hL18, upL_n (by omega), hL17, upL_n (by omega), kp16 _ (by omega), hL15, upL_n (by omega), hL14, upL_n (by omega), kp13 _ (by omega), hL12, upL_n (by omega), hL11, upL_n (by omega)]; exact hl10 j g1 g2
    · rw [hL20, upL_n (by omega), kp19 _ (by omega), hL18, upL_n (by omega), hL17, upL_n (by omega), kp16 _ (by omega), hL15, upL_n (by omega), hL14, upL_n (by omega)]; exact hl13 j g1 g2
    · rw [hL20, upL_n (by omega), kp19 _ (by omega), hL18, upL_n (by omega), hL17, upL_n (by omega)]; exact hl16 j g1 g2
    · rw [hL20, upL_n (by omega)]; exact hl19 j g1 g2
  · show M22 12 1 = 0 ∧ M22 12 2 = 0
    exact ⟨(by rw [hM22, up_k (by decide), hM21, up_s]), (by rw [hM22, up_s])⟩
set_option maxHeartbeats 4000000 in
theorem i_X0 {g : GE} {l : Launch} {L : Lay} {M : Mem} (hT : L 104 = kO 0 [some none, none, some none, some none, some none, none]) : Ct g l μX0_init 4 72 [vR g 104] L 105 M (Mk 104 5 L M (fun M' => M' 104 1 = 0 ∧ M' 104 5 = 0)) := by
  refine Ct.of (by decide +kernel) rfl (fun x _ hx hnm hr => ?_)
  show K x g 0 0 L 105 M 0 [(0, vR g 104)] []
  refine k_aload_n hx dX0_init_0 0 rfl ?_
  refine k_objI hx oX0 dX0_init_1 ⟨rfl, rfl⟩ ?_
  refine k_aload_n hx dX0_init_4 0 rfl ?_
  refine k_bipush hx dX0_init_5 (by decide +kernel) ?_
  refine k_newaI (N := 60) hx dX0_init_7 rfl (by omega) ⟨Nat.le_of_ble_eq_true rfl, Nat.le_of_ble_eq_true rfl⟩ (fun L1 M1 hL1 hM1 => ?_)
  show K x g 1 60 L1 106 M1 9 [(0, vR g 104)] [vR g 105, vR g 104]
  have hT1 : L1 104 = kO 0 [some none, none, some none, some none, some none, none] := by rw [hL1, upL_n (by omega)]; exact hT
  have hN1 : L1 105 = kA 0 60 := by rw [hL1]; exact upL_s
  refine k_putFN (o := some (some 105)) (fs' := [some (some 105), none, some none, some none, some none, none]) hx hnm fX0_9 (fun q h => by cases h; rfl) dX0_init_9 (by omega) hT1 (fun m => rfl) ⟨rfl, rfl⟩ rfl (by simp only [List.length_cons, List.length_nil]; omega) (fun L2 hL2 => ?_)
  have hT2 : L2 104 = kO 0 [some (some 105), none, some none, some none, some none, none] := by rw [hL2]; exact upL_s
  refine k_aload_n hx dX0_init_12 0 rfl ?_
  refine k_iconst hx dX0_init_13 ?_
  refine k_putI (kz := 1) hx fX0_15 dX0_init_14 (by omega) hT2 rfl rfl (fun M3 hM3 => ?_)
  refine k_aload_n hx dX0_init_17 0 rfl ?_
  refine k_iconst hx dX0_init_18 ?_
  refine k_newaI (N := 4) hx dX0_init_19 rfl (by omega) ⟨Nat.le_of_ble_eq_true rfl, Nat.le_of_ble_eq_true rfl⟩ (fun L4 M4 hL4 hM4 => ?_)
  show K x g 2 64 L4 107 M4 21 [(0, vR g 104)] [vR g 106, vR g 104]
  have hT4 : L4 104 = kO 0 [some (some 105), none, some none, some none, some none, none] := by rw [hL4, upL_n (by omega)]; exact hT2
  have hN4 : L4 106 = kA 0 4 := by rw [hL4]; exact upL_s
  refine k_putFN (o := some (some 106)) (fs' := [some (some 105), none, some (some 106), some none, some none, none]) hx hnm fX0_19 (fun q h => by cases h; rfl) dX0_init_21 (by omega) hT4 (fun m => rfl) ⟨rfl, rfl⟩ rfl (by simp only [List.length_cons, List.length_nil]; omega) (fun L5 hL5 => ?_)
  have hT5 : L5 104 = kO 0 [some (some 105), none, some (some 106), some none, some none, none] := by rw [hL5]; exact upL_s
  refine k_aload_n hx dX0_init_24 0 rfl ?_
  refine k_iconst hx dX0_init_25 ?_
  refine k_newaI (N := 4) hx dX0_init_26 rfl (by omega) ⟨Nat.le_of_ble_eq_true rfl, Nat.le_of_ble_eq_true rfl⟩ (fun L6 M6 hL6 hM6 => ?_)
  show K x g 3 68 L6 108 M6 28 [(0, vR g 104)] [vR g 107, vR g 104]
  have hT6 : L6 104 = kO 0 [some (some 105), none, some (some 106), some none, some none, none] := by rw [hL6, upL_n (by omega)]; exact hT5
  have hN6 : L6 107 = kA 0 4 := by rw [hL6]; exact upL_s
  refine k_putFN (o := some (some 107)) (fs' := [some (some 105), none, some (some 106), some (some 107), some none, none]) hx hnm fX0_22 (fun q h => by cases h; rfl) dX0_init_28 (by omega) hT6 (fun m => rfl) ⟨rfl, rfl⟩ rfl (by simp only [List.length_cons, List.length_nil]; omega) (fun L7 hL7 => ?_)
  have hT7 : L7 104 = kO 0 [some (some 105), none, some (some 106), some (some 107), some none, none] := by rw [hL7]; exact upL_s
  refine k_aload_n hx dX0_init_31 0 rfl ?_
  refine k_iconst hx dX0_init_32 ?_
  refine k_newaI (N := 4) hx dX0_init_33 rfl (by omega) ⟨Nat.le_of_ble_eq_true rfl, Nat.le_of_ble_eq_true rfl⟩ (fun L8 M8 hL8 hM8 => ?_)
  show K x g 4 72 L8 109 M8 35 [(0, vR g 104)] [vR g 108, vR g 104]
  have hT8 : L8 104 = kO 0 [some (some 105), none, some (some 106), some (some 107), some none, none] := by rw [hL8, upL_n (by omega)]; exact hT7
  have hN8 : L8 108 = kA 0 4 := by rw [hL8]; exact upL_s
  refine k_putFN (o := some (some 108)) (fs' := [some (some 105), none, some (some 106), some (some 107), some (some 108), none]) hx hnm fX0_25 (fun q h => by cases h; rfl) dX0_init_35 (by omega) hT8 (fun m => rfl) ⟨rfl, rfl⟩ rfl (by simp only [List.length_cons, List.length_nil]; omega) (fun L9 hL9 => ?_)
  have hT9 : L9 104 = kO 0 [some (some 105), none, some (some 106), some (some 107), some (some 108), none] := by rw [hL9]; exact upL_s
  refine k_aload_n hx dX0_init_38 0 rfl ?_
  refine k_iconst hx dX0_init_39 ?_
  refine k_putI (kz := 5) hx fX0_28 dX0_init_40 (by omega) hT9 rfl rfl (fun M10 hM10 => ?_)
  refine k_vret hx hr dX0_init_43 ?_
  refine ⟨rfl, rfl, fun j hj => ?_, fun j hj => ?_, fun j j0 j1 => ?_, ?_⟩
  · rw [hL9, upL_n (by omega), hL8, upL_n (by omega), hL7, upL_n (by omega), hL6, upL_n (by omega), hL5, upL_n (by omega), hL4, upL_n (by omega), hL2, upL_n (by omega), hL1, upL_n (by omega)]
  · rw [hM10, up_i (by omega), hM8, clr_n (by omega), hM6, clr_n (by omega), hM4, clr_n (by omega), hM3, up_i (by omega), hM1, clr_n (by omega)]
  · rcases (show j = 104 ∨ j = 105 ∨ j = 106 ∨ j = 107 ∨ j = 108 by omega) with rfl | rfl | rfl | rfl | rfl
    · rw [hL9, upL_s]; exact rfl
    · rw [hL9, upL_n (by omega), hL8, upL_n (by omega), hL7, upL_n (by omega), hL6, upL_n (by omega), hL5, upL_n (by omega), hL4, upL_n (by omega), hL2, upL_n (by omega), hL1, upL_s]; exact rfl
    · rw [hL9, upL_n (by omega), hL8, upL_n (by omega), hL7, upL_n (by omega), hL6, upL_n (by omega), hL5, upL_n (by omega), hL4, upL_s]; exact rfl
    · rw [hL9, upL_n (by omega), hL8, upL_n (by omega), hL7, upL_n (by omega), hL6, upL_s]; exact rfl
    · rw [hL9, upL_n (by omega), hL8, upL_s]; exact rfl
  · show M10 104 1 = 0 ∧ M10 104 5 = 0
    exact ⟨(by rw [hM10, up_k (by decide), hM8, clr_n (by omega), hM6, clr_n (by omega), hM4, clr_n (by omega), hM3, up_s]), (by rw [hM10, up_s])⟩
set_option maxHeartbeats 4000000 in
theorem i_X2 {g : GE} {l : Launch} {L : Lay} {M : Mem} (hT : L 109 = kO 2 [some none, some none, some none, some none]) : Ct g l μX2_init 4 7512 [vR g 109] L 110 M (Mk 109 5 L M (fun M' => True)) := by
  refine Ct.of (by decide +kernel) rfl (fun x _ hx hnm hr => ?_)
  show K x g 0 0 L 110 M 0 [(0, vR g 109)] []
  refine k_aload_n hx dX2_init_0 0 rfl ?_
  refine k_objI hx oX2 dX2_init_1 ⟨rfl, rfl⟩ ?_
  refine k_aload_n hx dX2_init_4 0 rfl ?_
  refine k_sipush hx dX2_init_5 (by decide +kernel) ?_
  refine k_newaI (N := 7260) hx dX2_init_8 rfl (by omega) ⟨Nat.le_of_ble_eq_true rfl, Nat.le_of_ble_eq_true rfl⟩ (fun L1 M1 hL1 hM1 => ?_)
  show K x g 1 7260 L1 111 M1 10 [(0, vR g 109)] [vR g 110, vR g 109]
  have hT1 : L1 109 = kO 2 [some none, some none, some none, some none] := by rw [hL1, upL_n (by omega)]; exact hT
  have hN1 : L1 110 = kA 0 7260 := by rw [hL1]; exact upL_s
  refine k_putFN (o := some (some 110)) (fs' := [some (some 110), some none, some none, some none]) hx hnm fX2_9 (fun q h => by cases h; rfl) dX2_init_10 (by omega) hT1 (fun m => rfl) ⟨rfl, rfl⟩ rfl (by simp only [List.length_cons, List.length_nil]; omega) (fun L2 hL2 => ?_)
  have hT2 : L2 109 = kO 2 [some (some 110), some none, some none, some none] := by rw [hL2]; exact upL_s
  refine k_aload_n hx dX2_init_13 0 rfl ?_
  refine k_bipush hx dX2_init_14 (by decide +kernel) ?_
  refine k_newaI (N := 120) hx dX2_init_16 rfl (by omega) ⟨Nat.le_of_ble_eq_true rfl, Nat.le_of_ble_eq_true rfl⟩ (fun L3 M3 hL3 hM3 => ?_)
  show K x g 2 7380 L3 112 M3 18 [(0, vR g 109)] [vR g 111, vR g 109]
  have hT3 : L3 109 = kO 2 [some (some 110), some none, some none, some none] := by rw [hL3, upL_n (by omega)]; exact hT2
  have hN3 : L3 111 = kA 0 120 := by rw [hL3]; exact upL_s
  refine k_putFN (o := some (some 111)) (fs' := [some (some 110), some (some 111), some none, some none]) hx hnm fX2_15 (fun q h => by cases h; rfl) dX2_init_18 (by omega) hT3 (fun m => rfl) ⟨rfl, rfl⟩ rfl (by simp only [List.length_cons, List.length_nil]; omega) (fun L4 hL4 => ?_)
  have hT4 : L4 109 = kO 2 [some (some 110), some (some 111), some none, some none] := by rw [hL4]; exact upL_s
  refine k_aload_n hx dX2_init_21 0 rfl ?_
  refine k_bipush hx dX2_init_22 (by decide +kernel) ?_
  refine k_newaI (N := 120) hx dX2_init_24 rfl (by omega) ⟨Nat.le_of_ble_eq_true rfl, Nat.le_of_ble_eq_true rfl⟩ (fun L5 M5 hL5 hM5 => ?_)
  show K x g 3 7500 L5 113 M5 26 [(0, vR g 109)] [vR g 112, vR g 109]
  have hT5 : L5 109 = kO 2 [some (some 110), some (some 111), some none, some none] := by rw [hL5, upL_n (by omega)]; exact hT4
  have hN5 : L5 112 = kA 0 120 := by rw [hL5]; exact upL_s
  refine k_putFN (o := some (some 112)) (fs' := [some (some 110), some (some 111), some (some 112), some none]) hx hnm fX2_18 (fun q h => by cases h; rfl) dX2_init_26 (by omega) hT5 (fun m => rfl) ⟨rfl, rfl⟩ rfl (by simp only [List.length_cons, List.length_nil]; omega) (fun L6 hL6 => ?_)
  have hT6 : L6 109 = kO 2 [some (some 110), some (some 111), some (some 112), some none] := by rw [hL6]; exact upL_s
  refine k_aload_n hx dX2_init_29 0 rfl ?_
  refine k_bipush hx dX2_init_30 (by decide +kernel) ?_
  refine k_newaI (N := 12) hx dX2_init_32 rfl (by omega) ⟨Nat.le_of_ble_eq_true rfl, Nat.le_of_ble_eq_true rfl⟩ (fun L7 M7 hL7 hM7 => ?_)
  show K x g 4 7512 L7 114 M7 34 [(0, vR g 109)] [vR g 113, vR g 109]
  have hT7 : L7 109 = kO 2 [some (some 110), some (some 111), some (some 112), some none] := by rw [hL7, upL_n (by omega)]; exact hT6
  have hN7 : L7 113 = kA 0 12 := by rw [hL7]; exact upL_s
  refine k_putFN (o := some (some 113)) (fs' := [some (some 110), some (some 111), some (some 112), some (some 113)]) hx hnm fX2_21 (fun q h => by cases h; rfl) dX2_init_34 (by omega) hT7 (fun m => rfl) ⟨rfl, rfl⟩ rfl (by simp only [List.length_cons, List.length_nil]; omega) (fun L8 hL8 => ?_)
  have hT8 : L8 109 = kO 2 [some (some 110), some (some 111), some (some 112), some (some 113)] := by rw [hL8]; exact upL_s
  refine k_vret hx hr dX2_init_37 ?_
  refine ⟨rfl, rfl, fun j hj => ?_, fun j hj => ?_, fun j j0 j1 => ?_, ?_⟩
  · rw [hL8, upL_n (by omega), hL7, upL_n (by omega), hL6, upL_n (by omega), hL5, upL_n (by omega), hL4, upL_n (by omega), hL3, upL_n (by omega), hL2, upL_n (by omega), hL1, upL_n (by omega)]
  · rw [hM7, clr_n (by omega), hM5, clr_n (by omega), hM3, clr_n (by omega), hM1, clr_n (by omega)]
  · rcases (show j = 109 ∨ j = 110 ∨ j = 111 ∨ j = 112 ∨ j = 113 by omega) with rfl | rfl | rfl | rfl | rfl
    · rw [hL8, upL_s]; exact rfl
    · rw [hL8, upL_n (by omega), hL7, upL_n (by omega), hL6, upL_n (by omega), hL5, upL_n (by omega), hL4, upL_n (by omega), hL3, upL_n (by omega), hL2, upL_n (by omega), hL1, upL_s]; exact rfl
    · rw [hL8, upL_n (by omega), hL7, upL_n (by omega), hL6, upL_n (by omega), hL5, upL_n (by omega), hL4, upL_n (by omega), hL3, upL_s]; exact rfl
    · rw [hL8, upL_n (by omega), hL7, upL_n (by omega), hL6, upL_n (by omega), hL5, upL_s]; exact rfl
    · rw [hL8, upL_n (by omega), hL7, upL_s]; exact rfl
  · trivial
end
section
/-! the law: words once more -/
theorem red_fixN : ∀ (n : Nat) (s : List Int), s.length = n → Rd s → red s = s := by
  intro n
  induction n with
  | zero => intro s hs _; rw [List.length_eq_zero_iff.mp hs]; rfl
  | succ n ih =>
    intro s hs h
    rcases List.eq_nil_or_concat s with rfl | ⟨t, c, rfl⟩
    · simp at hs
    · rw [List.concat_eq_append] at h hs ⊢
      have ht : red t = t := ih t (by simpa using hs) h.pre
      rw [red_app, ht]
      show psh t c = t ++ [c]
      unfold psh
      rw [if_neg (fun q => ?_)]
      rcases List.eq_nil_or_concat t with rfl | ⟨u, d, rfl⟩
      · simp at q
      · rw [List.concat_eq_append] at q h
        have e : d = op c := by simpa using q
        exact h u d c [] (by simp) e
theorem red_fix {s : List Int} (h : Rd s) : red s = s := red_fixN _ s rfl h
theorem red_red_app (x y : List Int) : red (red x ++ y) = red (x ++ y) := by rw [red_app, red_app, red_fix (rd_red x)]
theorem red_red (x : List Int) : red (red x) = red x := red_fix (rd_red x)
/-- a pair is taken out behind k - 1 -/
def cutP (w : List Int) (k : Nat) : List Int := w.take (k - 1) ++ w.drop (k + 1)
theorem pl_split {w : List Int} {k : Nat} (h1 : 1 ≤ k) (h2 : k < w.length) : w = w.take (k - 1) ++ at0 w (k - 1 : Nat) :: at0 w k :: w.drop (k + 1) := by
  have e1 : w.drop (k - 1) = at0 w (k - 1 : Nat) :: at0 w k :: w.drop (k + 1) := by
    rw [List.drop_eq_getElem_cons (show k - 1 < w.length by omega), at0_n (show k - 1 < w.length by omega), show k - 1 + 1 = k by omega, List.drop_eq_getElem_cons h2, at0_n h2]
  rw [← e1, List.take_append_drop]
theorem pl_go {T U : List Int} {c d : Int} {k : Nat} (hk : T.length + 1 = k) (h : c = op d) : act ((T ++ U).take (if 1 < k then k - 1 else 1)) ((T ++ U).drop (if 1 < k then k - 1 else 1)) = act ((T ++ c :: d :: U).take k) ((T ++ c :: d :: U).drop k) := by
  have e1 : T ++ c :: d :: U = (T ++ [c]) ++ (d :: U) := by simp
  have e2 : psh (T ++ [c]) d = T := by unfold psh; rw [if_pos (by simp [h]), List.dropLast_concat]
  have hl : (T ++ [c]).length = k := by rw [List.length_append]; exact hk
  have e3 : act (T ++ [c]) (d :: U) = act T U := by show act (psh (T ++ [c]) d) U = _; rw [e2]
  rw [e1, List.take_left' hl, List.drop_left' hl, e3]
  by_cases h1 : 1 < k
  · rw [if_pos h1, List.take_left' (by omega), List.drop_left' (by omega)]
  · rw [if_neg h1]
    have hT : T = [] := List.length_eq_zero_iff.mp (by omega)
    subst hT
    cases U with
    | nil => rfl
    | cons x V => rfl
theorem pl_cut {w : List Int} {k : Nat} (h1 : 1 ≤ k) (h2 : k < w.length) (h : at0 w (k - 1 : Nat) = op (at0 w k)) : act ((cutP w k).take (if 1 < k then k - 1 else 1)) ((cutP w k).drop (if 1 < k then k - 1 else 1)) = act (w.take k) (w.drop k) := by
  have := pl_go (T := w.take (k - 1)) (U := w.drop (k + 1)) (k := k) (by rw [List.length_take]; omega) h
  rw [← pl_split h1 h2] at this
  exact this
theorem pl_skip {w : List Int} {k : Nat} (h1 : 1 ≤ k) (h2 : k < w.length) (h : ¬ at0 w (k - 1 : Nat) = op (at0 w k)) : act (w.take (k + 1)) (w.drop (k + 1)) = act (w.take k) (w.drop k) := by
  have e2 : psh (w.take k) (at0 w k) = w.take (k + 1) := by
    have hl : (w.take k).length = k := by rw [List.length_take]; omega
    unfold psh
    rw [if_neg (fun q => ?_), List.take_succ_eq_append_getElem h2, at0_n h2]
    rw [getLast_at (by omega), hl, show ((k : Int) - 1) = ((k - 1 : Nat) : Int) by omega, at0_take (by omega) (by omega)] at q
    exact h (Option.some.inj q)
  rw [List.drop_eq_getElem_cons h2, ← at0_n h2]
  show _ = act (psh (w.take k) (at0 w k)) _
  rw [e2]
theorem cutP_len {w : List Int} {k : Nat} (h1 : 1 ≤ k) (h2 : k < w.length) : (cutP w k).length = w.length - 2 := by
  unfold cutP; rw [List.length_append, List.length_take, List.length_drop]; omega
theorem cutP_at {w : List Int} {k j : Nat} (h1 : 1 ≤ k) (h2 : k < w.length) (hj : j < w.length - 2) : at0 (cutP w k) j = if j < k - 1 then at0 w j else at0 w (j + 2 : Nat) := by
  have hl : (w.take (k - 1)).length = k - 1 := by rw [List.length_take]; omega
  unfold cutP
  by_cases h : j < k - 1
  · rw [if_pos h, at0_app (by omega), at0_take h (by omega)]
  · rw [if_neg h, show j = (w.take (k - 1)).length + (j - (k - 1)) by omega, at0_appr (by rw [List.length_drop]; omega), at0_drop (by omega)]
    congr 1; omega
theorem cutP_cr {w : List Int} (h : Cr w) (k : Nat) : Cr (cutP w k) := (h.take _).app (h.drop _)
theorem canc {a b : Int} (ha : 0 ≤ a ∧ a < 12) (hb : 0 ≤ b ∧ b < 12) : (a - b = 6 ∨ b - a = 6) ↔ a = op b := by unfold op; omega
theorem mod6 {c : Int} (h : 0 ≤ c ∧ c < 12) : c % 6 = pst c := by unfold pst; omega
theorem lexLt_trans : ∀ (u v w : List Int), lexLt u v = true → lexLt v w = true → lexLt u w = true
  | [], v, w, h, _ => by simp [lexLt] at h
  | x :: xs, [], w, h, _ => by simp [lexLt] at h
  | x :: xs, y :: ys, [], _, k => by simp [lexLt] at k
  | x :: xs, y :: ys, z :: zs, h, k => by
    unfold lexLt at h k ⊢
    by_cases a : x = y
    · rw [if_pos a] at h; subst a
      by_cases b : x = z
      · rw [if_pos b] at k ⊢; exact lexLt_trans xs ys zs h k
      · rw [if_neg b] at k ⊢; exact k
    · rw [if_neg a] at h
      have h := of_decide_eq_true h
      by_cases b : y = z
      · subst b; rw [if_neg a]; exact decide_eq_true h
      · rw [if_neg b] at k
        have k := of_decide_eq_true k
        rw [if_neg (by omega)]; exact decide_eq_true (by omega)
theorem lsF_min (w : List Int) : ∀ k j, j < k → lexLt (rot w j) (rot w (lsF w k)) = false
  | 0, j, h => by omega
  | k + 1, j, h => by
    rw [lsF]
    by_cases hb : lexLt (rot w k) (rot w (lsF w k)) = true
    · rw [if_pos hb]
      by_cases hj : j = k
      · subst hj; exact lexLt_self _
      · have ih := lsF_min w k j (by omega)
        cases hq : lexLt (rot w j) (rot w k)
        · rfl
        · rw [lexLt_trans _ _ _ hq hb] at ih; cases ih
    · rw [if_neg hb]
      by_cases hj : j = k
      · subst hj; exact Bool.eq_false_iff.mpr hb
      · exact lsF_min w k j (by omega)
theorem least_min {w : List Int} {j : Nat} (h : j < w.length) : lexLt (rot w j) (least w) = false := lsF_min w w.length j h
theorem per_mod {w : List Int} {p : Nat} (hp : 0 < p) (h : Per w p) : ∀ (f k : Nat), k < f → k < w.length → at0 w k = at0 w (k % p : Nat)
  | 0, k, hf, _ => by omega
  | f + 1, k, hf, hk => by
    by_cases hkp : k < p
    · rw [Nat.mod_eq_of_lt hkp]
    · rw [h k hk (by omega), per_mod hp h f (k - p) (by omega) (by omega), Nat.mod_eq_sub_mod (by omega : p ≤ k)]
/-- the word comes to itself when it goes round by r -/
abbrev Sh (w : List Int) (r : Nat) : Prop := ∀ i, i < w.length → at0 w i = at0 w ((r + i) % w.length : Nat)
theorem sh_all {w : List Int} {r : Nat} (hn : 0 < w.length) (h : Sh w r) (i : Nat) : at0 w (i % w.length : Nat) = at0 w ((i + r) % w.length : Nat) := by
  rw [h (i % w.length) (Nat.mod_lt _ hn), Nat.add_mod_mod, Nat.add_comm r i]
theorem sh_of {w : List Int} {r : Nat} (h : ∀ i : Nat, at0 w (i % w.length : Nat) = at0 w ((i + r) % w.length : Nat)) : Sh w r := fun i hi => by
  have := h i
  rwa [Nat.mod_eq_of_lt hi, Nat.add_comm i r] at this
theorem sh_0 (w : List Int) : Sh w 0 := fun i hi => by rw [Nat.zero_add, Nat.mod_eq_of_lt hi]
theorem sh_n (w : List Int) : Sh w w.length := fun i hi => by rw [Nat.add_mod_left, Nat.mod_eq_of_lt hi]
theorem sh_add {w : List Int} {a b : Nat} (hn : 0 < w.length) (ha : Sh w a) (hb : Sh w b) : Sh w (a + b) := sh_of fun i => by
  rw [sh_all hn ha i, sh_all hn hb (i + a), Nat.add_assoc]
theorem sh_sub {w : List Int} {a b : Nat} (hn : 0 < w.length) (ha : Sh w a) (hab : Sh w (a + b)) : Sh w b := sh_of fun i => by
  rw [sh_all hn hab i, sh_all hn ha (i + b), show i + (a + b) = i + b + a by omega]
theorem sh_mul {w : List Int} {p : Nat} (hn : 0 < w.length) (hp : Sh w p) : ∀ q, Sh w (p * q)
  | 0 => sh_0 w
  | q + 1 => by rw [Nat.mul_succ]; exact sh_add hn (sh_mul hn hp q) hp
theorem sh_mod {w : List Int} {p j : Nat} (hn : 0 < w.length) (hp : Sh w p) (hj : Sh w j) : Sh w (j % p) :=
  sh_sub hn (sh_mul hn hp (j / p)) (by rw [Nat.div_add_mod]; exact hj)
theorem per_sh {w : List Int} {p : Nat} (hp : 0 < p) (hpn : p ≤ w.length) (hd : w.length % p = 0) : Sh w p ↔ Per w p := by
  refine ⟨fun h k hk hpk => ?_, fun h i hi => ?_⟩
  · have := h (k - p) (by omega)
    rw [show p + (k - p) = k by omega, Nat.mod_eq_of_lt hk] at this
    exact this.symm
  · by_cases h1 : p + i < w.length
    · rw [Nat.mod_eq_of_lt h1, h (p + i) h1 (by omega), show p + i - p = i by omega]
    · rw [Nat.mod_eq_sub_mod (by omega), Nat.mod_eq_of_lt (by omega), per_mod hp h _ i (Nat.lt_succ_self _) hi, per_mod hp h _ (p + i - w.length) (Nat.lt_succ_self _) (by omega)]
      obtain ⟨q, hq⟩ := Nat.dvd_of_mod_eq_zero hd
      have h2 : ((p + i - w.length) + p * q) % p = (p + i - w.length) % p := Nat.add_mul_mod_self_left _ _ _
      rw [← h2, ← hq, show p + i - w.length + w.length = p + i by omega, Nat.add_mod_left]
theorem pwF_spec {w : List Int} : ∀ (f p0 : Nat), 0 < p0 → p0 ≤ w.length → w.length < f + p0 → ∃ p, p0 ≤ p ∧ p ≤ w.length ∧ w.length % p = 0 ∧ Per w p ∧ (∀ q, p0 ≤ q → q < p → ¬ (w.length % q = 0 ∧ Per w q)) ∧ pwF w f p0 = w.length / p
  | 0, p0, _, h1, h2 => by omega
  | f + 1, p0, h0, h1, h2 => by
    by_cases hc : w.length % p0 = 0 ∧ Per w p0
    · exact ⟨p0, Nat.le_refl _, h1, hc.1, hc.2, fun q a b => by omega, by rw [pwF, if_neg (by omega), if_pos hc]⟩
    · have hne : p0 ≠ w.length := fun q => hc ⟨by rw [q]; exact Nat.mod_self _, fun k hk hpk => by omega⟩
      obtain ⟨p, a1, a2, a3, a4, a5, a6⟩ := pwF_spec (w := w) f (p0 + 1) (by omega) (by omega) (by omega)
      refine ⟨p, by omega, a2, a3, a4, fun q b1 b2 => ?_, by rw [pwF, if_neg (by omega), if_neg hc]; exact a6⟩
      by_cases hq : q = p0
      · rw [hq]; exact hc
      · exact a5 q (by omega) b2
theorem power_min {w : List Int} (hn : 0 < w.length) : ∃ p, 0 < p ∧ p ≤ w.length ∧ w.length % p = 0 ∧ power w = w.length / p ∧ ∀ r, Sh w r ↔ r % p = 0 := by
  obtain ⟨p, a1, a2, a3, a4, a5, a6⟩ := pwF_spec (w := w) (w.length + 1) 1 (by decide) hn (by omega)
  have hp : Sh w p := (per_sh (by omega) a2 a3).mpr a4
  have key : ∀ (f s : Nat), s < f → 0 < s → s < p → ¬ Sh w s := by
    intro f
    induction f with
    | zero => intro s h; omega
    | succ f ih =>
      intro s hf h0 hs hS
      have hm := sh_mod hn hS (sh_n w)
      have hlt := Nat.mod_lt w.length h0
      by_cases hz : w.length % s = 0
      · exact a5 s h0 hs ⟨hz, (per_sh h0 (by omega) hz).mp hS⟩
      · exact ih (w.length % s) (by omega) (by omega) (by omega) hm
  refine ⟨p, by omega, a2, a3, a6, fun r => ⟨fun h => ?_, fun h => ?_⟩⟩
  · have hm := sh_mod hn hp h
    have hlt := Nat.mod_lt r (show 0 < p by omega)
    by_cases hz : r % p = 0
    · exact hz
    · exact absurd hm (key _ _ (Nat.lt_succ_self _) (by omega) hlt)
  · have := sh_mul hn hp (r / p)
    have e := Nat.div_add_mod r p
    rw [h, Nat.add_zero] at e
    rwa [e] at this
/-- how often, of the rounds below r -/
def shc (w : List Int) : Nat → Nat
  | 0 => if w.length = 0 then 0 else 1
  | r + 1 => shc w r + (if 0 < r ∧ Sh w r then 1 else 0)
theorem shc_le (w : List Int) : ∀ r, shc w r ≤ r + 1
  | 0 => by unfold shc; split <;> omega
  | r + 1 => by have := shc_le w r; rw [shc]; split <;> omega
theorem shc_power (w : List Int) : shc w w.length = power w := by
  by_cases hn : 0 < w.length
  · obtain ⟨p, b1, b2, b3, b4, b5⟩ := power_min hn
    have key : ∀ r, ∃ q s, r + 1 = p * q + s ∧ 1 ≤ s ∧ s ≤ p ∧ shc w (r + 1) = q + 1 := by
      intro r
      induction r with
      | zero => exact ⟨0, 1, by omega, by omega, by omega, by rw [shc, shc, if_neg (by omega), if_neg (by omega)]⟩
      | succ r ih =>
        obtain ⟨q, s, e, s1, s2, ec⟩ := ih
        rw [shc, ec]
        by_cases hs : s = p
        · have hm : (r + 1) % p = 0 := by rw [e, hs, Nat.mul_add_mod, Nat.mod_self]
          exact ⟨q + 1, 1, by rw [Nat.mul_succ]; omega, by omega, by omega, by rw [if_pos ⟨by omega, (b5 _).mpr hm⟩]⟩
        · have hm : ¬ (r + 1) % p = 0 := by rw [e, Nat.mul_add_mod, Nat.mod_eq_of_lt (by omega)]; omega
          exact ⟨q, s + 1, by omega, by omega, by omega, by rw [if_neg (fun z => hm ((b5 _).mp z.2))]⟩
    obtain ⟨q, s, e, s1, s2, ec⟩ := key (w.length - 1)
    rw [Nat.sub_add_cancel hn] at e ec
    have hs : s = p := by
      rw [e, Nat.mul_add_mod] at b3
      by_cases h : s = p
      · exact h
      · rw [Nat.mod_eq_of_lt (by omega)] at b3; omega
    rw [ec, b4, e, hs, ← Nat.mul_succ, Nat.mul_div_cancel_left _ b1]
  · have h0 : w.length = 0 := by omega
    unfold power
    rw [h0, shc, if_pos h0, pwF, if_pos (by omega)]
theorem wF_0 (w : List Int) : wF 0 w = red w := by
  unfold wF
  congr 1
  refine List.filter_eq_self.mpr (fun c _ => ?_)
  refine decide_eq_true ?_
  unfold bit
  rw [Int.zero_ediv]; rfl
theorem swF_take {p b : Int} {v : List Int} {k : Nat} (h : k < v.length) : swF p b (v.take (k + 1)) = red (swF p b (v.take k) ++ swp p b (at0 v k)) := by
  unfold swF
  rw [red_red_app, List.take_succ_eq_append_getElem h, List.flatMap_append, at0_n h]
  simp
theorem rope_setR {A : Ab} (hA : OkA A) {r z : Int} (hr : 0 ≤ r ∧ r < 4) (hz : 0 ≤ z ∧ z < 4) {w : List Int} : rope (setR A r w) z = if z = r then w else rope A z := by
  have h4 := hA.2.1
  show (A.2.set r.toNat w).getD z.toNat [] = _
  rw [getD_set (by omega)]
  by_cases h : z = r
  · rw [if_pos h, if_pos (by omega)]
  · rw [if_neg h, if_neg (by omega)]
theorem fp_step {w : List Int} {k : Nat} (h : k < w.length) : fpF w (w.length + 1 - k) k = if k + 1 < w.length ∧ at0 w k = op (at0 w (k + 1 : Nat)) then (k : Int) else fpF w (w.length + 1 - (k + 1)) (k + 1) := by
  rw [show w.length + 1 - k = (w.length - k) + 1 by omega, fpF, show w.length + 1 - (k + 1) = w.length - k by omega]
  by_cases h1 : k + 1 < w.length
  · rw [if_pos h1]
    by_cases h2 : at0 w k = op (at0 w (k + 1 : Nat))
    · rw [if_pos h2, if_pos ⟨h1, h2⟩]
    · rw [if_neg h2, if_neg (fun q => h2 q.2)]
  · rw [if_neg h1, if_neg (fun q => h1 q.1), show w.length - k = 0 + 1 by omega, fpF, if_neg (by omega)]
theorem fp_rg (w : List Int) : ∀ (f k : Nat), fpF w f k = -6 ∨ (0 ≤ fpF w f k ∧ fpF w f k < w.length)
  | 0, k => Or.inl rfl
  | f + 1, k => by
    rw [fpF]
    split
    · split
      · right; omega
      · exact fp_rg w f (k + 1)
    · exact Or.inl rfl
end
section
/-! the law's arrays and its small methods -/
abbrev IsA (g : GE) (i : Nat) : Prop := 120 ≤ i ∧ i < NN g
/-- the word w stands in the array at i -/
def Wa (M : Mem) (i : Nat) (w : List Int) : Prop := M i 0 = w.length ∧ (∀ z : Int, 1 ≤ z → z ≤ w.length → M i z = at0 w (z - 1)) ∧ Cr w
def OA (i : Nat) (M M' : Mem) : Prop := ∀ a, a ≠ i → M' a = M a
def OH (i : Nat) (M M' : Mem) : Prop := ∀ a, 120 ≤ a → a ≠ i → M' a = M a
theorem OA.rf {i : Nat} {M : Mem} : OA i M M := fun _ _ => rfl
theorem OA.tr {i : Nat} {M M' M'' : Mem} (h : OA i M M') (k : OA i M' M'') : OA i M M'' := fun a h1 => (k a h1).trans (h a h1)
theorem OH.rf {i : Nat} {M : Mem} : OH i M M := fun _ _ _ => rfl
theorem OH.tr {i : Nat} {M M' M'' : Mem} (h : OH i M M') (k : OH i M' M'') : OH i M M'' := fun a h0 h1 => (k a h0 h1).trans (h a h0 h1)
theorem OA.hi {i : Nat} {M M' : Mem} (h : OA i M M') : OH i M M' := fun a _ h1 => h a h1
theorem Wa.same {M M' : Mem} {i : Nat} {w : List Int} (h : Wa M i w) (e : M' i = M i) : Wa M' i w := by unfold Wa; rw [e]; exact h
theorem Wa.atn {M : Mem} {i : Nat} {w : List Int} (h : Wa M i w) {k : Nat} (hk : k < w.length) : M i ((k : Int) + 1) = at0 w k := by
  rw [h.2.1 _ (by omega) (by omega)]; congr 1; omega
theorem Wa.of {M : Mem} {i : Nat} {w : List Int} (h1 : M i 0 = w.length) (h2 : ∀ k : Nat, k < w.length → M i ((k : Int) + 1) = at0 w k) (h3 : Cr w) : Wa M i w := by
  refine ⟨h1, fun z a b => ?_, h3⟩
  have := h2 (z - 1).toNat (by omega)
  rwa [show (((z - 1).toNat : Nat) : Int) = z - 1 by omega, show z - 1 + 1 = z by omega] at this
theorem at0_z {w : List Int} (h : Cr w) {z : Int} (h0 : 0 ≤ z) (h1 : z < w.length) : 0 ≤ at0 w z ∧ at0 w z < 12 := at0_in h h0 h1
theorem Wa.nil {M : Mem} {i : Nat} : Wa (up M i 0 0) i [] := Wa.of up_s (fun k h => by simp at h) (fun c h => by cases h)
theorem Wa.add {M M' : Mem} {i : Nat} {w : List Int} {c : Int} (h : Wa M i w) (hc : 0 ≤ c ∧ c < 12) (e : M' = up (up M i 0 (w.length + 1)) i (w.length + 1) c) : Wa M' i (w ++ [c]) := by
  subst e
  refine Wa.of ?_ (fun k hk => ?_) (h.2.2.app (Cr.one hc))
  · rw [up_k (by omega), up_s, List.length_append]; simp
  · rw [List.length_append] at hk
    simp only [List.length_singleton] at hk
    by_cases hkl : k < w.length
    · rw [up_k (by omega), up_k (by omega), at0_app hkl]; exact h.atn hkl
    · have e : k = w.length := by omega
      subst e
      have := at0_appr (a := w) (b := [c]) (k := 0) (by simp)
      rw [Nat.add_zero] at this
      rw [up_s, this]; rfl
section LROWS
variable {x : Fx} {g : GE} {cc : ByteArray} {own : String} {nL : Nat} {R : Room} {cs sl : Nat} {M : Mem} {pc pc' index na : Nat} {ls : List (Nat × Value)} {st rest As : List Value} {μ : Mu}
theorem k_sv {post : Mem → Prop} (hx : Cx x g cc own nL R) (hlk : lkS own index μ na) (hd : At cc pc (.invokestatic index) 3 pc') (hC : Cv g (xL x) μ As M post) (hn : As.length = na) (hst : st = As.reverse ++ rest) (hcat : Nat.ble (rest.map fun v => v.category).sum 8 = true) (hroom : Nat.ble (μ.2.2.2.2.1 + 1) R.frames = true ∧ Nat.ble (8 + (μ.2.2.1 + 11) + μ.2.2.2.2.2) R.locals = true) (hcell : cs ≤ R.cells ∧ sl ≤ R.slots)
    (kk : ∀ (M' : Mem), post M' → K x g cs sl LAY (NN g) M' pc' ls rest) : K x g cs sl LAY (NN g) M pc ls st :=
  k_callS hx hlk hd hC hn hst hcat hroom hcell (fun r L' n' M' ⟨h1, h2, h3, h4⟩ => by subst h1; subst h2; subst h3; exact kk M' h4)
end LROWS
theorem Inv.hi {M M' : Mem} {σ : Sg} (h : Inv M σ) {i : Nat} (hi : 120 ≤ i) (o : OA i M M') : Inv M' σ := h.same (fun a ha => o a (by omega))

theorem c_L_cancel {g : GE} {l : Launch} {M : Mem} {a b : Int} (ha : 0 ≤ a ∧ a < 12) (hb : 0 ≤ b ∧ b < 12) : Cp g l μL_cancel [vI a, vI b] M (b2i (decide (a = op b))) := by
  refine Ci.of (by decide +kernel) rfl rfl (fun x hx hr => ?_)
  have hc := canc ha hb
  refine k_iload_n hx dL_cancel_0 0 rfl ?_
  refine k_iload_n hx dL_cancel_1 1 rfl ?_
  refine k_isub hx dL_cancel_2 ?_
  refine k_bipush hx dL_cancel_3 (by decide +kernel) ?_
  refine k_icmp_eq hx dL_cancel_5 (by omega) (fun h_5 => ?_) (fun h_5 => ?_)
  · refine k_iconst hx dL_cancel_16 ?_
    refine k_goto hx dL_cancel_17 ?_
    refine k_rz hx hr dL_cancel_21 (by first | exact Or.inl rfl | exact Or.inr rfl | exact b2i_or _) ?_
    exact ⟨by first | exact b2i_t (hc.mp (by omega)) | exact b2i_f (fun q => by have := hc.mpr q; omega), rfl⟩
  · refine k_iload_n hx dL_cancel_8 1 rfl ?_
    refine k_iload_n hx dL_cancel_9 0 rfl ?_
    refine k_isub hx dL_cancel_10 ?_
    refine k_bipush hx dL_cancel_11 (by decide +kernel) ?_
    refine k_icmp_ne hx dL_cancel_13 (by omega) (fun h_13 => ?_) (fun h_13 => ?_)
    · refine k_iconst hx dL_cancel_20 ?_
      refine k_rz hx hr dL_cancel_21 (by first | exact Or.inl rfl | exact Or.inr rfl | exact b2i_or _) ?_
      exact ⟨by first | exact b2i_t (hc.mp (by omega)) | exact b2i_f (fun q => by have := hc.mpr q; omega), rfl⟩
    · refine k_iconst hx dL_cancel_16 ?_
      refine k_goto hx dL_cancel_17 ?_
      refine k_rz hx hr dL_cancel_21 (by first | exact Or.inl rfl | exact Or.inr rfl | exact b2i_or _) ?_
      exact ⟨by first | exact b2i_t (hc.mp (by omega)) | exact b2i_f (fun q => by have := hc.mpr q; omega), rfl⟩
theorem c_L_otherSide {g : GE} {l : Launch} {M : Mem} {a : Int} (ha : 0 ≤ a ∧ a < 12) : Cp g l μL_otherSide [vI a] M (op a) := by
  refine Ci.of (by decide +kernel) rfl rfl (fun x hx hr => ?_)
  refine k_iload_n hx dL_otherSide_0 0 rfl ?_
  refine k_bipush hx dL_otherSide_1 (by decide +kernel) ?_
  refine k_icmp_ge hx dL_otherSide_3 (by omega) (fun h_3 => ?_) (fun h_3 => ?_)
  · refine k_iload_n hx dL_otherSide_13 0 rfl ?_
    refine k_bipush hx dL_otherSide_14 (by decide +kernel) ?_
    refine k_isub hx dL_otherSide_16 ?_
    refine k_ri hx hr dL_otherSide_17 ?_
    exact ⟨by unfold op; first | rw [if_pos (by omega)] | rw [if_neg (by omega)], rfl⟩
  · refine k_iload_n hx dL_otherSide_6 0 rfl ?_
    refine k_bipush hx dL_otherSide_7 (by decide +kernel) ?_
    refine k_iadd hx dL_otherSide_9 ?_
    refine k_goto hx dL_otherSide_10 ?_
    refine k_ri hx hr dL_otherSide_17 ?_
    exact ⟨by unfold op; first | rw [if_pos (by omega)] | rw [if_neg (by omega)], rfl⟩
theorem c_L_add {g : GE} {l : Launch} {M : Mem} {i : Nat} (hA : IsA g i) {w : List Int} (hw : Wa M i w) (hl : w.length ≤ 62) {c : Int} (hc : 0 ≤ c ∧ c < 12) : Cv g l μL_add [vR g i, vI c] M (fun M' => Wa M' i (w ++ [c]) ∧ OA i M M') := by
  refine Cv.of (by decide +kernel) rfl rfl (fun x hx hr => ?_)
  refine k_aload_n hx dL_add_0 0 rfl ?_
  refine k_iconst hx dL_add_1 ?_
  refine k_dup2 hx dL_add_2 rfl rfl ?_
  refine k_iald (v := w.length) hx dL_add_3 hA.2 (LAY_hi hA.1) (by omega) (by decide) (hw.1) ?_
  refine k_iconst hx dL_add_4 ?_
  refine k_iadd hx dL_add_5 ?_
  refine k_iastN hx dL_add_6 hA.2 (LAY_hi hA.1) (by omega) (by decide) (fun M_6 hM_6 => ?_)
  refine k_aload_n hx dL_add_7 0 rfl ?_
  refine k_aload_n hx dL_add_8 0 rfl ?_
  refine k_iconst hx dL_add_9 ?_
  refine k_iald (v := (w.length + 1)) hx dL_add_10 hA.2 (LAY_hi hA.1) (by omega) (by decide) (by rw [hM_6, up_s]) ?_
  refine k_iload_n hx dL_add_11 1 rfl ?_
  refine k_iastN hx dL_add_12 hA.2 (LAY_hi hA.1) (by omega) (by decide) (fun M_12 hM_12 => ?_)
  refine k_rv hx hr dL_add_13 ?_
  subst hM_6
  exact ⟨hw.add hc hM_12, fun a ha => by rw [hM_12, up_i ha, up_i ha]⟩
/-- a question: the answer; the state stays -/
abbrev QO (M : Mem) (σ : Sg) (e : Int) : Int → Mem → Prop := PO M (e, σ)
theorem q_of {g : GE} {l : Launch} {M : Mem} {σ : Sg} (hI : Inv M σ) {z : Int} (hz : 0 ≤ z ∧ z < 4) {k : Int} (hk : 0 ≤ k ∧ k < 9) : Ci g l μX5_ofRope [vR g 0, vI z, vI k] M (QO M σ (qOf σ.1 (rope σ.1 z) k)) :=
  Ci.imp (c_X5_ofRope hI (z := z) (by omega) (k := k) (by omega)) (fun y M' ⟨a, b, c⟩ => ⟨by rw [a]; unfold aQ qRope; rw [if_pos hz], b, c⟩)
theorem q_len {g : GE} {l : Launch} {M : Mem} {σ : Sg} (hI : Inv M σ) {z : Int} (hz : 0 ≤ z ∧ z < 4) : Ci g l μX5_ofRope [vR g 0, vI z, vI 0] M (QO M σ (rope σ.1 z).length) := q_of hI hz (k := 0) (by decide)
theorem q_crossing {g : GE} {l : Launch} {M : Mem} {σ : Sg} (hI : Inv M σ) {z : Int} (hz : 0 ≤ z ∧ z < 4) {k : Int} (hk : -1 ≤ k ∧ k < 1000) : Ci g l μX5_crossing [vR g 0, vI z, vI k] M (QO M σ (at0 (rope σ.1 z) k)) :=
  Ci.imp (c_X5_crossing hI (z := z) (by omega) (k := k) (by omega)) (fun y M' ⟨a, b, c⟩ => ⟨by rw [a]; unfold aQ qRope; rw [if_pos hz], b, c⟩)
theorem q_least {g : GE} {l : Launch} {M : Mem} {σ : Sg} (hI : Inv M σ) {z : Int} (hz : 0 ≤ z ∧ z < 4) {k : Int} (hk : -1 ≤ k ∧ k < 1000) : Ci g l μX5_least [vR g 0, vI z, vI k] M (QO M σ (at0 (lst (rope σ.1 z)) k)) :=
  Ci.imp (c_X5_least hI (z := z) (by omega) (k := k) (by omega)) (fun y M' ⟨a, b, c⟩ => ⟨by rw [a]; unfold aQ qRope; rw [if_pos hz], b, c⟩)
theorem q_winds {g : GE} {l : Launch} {M : Mem} {σ : Sg} (hI : Inv M σ) {z : Int} (hz : 0 ≤ z ∧ z < 4) {p : Int} (hp : 0 ≤ p ∧ p < 6) : Ci g l μX5_winds [vR g 0, vI z, vI p] M (QO M σ (1000 + wnd (rope σ.1 z) p)) :=
  Ci.imp (c_X5_winds hI (z := z) (by omega) (p := p) (by omega)) (fun y M' ⟨a, b, c⟩ => ⟨by rw [a]; unfold aQ; rw [if_pos ⟨hz, hp⟩], b, c⟩)
theorem q_falls {g : GE} {l : Launch} {M : Mem} {σ : Sg} (hI : Inv M σ) {z : Int} (hz : 0 ≤ z ∧ z < 4) : Ci g l μX5_falls [vR g 0, vI z, vI 0] M (QO M σ (b2i (decide (red (rope σ.1 z) = [])))) :=
  Ci.imp (c_X5_falls hI (z := z) (by omega) (S := 0) (by omega)) (fun y M' ⟨a, b, c⟩ => ⟨by rw [a]; unfold aQ; rw [if_pos ⟨hz, by omega⟩, wF_0], b, c⟩)
theorem q_count {g : GE} {l : Launch} {M : Mem} {σ : Sg} (hI : Inv M σ) {p : Int} (hp : 0 ≤ p ∧ p < 6) : Ci g l μX5_count [vR g 0, vI p] M (QO M σ (σ.1.1.getD p.toNat 0)) :=
  Ci.imp (c_X5_count hI (k := p) (by omega)) (fun y M' ⟨a, b, c⟩ => ⟨by rw [a]; unfold aQ qCount; rw [if_pos hp], b, c⟩)
theorem q_all {g : GE} {l : Launch} {M : Mem} {σ : Sg} (hI : Inv M σ) : Ci g l μX5_count [vR g 0, vI 6] M (QO M σ (allC σ.1)) :=
  Ci.imp (c_X5_count hI (k := 6) (by omega)) (fun y M' ⟨a, b, c⟩ => ⟨by rw [a]; unfold aQ qCount; rw [if_neg (by omega), if_pos rfl], b, c⟩)
theorem q_ifSwapped {g : GE} {l : Launch} {M : Mem} {σ : Sg} (hI : Inv M σ) {p b : Int} (hp : 0 ≤ p ∧ p < 5) (hb : 0 ≤ b ∧ b < 2) : Ci g l μX5_ifSwapped [vR g 0, vI p, vI b] M (QO M σ (csw σ.1 p b)) :=
  Ci.imp (c_X5_ifSwapped hI (p := p) (b := b) (by omega) (by omega)) (fun y M' ⟨a, b', c⟩ => ⟨by rw [a]; unfold aQ; rw [if_pos hp, if_pos hb], b', c⟩)

theorem c_L_read {g : GE} {l : Launch} {M : Mem} {σ : Sg} (hI : Inv M σ) {z : Int} (hz : 0 ≤ z ∧ z < 4) {i : Nat} (hA : IsA g i) (hl : (rope σ.1 z).length ≤ 62) : Cv g l μL_read [vR g 0, vI z, vR g i] M (fun M' => Wa M' i (rope σ.1 z) ∧ Inv M' σ ∧ OH i M M') := by
  refine Cv.of (by decide +kernel) rfl rfl (fun x hx hr => ?_)
  have hcr : Cr (rope σ.1 z) := (hI.1.rope hz).1.2.2
  have loop : ∀ (f : Nat), ∀ (k : Nat) (y : Int) (M' : Mem), y = k → k ≤ (rope σ.1 z).length → (rope σ.1 z).length - k < f → Wa M' i ((rope σ.1 z).take k) → Inv M' σ → OH i M M' → K x g 0 0 LAY (NN g) M' 6 [(0, vR g 0), (1, vI z), (2, vR g i), (3, vI y)] [] := by
    intro f
    induction f with
    | zero => intro k y M' hy hk hf hwa hI' ho; omega
    | succ f ih =>
      intro k y M' hy hk hf hwa hI' ho
      refine k_iload_n hx dL_read_6 3 rfl ?_
      refine k_aload_n hx dL_read_7 0 rfl ?_
      refine k_iload_n hx dL_read_8 1 rfl ?_
      refine k_iconst hx dL_read_9 ?_
      refine k_vi (rest := [vI y]) hx vL_8 dL_read_10 (q_len hI' hz) n_0 L_0 rfl rfl rfl ⟨rfl, rfl⟩ ⟨by decide, by decide⟩ (fun z_10 M_10 p_10 => ?_)
      obtain ⟨rfl, I_10, o_10⟩ := p_10
      have hwa2 := hwa.same (o_10 i hA.1)
      have I_10 : Inv M_10 σ := I_10
      refine k_icmp_ge hx dL_read_13 (by omega) (fun h_13 => ?_) (fun h_13 => ?_)
      · refine k_rv hx hr dL_read_32 ?_
        exact ⟨by rw [List.take_of_length_le (by omega)] at hwa2; exact hwa2, I_10, fun a h0 h1 => by rw [o_10 a h0]; exact ho a h0 h1⟩
      · refine k_aload_n hx dL_read_16 2 rfl ?_
        refine k_aload_n hx dL_read_17 0 rfl ?_
        refine k_iload_n hx dL_read_18 1 rfl ?_
        refine k_iload_n hx dL_read_19 3 rfl ?_
        refine k_vi (rest := [vR g i]) hx vL_14 dL_read_20 (q_crossing I_10 hz (k := y) (by omega)) n_0 L_0 rfl rfl rfl ⟨rfl, rfl⟩ ⟨by decide, by decide⟩ (fun z_20 M_20 p_20 => ?_)
        obtain ⟨rfl, I_20, o_20⟩ := p_20
        have hwa3 := hwa2.same (o_20 i hA.1)
        have I_20 : Inv M_20 σ := I_20
        have hcy := at0_z hcr (z := y) (by omega) (by omega)
        refine k_sv (rest := []) hx sL_17 dL_read_23 (c_L_add hA hwa3 (by rw [List.length_take]; omega) hcy) rfl rfl rfl ⟨rfl, rfl⟩ ⟨by decide, by decide⟩ (fun M_23 p_23 => ?_)
        obtain ⟨a1, a2⟩ := p_23
        rw [hy, take_at0 (by omega)] at a1
        refine k_iinc (ls' := [(0, vR g 0), (1, vI z), (2, vR g i), (3, vI (y + 1))]) hx dL_read_26 3 rfl rfl rfl (by decide) ?_
        refine k_goto hx dL_read_29 ?_
        exact ih (k + 1) (y + 1) M_23 (by omega) (by omega) (by omega) a1 (I_20.hi hA.1 a2) (fun a h0 h1 => by rw [a2 a h1, o_20 a h0, o_10 a h0]; exact ho a h0 h1)
  refine k_aload_n hx dL_read_0 2 rfl ?_
  refine k_iconst hx dL_read_1 ?_
  refine k_iconst hx dL_read_2 ?_
  refine k_iastN hx dL_read_3 hA.2 (LAY_hi hA.1) (by omega) (by decide) (fun M_3 hM_3 => ?_)
  refine k_iconst hx dL_read_4 ?_
  refine k_istore_n (ls' := [(0, vR g 0), (1, vI z), (2, vR g i), (3, vI 0)]) hx dL_read_5 rfl rfl (by decide) ?_
  exact loop ((rope σ.1 z).length + 1) 0 0 M_3 rfl (by omega) (by omega) (by rw [hM_3, List.take_zero]; exact Wa.nil) (hI.hi hA.1 (fun a ha => by rw [hM_3, up_i ha])) (fun a _ ha => by rw [hM_3, up_i ha])
theorem c_L_isWord {g : GE} {l : Launch} {M : Mem} {σ : Sg} (hI : Inv M σ) {z : Int} (hz : 0 ≤ z ∧ z < 4) {i : Nat} (hA : IsA g i) (hl : (rope σ.1 z).length ≤ 62) (hw : Wa M i (rope σ.1 z)) : Ci g l μL_isWord [vR g 0, vI z, vR g i] M (QO M σ 1) := by
  refine Ci.of (by decide +kernel) rfl rfl (fun x hx hr => ?_)
  have loop : ∀ (f : Nat), ∀ (k : Nat) (y : Int) (M' : Mem), y = k → k ≤ (rope σ.1 z).length → (rope σ.1 z).length - k < f → Inv M' σ → (∀ a, 120 ≤ a → M' a = M a) → K x g 0 0 LAY (NN g) M' 43 [(0, vR g 0), (1, vI z), (2, vR g i), (3, vI 1), (4, vI y)] [] := by
    intro f
    induction f with
    | zero => intro k y M' hy hk hf hI' ho; omega
    | succ f ih =>
      intro k y M' hy hk hf hI' ho
      have hw' := hw.same (ho i hA.1)
      refine k_iload hx dL_isWord_43 4 rfl ?_
      refine k_aload_n hx dL_isWord_45 2 rfl ?_
      refine k_iconst hx dL_isWord_46 ?_
      refine k_iald (v := ((rope σ.1 z).length)) hx dL_isWord_47 hA.2 (LAY_hi hA.1) (by omega) (by decide) (hw'.1) ?_
      refine k_icmp_ge hx dL_isWord_48 (by omega) (fun h_48 => ?_) (fun h_48 => ?_)
      · refine k_iload_n hx dL_isWord_83 3 rfl ?_
        refine k_rz hx hr dL_isWord_84 (by first | exact Or.inl rfl | exact Or.inr rfl | exact b2i_or _) ?_
        exact ⟨rfl, hI', ho⟩
      · refine k_iload_n hx dL_isWord_51 3 rfl ?_
        refine k_ifeq hx dL_isWord_52 (by omega) (fun h_52 => absurd h_52 (by omega)) (fun h_52 => ?_)
        refine k_aload_n hx dL_isWord_55 0 rfl ?_
        refine k_iload_n hx dL_isWord_56 1 rfl ?_
        refine k_iload hx dL_isWord_57 4 rfl ?_
        refine k_vi (rest := []) hx vL_14 dL_isWord_59 (q_crossing hI' hz (k := y) (by omega)) n_0 L_0 rfl rfl rfl ⟨rfl, rfl⟩ ⟨by decide, by decide⟩ (fun z_59 M_59 p_59 => ?_)
        obtain ⟨rfl, I_59, o_59⟩ := p_59
        have hw3 := hw'.same (o_59 i hA.1)
        have I_59 : Inv M_59 σ := I_59
        have hcy := at0_z hw.2.2 (z := y) (by omega) (by omega)
        refine k_aload_n hx dL_isWord_62 2 rfl ?_
        refine k_iconst hx dL_isWord_63 ?_
        refine k_iload hx dL_isWord_64 4 rfl ?_
        refine k_iadd hx dL_isWord_66 ?_
        refine k_iald (v := (at0 (rope σ.1 z) y)) hx dL_isWord_67 hA.2 (LAY_hi hA.1) (by omega) (by decide) (by rw [hw3.2.1 _ (by omega) (by omega)]; congr 1; omega) ?_
        refine k_icmp_ne hx dL_isWord_68 (by omega) (fun h_68 => absurd h_68 (by omega)) (fun h_68 => ?_)
        refine k_iconst hx dL_isWord_71 ?_
        refine k_goto hx dL_isWord_72 ?_
        refine k_istore_n (ls' := [(0, vR g 0), (1, vI z), (2, vR g i), (3, vI 1), (4, vI y)]) hx dL_isWord_76 rfl rfl (by decide) ?_
        refine k_iinc (ls' := [(0, vR g 0), (1, vI z), (2, vR g i), (3, vI 1), (4, vI (y + 1))]) hx dL_isWord_77 4 rfl rfl rfl (by decide) ?_
        refine k_goto hx dL_isWord_80 ?_
        exact ih (k + 1) (y + 1) M_59 (by omega) (by omega) (by omega) I_59 (fun a h0 => by rw [o_59 a h0]; exact ho a h0)
  refine k_aload_n hx dL_isWord_0 0 rfl ?_
  refine k_iload_n hx dL_isWord_1 1 rfl ?_
  refine k_iconst hx dL_isWord_2 ?_
  refine k_vi (rest := []) hx vL_8 dL_isWord_3 (q_len hI hz) n_0 L_0 rfl rfl rfl ⟨rfl, rfl⟩ ⟨by decide, by decide⟩ (fun z_3 M_3 p_3 => ?_)
  obtain ⟨rfl, I_3, o_3⟩ := p_3
  have hw2 := hw.same (o_3 i hA.1)
  have I_3 : Inv M_3 σ := I_3
  refine k_aload_n hx dL_isWord_6 2 rfl ?_
  refine k_iconst hx dL_isWord_7 ?_
  refine k_iald (v := ((rope σ.1 z).length)) hx dL_isWord_8 hA.2 (LAY_hi hA.1) (by omega) (by decide) (hw2.1) ?_
  refine k_icmp_ne hx dL_isWord_9 (by omega) (fun h_9 => absurd h_9 (by omega)) (fun h_9 => ?_)
  refine k_aload_n hx dL_isWord_12 0 rfl ?_
  refine k_iload_n hx dL_isWord_13 1 rfl ?_
  refine k_aload_n hx dL_isWord_14 2 rfl ?_
  refine k_iconst hx dL_isWord_15 ?_
  refine k_iald (v := ((rope σ.1 z).length)) hx dL_isWord_16 hA.2 (LAY_hi hA.1) (by omega) (by decide) (hw2.1) ?_
  refine k_vi (rest := []) hx vL_14 dL_isWord_17 (q_crossing I_3 hz (k := (rope σ.1 z).length) (by omega)) n_0 L_0 rfl rfl rfl ⟨rfl, rfl⟩ ⟨by decide, by decide⟩ (fun z_17 M_17 p_17 => ?_)
  obtain ⟨rfl, I_17, o_17⟩ := p_17
  have I_17 : Inv M_17 σ := I_17
  have e17 : at0 (rope σ.1 z) (rope σ.1 z).length = -1 := at0_out (by omega)
  rw [e17]
  refine k_iconst hx dL_isWord_20 ?_
  refine k_icmp_ne hx dL_isWord_21 (by omega) (fun h_21 => absurd h_21 (by omega)) (fun h_21 => ?_)
  refine k_aload_n hx dL_isWord_24 0 rfl ?_
  refine k_iload_n hx dL_isWord_25 1 rfl ?_
  refine k_iconst hx dL_isWord_26 ?_
  refine k_vi (rest := []) hx vL_14 dL_isWord_27 (q_crossing I_17 hz (k := -1) (by omega)) n_0 L_0 rfl rfl rfl ⟨rfl, rfl⟩ ⟨by decide, by decide⟩ (fun z_27 M_27 p_27 => ?_)
  obtain ⟨rfl, I_27, o_27⟩ := p_27
  have I_27 : Inv M_27 σ := I_27
  have e27 : at0 (rope σ.1 z) (-1) = -1 := at0_out (by omega)
  rw [e27]
  refine k_iconst hx dL_isWord_30 ?_
  refine k_icmp_ne hx dL_isWord_31 (by omega) (fun h_31 => absurd h_31 (by omega)) (fun h_31 => ?_)
  refine k_iconst hx dL_isWord_34 ?_
  refine k_goto hx dL_isWord_35 ?_
  refine k_istore_n (ls' := [(0, vR g 0), (1, vI z), (2, vR g i), (3, vI 1)]) hx dL_isWord_39 rfl rfl (by decide) ?_
  refine k_iconst hx dL_isWord_40 ?_
  refine k_istore (ls' := [(0, vR g 0), (1, vI z), (2, vR g i), (3, vI 1), (4, vI 0)]) hx dL_isWord_41 rfl rfl (by decide) ?_
  exact loop ((rope σ.1 z).length + 1) 0 0 M_27 rfl (by omega) (by omega) I_27 (fun a h0 => by rw [o_27 a h0, o_17 a h0]; exact o_3 a h0)
end
section
/-! the law's words: pulled, turned, copied, changed -/
theorem swp_a {p c : Int} (hp : 0 ≤ p ∧ p < 5) (h : pst c = p) : swp p 0 c = [p, p + 1 + (c - pst c), p + 6] := by
  unfold swp
  rw [if_pos (by omega)]
  simp only [if_true]
  rw [show p + 0 = p by omega, show p + 1 - 0 = p + 1 by omega]
  unfold op
  rw [if_pos (by omega)]
theorem swp_b {p c : Int} (h : pst c = p + 1) : swp p 0 c = [p + (c - pst c)] := by
  unfold swp
  rw [if_neg (by omega), if_pos (by omega), show p + 0 = p by omega]
theorem swp_c {p b c : Int} (h1 : ¬ pst c = p) (h2 : ¬ pst c = p + 1) (hb : b = 0 ∨ b = 1) : swp p b c = [c] := by
  unfold swp
  rw [if_neg (by omega), if_neg (by omega)]
theorem swp_d {p c : Int} (h : pst c = p) : swp p 1 c = [p + 1 + (c - pst c)] := by
  unfold swp
  rw [if_neg (by omega), if_pos (by omega)]
theorem swp_e {p c : Int} (hp : 0 ≤ p ∧ p < 5) (h : pst c = p + 1) : swp p 1 c = [p + 7, p + (c - pst c), p + 1] := by
  have e1 : op (p + 1) = p + 7 := by unfold op; omega
  have e2 : op (p + 7) = p + 1 := by unfold op; omega
  unfold swp
  rw [if_pos (by omega), if_neg (by decide), e1, e2, show p + 1 - 1 = p by omega]

theorem c_L_pull {g : GE} {l : Launch} {M : Mem} {i : Nat} (hA : IsA g i) {w : List Int} (hw : Wa M i w) (hl : w.length ≤ 62) : Cv g l μL_pull [vR g i] M (fun M' => Wa M' i (red w) ∧ OA i M M') := by
  refine Cv.of (by decide +kernel) rfl rfl (fun x hx hr => ?_)
  have loop : ∀ (f : Nat), ∀ (w' : List Int) (k : Nat) (y : Int) (M' : Mem), y = k → 1 ≤ k → k ≤ w'.length + 1 → 2 * w'.length + 1 - k < f → w'.length ≤ w.length → Wa M' i w' → act (w'.take k) (w'.drop k) = red w → OA i M M' → K x g 0 0 LAY (NN g) M' 2 [(0, vR g i), (1, vI y)] [] := by
    intro f
    induction f with
    | zero => intro w' k y M' hy hk1 hk2 hf hle hwa hact ho; omega
    | succ f ih =>
      intro w' k y M' hy hk1 hk2 hf hle hwa hact ho
      refine k_iload_n hx dL_pull_2 1 rfl ?_
      refine k_aload_n hx dL_pull_3 0 rfl ?_
      refine k_iconst hx dL_pull_4 ?_
      refine k_iald (v := w'.length) hx dL_pull_5 hA.2 (LAY_hi hA.1) (by omega) (by decide) (hwa.1) ?_
      refine k_icmp_ge hx dL_pull_6 (by omega) (fun h_6 => ?_) (fun h_6 => ?_)
      · refine k_rv hx hr dL_pull_77 ?_
        have e : w' = red w := by rw [← hact, List.take_of_length_le (by omega), List.drop_eq_nil_of_le (by omega)]; rfl
        rw [← e]
        exact ⟨hwa, ho⟩
      · have c1 := at0_z hwa.2.2 (z := y - 1) (by omega) (by omega)
        have c2 := at0_z hwa.2.2 (z := y) (by omega) (by omega)
        have e1 : at0 w' (y - 1) = at0 w' (k - 1 : Nat) := by congr 1; omega
        have e2 : at0 w' y = at0 w' k := by rw [hy]
        refine k_aload_n hx dL_pull_9 0 rfl ?_
        refine k_iload_n hx dL_pull_10 1 rfl ?_
        refine k_iald (v := (at0 w' (y - 1))) hx dL_pull_11 hA.2 (LAY_hi hA.1) (by omega) (by decide) (by rw [hwa.2.1 _ (by omega) (by omega)]) ?_
        refine k_aload_n hx dL_pull_12 0 rfl ?_
        refine k_iload_n hx dL_pull_13 1 rfl ?_
        refine k_iconst hx dL_pull_14 ?_
        refine k_iadd hx dL_pull_15 ?_
        refine k_iald (v := (at0 w' y)) hx dL_pull_16 hA.2 (LAY_hi hA.1) (by omega) (by decide) (by rw [hwa.2.1 _ (by omega) (by omega)]; congr 1; omega) ?_
        refine k_sp (rest := []) (e := (b2i (decide ((at0 w' (y - 1)) = op (at0 w' y))))) hx sL_23 dL_pull_17 (c_L_cancel (a := (at0 w' (y - 1))) (b := (at0 w' y)) (by omega) (by omega)) rfl rfl rfl ⟨rfl, rfl⟩ ⟨by decide, by decide⟩ ?_
        refine k_beq hx dL_pull_20 (fun h_20 => ?_) (fun h_20 => ?_)
        · refine k_iinc (ls' := [(0, vR g i), (1, vI (y + 1))]) hx dL_pull_71 1 rfl rfl rfl (by decide) ?_
          refine k_goto hx dL_pull_74 ?_
          exact ih w' (k + 1) (y + 1) M' (by omega) (by omega) (by omega) (by omega) hle hwa (by rw [← hact]; exact pl_skip (by omega) (by omega) (by rw [← e1, ← e2]; exact h_20)) ho
        · refine k_iload_n hx dL_pull_23 1 rfl ?_
          refine k_istore_n (ls' := [(0, vR g i), (1, vI y), (2, vI y)]) hx dL_pull_24 rfl rfl (by decide) ?_
          have hcc : at0 w' (k - 1 : Nat) = op (at0 w' k) := by rw [← e1, ← e2]; exact h_20
          have inner : ∀ (f2 : Nat), ∀ (j : Int) (M'' : Mem), y ≤ j → j ≤ w'.length - 1 → (w'.length : Int) - j < f2 → M'' i 0 = w'.length → (∀ z : Int, 1 ≤ z → z ≤ w'.length → M'' i z = if z < j then at0 (cutP w' k) (z - 1) else at0 w' (z - 1)) → OA i M' M'' → K x g 0 0 LAY (NN g) M'' 25 [(0, vR g i), (1, vI y), (2, vI j)] [] := by
            intro f2
            induction f2 with
            | zero => intro j M'' hj1 hj2 hf2 hn hz ho2; omega
            | succ f2 ih2 =>
              intro j M'' hj1 hj2 hf2 hn hz ho2
              refine k_iload_n hx dL_pull_25 2 rfl ?_
              refine k_iconst hx dL_pull_26 ?_
              refine k_iadd hx dL_pull_27 ?_
              refine k_aload_n hx dL_pull_28 0 rfl ?_
              refine k_iconst hx dL_pull_29 ?_
              refine k_iald (v := w'.length) hx dL_pull_30 hA.2 (LAY_hi hA.1) (by omega) (by decide) (hn) ?_
              refine k_icmp_gt hx dL_pull_31 (by omega) (fun h_31 => ?_) (fun h_31 => ?_)
              · refine k_aload_n hx dL_pull_48 0 rfl ?_
                refine k_iconst hx dL_pull_49 ?_
                refine k_dup2 hx dL_pull_50 rfl rfl ?_
                refine k_iald (v := w'.length) hx dL_pull_51 hA.2 (LAY_hi hA.1) (by omega) (by decide) (hn) ?_
                refine k_iconst hx dL_pull_52 ?_
                refine k_isub hx dL_pull_53 ?_
                refine k_iastN hx dL_pull_54 hA.2 (LAY_hi hA.1) (by omega) (by decide) (fun M_54 hM_54 => ?_)
                have hcl := cutP_len (w := w') (k := k) (by omega) (by omega)
                have hcw : Wa M_54 i (cutP w' k) := by
                  refine Wa.of (by rw [hM_54, up_s]; omega) (fun q hq => ?_) (cutP_cr hwa.2.2 k)
                  rw [hM_54, up_k (by omega), hz _ (by omega) (by omega), if_pos (by omega)]
                  congr 1; omega
                have hco : OA i M' M_54 := fun a ha => by rw [hM_54, up_i ha]; exact ho2 a ha
                refine k_iload_n hx dL_pull_55 1 rfl ?_
                refine k_iconst hx dL_pull_56 ?_
                refine k_icmp_le hx dL_pull_57 (by omega) (fun h_57 => ?_) (fun h_57 => ?_)
                · refine k_iconst hx dL_pull_66 ?_
                  refine k_istore_n (ls' := [(0, vR g i), (1, vI 1), (2, vI j)]) hx dL_pull_67 rfl rfl (by decide) ?_
                  refine k_goto hx dL_pull_68 ?_
                  refine K.sub [0, 1] rfl ?_
                  exact ih (cutP w' k) 1 _ M_54 (by omega) (by omega) (by omega) (by rw [hcl]; omega) (by rw [hcl]; omega) hcw (by rw [← hact, ← pl_cut (by omega) (by omega) hcc, if_neg (by omega)]) (ho.tr hco)
                · refine k_iload_n hx dL_pull_60 1 rfl ?_
                  refine k_iconst hx dL_pull_61 ?_
                  refine k_isub hx dL_pull_62 ?_
                  refine k_goto hx dL_pull_63 ?_
                  refine k_istore_n (ls' := [(0, vR g i), (1, vI (y - 1)), (2, vI j)]) hx dL_pull_67 rfl rfl (by decide) ?_
                  refine k_goto hx dL_pull_68 ?_
                  refine K.sub [0, 1] rfl ?_
                  exact ih (cutP w' k) (k - 1) _ M_54 (by omega) (by omega) (by rw [hcl]; omega) (by rw [hcl]; omega) (by rw [hcl]; omega) hcw (by rw [← hact, ← pl_cut (by omega) (by omega) hcc, if_pos (by omega)]) (ho.tr hco)
              · refine k_aload_n hx dL_pull_34 0 rfl ?_
                refine k_iload_n hx dL_pull_35 2 rfl ?_
                refine k_aload_n hx dL_pull_36 0 rfl ?_
                refine k_iload_n hx dL_pull_37 2 rfl ?_
                refine k_iconst hx dL_pull_38 ?_
                refine k_iadd hx dL_pull_39 ?_
                refine k_iald (v := (at0 w' (j + 1))) hx dL_pull_40 hA.2 (LAY_hi hA.1) (by omega) (by decide) (by rw [hz _ (by omega) (by omega), if_neg (by omega)]; congr 1; omega) ?_
                refine k_iastN hx dL_pull_41 hA.2 (LAY_hi hA.1) (by omega) (by decide) (fun M_41 hM_41 => ?_)
                refine k_iinc (ls' := [(0, vR g i), (1, vI y), (2, vI (j + 1))]) hx dL_pull_42 2 rfl rfl rfl (by decide) ?_
                refine k_goto hx dL_pull_45 ?_
                refine ih2 (j + 1) M_41 (by omega) (by omega) (by omega) (by rw [hM_41, up_k (by omega)]; exact hn) (fun z z1 z2 => ?_) (fun a ha => by rw [hM_41, up_i ha]; exact ho2 a ha)
                rw [hM_41]
                by_cases e : z = j
                · subst e
                  rw [up_s, if_pos (by omega), show z - 1 = ((z - 1).toNat : Int) by omega, cutP_at (by omega) (by omega) (by omega), if_neg (by omega)]
                  congr 1; omega
                · rw [up_k e, hz z z1 z2]
                  by_cases e2 : z < j
                  · rw [if_pos e2, if_pos (by omega)]
                  · rw [if_neg e2, if_neg (by omega)]
          exact inner (w'.length + 1) y M' (by omega) (by omega) (by omega) hwa.1 (fun z z1 z2 => by
            rw [hwa.2.1 z z1 z2]
            by_cases e : z < y
            · rw [if_pos e, show z - 1 = ((z - 1).toNat : Int) by omega, cutP_at (by omega) (by omega) (by omega), if_pos (by omega)]
            · rw [if_neg e]) OA.rf
  refine k_iconst hx dL_pull_0 ?_
  refine k_istore_n (ls' := [(0, vR g i), (1, vI 1)]) hx dL_pull_1 rfl rfl (by decide) ?_
  refine loop (2 * w.length + 1) w 1 1 M rfl (by omega) (by omega) (by omega) (by omega) hw ?_ OA.rf
  cases w with
  | nil => rfl
  | cons c u => rfl
theorem c_L_turn {g : GE} {l : Launch} {M : Mem} {i : Nat} (hA : IsA g i) {w : List Int} (hw : Wa M i w) (hl : w.length ≤ 62) : Cv g l μL_turn [vR g i] M (fun M' => Wa M' i (trn w) ∧ OA i M M') := by
  refine Cv.of (by decide +kernel) rfl rfl (fun x hx hr => ?_)
  have loop : ∀ (f : Nat), ∀ (s : Nat) (a b : Int) (M' : Mem), a = s + 1 → b = w.length - s → 2 * s ≤ w.length + 1 → w.length + 1 - s < f → M' i 0 = w.length → (∀ z : Int, 1 ≤ z → z ≤ w.length → M' i z = if z ≤ s ∨ w.length - s < z then op (at0 w (w.length - z)) else at0 w (z - 1)) → OA i M M' → K x g 0 0 LAY (NN g) M' 6 [(0, vR g i), (1, vI a), (2, vI b)] [] := by
    intro f
    induction f with
    | zero => intro s a b M' ha hb hs hf hn hz ho; omega
    | succ f ih =>
      intro s a b M' ha hb hs hf hn hz ho
      refine k_iload_n hx dL_turn_6 1 rfl ?_
      refine k_iload_n hx dL_turn_7 2 rfl ?_
      refine k_icmp_gt hx dL_turn_8 (by omega) (fun h_8 => ?_) (fun h_8 => ?_)
      · refine k_rv hx hr dL_turn_40 ?_
        have htl := trn_len w
        refine ⟨Wa.of (by rw [htl]; exact hn) (fun k hk => ?_) (cr_trn hw.2.2), ho⟩
        rw [htl] at hk
        rw [hz _ (by omega) (by omega), if_pos (by omega), trn_at hk]
        congr 2; omega
      · have c1 := at0_z hw.2.2 (z := a - 1) (by omega) (by omega)
        have c2 := at0_z hw.2.2 (z := b - 1) (by omega) (by omega)
        refine k_aload_n hx dL_turn_11 0 rfl ?_
        refine k_iload_n hx dL_turn_12 1 rfl ?_
        refine k_iald (v := (at0 w (a - 1))) hx dL_turn_13 hA.2 (LAY_hi hA.1) (by omega) (by decide) (by rw [hz _ (by omega) (by omega), if_neg (by omega)]) ?_
        refine k_istore_n (ls' := [(0, vR g i), (1, vI a), (2, vI b), (3, vI (at0 w (a - 1)))]) hx dL_turn_14 rfl rfl (by decide) ?_
        refine k_aload_n hx dL_turn_15 0 rfl ?_
        refine k_iload_n hx dL_turn_16 1 rfl ?_
        refine k_aload_n hx dL_turn_17 0 rfl ?_
        refine k_iload_n hx dL_turn_18 2 rfl ?_
        refine k_iald (v := (at0 w (b - 1))) hx dL_turn_19 hA.2 (LAY_hi hA.1) (by omega) (by decide) (by rw [hz _ (by omega) (by omega), if_neg (by omega)]) ?_
        refine k_sp (rest := [vI a, vR g i]) (e := (op (at0 w (b - 1)))) hx sL_27 dL_turn_20 (c_L_otherSide (a := (at0 w (b - 1))) (by omega)) rfl rfl rfl ⟨rfl, rfl⟩ ⟨by decide, by decide⟩ ?_
        refine k_iastN hx dL_turn_23 hA.2 (LAY_hi hA.1) (by omega) (by decide) (fun M_23 hM_23 => ?_)
        refine k_aload_n hx dL_turn_24 0 rfl ?_
        refine k_iload_n hx dL_turn_25 2 rfl ?_
        refine k_iload_n hx dL_turn_26 3 rfl ?_
        refine k_sp (rest := [vI b, vR g i]) (e := (op (at0 w (a - 1)))) hx sL_27 dL_turn_27 (c_L_otherSide (a := (at0 w (a - 1))) (by omega)) rfl rfl rfl ⟨rfl, rfl⟩ ⟨by decide, by decide⟩ ?_
        refine k_iastN hx dL_turn_30 hA.2 (LAY_hi hA.1) (by omega) (by decide) (fun M_30 hM_30 => ?_)
        refine k_iinc (ls' := [(0, vR g i), (1, vI (a + 1)), (2, vI b), (3, vI (at0 w (a - 1)))]) hx dL_turn_31 1 rfl rfl rfl (by decide) ?_
        refine k_iinc (ls' := [(0, vR g i), (1, vI (a + 1)), (2, vI (b + (-1))), (3, vI (at0 w (a - 1)))]) hx dL_turn_34 2 rfl rfl rfl (by decide) ?_
        refine k_goto hx dL_turn_37 ?_
        refine K.sub [0, 1, 2] rfl ?_
        refine ih (s + 1) (a + 1) (b + (-1)) M_30 (by omega) (by omega) (by omega) (by omega) (by rw [hM_30, up_k (by omega), hM_23, up_k (by omega)]; exact hn) (fun z z1 z2 => ?_) (fun q hq => by rw [hM_30, up_i hq, hM_23, up_i hq]; exact ho q hq)
        rw [hM_30]
        by_cases e1 : z = b
        · subst e1
          rw [up_s, if_pos (by omega)]; congr 2; omega
        · rw [up_k e1, hM_23]
          by_cases e2 : z = a
          · subst e2
            rw [up_s, if_pos (by omega)]; congr 2; omega
          · rw [up_k e2, hz z z1 z2]
            by_cases e3 : z ≤ s ∨ w.length - s < z
            · rw [if_pos e3, if_pos (by omega)]
            · rw [if_neg e3, if_neg (by omega)]
  refine k_iconst hx dL_turn_0 ?_
  refine k_istore_n (ls' := [(0, vR g i), (1, vI 1)]) hx dL_turn_1 rfl rfl (by decide) ?_
  refine k_aload_n hx dL_turn_2 0 rfl ?_
  refine k_iconst hx dL_turn_3 ?_
  refine k_iald (v := w.length) hx dL_turn_4 hA.2 (LAY_hi hA.1) (by omega) (by decide) (hw.1) ?_
  refine k_istore_n (ls' := [(0, vR g i), (1, vI 1), (2, vI w.length)]) hx dL_turn_5 rfl rfl (by decide) ?_
  exact loop (w.length + 2) 0 1 w.length M (by omega) (by omega) (by omega) (by omega) hw.1 (fun z z1 z2 => by rw [hw.2.1 z z1 z2, if_neg (by omega)]) OA.rf
theorem c_L_copy {g : GE} {l : Launch} {M : Mem} {i : Nat} (hA : IsA g i) {w : List Int} (hw : Wa M i w) (hl : w.length ≤ 62) {j : Nat} (hB : IsA g j) (hij : i ≠ j) : Cv g l μL_copy [vR g i, vR g j] M (fun M' => Wa M' j w ∧ OA j M M') := by
  refine Cv.of (by decide +kernel) rfl rfl (fun x hx hr => ?_)
  have loop : ∀ (f : Nat), ∀ (k : Nat) (y : Int) (M' : Mem), y = k → k ≤ w.length + 1 → w.length + 1 - k < f → (∀ z : Int, 0 ≤ z → z < k → M' j z = M i z) → OA j M M' → K x g 0 0 LAY (NN g) M' 2 [(0, vR g i), (1, vR g j), (2, vI y)] [] := by
    intro f
    induction f with
    | zero => intro k y M' hy hk hf hz ho; omega
    | succ f ih =>
      intro k y M' hy hk hf hz ho
      have hwa := hw.same (ho i hij)
      refine k_iload_n hx dL_copy_2 2 rfl ?_
      refine k_aload_n hx dL_copy_3 0 rfl ?_
      refine k_iconst hx dL_copy_4 ?_
      refine k_iald (v := w.length) hx dL_copy_5 hA.2 (LAY_hi hA.1) (by omega) (by decide) (hwa.1) ?_
      refine k_icmp_gt hx dL_copy_6 (by omega) (fun h_6 => ?_) (fun h_6 => ?_)
      · refine k_rv hx hr dL_copy_21 ?_
        exact ⟨⟨by rw [hz 0 (by omega) (by omega)]; exact hw.1, fun z z1 z2 => by rw [hz z (by omega) (by omega)]; exact hw.2.1 z z1 z2, hw.2.2⟩, ho⟩
      · refine k_aload_n hx dL_copy_9 1 rfl ?_
        refine k_iload_n hx dL_copy_10 2 rfl ?_
        refine k_aload_n hx dL_copy_11 0 rfl ?_
        refine k_iload_n hx dL_copy_12 2 rfl ?_
        refine k_iald (v := (M i y)) hx dL_copy_13 hA.2 (LAY_hi hA.1) (by omega) (by decide) (by rw [ho i hij]) ?_
        refine k_iastN hx dL_copy_14 hB.2 (LAY_hi hB.1) (by omega) (by decide) (fun M_14 hM_14 => ?_)
        refine k_iinc (ls' := [(0, vR g i), (1, vR g j), (2, vI (y + 1))]) hx dL_copy_15 2 rfl rfl rfl (by decide) ?_
        refine k_goto hx dL_copy_18 ?_
        refine ih (k + 1) (y + 1) M_14 (by omega) (by omega) (by omega) (fun z z1 z2 => ?_) (fun q hq => by rw [hM_14, up_i hq]; exact ho q hq)
        rw [hM_14]
        by_cases e : z = y
        · subst e; rw [up_s]
        · rw [up_k e]; exact hz z z1 (by omega)
  refine k_iconst hx dL_copy_0 ?_
  refine k_istore_n (ls' := [(0, vR g i), (1, vR g j), (2, vI 0)]) hx dL_copy_1 rfl rfl (by decide) ?_
  exact loop (w.length + 2) 0 0 M rfl (by omega) (by omega) (fun z z1 z2 => by omega) OA.rf
theorem c_L_change0 {g : GE} {l : Launch} {M : Mem} {i : Nat} (hA : IsA g i) {v : List Int} (hv : Wa M i v) (hl : v.length ≤ 20) {j : Nat} (hB : IsA g j) (hij : i ≠ j) {p : Int} (hp : 0 ≤ p ∧ p < 5) : Cv g l μL_change [vR g i, vI p, vI 0, vR g j] M (fun M' => Wa M' j (swF p 0 v) ∧ OA j M M') := by
  refine Cv.of (by decide +kernel) rfl rfl (fun x hx hr => ?_)
  have loop : ∀ (f : Nat), ∀ (k : Nat) (y : Int) (M' : Mem), y = k + 1 → k ≤ v.length → v.length - k < f → Wa M' j (swF p 0 (v.take k)) → OA j M M' → K x g 0 0 LAY (NN g) M' 7 [(0, vR g i), (1, vI p), (2, vI 0), (3, vR g j), (4, vI y)] [] := by
    intro f
    induction f with
    | zero => intro k y M' hy hk hf hwa ho; omega
    | succ f ih =>
      intro k y M' hy hk hf hwa ho
      have hv' := hv.same (ho i hij)
      refine k_iload hx dL_change_7 4 rfl ?_
      refine k_aload_n hx dL_change_9 0 rfl ?_
      refine k_iconst hx dL_change_10 ?_
      refine k_iald (v := v.length) hx dL_change_11 hA.2 (LAY_hi hA.1) (by omega) (by decide) (hv'.1) ?_
      refine k_icmp_gt hx dL_change_12 (by omega) (fun h_12 => ?_) (fun h_12 => ?_)
      · refine k_rv hx hr dL_change_173 ?_
        exact ⟨by rw [List.take_of_length_le (by omega)] at hwa; exact hwa, ho⟩
      · obtain ⟨c, hc⟩ : ∃ c, c = at0 v (y - 1) := ⟨_, rfl⟩
        have hcr : 0 ≤ c ∧ c < 12 := by rw [hc]; exact at0_z hv.2.2 (by omega) (by omega)
        have hck : at0 v k = c := by rw [hc]; congr 1; omega
        have h6 := mod6 hcr
        have hsd : c - pst c = 0 ∨ c - pst c = 6 := by unfold pst; omega
        have hpr := pst_rg hcr
        have hsl : (swF p 0 (v.take k)).length ≤ 57 := by have := swF_len p 0 (v.take k); rw [List.length_take] at this; omega
        refine k_aload_n hx dL_change_15 0 rfl ?_
        refine k_iload hx dL_change_16 4 rfl ?_
        refine k_iald (v := c) hx dL_change_18 hA.2 (LAY_hi hA.1) (by omega) (by decide) (by rw [hv'.2.1 _ (by omega) (by omega), hc]) ?_
        refine k_istore (ls' := [(0, vR g i), (1, vI p), (2, vI 0), (3, vR g j), (4, vI y), (5, vI c)]) hx dL_change_19 rfl rfl (by decide) ?_
        refine k_iload hx dL_change_21 5 rfl ?_
        refine k_bipush hx dL_change_23 (by decide +kernel) ?_
        refine k_irem hx dL_change_25 (by omega) ?_
        rw [h6]
        refine k_istore (ls' := [(0, vR g i), (1, vI p), (2, vI 0), (3, vR g j), (4, vI y), (5, vI c), (6, vI (pst c))]) hx dL_change_26 rfl rfl (by decide) ?_
        refine k_iload hx dL_change_28 5 rfl ?_
        refine k_iload hx dL_change_30 6 rfl ?_
        refine k_isub hx dL_change_32 ?_
        refine k_istore (ls' := [(0, vR g i), (1, vI p), (2, vI 0), (3, vR g j), (4, vI y), (5, vI c), (6, vI (pst c)), (7, vI (c - (pst c)))]) hx dL_change_33 rfl rfl (by decide) ?_
        refine k_iload_n hx dL_change_35 2 rfl ?_
        refine k_ifne hx dL_change_36 (by omega) (fun h_36 => absurd h_36 (by omega)) (fun h_36 => ?_)
        refine k_iload hx dL_change_39 6 rfl ?_
        refine k_iload_n hx dL_change_41 1 rfl ?_
        refine k_icmp_ne hx dL_change_42 (by omega) (fun h_42 => ?_) (fun h_42 => ?_)
        · refine k_iload_n hx dL_change_71 2 rfl ?_
          refine k_ifne hx dL_change_72 (by omega) (fun h_72 => absurd h_72 (by omega)) (fun h_72 => ?_)
          refine k_iload hx dL_change_75 6 rfl ?_
          refine k_iload_n hx dL_change_77 1 rfl ?_
          refine k_iconst hx dL_change_78 ?_
          refine k_iadd hx dL_change_79 ?_
          refine k_icmp_ne hx dL_change_80 (by omega) (fun h_80 => ?_) (fun h_80 => ?_)
          · refine k_iload_n hx dL_change_94 2 rfl ?_
            refine k_iconst hx dL_change_95 ?_
            refine k_icmp_ne hx dL_change_96 (by omega) (fun h_96 => ?_) (fun h_96 => absurd h_96 (by omega))
            refine k_iload_n hx dL_change_118 2 rfl ?_
            refine k_iconst hx dL_change_119 ?_
            refine k_icmp_ne hx dL_change_120 (by omega) (fun h_120 => ?_) (fun h_120 => absurd h_120 (by omega))
            refine k_aload_n hx dL_change_157 3 rfl ?_
            refine k_iload hx dL_change_158 5 rfl ?_
            refine k_sv (rest := []) hx sL_17 dL_change_160 (c_L_add hB hwa (by (try simp only [List.length_append, List.length_singleton]); omega) (c := c) (by omega)) rfl rfl rfl ⟨rfl, rfl⟩ ⟨by decide, by decide⟩ (fun M_160 p_160 => ?_)
            obtain ⟨a_160, b_160⟩ := p_160
            refine k_aload_n hx dL_change_163 3 rfl ?_
            refine k_sv (rest := []) hx sL_41 dL_change_164 (c_L_pull hB a_160 (by (try simp only [List.length_append, List.length_singleton]); omega)) rfl rfl rfl ⟨rfl, rfl⟩ ⟨by decide, by decide⟩ (fun M_164 p_164 => ?_)
            obtain ⟨a_164, b_164⟩ := p_164
            have hw2 : Wa M_164 j (swF p 0 (v.take (k + 1))) := by
              rw [swF_take (by omega), hck, swp_c (by omega) (by omega) (by omega)]
              have e := a_164
              try simp only [List.append_assoc, List.cons_append, List.nil_append] at e
              exact e
            refine k_iinc (ls' := [(0, vR g i), (1, vI p), (2, vI 0), (3, vR g j), (4, vI (y + 1)), (5, vI c), (6, vI (pst c)), (7, vI (c - (pst c)))]) hx dL_change_167 4 rfl rfl rfl (by decide) ?_
            refine k_goto hx dL_change_170 ?_
            refine K.sub [0, 1, 2, 3, 4] rfl ?_
            exact ih (k + 1) (y + 1) M_164 (by omega) (by omega) (by omega) hw2 (((ho).tr b_160).tr b_164)
          · refine k_aload_n hx dL_change_83 3 rfl ?_
            refine k_iload_n hx dL_change_84 1 rfl ?_
            refine k_iload hx dL_change_85 7 rfl ?_
            refine k_iadd hx dL_change_87 ?_
            refine k_sv (rest := []) hx sL_17 dL_change_88 (c_L_add hB hwa (by (try simp only [List.length_append, List.length_singleton]); omega) (c := p + (c - pst c)) (by omega)) rfl rfl rfl ⟨rfl, rfl⟩ ⟨by decide, by decide⟩ (fun M_88 p_88 => ?_)
            obtain ⟨a_88, b_88⟩ := p_88
            refine k_goto hx dL_change_91 ?_
            refine k_aload_n hx dL_change_163 3 rfl ?_
            refine k_sv (rest := []) hx sL_41 dL_change_164 (c_L_pull hB a_88 (by (try simp only [List.length_append, List.length_singleton]); omega)) rfl rfl rfl ⟨rfl, rfl⟩ ⟨by decide, by decide⟩ (fun M_164 p_164 => ?_)
            obtain ⟨a_164, b_164⟩ := p_164
            have hw2 : Wa M_164 j (swF p 0 (v.take (k + 1))) := by
              rw [swF_take (by omega), hck, swp_b (by omega)]
              have e := a_164
              try simp only [List.append_assoc, List.cons_append, List.nil_append] at e
              exact e
            refine k_iinc (ls' := [(0, vR g i), (1, vI p), (2, vI 0), (3, vR g j), (4, vI (y + 1)), (5, vI c), (6, vI (pst c)), (7, vI (c - (pst c)))]) hx dL_change_167 4 rfl rfl rfl (by decide) ?_
            refine k_goto hx dL_change_170 ?_
            refine K.sub [0, 1, 2, 3, 4] rfl ?_
            exact ih (k + 1) (y + 1) M_164 (by omega) (by omega) (by omega) hw2 (((ho).tr b_88).tr b_164)
        · refine k_aload_n hx dL_change_45 3 rfl ?_
          refine k_iload_n hx dL_change_46 1 rfl ?_
          refine k_sv (rest := []) hx sL_17 dL_change_47 (c_L_add hB hwa (by (try simp only [List.length_append, List.length_singleton]); omega) (c := p) (by omega)) rfl rfl rfl ⟨rfl, rfl⟩ ⟨by decide, by decide⟩ (fun M_47 p_47 => ?_)
          obtain ⟨a_47, b_47⟩ := p_47
          refine k_aload_n hx dL_change_50 3 rfl ?_
          refine k_iload_n hx dL_change_51 1 rfl ?_
          refine k_iconst hx dL_change_52 ?_
          refine k_iadd hx dL_change_53 ?_
          refine k_iload hx dL_change_54 7 rfl ?_
          refine k_iadd hx dL_change_56 ?_
          refine k_sv (rest := []) hx sL_17 dL_change_57 (c_L_add hB a_47 (by (try simp only [List.length_append, List.length_singleton]); omega) (c := p + 1 + (c - pst c)) (by omega)) rfl rfl rfl ⟨rfl, rfl⟩ ⟨by decide, by decide⟩ (fun M_57 p_57 => ?_)
          obtain ⟨a_57, b_57⟩ := p_57
          refine k_aload_n hx dL_change_60 3 rfl ?_
          refine k_iload_n hx dL_change_61 1 rfl ?_
          refine k_bipush hx dL_change_62 (by decide +kernel) ?_
          refine k_iadd hx dL_change_64 ?_
          refine k_sv (rest := []) hx sL_17 dL_change_65 (c_L_add hB a_57 (by (try simp only [List.length_append, List.length_singleton]); omega) (c := p + 6) (by omega)) rfl rfl rfl ⟨rfl, rfl⟩ ⟨by decide, by decide⟩ (fun M_65 p_65 => ?_)
          obtain ⟨a_65, b_65⟩ := p_65
          refine k_goto hx dL_change_68 ?_
          refine k_aload_n hx dL_change_163 3 rfl ?_
          refine k_sv (rest := []) hx sL_41 dL_change_164 (c_L_pull hB a_65 (by (try simp only [List.length_append, List.length_singleton]); omega)) rfl rfl rfl ⟨rfl, rfl⟩ ⟨by decide, by decide⟩ (fun M_164 p_164 => ?_)
          obtain ⟨a_164, b_164⟩ := p_164
          have hw2 : Wa M_164 j (swF p 0 (v.take (k + 1))) := by
            rw [swF_take (by omega), hck, swp_a hp (by omega)]
            have e := a_164
            try simp only [List.append_assoc, List.cons_append, List.nil_append] at e
            exact e
          refine k_iinc (ls' := [(0, vR g i), (1, vI p), (2, vI 0), (3, vR g j), (4, vI (y + 1)), (5, vI c), (6, vI (pst c)), (7, vI (c - (pst c)))]) hx dL_change_167 4 rfl rfl rfl (by decide) ?_
          refine k_goto hx dL_change_170 ?_
          refine K.sub [0, 1, 2, 3, 4] rfl ?_
          exact ih (k + 1) (y + 1) M_164 (by omega) (by omega) (by omega) hw2 (((((ho).tr b_47).tr b_57).tr b_65).tr b_164)
  refine k_aload_n hx dL_change_0 3 rfl ?_
  refine k_iconst hx dL_change_1 ?_
  refine k_iconst hx dL_change_2 ?_
  refine k_iastN hx dL_change_3 hB.2 (LAY_hi hB.1) (by omega) (by decide) (fun M_3 hM_3 => ?_)
  refine k_iconst hx dL_change_4 ?_
  refine k_istore (ls' := [(0, vR g i), (1, vI p), (2, vI 0), (3, vR g j), (4, vI 1)]) hx dL_change_5 rfl rfl (by decide) ?_
  exact loop (v.length + 1) 0 1 M_3 (by omega) (by omega) (by omega) (by rw [hM_3, List.take_zero]; exact Wa.nil) (fun q hq => by rw [hM_3, up_i hq])
theorem c_L_change1 {g : GE} {l : Launch} {M : Mem} {i : Nat} (hA : IsA g i) {v : List Int} (hv : Wa M i v) (hl : v.length ≤ 20) {j : Nat} (hB : IsA g j) (hij : i ≠ j) {p : Int} (hp : 0 ≤ p ∧ p < 5) : Cv g l μL_change [vR g i, vI p, vI 1, vR g j] M (fun M' => Wa M' j (swF p 1 v) ∧ OA j M M') := by
  refine Cv.of (by decide +kernel) rfl rfl (fun x hx hr => ?_)
  have loop : ∀ (f : Nat), ∀ (k : Nat) (y : Int) (M' : Mem), y = k + 1 → k ≤ v.length → v.length - k < f → Wa M' j (swF p 1 (v.take k)) → OA j M M' → K x g 0 0 LAY (NN g) M' 7 [(0, vR g i), (1, vI p), (2, vI 1), (3, vR g j), (4, vI y)] [] := by
    intro f
    induction f with
    | zero => intro k y M' hy hk hf hwa ho; omega
    | succ f ih =>
      intro k y M' hy hk hf hwa ho
      have hv' := hv.same (ho i hij)
      refine k_iload hx dL_change_7 4 rfl ?_
      refine k_aload_n hx dL_change_9 0 rfl ?_
      refine k_iconst hx dL_change_10 ?_
      refine k_iald (v := v.length) hx dL_change_11 hA.2 (LAY_hi hA.1) (by omega) (by decide) (hv'.1) ?_
      refine k_icmp_gt hx dL_change_12 (by omega) (fun h_12 => ?_) (fun h_12 => ?_)
      · refine k_rv hx hr dL_change_173 ?_
        exact ⟨by rw [List.take_of_length_le (by omega)] at hwa; exact hwa, ho⟩
      · obtain ⟨c, hc⟩ : ∃ c, c = at0 v (y - 1) := ⟨_, rfl⟩
        have hcr : 0 ≤ c ∧ c < 12 := by rw [hc]; exact at0_z hv.2.2 (by omega) (by omega)
        have hck : at0 v k = c := by rw [hc]; congr 1; omega
        have h6 := mod6 hcr
        have hsd : c - pst c = 0 ∨ c - pst c = 6 := by unfold pst; omega
        have hpr := pst_rg hcr
        have hsl : (swF p 1 (v.take k)).length ≤ 57 := by have := swF_len p 1 (v.take k); rw [List.length_take] at this; omega
        refine k_aload_n hx dL_change_15 0 rfl ?_
        refine k_iload hx dL_change_16 4 rfl ?_
        refine k_iald (v := c) hx dL_change_18 hA.2 (LAY_hi hA.1) (by omega) (by decide) (by rw [hv'.2.1 _ (by omega) (by omega), hc]) ?_
        refine k_istore (ls' := [(0, vR g i), (1, vI p), (2, vI 1), (3, vR g j), (4, vI y), (5, vI c)]) hx dL_change_19 rfl rfl (by decide) ?_
        refine k_iload hx dL_change_21 5 rfl ?_
        refine k_bipush hx dL_change_23 (by decide +kernel) ?_
        refine k_irem hx dL_change_25 (by omega) ?_
        rw [h6]
        refine k_istore (ls' := [(0, vR g i), (1, vI p), (2, vI 1), (3, vR g j), (4, vI y), (5, vI c), (6, vI (pst c))]) hx dL_change_26 rfl rfl (by decide) ?_
        refine k_iload hx dL_change_28 5 rfl ?_
        refine k_iload hx dL_change_30 6 rfl ?_
        refine k_isub hx dL_change_32 ?_
        refine k_istore (ls' := [(0, vR g i), (1, vI p), (2, vI 1), (3, vR g j), (4, vI y), (5, vI c), (6, vI (pst c)), (7, vI (c - (pst c)))]) hx dL_change_33 rfl rfl (by decide) ?_
        refine k_iload_n hx dL_change_35 2 rfl ?_
        refine k_ifne hx dL_change_36 (by omega) (fun h_36 => ?_) (fun h_36 => absurd h_36 (by omega))
        refine k_iload_n hx dL_change_71 2 rfl ?_
        refine k_ifne hx dL_change_72 (by omega) (fun h_72 => ?_) (fun h_72 => absurd h_72 (by omega))
        refine k_iload_n hx dL_change_94 2 rfl ?_
        refine k_iconst hx dL_change_95 ?_
        refine k_icmp_ne hx dL_change_96 (by omega) (fun h_96 => absurd h_96 (by omega)) (fun h_96 => ?_)
        refine k_iload hx dL_change_99 6 rfl ?_
        refine k_iload_n hx dL_change_101 1 rfl ?_
        refine k_icmp_ne hx dL_change_102 (by omega) (fun h_102 => ?_) (fun h_102 => ?_)
        · refine k_iload_n hx dL_change_118 2 rfl ?_
          refine k_iconst hx dL_change_119 ?_
          refine k_icmp_ne hx dL_change_120 (by omega) (fun h_120 => absurd h_120 (by omega)) (fun h_120 => ?_)
          refine k_iload hx dL_change_123 6 rfl ?_
          refine k_iload_n hx dL_change_125 1 rfl ?_
          refine k_iconst hx dL_change_126 ?_
          refine k_iadd hx dL_change_127 ?_
          refine k_icmp_ne hx dL_change_128 (by omega) (fun h_128 => ?_) (fun h_128 => ?_)
          · refine k_aload_n hx dL_change_157 3 rfl ?_
            refine k_iload hx dL_change_158 5 rfl ?_
            refine k_sv (rest := []) hx sL_17 dL_change_160 (c_L_add hB hwa (by (try simp only [List.length_append, List.length_singleton]); omega) (c := c) (by omega)) rfl rfl rfl ⟨rfl, rfl⟩ ⟨by decide, by decide⟩ (fun M_160 p_160 => ?_)
            obtain ⟨a_160, b_160⟩ := p_160
            refine k_aload_n hx dL_change_163 3 rfl ?_
            refine k_sv (rest := []) hx sL_41 dL_change_164 (c_L_pull hB a_160 (by (try simp only [List.length_append, List.length_singleton]); omega)) rfl rfl rfl ⟨rfl, rfl⟩ ⟨by decide, by decide⟩ (fun M_164 p_164 => ?_)
            obtain ⟨a_164, b_164⟩ := p_164
            have hw2 : Wa M_164 j (swF p 1 (v.take (k + 1))) := by
              rw [swF_take (by omega), hck, swp_c (by omega) (by omega) (by omega)]
              have e := a_164
              try simp only [List.append_assoc, List.cons_append, List.nil_append] at e
              exact e
            refine k_iinc (ls' := [(0, vR g i), (1, vI p), (2, vI 1), (3, vR g j), (4, vI (y + 1)), (5, vI c), (6, vI (pst c)), (7, vI (c - (pst c)))]) hx dL_change_167 4 rfl rfl rfl (by decide) ?_
            refine k_goto hx dL_change_170 ?_
            refine K.sub [0, 1, 2, 3, 4] rfl ?_
            exact ih (k + 1) (y + 1) M_164 (by omega) (by omega) (by omega) hw2 (((ho).tr b_160).tr b_164)
          · refine k_aload_n hx dL_change_131 3 rfl ?_
            refine k_iload_n hx dL_change_132 1 rfl ?_
            refine k_bipush hx dL_change_133 (by decide +kernel) ?_
            refine k_iadd hx dL_change_135 ?_
            refine k_sv (rest := []) hx sL_17 dL_change_136 (c_L_add hB hwa (by (try simp only [List.length_append, List.length_singleton]); omega) (c := p + 7) (by omega)) rfl rfl rfl ⟨rfl, rfl⟩ ⟨by decide, by decide⟩ (fun M_136 p_136 => ?_)
            obtain ⟨a_136, b_136⟩ := p_136
            refine k_aload_n hx dL_change_139 3 rfl ?_
            refine k_iload_n hx dL_change_140 1 rfl ?_
            refine k_iload hx dL_change_141 7 rfl ?_
            refine k_iadd hx dL_change_143 ?_
            refine k_sv (rest := []) hx sL_17 dL_change_144 (c_L_add hB a_136 (by (try simp only [List.length_append, List.length_singleton]); omega) (c := p + (c - pst c)) (by omega)) rfl rfl rfl ⟨rfl, rfl⟩ ⟨by decide, by decide⟩ (fun M_144 p_144 => ?_)
            obtain ⟨a_144, b_144⟩ := p_144
            refine k_aload_n hx dL_change_147 3 rfl ?_
            refine k_iload_n hx dL_change_148 1 rfl ?_
            refine k_iconst hx dL_change_149 ?_
            refine k_iadd hx dL_change_150 ?_
            refine k_sv (rest := []) hx sL_17 dL_change_151 (c_L_add hB a_144 (by (try simp only [List.length_append, List.length_singleton]); omega) (c := p + 1) (by omega)) rfl rfl rfl ⟨rfl, rfl⟩ ⟨by decide, by decide⟩ (fun M_151 p_151 => ?_)
            obtain ⟨a_151, b_151⟩ := p_151
            refine k_goto hx dL_change_154 ?_
            refine k_aload_n hx dL_change_163 3 rfl ?_
            refine k_sv (rest := []) hx sL_41 dL_change_164 (c_L_pull hB a_151 (by (try simp only [List.length_append, List.length_singleton]); omega)) rfl rfl rfl ⟨rfl, rfl⟩ ⟨by decide, by decide⟩ (fun M_164 p_164 => ?_)
            obtain ⟨a_164, b_164⟩ := p_164
            have hw2 : Wa M_164 j (swF p 1 (v.take (k + 1))) := by
              rw [swF_take (by omega), hck, swp_e hp (by omega)]
              have e := a_164
              try simp only [List.append_assoc, List.cons_append, List.nil_append] at e
              exact e
            refine k_iinc (ls' := [(0, vR g i), (1, vI p), (2, vI 1), (3, vR g j), (4, vI (y + 1)), (5, vI c), (6, vI (pst c)), (7, vI (c - (pst c)))]) hx dL_change_167 4 rfl rfl rfl (by decide) ?_
            refine k_goto hx dL_change_170 ?_
            refine K.sub [0, 1, 2, 3, 4] rfl ?_
            exact ih (k + 1) (y + 1) M_164 (by omega) (by omega) (by omega) hw2 (((((ho).tr b_136).tr b_144).tr b_151).tr b_164)
        · refine k_aload_n hx dL_change_105 3 rfl ?_
          refine k_iload_n hx dL_change_106 1 rfl ?_
          refine k_iconst hx dL_change_107 ?_
          refine k_iadd hx dL_change_108 ?_
          refine k_iload hx dL_change_109 7 rfl ?_
          refine k_iadd hx dL_change_111 ?_
          refine k_sv (rest := []) hx sL_17 dL_change_112 (c_L_add hB hwa (by (try simp only [List.length_append, List.length_singleton]); omega) (c := p + 1 + (c - pst c)) (by omega)) rfl rfl rfl ⟨rfl, rfl⟩ ⟨by decide, by decide⟩ (fun M_112 p_112 => ?_)
          obtain ⟨a_112, b_112⟩ := p_112
          refine k_goto hx dL_change_115 ?_
          refine k_aload_n hx dL_change_163 3 rfl ?_
          refine k_sv (rest := []) hx sL_41 dL_change_164 (c_L_pull hB a_112 (by (try simp only [List.length_append, List.length_singleton]); omega)) rfl rfl rfl ⟨rfl, rfl⟩ ⟨by decide, by decide⟩ (fun M_164 p_164 => ?_)
          obtain ⟨a_164, b_164⟩ := p_164
          have hw2 : Wa M_164 j (swF p 1 (v.take (k + 1))) := by
            rw [swF_take (by omega), hck, swp_d (by omega)]
            have e := a_164
            try simp only [List.append_assoc, List.cons_append, List.nil_append] at e
            exact e
          refine k_iinc (ls' := [(0, vR g i), (1, vI p), (2, vI 1), (3, vR g j), (4, vI (y + 1)), (5, vI c), (6, vI (pst c)), (7, vI (c - (pst c)))]) hx dL_change_167 4 rfl rfl rfl (by decide) ?_
          refine k_goto hx dL_change_170 ?_
          refine K.sub [0, 1, 2, 3, 4] rfl ?_
          exact ih (k + 1) (y + 1) M_164 (by omega) (by omega) (by omega) hw2 (((ho).tr b_112).tr b_164)
  refine k_aload_n hx dL_change_0 3 rfl ?_
  refine k_iconst hx dL_change_1 ?_
  refine k_iconst hx dL_change_2 ?_
  refine k_iastN hx dL_change_3 hB.2 (LAY_hi hB.1) (by omega) (by decide) (fun M_3 hM_3 => ?_)
  refine k_iconst hx dL_change_4 ?_
  refine k_istore (ls' := [(0, vR g i), (1, vI p), (2, vI 1), (3, vR g j), (4, vI 1)]) hx dL_change_5 rfl rfl (by decide) ?_
  exact loop (v.length + 1) 0 1 M_3 (by omega) (by omega) (by omega) (by rw [hM_3, List.take_zero]; exact Wa.nil) (fun q hq => by rw [hM_3, up_i hq])
theorem c_L_change {g : GE} {l : Launch} {M : Mem} {i : Nat} (hA : IsA g i) {v : List Int} (hv : Wa M i v) (hl : v.length ≤ 20) {j : Nat} (hB : IsA g j) (hij : i ≠ j) {p b : Int} (hp : 0 ≤ p ∧ p < 5) (hb : 0 ≤ b ∧ b < 2) : Cv g l μL_change [vR g i, vI p, vI b, vR g j] M (fun M' => Wa M' j (swF p b v) ∧ OA j M M') := by
  rcases (show b = 0 ∨ b = 1 by omega) with rfl | rfl
  · exact c_L_change0 hA hv hl hB hij hp
  · exact c_L_change1 hA hv hl hB hij hp
end
section
/-! the law: arrays that are made, the script, calls of methods that make arrays -/
def Sm (g g1 : GE) : Prop := g1.1 = g.1 ∧ g1.2.1 = g.2.1 ∧ g1.2.2.1 = g.2.2.1
abbrev rf (a i : Nat) : Value := .ref (a + i)
theorem Sm.rf {g : GE} : Sm g g := ⟨rfl, rfl, rfl⟩
theorem Cx.sm {x : Fx} {g g1 : GE} {cc : ByteArray} {own : String} {nL : Nat} {R : Room} (h : Sm g g1) (hx : Cx x g cc own nL R) : Cx x g1 cc own nL R := by
  obtain ⟨a, b, c, d⟩ := g
  obtain ⟨a', b', c', d'⟩ := g1
  obtain ⟨h1, h2, h3⟩ := h
  dsimp only at h1 h2 h3
  subst h1; subst h2; subst h3
  exact hx
theorem Rx.sm {x : Fx} {g g1 : GE} {mc ms : Nat} {ret : Option FieldType} {post : Option Value → Lay → Nat → Mem → Prop} (hr : Rx x g mc ms ret post) (h : Sm g g1) : Rx x g1 mc ms ret post := by
  obtain ⟨a, b, c, d⟩ := g
  obtain ⟨a', b', c', d'⟩ := g1
  obtain ⟨h1, h2, h3⟩ := h
  dsimp only at h1 h2 h3
  subst h1; subst h2; subst h3
  exact hr
theorem K.wid {x : Fx} {g : GE} {cs sl cs' sl' : Nat} {L : Lay} {n : Nat} {M : Mem} {pc : Nat} {ls : List (Nat × Value)} {st : List Value} (h : cs ≤ cs' ∧ sl ≤ sl') (k : K x g cs' sl' L n M pc ls st) : K x g cs sl L n M pc ls st := fun H locs la hR hS hl => W.widen h.1 h.2 (k H locs la hR hS hl)
/-- the world has grown to n -/
def gk (g : GE) (k : Nat) : GE := (g.1, g.2.1, g.2.2.1, k)
def PA (post : Int → Mem → Prop) : Option Value → Lay → Nat → Mem → Prop := fun r L n M' => L = LAY ∧ 120 ≤ n ∧ ∃ z, r = some (vI z) ∧ post z M'
def Ca (g : GE) (l : Launch) (μ : Mu) (mc ms : Nat) (av : List Value) (M : Mem) (post : Int → Mem → Prop) : Prop := Ct g l μ mc ms av LAY (NN g) M (PA post)
theorem Ca.of {g : GE} {l : Launch} {μ : Mu} {mc ms : Nat} {av : List Value} {M : Mem} {post : Int → Mem → Prop} (hy : plainName μ.1.cls = true) (hav : Nat.ble (lg_sl av).length μ.2.2.1 = true) {ls : List (Nat × Value)} (hls : lv_args 0 av = ls)
    (body : ∀ x : Fx, Cx x g μ.2.1 μ.1.cls μ.2.2.1 (mRm μ mc ms) → Rx x g mc ms μ.2.2.2.1 (PA post) → K x g 0 0 LAY (NN g) M 0 ls []) : Ca g l μ mc ms av M post := Ct.of hy hav (fun x _ hx _ hr => hls ▸ body x hx hr)
/-- the script's numbers -/
def scz (xs : Nat → Int32) (z : Int) : Int := (xs z.toNat).toInt
theorem scz_rg (xs : Nat → Int32) (z : Int) : -2147483648 ≤ scz xs z ∧ scz xs z < 2147483648 := i32_rg _
def SC (x : Fx) (g : GE) (b Ln : Nat) (xs : Nat → Int32) : Prop := va_X b Ln xs (xS x) (xS x).heap ∧ b < g.1 ∧ Ln ≤ 260
theorem SC.lt {x : Fx} {g : GE} {b Ln : Nat} {xs : Nat → Int32} (h : SC x g b Ln xs) : b < (xS x).heap.size := by
  obtain ⟨⟨scr, h1, -⟩, -⟩ := h
  exact (Array.getElem?_eq_some_iff.mp h1).1
theorem SC.sm {x : Fx} {g g1 : GE} {b Ln : Nat} {xs : Nat → Int32} (h : SC x g b Ln xs) (hs : Sm g g1) : SC x g1 b Ln xs := ⟨h.1, by rw [hs.1]; exact h.2.1, h.2.2⟩
def Pzs (g : GE) (av : List Value) (L : Lay) (n : Nat) (M : Mem) (b Ln : Nat) (xs : Nat → Int32) : Array Value → State → Prop := fun a U => Pz g av L n M a U ∧ va_X b Ln xs U U.heap ∧ b < g.1 ∧ Ln ≤ 260
/-- a contract of a method that reads the script -/
def Cts (g : GE) (l : Launch) (μ : Mu) (mc ms : Nat) (av : List Value) (L : Lay) (n : Nat) (M : Mem) (b Ln : Nat) (xs : Nat → Int32) (post : Option Value → Lay → Nat → Mem → Prop) : Prop :=
  Met l μ.1 (mW μ) (mRm μ mc ms) (Pzs g av L n M b Ln xs) (Qz g post) mc ms (fun q => g.1 ≤ q)
theorem Pzs.blind {g : GE} {av : List Value} {L : Lay} {n : Nat} {M : Mem} {b Ln : Nat} {xs : Nat → Int32} : FrameBlind (Pzs g av L n M b Ln xs) := fun a U q mk h => ⟨Pz.blind a U q mk h.1, va_X.moved (Vm.Alike.refl _) h.2.1, h.2.2⟩
theorem Cts.of {g : GE} {l : Launch} {μ : Mu} {mc ms : Nat} {av : List Value} {L : Lay} {n : Nat} {M : Mem} {b Ln : Nat} {xs : Nat → Int32} {post : Option Value → Lay → Nat → Mem → Prop} (hy : plainName μ.1.cls = true) (hav : Nat.ble (lg_sl av).length μ.2.2.1 = true) {ls : List (Nat × Value)} (hls : lv_args 0 av = ls)
    (body : ∀ x : Fx, Cx x g μ.2.1 μ.1.cls μ.2.2.1 (mRm μ mc ms) → SC x g b Ln xs → Rx x g mc ms μ.2.2.2.1 post → K x g 0 0 L n M 0 ls []) : Cts g l μ mc ms av L n M b Ln xs post := by
  refine Met.ofW (cc := μ.2.1) (maxL := μ.2.2.1) (ret := μ.2.2.2.1) hy rfl ?_
  intro p e s m args below meth c s₁ B hml hv
  obtain ⟨⟨rfl, hR, hK⟩, hX⟩ := hv
  have hts := atoms_spec (ws := mW μ) B.pre
  have hl := lv_entry av (n := μ.2.2.1) (Nat.le_of_ble_eq_true hav)
  have k := body (p, l, e, mRm μ mc ms, s, m, av.toArray, below, meth, c, MQ below (Qz g post) av.toArray s mc ms (fun q => g.1 ≤ q))
    ⟨B.exec, B.bytes, hml, findClass_of_methodNamed B.named, fun w h => hts w (List.mem_cons_of_mem _ h), hK, rfl⟩ hX ⟨B.notSynchronized, B.returns, rfl⟩
  rw [lg_entry_eq]
  subst hls
  refine k s.heap [] _ hR va_S.rf ?_
  show lv_has _ c.maxLocals _
  rw [hml]
  exact hl
section LROWS
variable {x : Fx} {g : GE} {cc : ByteArray} {own : String} {nL : Nat} {R : Room} {cs sl mc ms : Nat} {L : Lay} {n : Nat} {M : Mem} {pc pc' tgt index na b Ln : Nat} {xs : Nat → Int32} {μ : Mu}
theorem k_ldc {ls : List (Nat × Value)} {st : List Value} (hx : Cx x g cc own nL R) {v : Int} (hd : At cc pc (.ldc index) 2 pc') (hc : Cond.constant own index (zI v) ∈ TB) (kk : K x g cs sl L n M pc' ls (vI v :: st)) : K x g cs sl L n M pc ls st := by
  intro H locs la hR hS hl
  obtain ⟨hex, hcc, hnl, how, hts, hK, -⟩ := hx
  obtain ⟨hd1, hd2⟩ := hd
  subst hd2
  exact lv_ldc hex hcc how (hts _ hc) hd1 (kk H locs la hR hS hl)
theorem k_sld {ls : List (Nat × Value)} {st : List Value} (hx : Cx x g cc own nL R) (hs : SC x g b Ln xs) {z : Int} (hd : At cc pc .iaload 1 pc') (hz : 0 ≤ z ∧ z < Ln) (kk : K x g cs sl L n M pc' ls (vI (scz xs z) :: st)) : K x g cs sl L n M pc ls (vI z :: .ref b :: st) := by
  intro H locs la hR hS hl
  obtain ⟨h1, h2⟩ := hd; subst h2
  have hbs := hs.lt
  obtain ⟨hX, hg, hL⟩ := hs
  have hc := zI_clamp (N := Ln) hz.1 hz.2 (by omega)
  have hn : (zI z).toNatClampNeg = z.toNat := by omega
  refine va_sld hx.1 hx.2.1 hX hbs (by show ¬ g.1 ≤ b; omega) hS (zI_in hz.1 hz.2 (by omega)) h1 ?_
  have e : vI (scz xs z) = Value.int (xs z.toNat) := congrArg Value.int (zI_of _)
  rw [hn, ← e]
  exact kk H locs la hR hS hl
theorem k_slen {ls : List (Nat × Value)} {st : List Value} (hx : Cx x g cc own nL R) (hs : SC x g b Ln xs) (hd : At cc pc .arraylength 1 pc') (kk : K x g cs sl L n M pc' ls (vI Ln :: st)) : K x g cs sl L n M pc ls (.ref b :: st) := by
  intro H locs la hR hS hl
  obtain ⟨h1, h2⟩ := hd; subst h2
  have hbs := hs.lt
  obtain ⟨hX, hg, hL⟩ := hs
  refine va_slen hx.1 hx.2.1 hX hbs (by show ¬ g.1 ≤ b; omega) hS h1 ?_
  have e : vI (Ln : Int) = Value.int (Int32.ofNat Ln) := congrArg Value.int Int32.ofInt_eq_ofNat
  rw [← e]
  exact kk H locs la hR hS hl
theorem k_za {ls : List (Nat × Value)} {post : Int → Mem → Prop} (hx : Cx x g cc own nL R) (hm : Rx x g mc ms (some .boolean) (PA post)) (hw : cs ≤ mc ∧ sl ≤ ms) {z : Int} (hd : At cc pc .ireturn 1 (pc + 1)) (hz : z = 0 ∨ z = 1) (hp : post z M) : K x g cs sl LAY (NN g) M pc ls [vI z] := K.wid hw (k_zret hx hm hd hz ⟨rfl, Nat.le_add_right _ _, z, rfl, hp⟩)
theorem k_new64 {ls : Nat → List (Nat × Value)} {st : Nat → List Value} (hx : Cx x g cc own nL R) (hd : At cc pc (.newarray .int) 2 pc') (hc : cs + 1 ≤ R.cells ∧ sl + 64 ≤ R.slots)
    (kk : ∀ (g1 : GE) (i : Nat) (M' : Mem), Sm g g1 → IsA g1 i → (∀ j, IsA g j → IsA g1 j ∧ j ≠ i) → OA i M M' → K x g1 (cs + 1) (sl + 64) LAY (NN g1) M' pc' (ls g1.1) (vR g1 i :: st g1.1)) : K x g cs sl LAY (NN g) M pc (ls g.1) (vI 64 :: st g.1) := by
  refine k_newaI (N := 64) hx hd rfl (by decide) hc (fun L' M' hL hM => ?_)
  have e : L' = LAY := by
    rw [hL]; funext j
    by_cases h : j = NN g
    · subst h; rw [upL_s, LAY_hi (Nat.le_add_right _ _)]
    · rw [upL_n h]
  subst e
  exact kk (gk g (g.2.2.2 + 1)) (NN g) M' ⟨rfl, rfl, rfl⟩ ⟨Nat.le_add_right _ _, Nat.lt_succ_self _⟩ (fun j hj => ⟨⟨hj.1, Nat.lt_succ_of_lt hj.2⟩, Nat.ne_of_lt hj.2⟩) (fun a ha => by rw [hM, clr_n ha])
/-- a call of a method that makes arrays -/
theorem k_sa {post : Int → Mem → Prop} {ls : Nat → List (Nat × Value)} {As : Nat → List Value} (hx : Cx x g cc own nL R) (hlk : lkS own index μ na) (hd : At cc pc (.invokestatic index) 3 pc') (hC : Ca g (xL x) μ mc ms (As g.1) M post) (hn : (As g.1).length = na) {st : List Value} (hst : st = (As g.1).reverse) (hroom : Nat.ble (μ.2.2.2.2.1 + 1) R.frames = true ∧ Nat.ble (8 + (μ.2.2.1 + 11) + μ.2.2.2.2.2) R.locals = true) (hcell : cs + mc ≤ R.cells ∧ sl + ms ≤ R.slots)
    (kk : ∀ (g1 : GE) (z : Int) (M' : Mem), Sm g g1 → post z M' → K x g1 (cs + mc) (sl + ms) LAY (NN g1) M' pc' (ls g1.1) [vI z]) : K x g cs sl LAY (NN g) M pc (ls g.1) st := by
  refine k_callS (rest := []) hx hlk hd hC hn (by rw [hst, List.append_nil]) rfl hroom hcell (fun r L' n' M' ⟨h1, h2, z, h3, h4⟩ => ?_)
  subst h1; subst h3
  obtain ⟨e, rfl⟩ : ∃ e, n' = 120 + e := ⟨n' - 120, by omega⟩
  exact kk (gk g e) z M' ⟨rfl, rfl, rfl⟩ h4
theorem k_callSs {post : Option Value → Lay → Nat → Mem → Prop} {ls : List (Nat × Value)} {As st rest : List Value} (hx : Cx x g cc own nL R) (hs : SC x g b Ln xs) (hlk : lkS own index μ na) (hd : At cc pc (.invokestatic index) 3 pc') (hC : Cts g (xL x) μ mc ms As L n M b Ln xs post) (hn : As.length = na) (hst : st = As.reverse ++ rest) (hcat : Nat.ble (rest.map fun v => v.category).sum 8 = true) (hroom : Nat.ble (μ.2.2.2.2.1 + 1) R.frames = true ∧ Nat.ble (8 + (μ.2.2.1 + 11) + μ.2.2.2.2.2) R.locals = true) (hcell : cs + mc ≤ R.cells ∧ sl + ms ≤ R.slots)
    (kk : ∀ (r : Option Value) (L' : Lay) (n' : Nat) (M' : Mem), post r L' n' M' → K x g (cs + mc) (sl + ms) L' n' M' pc' ls (r.toList ++ rest)) : K x g cs sl L n M pc ls st := by
  intro H locs la hR hS hl
  obtain ⟨hd1, hd2⟩ := hd
  subst hd2
  obtain ⟨w1, w2, w3, w4, hdesc⟩ := hlk
  have hts := hx.2.2.2.2.1
  have hRm : xR x = R := hx.2.2.2.2.2.2
  have hbs := hs.lt
  obtain ⟨hX, hb, hL⟩ := hs
  have hXH : va_X b Ln xs (xS x) H := hX.kept (hS.2.1 b hbs (by show ¬ g.1 ≤ b; omega))
  refine k_run (a := As.toArray) hx hS hl ?_ kk
  refine va_runS (own := own) (cc := cc) (nL := nL) (Ts := TB) (n := na) (ret := μ.2.2.2.1) (bytes := μ.2.1) (maxL := μ.2.2.1) ⟨hx.1, hx.2.1, hx.2.2.1, hx.2.2.2.1, hts⟩ hC ?_ ⟨Pzs.blind, fun U hU hW => ⟨Pz.of hR hx.2.2.2.2.2.1 hU hW, by rw [hU]; exact va_X.moved hW.alike hXH, hb, hL⟩⟩ rfl hn (hl.1.trans hx.2.2.1) hst (lv_room (pc := pc) (m := xM x) (ls := la) (rest := st) (Nat.le_of_ble_eq_true hcat)) hd1 (by rw [hRm]; exact hcell)
  refine va_cwS na hts ?_ rfl rfl rfl hdesc (by rw [hRm]; exact ⟨Nat.le_of_ble_eq_true hroom.1, Nat.le_of_ble_eq_true hroom.2⟩)
  intro w hw
  rcases List.mem_append.mp hw with h | h
  · have h2 : w ∈ TB := by
      rcases List.mem_cons.mp h with rfl | h; exact w1
      rcases List.mem_cons.mp h with rfl | h; exact w2
      rcases List.mem_cons.mp h with rfl | h; exact w3
      cases h
    exact ⟨h2, gTB h2⟩
  · exact gdTB w4 w h
theorem k_sas {post : Int → Mem → Prop} {ls : Nat → List (Nat × Value)} {As : Nat → List Value} (hx : Cx x g cc own nL R) (hs : SC x g b Ln xs) (hlk : lkS own index μ na) (hd : At cc pc (.invokestatic index) 3 pc') (hC : Cts g (xL x) μ mc ms (As g.1) LAY (NN g) M b Ln xs (PA post)) (hn : (As g.1).length = na) {st : List Value} (hst : st = (As g.1).reverse) (hroom : Nat.ble (μ.2.2.2.2.1 + 1) R.frames = true ∧ Nat.ble (8 + (μ.2.2.1 + 11) + μ.2.2.2.2.2) R.locals = true) (hcell : cs + mc ≤ R.cells ∧ sl + ms ≤ R.slots)
    (kk : ∀ (g1 : GE) (z : Int) (M' : Mem), Sm g g1 → post z M' → K x g1 (cs + mc) (sl + ms) LAY (NN g1) M' pc' (ls g1.1) [vI z]) : K x g cs sl LAY (NN g) M pc (ls g.1) st := by
  refine k_callSs (rest := []) hx hs hlk hd hC hn (by rw [hst, List.append_nil]) rfl hroom hcell (fun r L' n' M' ⟨h1, h2, z, h3, h4⟩ => ?_)
  subst h1; subst h3
  obtain ⟨e, rfl⟩ : ∃ e, n' = 120 + e := ⟨n' - 120, by omega⟩
  exact kk (gk g e) z M' ⟨rfl, rfl, rfl⟩ h4
theorem k_sis {post : Int → Mem → Prop} {ls : List (Nat × Value)} {As st rest : List Value} (hx : Cx x g cc own nL R) (hs : SC x g b Ln xs) (hlk : lkS own index μ na) (hd : At cc pc (.invokestatic index) 3 pc') (hC : Cts g (xL x) μ 0 0 As LAY (NN g) M b Ln xs (Pi g post)) (hn : As.length = na) (hst : st = As.reverse ++ rest) (hcat : Nat.ble (rest.map fun v => v.category).sum 8 = true) (hroom : Nat.ble (μ.2.2.2.2.1 + 1) R.frames = true ∧ Nat.ble (8 + (μ.2.2.1 + 11) + μ.2.2.2.2.2) R.locals = true) (hcell : cs ≤ R.cells ∧ sl ≤ R.slots)
    (kk : ∀ (z : Int) (M' : Mem), post z M' → K x g cs sl LAY (NN g) M' pc' ls (vI z :: rest)) : K x g cs sl LAY (NN g) M pc ls st :=
  k_callSs hx hs hlk hd hC hn hst hcat hroom hcell (fun r L' n' M' ⟨h1, h2, z, h3, h4⟩ => by subst h1; subst h2; subst h3; exact kk z M' h4)
end LROWS
theorem qL_7 : Cond.constant RL 7 (zI 4194303) ∈ TB := tb_of 157 (by decide +kernel) (by decide +kernel)
theorem and_rg (a : Int32) : 0 ≤ (a &&& zI 4194303).toInt ∧ (a &&& zI 4194303).toInt ≤ 4194303 := by
  have h : (a &&& zI 4194303).toBitVec = a.toBitVec &&& 4194303#32 := rfl
  have h2 : (a &&& zI 4194303).toBitVec.toNat ≤ 4194303 := by
    rw [h, BitVec.toNat_and]
    exact Nat.and_le_right
  have e : (a &&& zI 4194303).toInt = (a &&& zI 4194303).toBitVec.toInt := rfl
  rw [e, BitVec.toInt_eq_toNat_cond]
  split <;> omega

theorem c_L_cell {g : GE} {l : Launch} {M : Mem} {b Ln : Nat} {xs : Nat → Int32} {k n : Int} (hk : 0 ≤ k ∧ k < 1000) (hn : 0 < n ∧ n ≤ 1000) : Cts g l μL_cell 0 0 [.ref b, vI k, vI n] LAY (NN g) M b Ln xs (Pi g (fun z M' => (0 ≤ z ∧ z < n) ∧ M' = M)) := by
  refine Cts.of (by decide +kernel) rfl rfl (fun x hx hs hr => ?_)
  have hs260 := hs.2.2
  refine k_aload_n hx dL_cell_0 0 rfl ?_
  refine k_slen hx hs dL_cell_1 ?_
  refine k_ifne hx dL_cell_2 (by omega) (fun h_2 => ?_) (fun h_2 => ?_)
  · have hkm := Int.emod_nonneg k (show (Ln : Int) ≠ 0 by omega)
    have hkm2 := Int.emod_lt_of_pos k (show (0 : Int) < Ln by omega)
    obtain ⟨v, hv⟩ : ∃ v, v = (zI (scz xs (k % Ln)) >>> (zI (k % 7) &&& 31) &&& zI 4194303).toInt := ⟨_, rfl⟩
    have hvr := and_rg (zI (scz xs (k % Ln)) >>> (zI (k % 7) &&& 31))
    rw [← hv] at hvr
    refine k_aload_n hx dL_cell_14 0 rfl ?_
    refine k_iload_n hx dL_cell_15 1 rfl ?_
    refine k_aload_n hx dL_cell_16 0 rfl ?_
    refine k_slen hx hs dL_cell_17 ?_
    refine k_irem hx dL_cell_18 (by omega) ?_
    refine k_sld hx hs dL_cell_19 (by omega) ?_
    refine k_iload_n hx dL_cell_20 1 rfl ?_
    refine k_bipush hx dL_cell_21 (by decide +kernel) ?_
    refine k_irem hx dL_cell_23 (by omega) ?_
    refine k_ishr (v := zI ((zI (scz xs (k % Ln)) >>> (zI (k % 7) &&& 31)).toInt)) hx dL_cell_24 ((zI_of _).symm) ?_
    refine k_ldc (v := 4194303) hx dL_cell_25 qL_7 ?_
    refine k_iand (v := zI v) hx dL_cell_27 (by rw [zI_of, hv, zI_of]) ?_
    refine k_iload_n hx dL_cell_28 2 rfl ?_
    refine k_irem hx dL_cell_29 (by omega) ?_
    have hm1 := Int.emod_nonneg (0 : Int) (show (n : Int) ≠ 0 by omega)
    refine k_ri hx hr dL_cell_30 ?_
    exact ⟨⟨Int.emod_nonneg _ (by omega), Int.emod_lt_of_pos _ hn.1⟩, rfl⟩
  · refine k_iload_n hx dL_cell_5 1 rfl ?_
    refine k_bipush hx dL_cell_6 (by decide +kernel) ?_
    refine k_imul hx dL_cell_8 ?_
    refine k_iconst hx dL_cell_9 ?_
    refine k_iadd hx dL_cell_10 ?_
    refine k_goto hx dL_cell_11 ?_
    refine k_iload_n hx dL_cell_28 2 rfl ?_
    refine k_irem hx dL_cell_29 (by omega) ?_
    have hm1 := Int.emod_nonneg (0 : Int) (show (n : Int) ≠ 0 by omega)
    refine k_ri hx hr dL_cell_30 ?_
    exact ⟨⟨Int.emod_nonneg _ (by omega), Int.emod_lt_of_pos _ hn.1⟩, rfl⟩
end
section
/-! the law's acts -/
def OKN (σ : Sg) (n : Nat) : Prop := ∀ r : Int, 0 ≤ r ∧ r < 4 → (rope σ.1 r).length ≤ n
/-- a rope is another word behind a call -/
def CH (M : Mem) (σ : Sg) (z : Int) (v : List Int) (e : Int) : Int → Mem → Prop := fun y M' => y = e ∧ (∃ σ', Inv M' σ' ∧ ∀ r : Int, 0 ≤ r ∧ r < 4 → rope σ'.1 r = if r = z then v else rope σ.1 r) ∧ ∀ a, 120 ≤ a → M' a = M a
theorem CH.of {M0 M M' : Mem} {σ : Sg} {z y e : Int} {v : List Int} {ρ : List Ab × (Option Ab × Option Ab) × List Int} (hI : Inv M0 σ) (hz : 0 ≤ z ∧ z < 4) (h : PO M (e, (setR σ.1 z v, ρ)) y M') : CH M σ z v e y M' :=
  ⟨h.1, ⟨_, h.2.1, fun r hr => rope_setR hI.1.1 hz hr⟩, h.2.2⟩
theorem s_cross {g : GE} {l : Launch} {M : Mem} {σ : Sg} (hI : Inv M σ) {z : Int} (hz : 0 ≤ z ∧ z < 4) {c : Int} (hc : 0 ≤ c ∧ c < 12) (hl : (rope σ.1 z).length ≤ 60) : Ci g l μX5_cross [vR g 0, vI z, vI c] M (CH M σ z (rope σ.1 z ++ [c]) ((rope σ.1 z).length + 1)) :=
  Ci.imp (c_X5_cross hI (z := z) (c := c) (by omega) (by omega)) (fun y M' h => CH.of hI hz (by
    have e : aCross σ z c = (((rope σ.1 z).length : Int) + 1, (setR σ.1 z (rope σ.1 z ++ [c]), rcd σ)) := by unfold aCross; rw [if_pos hz, if_neg (by omega), if_neg (by omega)]
    rw [e] at h; exact h))
theorem s_back {g : GE} {l : Launch} {M : Mem} {σ : Sg} (hI : Inv M σ) {z : Int} (hz : 0 ≤ z ∧ z < 4) {m : Nat} (hm : 1 ≤ m ∧ m ≤ (rope σ.1 z).length) (hl : (rope σ.1 z).length ≤ 60) : Ci g l μX5_back [vR g 0, vI z, vI m] M (CH M σ z ((rope σ.1 z).take ((rope σ.1 z).length - m)) ((rope σ.1 z).length - m)) :=
  Ci.imp (c_X5_back hI (z := z) (m := m) (by omega) (by omega)) (fun y M' h => CH.of hI hz (by
    have e : aBack σ z m = (((rope σ.1 z).length : Int) - m, (setR σ.1 z ((rope σ.1 z).take ((rope σ.1 z).length - m)), rcd σ)) := by unfold aBack; rw [if_pos hz, if_neg (by omega), if_neg (by omega)]; rfl
    rw [e] at h; exact h))
theorem s_backN {g : GE} {l : Launch} {M : Mem} {σ : Sg} (hI : Inv M σ) {z : Int} (hz : 0 ≤ z ∧ z < 4) {m : Nat} (hm : 1 ≤ m ∧ m ≤ 60) (hl : (rope σ.1 z).length < m) : Ci g l μX5_back [vR g 0, vI z, vI m] M (QO M σ (-5)) :=
  Ci.imp (c_X5_back hI (z := z) (m := m) (by omega) (by omega)) (fun y M' h => by
    have e : aBack σ z m = (-5, σ) := by unfold aBack; rw [if_pos hz, if_neg (by omega), if_pos (by omega)]
    rw [e] at h; exact h)
theorem s_pull {g : GE} {l : Launch} {M : Mem} {σ : Sg} (hI : Inv M σ) {z : Int} (hz : 0 ≤ z ∧ z < 4) : Ci g l μX5_pull [vR g 0, vI z] M (CH M σ z (red (rope σ.1 z)) (((rope σ.1 z).length - (red (rope σ.1 z)).length) / 2)) :=
  Ci.imp (c_X5_pull hI (z := z) (by omega)) (fun y M' h => CH.of hI hz (by
    have e : aPull σ z = ((((rope σ.1 z).length : Int) - (red (rope σ.1 z)).length) / 2, (setR σ.1 z (red (rope σ.1 z)), rcd σ)) := by unfold aPull; rw [if_pos hz]
    rw [e] at h; exact h))
theorem s_join {g : GE} {l : Launch} {M : Mem} {σ : Sg} (hI : Inv M σ) {z y : Int} (hz : 0 ≤ z ∧ z < 4) (hy : 0 ≤ y ∧ y < 4) (hl : (rope σ.1 z).length + (rope σ.1 y).length ≤ 60) : Ci g l μX5_join [vR g 0, vI z, vI y] M (CH M σ z (rope σ.1 z ++ rope σ.1 y) ((rope σ.1 z).length + (rope σ.1 y).length)) :=
  Ci.imp (c_X5_join hI (z := z) (y := y) (by omega) (by omega)) (fun q M' h => CH.of hI hz (by
    have e : aJoin σ z y = (((rope σ.1 z).length : Int) + (rope σ.1 y).length, (setR σ.1 z (rope σ.1 z ++ rope σ.1 y), rcd σ)) := by unfold aJoin; rw [if_pos ⟨hz, hy⟩, if_neg (by omega)]
    rw [e] at h; exact h))
theorem s_turn {g : GE} {l : Launch} {M : Mem} {σ : Sg} (hI : Inv M σ) {z : Int} (hz : 0 ≤ z ∧ z < 4) : Ci g l μX5_turn [vR g 0, vI z] M (CH M σ z (trn (rope σ.1 z)) (rope σ.1 z).length) :=
  Ci.imp (c_X5_turn hI (z := z) (by omega)) (fun y M' h => CH.of hI hz (by
    have e : aTurn σ z = (((rope σ.1 z).length : Int), (setR σ.1 z (trn (rope σ.1 z)), rcd σ)) := by unfold aTurn; rw [if_pos hz]
    rw [e] at h; exact h))
theorem wv_len (σ : Sg) (z y : Int) : (wv σ z y).length ≤ 2 * ((rope σ.1 z).length + (rope σ.1 y).length) := by
  unfold wv
  refine Nat.le_trans (red_len_le _) ?_
  simp only [List.length_append, trn_len]
  omega
theorem s_weave {g : GE} {l : Launch} {M : Mem} {σ : Sg} (hI : Inv M σ) {z y : Int} (hz : 0 ≤ z ∧ z < 4) (hy : 0 ≤ y ∧ y < 4) (hne : z ≠ y) (hl : 2 * ((rope σ.1 z).length + (rope σ.1 y).length) ≤ 60) : Ci g l μX5_weave [vR g 0, vI z, vI y] M (CH M σ z (wv σ z y) (wv σ z y).length) :=
  Ci.imp (c_X5_weave hI (z := z) (y := y) (by omega) (by omega)) (fun q M' h => CH.of hI hz (by
    have hw := wv_len σ z y
    have e : aWeave σ z y = (((wv σ z y).length : Int), (setR σ.1 z (wv σ z y), rcd σ)) := by unfold aWeave; rw [if_pos ⟨⟨hz, hy⟩, hne⟩, if_neg (by omega)]
    rw [e] at h; exact h))
theorem s_weaveN {g : GE} {l : Launch} {M : Mem} {σ : Sg} (hI : Inv M σ) {z : Int} (hz : 0 ≤ z ∧ z < 4) : Ci g l μX5_weave [vR g 0, vI z, vI z] M (QO M σ (-1)) :=
  Ci.imp (c_X5_weave hI (z := z) (y := z) (by omega) (by omega)) (fun q M' h => by
    have e : aWeave σ z z = (-1, σ) := by unfold aWeave; rw [if_neg (fun q => q.2 rfl)]
    rw [e] at h; exact h)
theorem s_width {g : GE} {l : Launch} {M : Mem} {σ : Sg} (hI : Inv M σ) {p : Int} (hp : 0 ≤ p ∧ p < 6) {w : Int} (hw : 1 ≤ w ∧ w ≤ 99) : Ci g l μX5_width [vR g 0, vI p, vI w] M (fun y M' => y = σ.1.1.getD p.toNat 0 ∧ (∃ σ', Inv M' σ' ∧ (∀ r : Int, 0 ≤ r ∧ r < 4 → rope σ'.1 r = rope σ.1 r) ∧ σ'.1.1.getD p.toNat 0 = w) ∧ ∀ a, 120 ≤ a → M' a = M a) :=
  Ci.imp (c_X5_width hI (z := p) (w := w) (by omega) (by omega)) (fun q M' h => by
    have e : aWidth σ p w = (σ.1.1.getD p.toNat 0, ((σ.1.1.set p.toNat w, σ.1.2), rcd σ)) := by unfold aWidth; rw [if_pos hp, if_neg (by omega)]
    rw [e] at h
    have h6 := hI.1.1.1
    exact ⟨h.1, ⟨_, h.2.1, fun r hr => rfl, by show (σ.1.1.set p.toNat w).getD p.toNat 0 = w; rw [getD_set (by omega), if_pos rfl]⟩, h.2.2⟩)
theorem rope_map {A : Ab} (hA : OkA A) {f : List Int → List Int} {r : Int} (hr : 0 ≤ r ∧ r < 4) : rope (A.1, A.2.map f) r = f (rope A r) := by
  have h4 := hA.2.1
  have hl : r.toNat < A.2.length := by omega
  show (A.2.map f).getD r.toNat [] = f (A.2.getD r.toNat [])
  simp only [List.getD_eq_getElem?_getD, List.getElem?_map, List.getElem?_eq_getElem hl]
  rfl
theorem s_swap {g : GE} {l : Launch} {M : Mem} {σ : Sg} (hI : Inv M σ) {p b : Int} (hp : 0 ≤ p ∧ p < 5) (hb : 0 ≤ b ∧ b < 2) (hl : OKN σ 20) : Ci g l μX5_swap [vR g 0, vI p, vI b] M (fun y M' => y = csw σ.1 p b ∧ (∃ σ', Inv M' σ' ∧ (∀ r : Int, 0 ≤ r ∧ r < 4 → rope σ'.1 r = swF p b (rope σ.1 r)) ∧ allC σ'.1 = csw σ.1 p b) ∧ ∀ a, 120 ≤ a → M' a = M a) :=
  Ci.imp (c_X5_swap hI (p := p) (b := b) (by omega) (by omega)) (fun q M' h => by
    have e : aSwap σ p b = (allC (σ.1.1, σ.1.2.map (swF p b)), ((σ.1.1, σ.1.2.map (swF p b)), rcd σ)) := by
      unfold aSwap
      rw [if_pos hp, if_pos hb, if_pos (fun r hr => ?_)]
      have h1 := hl r (by omega)
      have h2 := swF_len p b (σ.1.2.getD r [])
      have h3 : rope σ.1 r = σ.1.2.getD r [] := rfl
      rw [h3] at h1
      omega
    have hr : ∀ r : Nat, r < 4 → (σ.1.2.map (swF p b)).getD r [] = swF p b (σ.1.2.getD r []) := fun r hr => rope_map hI.1.1 (r := r) (by omega)
    have e2 : allC (σ.1.1, σ.1.2.map (swF p b)) = csw σ.1 p b := by
      unfold allC csw
      dsimp only
      rw [hr 0 (by omega), hr 1 (by omega), hr 2 (by omega), hr 3 (by omega)]
    rw [e, e2] at h
    exact ⟨h.1, ⟨_, h.2.1, fun r hr => rope_map hI.1.1 hr, e2⟩, h.2.2⟩)
/-- an act holds -/
def AO : Int → Mem → Prop := fun y M' => y = 1 ∧ ∃ σ', Inv M' σ' ∧ OKN σ' 60
theorem CH.ok {M : Mem} {σ σ' : Sg} {z : Int} {v : List Int} (h60 : OKN σ 60) (hv : v.length ≤ 60) (h : ∀ r : Int, 0 ≤ r ∧ r < 4 → rope σ'.1 r = if r = z then v else rope σ.1 r) : OKN σ' 60 := fun r hr => by
  rw [h r hr]; split
  · exact hv
  · exact h60 r hr

theorem c_L_isCrossed {g : GE} {l : Launch} {M : Mem} {σ : Sg} (hI : Inv M σ) {z : Int} (hz : 0 ≤ z ∧ z < 4) (hl : (rope σ.1 z).length ≤ 59) {c : Int} (hc : 0 ≤ c ∧ c < 12) : Ca g l μL_isCrossed 1 64 [vR g 0, vI z, vI c] M (fun y M' => y = 1 ∧ ∃ σ', Inv M' σ' ∧ ∀ r : Int, 0 ≤ r ∧ r < 4 → (rope σ'.1 r).length ≤ if r = z then (rope σ.1 z).length + 1 else (rope σ.1 r).length) := by
  refine Ca.of (by decide +kernel) rfl rfl (fun x hx hr => ?_)
  refine k_bipush hx dL_isCrossed_0 (by decide +kernel) ?_
  refine k_new64 (ls := fun q => [(0, rf q 0), (1, vI z), (2, vI c)]) (st := fun q => []) hx dL_isCrossed_2 ⟨by decide, by decide⟩ (fun g1 i1 M_2 hs_g1 hA_i1 ha_g1 ho_i1 => ?_)
  have hx_g1 := hx.sm hs_g1
  have hr_g1 := hr.sm hs_g1
  show K _ _ _ _ _ _ _ 4 [(0, vR g1 0), (1, vI z), (2, vI c)] [vR g1 i1]
  have I_2 : Inv M_2 σ := hI.hi hA_i1.1 ho_i1
  refine k_astore_n (ls' := [(0, vR g1 0), (1, vI z), (2, vI c), (3, vR g1 i1)]) hx_g1 dL_isCrossed_4 rfl rfl (by decide) ?_
  refine k_aload_n hx_g1 dL_isCrossed_5 0 rfl ?_
  refine k_iload_n hx_g1 dL_isCrossed_6 1 rfl ?_
  refine k_aload_n hx_g1 dL_isCrossed_7 3 rfl ?_
  refine k_sv (rest := []) hx_g1 sL_31 dL_isCrossed_8 (c_L_read I_2 hz hA_i1 (by omega)) rfl rfl rfl ⟨rfl, rfl⟩ ⟨by decide, by decide⟩ (fun M_8 p_8 => ?_)
  obtain ⟨w_8, I_8, o_8⟩ := p_8
  refine k_aload_n hx_g1 dL_isCrossed_11 3 rfl ?_
  refine k_iload_n hx_g1 dL_isCrossed_12 2 rfl ?_
  refine k_sv (rest := []) hx_g1 sL_17 dL_isCrossed_13 (c_L_add hA_i1 w_8 (by omega) hc) rfl rfl rfl ⟨rfl, rfl⟩ ⟨by decide, by decide⟩ (fun M_13 p_13 => ?_)
  obtain ⟨w_13, o_13⟩ := p_13
  have I_13 := I_8.hi hA_i1.1 o_13
  refine k_aload_n hx_g1 dL_isCrossed_16 0 rfl ?_
  refine k_iload_n hx_g1 dL_isCrossed_17 1 rfl ?_
  refine k_iload_n hx_g1 dL_isCrossed_18 2 rfl ?_
  refine k_vi (rest := []) hx_g1 vL_59 dL_isCrossed_19 (s_cross I_13 hz hc (by omega)) n_0 L_0 rfl rfl rfl ⟨rfl, rfl⟩ ⟨by decide, by decide⟩ (fun z_19 M_19 p_19 => ?_)
  obtain ⟨rfl, ⟨σ1, I_19, hrp⟩, o_19⟩ := p_19
  have w_19 := w_13.same (o_19 i1 hA_i1.1)
  have hrz := hrp z hz
  rw [if_pos rfl] at hrz
  refine k_aload_n hx_g1 dL_isCrossed_22 3 rfl ?_
  refine k_iconst hx_g1 dL_isCrossed_23 ?_
  refine k_iald (v := ((rope σ.1 z).length + 1)) hx_g1 dL_isCrossed_24 hA_i1.2 (LAY_hi hA_i1.1) (by omega) (by decide) (by rw [w_19.1, List.length_append]; simp) ?_
  refine k_icmp_ne hx_g1 dL_isCrossed_25 (by omega) (fun h_25 => absurd h_25 (by omega)) (fun h_25 => ?_)
  refine k_aload_n hx_g1 dL_isCrossed_28 0 rfl ?_
  refine k_iload_n hx_g1 dL_isCrossed_29 1 rfl ?_
  refine k_aload_n hx_g1 dL_isCrossed_30 3 rfl ?_
  refine k_si (rest := []) hx_g1 sL_62 dL_isCrossed_31 (c_L_isWord I_19 hz hA_i1 (by rw [hrz]; rw [List.length_append]; simp only [List.length_singleton]; omega) (by rw [hrz]; exact w_19)) rfl rfl rfl ⟨rfl, rfl⟩ ⟨by decide, by decide⟩ (fun z_31 M_31 p_31 => ?_)
  obtain ⟨rfl, I_31, o_31⟩ := p_31
  refine k_ifeq hx_g1 dL_isCrossed_34 (by omega) (fun h_34 => absurd h_34 (by omega)) (fun h_34 => ?_)
  refine k_iconst hx_g1 dL_isCrossed_37 ?_
  refine k_goto hx_g1 dL_isCrossed_38 ?_
  refine k_za hx_g1 hr_g1 ⟨by decide, by decide⟩ dL_isCrossed_42 (by first | exact Or.inl rfl | exact Or.inr rfl | exact b2i_or _) ?_
  refine ⟨rfl, σ1, I_31, fun r hr2 => ?_⟩
  rw [hrp r hr2]
  by_cases e : r = z
  · rw [if_pos e, if_pos e, List.length_append]; exact Nat.le_refl _
  · rw [if_neg e, if_neg e]; exact Nat.le_refl _
theorem c_L_isBack0 {g : GE} {l : Launch} {M : Mem} {σ : Sg} (hI : Inv M σ) (h60 : OKN σ 60) {z : Int} (hz : 0 ≤ z ∧ z < 4) {m : Nat} (hm : 1 ≤ m ∧ m ≤ 60) (hlm : (rope σ.1 z).length < m) : Ca g l μL_isBack 1 64 [vR g 0, vI z, vI m] M AO := by
  refine Ca.of (by decide +kernel) rfl rfl (fun x hx hr => ?_)
  have hl := h60 z hz
  refine k_bipush hx dL_isBack_0 (by decide +kernel) ?_
  refine k_new64 (ls := fun q => [(0, rf q 0), (1, vI z), (2, vI m)]) (st := fun q => []) hx dL_isBack_2 ⟨by decide, by decide⟩ (fun g1 i1 M_2 hs_g1 hA_i1 ha_g1 ho_i1 => ?_)
  have hx_g1 := hx.sm hs_g1
  have hr_g1 := hr.sm hs_g1
  show K _ _ _ _ _ _ _ 4 [(0, vR g1 0), (1, vI z), (2, vI m)] [vR g1 i1]
  have I_2 : Inv M_2 σ := hI.hi hA_i1.1 ho_i1
  refine k_astore_n (ls' := [(0, vR g1 0), (1, vI z), (2, vI m), (3, vR g1 i1)]) hx_g1 dL_isBack_4 rfl rfl (by decide) ?_
  refine k_aload_n hx_g1 dL_isBack_5 0 rfl ?_
  refine k_iload_n hx_g1 dL_isBack_6 1 rfl ?_
  refine k_aload_n hx_g1 dL_isBack_7 3 rfl ?_
  refine k_sv (rest := []) hx_g1 sL_31 dL_isBack_8 (c_L_read I_2 hz hA_i1 (by omega)) rfl rfl rfl ⟨rfl, rfl⟩ ⟨by decide, by decide⟩ (fun M_8 p_8 => ?_)
  obtain ⟨w_8, I_8, o_8⟩ := p_8
  refine k_aload_n hx_g1 dL_isBack_11 0 rfl ?_
  refine k_iload_n hx_g1 dL_isBack_12 1 rfl ?_
  refine k_iload_n hx_g1 dL_isBack_13 2 rfl ?_
  refine k_vi (rest := []) hx_g1 vL_66 dL_isBack_14 (s_backN I_8 hz hm (by omega)) n_0 L_0 rfl rfl rfl ⟨rfl, rfl⟩ ⟨by decide, by decide⟩ (fun z_14 M_14 p_14 => ?_)
  obtain ⟨rfl, I_14, o_14⟩ := p_14
  have I_14 : Inv M_14 σ := I_14
  have w_14 := w_8.same (o_14 i1 hA_i1.1)
  refine k_istore (ls' := [(0, vR g1 0), (1, vI z), (2, vI m), (3, vR g1 i1), (4, vI (-5))]) hx_g1 dL_isBack_17 rfl rfl (by decide) ?_
  refine k_iload_n hx_g1 dL_isBack_19 2 rfl ?_
  refine k_aload_n hx_g1 dL_isBack_20 3 rfl ?_
  refine k_iconst hx_g1 dL_isBack_21 ?_
  refine k_iald (v := ((rope σ.1 z).length)) hx_g1 dL_isBack_22 hA_i1.2 (LAY_hi hA_i1.1) (by omega) (by decide) (w_14.1) ?_
  refine k_icmp_le hx_g1 dL_isBack_23 (by omega) (fun h_23 => absurd h_23 (by omega)) (fun h_23 => ?_)
  refine k_iload hx_g1 dL_isBack_26 4 rfl ?_
  refine k_bipush hx_g1 dL_isBack_28 (by decide +kernel) ?_
  refine k_icmp_ne hx_g1 dL_isBack_30 (by omega) (fun h_30 => absurd h_30 (by omega)) (fun h_30 => ?_)
  refine k_aload_n hx_g1 dL_isBack_33 0 rfl ?_
  refine k_iload_n hx_g1 dL_isBack_34 1 rfl ?_
  refine k_aload_n hx_g1 dL_isBack_35 3 rfl ?_
  refine k_si (rest := []) hx_g1 sL_62 dL_isBack_36 (c_L_isWord I_14 hz hA_i1 (by omega) w_14) rfl rfl rfl ⟨rfl, rfl⟩ ⟨by decide, by decide⟩ (fun z_36 M_36 p_36 => ?_)
  obtain ⟨rfl, I_36, o_36⟩ := p_36
  refine k_ifeq hx_g1 dL_isBack_39 (by omega) (fun h_39 => absurd h_39 (by omega)) (fun h_39 => ?_)
  refine k_iconst hx_g1 dL_isBack_42 ?_
  refine k_goto hx_g1 dL_isBack_43 ?_
  refine k_za hx_g1 hr_g1 ⟨by decide, by decide⟩ dL_isBack_47 (by first | exact Or.inl rfl | exact Or.inr rfl | exact b2i_or _) ?_
  exact ⟨rfl, σ, I_36, h60⟩
theorem c_L_isBack1 {g : GE} {l : Launch} {M : Mem} {σ : Sg} (hI : Inv M σ) (h60 : OKN σ 60) {z : Int} (hz : 0 ≤ z ∧ z < 4) {m : Nat} (hm : 1 ≤ m ∧ m ≤ 60) (hlm : m ≤ (rope σ.1 z).length) : Ca g l μL_isBack 1 64 [vR g 0, vI z, vI m] M AO := by
  refine Ca.of (by decide +kernel) rfl rfl (fun x hx hr => ?_)
  have hl := h60 z hz
  refine k_bipush hx dL_isBack_0 (by decide +kernel) ?_
  refine k_new64 (ls := fun q => [(0, rf q 0), (1, vI z), (2, vI m)]) (st := fun q => []) hx dL_isBack_2 ⟨by decide, by decide⟩ (fun g1 i1 M_2 hs_g1 hA_i1 ha_g1 ho_i1 => ?_)
  have hx_g1 := hx.sm hs_g1
  have hr_g1 := hr.sm hs_g1
  show K _ _ _ _ _ _ _ 4 [(0, vR g1 0), (1, vI z), (2, vI m)] [vR g1 i1]
  have I_2 : Inv M_2 σ := hI.hi hA_i1.1 ho_i1
  refine k_astore_n (ls' := [(0, vR g1 0), (1, vI z), (2, vI m), (3, vR g1 i1)]) hx_g1 dL_isBack_4 rfl rfl (by decide) ?_
  refine k_aload_n hx_g1 dL_isBack_5 0 rfl ?_
  refine k_iload_n hx_g1 dL_isBack_6 1 rfl ?_
  refine k_aload_n hx_g1 dL_isBack_7 3 rfl ?_
  refine k_sv (rest := []) hx_g1 sL_31 dL_isBack_8 (c_L_read I_2 hz hA_i1 (by omega)) rfl rfl rfl ⟨rfl, rfl⟩ ⟨by decide, by decide⟩ (fun M_8 p_8 => ?_)
  obtain ⟨w_8, I_8, o_8⟩ := p_8
  refine k_aload_n hx_g1 dL_isBack_11 0 rfl ?_
  refine k_iload_n hx_g1 dL_isBack_12 1 rfl ?_
  refine k_iload_n hx_g1 dL_isBack_13 2 rfl ?_
  refine k_vi (rest := []) hx_g1 vL_66 dL_isBack_14 (s_back I_8 hz (m := m) (by omega) (by omega)) n_0 L_0 rfl rfl rfl ⟨rfl, rfl⟩ ⟨by decide, by decide⟩ (fun z_14 M_14 p_14 => ?_)
  obtain ⟨rfl, ⟨σ1, I_14, hrp⟩, o_14⟩ := p_14
  have w_14 := w_8.same (o_14 i1 hA_i1.1)
  have hrz := hrp z hz
  rw [if_pos rfl] at hrz
  refine k_istore (ls' := [(0, vR g1 0), (1, vI z), (2, vI m), (3, vR g1 i1), (4, vI ((rope σ.1 z).length - m))]) hx_g1 dL_isBack_17 rfl rfl (by decide) ?_
  refine k_iload_n hx_g1 dL_isBack_19 2 rfl ?_
  refine k_aload_n hx_g1 dL_isBack_20 3 rfl ?_
  refine k_iconst hx_g1 dL_isBack_21 ?_
  refine k_iald (v := ((rope σ.1 z).length)) hx_g1 dL_isBack_22 hA_i1.2 (LAY_hi hA_i1.1) (by omega) (by decide) (w_14.1) ?_
  refine k_icmp_le hx_g1 dL_isBack_23 (by omega) (fun h_23 => ?_) (fun h_23 => absurd h_23 (by omega))
  refine k_aload_n hx_g1 dL_isBack_48 3 rfl ?_
  refine k_iconst hx_g1 dL_isBack_49 ?_
  refine k_dup2 hx_g1 dL_isBack_50 rfl rfl ?_
  refine k_iald (v := ((rope σ.1 z).length)) hx_g1 dL_isBack_51 hA_i1.2 (LAY_hi hA_i1.1) (by omega) (by decide) (w_14.1) ?_
  refine k_iload_n hx_g1 dL_isBack_52 2 rfl ?_
  refine k_isub hx_g1 dL_isBack_53 ?_
  refine k_iastN hx_g1 dL_isBack_54 hA_i1.2 (LAY_hi hA_i1.1) (by omega) (by decide) (fun M_54 hM_54 => ?_)
  have htl : ((rope σ.1 z).take ((rope σ.1 z).length - m)).length = (rope σ.1 z).length - m := by rw [List.length_take]; omega
  have w_54 : Wa M_54 i1 ((rope σ.1 z).take ((rope σ.1 z).length - m)) := by
    refine Wa.of (by rw [hM_54, up_s, htl]; omega) (fun k hk => ?_) (w_14.2.2.take _)
    rw [htl] at hk
    rw [hM_54, up_k (by omega), w_14.atn (by omega), at0_take (by omega) (by omega)]
  have I_54 : Inv M_54 σ1 := I_14.hi hA_i1.1 (fun a ha => by rw [hM_54, up_i ha])
  refine k_iload hx_g1 dL_isBack_55 4 rfl ?_
  refine k_aload_n hx_g1 dL_isBack_57 3 rfl ?_
  refine k_iconst hx_g1 dL_isBack_58 ?_
  refine k_iald (v := ((rope σ.1 z).length - m)) hx_g1 dL_isBack_59 hA_i1.2 (LAY_hi hA_i1.1) (by omega) (by decide) (by rw [hM_54, up_s]) ?_
  refine k_icmp_ne hx_g1 dL_isBack_60 (by omega) (fun h_60 => absurd h_60 (by omega)) (fun h_60 => ?_)
  refine k_aload_n hx_g1 dL_isBack_63 0 rfl ?_
  refine k_iload_n hx_g1 dL_isBack_64 1 rfl ?_
  refine k_aload_n hx_g1 dL_isBack_65 3 rfl ?_
  refine k_si (rest := []) hx_g1 sL_62 dL_isBack_66 (c_L_isWord I_54 hz hA_i1 (by rw [hrz]; rw [htl]; omega) (by rw [hrz]; exact w_54)) rfl rfl rfl ⟨rfl, rfl⟩ ⟨by decide, by decide⟩ (fun z_66 M_66 p_66 => ?_)
  obtain ⟨rfl, I_66, o_66⟩ := p_66
  refine k_ifeq hx_g1 dL_isBack_69 (by omega) (fun h_69 => absurd h_69 (by omega)) (fun h_69 => ?_)
  refine k_iconst hx_g1 dL_isBack_72 ?_
  refine k_goto hx_g1 dL_isBack_73 ?_
  refine k_za hx_g1 hr_g1 ⟨by decide, by decide⟩ dL_isBack_77 (by first | exact Or.inl rfl | exact Or.inr rfl | exact b2i_or _) ?_
  exact ⟨rfl, σ1, I_66, CH.ok (M := M) h60 (by rw [htl]; omega) hrp⟩
theorem c_L_isBack {g : GE} {l : Launch} {M : Mem} {σ : Sg} (hI : Inv M σ) (h60 : OKN σ 60) {z : Int} (hz : 0 ≤ z ∧ z < 4) {m : Int} (hm : 1 ≤ m ∧ m ≤ 60) : Ca g l μL_isBack 1 64 [vR g 0, vI z, vI m] M AO := by
  obtain ⟨k, rfl⟩ : ∃ k : Nat, m = k := ⟨m.toNat, by omega⟩
  by_cases h : (rope σ.1 z).length < k
  · exact c_L_isBack0 hI h60 hz (by omega) h
  · exact c_L_isBack1 hI h60 hz (by omega) (by omega)
theorem c_L_isPulled {g : GE} {l : Launch} {M : Mem} {σ : Sg} (hI : Inv M σ) (h60 : OKN σ 60) {z : Int} (hz : 0 ≤ z ∧ z < 4) : Ca g l μL_isPulled 1 64 [vR g 0, vI z] M AO := by
  refine Ca.of (by decide +kernel) rfl rfl (fun x hx hr => ?_)
  have hl := h60 z hz
  refine k_bipush hx dL_isPulled_0 (by decide +kernel) ?_
  refine k_new64 (ls := fun q => [(0, rf q 0), (1, vI z)]) (st := fun q => []) hx dL_isPulled_2 ⟨by decide, by decide⟩ (fun g1 i1 M_2 hs_g1 hA_i1 ha_g1 ho_i1 => ?_)
  have hx_g1 := hx.sm hs_g1
  have hr_g1 := hr.sm hs_g1
  show K _ _ _ _ _ _ _ 4 [(0, vR g1 0), (1, vI z)] [vR g1 i1]
  have I_2 : Inv M_2 σ := hI.hi hA_i1.1 ho_i1
  refine k_astore_n (ls' := [(0, vR g1 0), (1, vI z), (2, vR g1 i1)]) hx_g1 dL_isPulled_4 rfl rfl (by decide) ?_
  refine k_aload_n hx_g1 dL_isPulled_5 0 rfl ?_
  refine k_iload_n hx_g1 dL_isPulled_6 1 rfl ?_
  refine k_aload_n hx_g1 dL_isPulled_7 2 rfl ?_
  refine k_sv (rest := []) hx_g1 sL_31 dL_isPulled_8 (c_L_read I_2 hz hA_i1 (by omega)) rfl rfl rfl ⟨rfl, rfl⟩ ⟨by decide, by decide⟩ (fun M_8 p_8 => ?_)
  obtain ⟨w_8, I_8, o_8⟩ := p_8
  refine k_aload_n hx_g1 dL_isPulled_11 2 rfl ?_
  refine k_iconst hx_g1 dL_isPulled_12 ?_
  refine k_iald (v := ((rope σ.1 z).length)) hx_g1 dL_isPulled_13 hA_i1.2 (LAY_hi hA_i1.1) (by omega) (by decide) (w_8.1) ?_
  refine k_istore_n (ls' := [(0, vR g1 0), (1, vI z), (2, vR g1 i1), (3, vI ((rope σ.1 z).length))]) hx_g1 dL_isPulled_14 rfl rfl (by decide) ?_
  refine k_aload_n hx_g1 dL_isPulled_15 2 rfl ?_
  refine k_sv (rest := []) hx_g1 sL_41 dL_isPulled_16 (c_L_pull hA_i1 w_8 (by omega)) rfl rfl rfl ⟨rfl, rfl⟩ ⟨by decide, by decide⟩ (fun M_16 p_16 => ?_)
  obtain ⟨w_16, o_16⟩ := p_16
  have I_16 := I_8.hi hA_i1.1 o_16
  have hrl := red_len_le (rope σ.1 z)
  refine k_aload_n hx_g1 dL_isPulled_19 0 rfl ?_
  refine k_iload_n hx_g1 dL_isPulled_20 1 rfl ?_
  refine k_vi (rest := []) hx_g1 vL_69 dL_isPulled_21 (s_pull I_16 hz) n_0 L_0 rfl rfl rfl ⟨rfl, rfl⟩ ⟨by decide, by decide⟩ (fun z_21 M_21 p_21 => ?_)
  obtain ⟨rfl, ⟨σ1, I_21, hrp⟩, o_21⟩ := p_21
  have w_21 := w_16.same (o_21 i1 hA_i1.1)
  have hrz := hrp z hz
  rw [if_pos rfl] at hrz
  refine k_iload_n hx_g1 dL_isPulled_24 3 rfl ?_
  refine k_aload_n hx_g1 dL_isPulled_25 2 rfl ?_
  refine k_iconst hx_g1 dL_isPulled_26 ?_
  refine k_iald (v := ((red (rope σ.1 z)).length)) hx_g1 dL_isPulled_27 hA_i1.2 (LAY_hi hA_i1.1) (by omega) (by decide) (w_21.1) ?_
  refine k_isub hx_g1 dL_isPulled_28 ?_
  refine k_iconst hx_g1 dL_isPulled_29 ?_
  refine k_idiv hx_g1 dL_isPulled_30 (by omega) ?_
  refine k_icmp_ne hx_g1 dL_isPulled_31 (by omega) (fun h_31 => absurd h_31 (by omega)) (fun h_31 => ?_)
  refine k_aload_n hx_g1 dL_isPulled_34 0 rfl ?_
  refine k_iload_n hx_g1 dL_isPulled_35 1 rfl ?_
  refine k_aload_n hx_g1 dL_isPulled_36 2 rfl ?_
  refine k_si (rest := []) hx_g1 sL_62 dL_isPulled_37 (c_L_isWord I_21 hz hA_i1 (by rw [hrz]; omega) (by rw [hrz]; exact w_21)) rfl rfl rfl ⟨rfl, rfl⟩ ⟨by decide, by decide⟩ (fun z_37 M_37 p_37 => ?_)
  obtain ⟨rfl, I_37, o_37⟩ := p_37
  refine k_ifeq hx_g1 dL_isPulled_40 (by omega) (fun h_40 => absurd h_40 (by omega)) (fun h_40 => ?_)
  refine k_iconst hx_g1 dL_isPulled_43 ?_
  refine k_goto hx_g1 dL_isPulled_44 ?_
  refine k_za hx_g1 hr_g1 ⟨by decide, by decide⟩ dL_isPulled_48 (by first | exact Or.inl rfl | exact Or.inr rfl | exact b2i_or _) ?_
  exact ⟨rfl, σ1, I_37, CH.ok (M := M) h60 (by omega) hrp⟩
theorem c_L_isTurned {g : GE} {l : Launch} {M : Mem} {σ : Sg} (hI : Inv M σ) (h60 : OKN σ 60) {z : Int} (hz : 0 ≤ z ∧ z < 4) : Ca g l μL_isTurned 1 64 [vR g 0, vI z] M AO := by
  refine Ca.of (by decide +kernel) rfl rfl (fun x hx hr => ?_)
  have hl := h60 z hz
  refine k_bipush hx dL_isTurned_0 (by decide +kernel) ?_
  refine k_new64 (ls := fun q => [(0, rf q 0), (1, vI z)]) (st := fun q => []) hx dL_isTurned_2 ⟨by decide, by decide⟩ (fun g1 i1 M_2 hs_g1 hA_i1 ha_g1 ho_i1 => ?_)
  have hx_g1 := hx.sm hs_g1
  have hr_g1 := hr.sm hs_g1
  show K _ _ _ _ _ _ _ 4 [(0, vR g1 0), (1, vI z)] [vR g1 i1]
  have I_2 : Inv M_2 σ := hI.hi hA_i1.1 ho_i1
  refine k_astore_n (ls' := [(0, vR g1 0), (1, vI z), (2, vR g1 i1)]) hx_g1 dL_isTurned_4 rfl rfl (by decide) ?_
  refine k_aload_n hx_g1 dL_isTurned_5 0 rfl ?_
  refine k_iload_n hx_g1 dL_isTurned_6 1 rfl ?_
  refine k_aload_n hx_g1 dL_isTurned_7 2 rfl ?_
  refine k_sv (rest := []) hx_g1 sL_31 dL_isTurned_8 (c_L_read I_2 hz hA_i1 (by omega)) rfl rfl rfl ⟨rfl, rfl⟩ ⟨by decide, by decide⟩ (fun M_8 p_8 => ?_)
  obtain ⟨w_8, I_8, o_8⟩ := p_8
  refine k_aload_n hx_g1 dL_isTurned_11 2 rfl ?_
  refine k_sv (rest := []) hx_g1 sL_74 dL_isTurned_12 (c_L_turn hA_i1 w_8 (by omega)) rfl rfl rfl ⟨rfl, rfl⟩ ⟨by decide, by decide⟩ (fun M_12 p_12 => ?_)
  obtain ⟨w_12, o_12⟩ := p_12
  have I_12 := I_8.hi hA_i1.1 o_12
  have hrl := trn_len (rope σ.1 z)
  refine k_aload_n hx_g1 dL_isTurned_15 0 rfl ?_
  refine k_iload_n hx_g1 dL_isTurned_16 1 rfl ?_
  refine k_vi (rest := []) hx_g1 vL_77 dL_isTurned_17 (s_turn I_12 hz) n_0 L_0 rfl rfl rfl ⟨rfl, rfl⟩ ⟨by decide, by decide⟩ (fun z_17 M_17 p_17 => ?_)
  obtain ⟨rfl, ⟨σ1, I_17, hrp⟩, o_17⟩ := p_17
  have w_17 := w_12.same (o_17 i1 hA_i1.1)
  have hrz := hrp z hz
  rw [if_pos rfl] at hrz
  refine k_aload_n hx_g1 dL_isTurned_20 2 rfl ?_
  refine k_iconst hx_g1 dL_isTurned_21 ?_
  refine k_iald (v := ((rope σ.1 z).length)) hx_g1 dL_isTurned_22 hA_i1.2 (LAY_hi hA_i1.1) (by omega) (by decide) (by rw [w_17.1, hrl]) ?_
  refine k_icmp_ne hx_g1 dL_isTurned_23 (by omega) (fun h_23 => absurd h_23 (by omega)) (fun h_23 => ?_)
  refine k_aload_n hx_g1 dL_isTurned_26 0 rfl ?_
  refine k_iload_n hx_g1 dL_isTurned_27 1 rfl ?_
  refine k_aload_n hx_g1 dL_isTurned_28 2 rfl ?_
  refine k_si (rest := []) hx_g1 sL_62 dL_isTurned_29 (c_L_isWord I_17 hz hA_i1 (by rw [hrz]; omega) (by rw [hrz]; exact w_17)) rfl rfl rfl ⟨rfl, rfl⟩ ⟨by decide, by decide⟩ (fun z_29 M_29 p_29 => ?_)
  obtain ⟨rfl, I_29, o_29⟩ := p_29
  refine k_ifeq hx_g1 dL_isTurned_32 (by omega) (fun h_32 => absurd h_32 (by omega)) (fun h_32 => ?_)
  refine k_iconst hx_g1 dL_isTurned_35 ?_
  refine k_goto hx_g1 dL_isTurned_36 ?_
  refine k_za hx_g1 hr_g1 ⟨by decide, by decide⟩ dL_isTurned_40 (by first | exact Or.inl rfl | exact Or.inr rfl | exact b2i_or _) ?_
  exact ⟨rfl, σ1, I_29, CH.ok (M := M) h60 (by omega) hrp⟩
end
section
theorem c_L_isJoined {g : GE} {l : Launch} {M : Mem} {σ : Sg} (hI : Inv M σ) (h60 : OKN σ 60) {z : Int} (hz : 0 ≤ z ∧ z < 4) {y : Int} (hy : 0 ≤ y ∧ y < 4) : Ca g l μL_isJoined 2 128 [vR g 0, vI z, vI y] M AO := by
  refine Ca.of (by decide +kernel) rfl rfl (fun x hx hr => ?_)
  have hl := h60 z hz
  have hl2 := h60 y hy
  refine k_bipush hx dL_isJoined_0 (by decide +kernel) ?_
  refine k_new64 (ls := fun q => [(0, rf q 0), (1, vI z), (2, vI y)]) (st := fun q => []) hx dL_isJoined_2 ⟨by decide, by decide⟩ (fun g1 i1 M_2 hs_g1 hA_i1 ha_g1 ho_i1 => ?_)
  have hx_g1 := hx.sm hs_g1
  have hr_g1 := hr.sm hs_g1
  show K _ _ _ _ _ _ _ 4 [(0, vR g1 0), (1, vI z), (2, vI y)] [vR g1 i1]
  have I_2 : Inv M_2 σ := hI.hi hA_i1.1 ho_i1
  refine k_astore_n (ls' := [(0, vR g1 0), (1, vI z), (2, vI y), (3, vR g1 i1)]) hx_g1 dL_isJoined_4 rfl rfl (by decide) ?_
  refine k_bipush hx_g1 dL_isJoined_5 (by decide +kernel) ?_
  refine k_new64 (ls := fun q => [(0, rf q 0), (1, vI z), (2, vI y), (3, rf q i1)]) (st := fun q => []) hx_g1 dL_isJoined_7 ⟨by decide, by decide⟩ (fun g2 i2 M_7 hs_g2 hA_i2 ha_g2 ho_i2 => ?_)
  have hx_g2 := hx_g1.sm hs_g2
  have hr_g2 := hr_g1.sm hs_g2
  show K _ _ _ _ _ _ _ 9 [(0, vR g2 0), (1, vI z), (2, vI y), (3, vR g2 i1)] [vR g2 i2]
  have I_7 : Inv M_7 σ := I_2.hi hA_i2.1 ho_i2
  have hA1 := (ha_g2 _ hA_i1).1
  have hne : i1 ≠ i2 := (ha_g2 _ hA_i1).2
  refine k_astore (ls' := [(0, vR g2 0), (1, vI z), (2, vI y), (3, vR g2 i1), (4, vR g2 i2)]) hx_g2 dL_isJoined_9 rfl rfl (by decide) ?_
  refine k_aload_n hx_g2 dL_isJoined_11 0 rfl ?_
  refine k_iload_n hx_g2 dL_isJoined_12 1 rfl ?_
  refine k_aload_n hx_g2 dL_isJoined_13 3 rfl ?_
  refine k_sv (rest := []) hx_g2 sL_31 dL_isJoined_14 (c_L_read I_7 hz hA1 (by omega)) rfl rfl rfl ⟨rfl, rfl⟩ ⟨by decide, by decide⟩ (fun M_14 p_14 => ?_)
  obtain ⟨w_14, I_14, o_14⟩ := p_14
  refine k_aload_n hx_g2 dL_isJoined_17 0 rfl ?_
  refine k_iload_n hx_g2 dL_isJoined_18 2 rfl ?_
  refine k_aload hx_g2 dL_isJoined_19 4 rfl ?_
  refine k_sv (rest := []) hx_g2 sL_31 dL_isJoined_21 (c_L_read I_14 hy hA_i2 (by omega)) rfl rfl rfl ⟨rfl, rfl⟩ ⟨by decide, by decide⟩ (fun M_21 p_21 => ?_)
  obtain ⟨w_21, I_21, o_21⟩ := p_21
  have w1 : Wa M_21 i1 (rope σ.1 z) := w_14.same (o_21 i1 hA1.1 hne)
  refine k_aload_n hx_g2 dL_isJoined_24 3 rfl ?_
  refine k_iconst hx_g2 dL_isJoined_25 ?_
  refine k_iald (v := ((rope σ.1 z).length)) hx_g2 dL_isJoined_26 (ha_g2 _ hA_i1).1.2 (LAY_hi (ha_g2 _ hA_i1).1.1) (by omega) (by decide) (w1.1) ?_
  refine k_aload hx_g2 dL_isJoined_27 4 rfl ?_
  refine k_iconst hx_g2 dL_isJoined_29 ?_
  refine k_iald (v := ((rope σ.1 y).length)) hx_g2 dL_isJoined_30 hA_i2.2 (LAY_hi hA_i2.1) (by omega) (by decide) (w_21.1) ?_
  refine k_iadd hx_g2 dL_isJoined_31 ?_
  refine k_bipush hx_g2 dL_isJoined_32 (by decide +kernel) ?_
  refine k_icmp_le hx_g2 dL_isJoined_34 (by omega) (fun h_34 => ?_) (fun h_34 => ?_)
  · refine k_iconst hx_g2 dL_isJoined_39 ?_
    refine k_istore (ls' := [(0, vR g2 0), (1, vI z), (2, vI y), (3, vR g2 i1), (4, vR g2 i2), (5, vI 1)]) hx_g2 dL_isJoined_40 rfl rfl (by decide) ?_
    have loopA : ∀ (fA : Nat), ∀ (k : Nat) (q : Int) (MA : Mem), q = k + 1 → k ≤ (rope σ.1 y).length → (rope σ.1 y).length - k < fA → Wa MA i1 (rope σ.1 z ++ (rope σ.1 y).take k) → OA i1 M_21 MA → K x g2 2 128 LAY (NN g2) MA 42 [(0, vR g2 0), (1, vI z), (2, vI y), (3, vR g2 i1), (4, vR g2 i2), (5, vI q)] [] := by
      intro fA
      induction fA with
      | zero => intro k q MA hq hk hf hwa ho; omega
      | succ fA ihA =>
        intro k q MA hq hk hf hwa ho
        have w_s := w_21.same (ho i2 (Ne.symm hne))
        refine k_iload hx_g2 dL_isJoined_42 5 rfl ?_
        refine k_aload hx_g2 dL_isJoined_44 4 rfl ?_
        refine k_iconst hx_g2 dL_isJoined_46 ?_
        refine k_iald (v := ((rope σ.1 y).length)) hx_g2 dL_isJoined_47 hA_i2.2 (LAY_hi hA_i2.1) (by omega) (by decide) (w_s.1) ?_
        refine k_icmp_gt hx_g2 dL_isJoined_48 (by omega) (fun h_48 => ?_) (fun h_48 => ?_)
        · have hwe : Wa MA i1 (rope σ.1 z ++ rope σ.1 y) := by rw [List.take_of_length_le (by omega)] at hwa; exact hwa
          have hI2 := I_21.hi hA1.1 ho
          refine k_aload_n hx_g2 dL_isJoined_66 0 rfl ?_
          refine k_iload_n hx_g2 dL_isJoined_67 1 rfl ?_
          refine k_iload_n hx_g2 dL_isJoined_68 2 rfl ?_
          refine k_vi (rest := []) hx_g2 vL_71 dL_isJoined_69 (s_join hI2 hz hy (by omega)) n_0 L_0 rfl rfl rfl ⟨rfl, rfl⟩ ⟨by decide, by decide⟩ (fun z_69 M_69 p_69 => ?_)
          obtain ⟨rfl, ⟨σ1, I_69, hrp⟩, o_69⟩ := p_69
          have w_69 := hwe.same (o_69 i1 hA1.1)
          have hrz := hrp z hz
          rw [if_pos rfl] at hrz
          refine k_aload_n hx_g2 dL_isJoined_72 3 rfl ?_
          refine k_iconst hx_g2 dL_isJoined_73 ?_
          refine k_iald (v := ((rope σ.1 z).length + (rope σ.1 y).length)) hx_g2 dL_isJoined_74 hA1.2 (LAY_hi hA1.1) (by omega) (by decide) (by rw [w_69.1, List.length_append]; omega) ?_
          refine k_icmp_ne hx_g2 dL_isJoined_75 (by omega) (fun h_75 => absurd h_75 (by omega)) (fun h_75 => ?_)
          refine k_aload_n hx_g2 dL_isJoined_78 0 rfl ?_
          refine k_iload_n hx_g2 dL_isJoined_79 1 rfl ?_
          refine k_aload_n hx_g2 dL_isJoined_80 3 rfl ?_
          refine k_si (rest := []) hx_g2 sL_62 dL_isJoined_81 (c_L_isWord I_69 hz hA1 (by rw [hrz]; rw [List.length_append]; omega) (by rw [hrz]; exact w_69)) rfl rfl rfl ⟨rfl, rfl⟩ ⟨by decide, by decide⟩ (fun z_81 M_81 p_81 => ?_)
          obtain ⟨rfl, I_81, o_81⟩ := p_81
          refine k_ifeq hx_g2 dL_isJoined_84 (by omega) (fun h_84 => absurd h_84 (by omega)) (fun h_84 => ?_)
          refine k_iconst hx_g2 dL_isJoined_87 ?_
          refine k_goto hx_g2 dL_isJoined_88 ?_
          refine k_za hx_g2 hr_g2 ⟨by decide, by decide⟩ dL_isJoined_92 (by first | exact Or.inl rfl | exact Or.inr rfl | exact b2i_or _) ?_
          exact ⟨rfl, σ1, I_81, CH.ok (M := M) h60 (by rw [List.length_append]; omega) hrp⟩
        · have hc_s := at0_z w_s.2.2 (z := q - 1) (by omega) (by omega)
          refine k_aload_n hx_g2 dL_isJoined_51 3 rfl ?_
          refine k_aload hx_g2 dL_isJoined_52 4 rfl ?_
          refine k_iload hx_g2 dL_isJoined_54 5 rfl ?_
          refine k_iald (v := (at0 (rope σ.1 y) (q - 1))) hx_g2 dL_isJoined_56 hA_i2.2 (LAY_hi hA_i2.1) (by omega) (by decide) (w_s.2.1 _ (by omega) (by omega)) ?_
          refine k_sv (rest := []) hx_g2 sL_17 dL_isJoined_57 (c_L_add hA1 hwa (by simp only [List.length_append, List.length_take]; omega) hc_s) rfl rfl rfl ⟨rfl, rfl⟩ ⟨by decide, by decide⟩ (fun M_57 p_57 => ?_)
          obtain ⟨a_s, b_s⟩ := p_57
          rw [show q - 1 = (k : Int) by omega, List.append_assoc, take_at0 (by omega)] at a_s
          refine k_iinc (ls' := [(0, vR g2 0), (1, vI z), (2, vI y), (3, vR g2 i1), (4, vR g2 i2), (5, vI (q + 1))]) hx_g2 dL_isJoined_60 5 rfl rfl rfl (by decide) ?_
          refine k_goto hx_g2 dL_isJoined_63 ?_
          refine K.sub [0, 1, 2, 3, 4, 5] rfl ?_
          exact ihA (k + 1) (q + 1) M_57 (by omega) (by omega) (by omega) a_s (ho.tr b_s)
    exact loopA ((rope σ.1 y).length + 1) 0 1 M_21 rfl (by omega) (by omega) (by rw [List.take_zero, List.append_nil]; exact w1) OA.rf
  · refine k_iconst hx_g2 dL_isJoined_37 ?_
    refine k_za hx_g2 hr_g2 ⟨by decide, by decide⟩ dL_isJoined_38 (by first | exact Or.inl rfl | exact Or.inr rfl | exact b2i_or _) ?_
    exact ⟨rfl, σ, I_21, h60⟩
theorem c_L_isWoven0 {g : GE} {l : Launch} {M : Mem} {σ : Sg} (hI : Inv M σ) (h60 : OKN σ 60) {z : Int} (hz : 0 ≤ z ∧ z < 4) : Ca g l μL_isWoven 3 192 [vR g 0, vI z, vI z] M AO := by
  refine Ca.of (by decide +kernel) rfl rfl (fun x hx hr => ?_)
  refine k_iload_n hx dL_isWoven_0 1 rfl ?_
  refine k_iload_n hx dL_isWoven_1 2 rfl ?_
  refine k_icmp_ne hx dL_isWoven_2 (by omega) (fun h_2 => absurd h_2 (by omega)) (fun h_2 => ?_)
  refine k_aload_n hx dL_isWoven_5 0 rfl ?_
  refine k_iload_n hx dL_isWoven_6 1 rfl ?_
  refine k_iload_n hx dL_isWoven_7 2 rfl ?_
  refine k_vi (rest := []) hx vL_79 dL_isWoven_8 (s_weaveN hI hz) n_0 L_0 rfl rfl rfl ⟨rfl, rfl⟩ ⟨by decide, by decide⟩ (fun z_8 M_8 p_8 => ?_)
  obtain ⟨rfl, I_8, o_8⟩ := p_8
  refine k_iconst hx dL_isWoven_11 ?_
  refine k_icmp_ne hx dL_isWoven_12 (by omega) (fun h_12 => absurd h_12 (by omega)) (fun h_12 => ?_)
  refine k_iconst hx dL_isWoven_15 ?_
  refine k_goto hx dL_isWoven_16 ?_
  refine k_za hx hr ⟨by decide, by decide⟩ dL_isWoven_20 (by first | exact Or.inl rfl | exact Or.inr rfl | exact b2i_or _) ?_
  exact ⟨rfl, σ, I_8, h60⟩
theorem c_L_isWoven1 {g : GE} {l : Launch} {M : Mem} {σ : Sg} (hI : Inv M σ) (h60 : OKN σ 60) {z : Int} (hz : 0 ≤ z ∧ z < 4) {y : Int} (hy : 0 ≤ y ∧ y < 4) (hzy : z ≠ y) : Ca g l μL_isWoven 3 192 [vR g 0, vI z, vI y] M AO := by
  refine Ca.of (by decide +kernel) rfl rfl (fun x hx hr => ?_)
  have hl := h60 z hz
  have hl2 := h60 y hy
  refine k_iload_n hx dL_isWoven_0 1 rfl ?_
  refine k_iload_n hx dL_isWoven_1 2 rfl ?_
  refine k_icmp_ne hx dL_isWoven_2 (by omega) (fun h_2 => ?_) (fun h_2 => absurd h_2 (by omega))
  refine k_bipush hx dL_isWoven_21 (by decide +kernel) ?_
  refine k_new64 (ls := fun q => [(0, rf q 0), (1, vI z), (2, vI y)]) (st := fun q => []) hx dL_isWoven_23 ⟨by decide, by decide⟩ (fun g1 i1 M_23 hs_g1 hA_i1 ha_g1 ho_i1 => ?_)
  have hx_g1 := hx.sm hs_g1
  have hr_g1 := hr.sm hs_g1
  show K _ _ _ _ _ _ _ 25 [(0, vR g1 0), (1, vI z), (2, vI y)] [vR g1 i1]
  have I_23 : Inv M_23 σ := hI.hi hA_i1.1 ho_i1
  refine k_astore_n (ls' := [(0, vR g1 0), (1, vI z), (2, vI y), (3, vR g1 i1)]) hx_g1 dL_isWoven_25 rfl rfl (by decide) ?_
  refine k_bipush hx_g1 dL_isWoven_26 (by decide +kernel) ?_
  refine k_new64 (ls := fun q => [(0, rf q 0), (1, vI z), (2, vI y), (3, rf q i1)]) (st := fun q => []) hx_g1 dL_isWoven_28 ⟨by decide, by decide⟩ (fun g2 i2 M_28 hs_g2 hA_i2 ha_g2 ho_i2 => ?_)
  have hx_g2 := hx_g1.sm hs_g2
  have hr_g2 := hr_g1.sm hs_g2
  show K _ _ _ _ _ _ _ 30 [(0, vR g2 0), (1, vI z), (2, vI y), (3, vR g2 i1)] [vR g2 i2]
  have I_28 : Inv M_28 σ := I_23.hi hA_i2.1 ho_i2
  have h12 : i1 ≠ i2 := (ha_g2 _ hA_i1).2
  refine k_astore (ls' := [(0, vR g2 0), (1, vI z), (2, vI y), (3, vR g2 i1), (4, vR g2 i2)]) hx_g2 dL_isWoven_30 rfl rfl (by decide) ?_
  refine k_bipush hx_g2 dL_isWoven_32 (by decide +kernel) ?_
  refine k_new64 (ls := fun q => [(0, rf q 0), (1, vI z), (2, vI y), (3, rf q i1), (4, rf q i2)]) (st := fun q => []) hx_g2 dL_isWoven_34 ⟨by decide, by decide⟩ (fun g3 i3 M_34 hs_g3 hA_i3 ha_g3 ho_i3 => ?_)
  have hx_g3 := hx_g2.sm hs_g3
  have hr_g3 := hr_g2.sm hs_g3
  show K _ _ _ _ _ _ _ 36 [(0, vR g3 0), (1, vI z), (2, vI y), (3, vR g3 i1), (4, vR g3 i2)] [vR g3 i3]
  have I_34 : Inv M_34 σ := I_28.hi hA_i3.1 ho_i3
  have hA1 := (ha_g3 _ (ha_g2 _ hA_i1).1).1
  have hA2 := (ha_g3 _ hA_i2).1
  have h13 : i1 ≠ i3 := (ha_g3 _ (ha_g2 _ hA_i1).1).2
  have h23 : i2 ≠ i3 := (ha_g3 _ hA_i2).2
  refine k_astore (ls' := [(0, vR g3 0), (1, vI z), (2, vI y), (3, vR g3 i1), (4, vR g3 i2), (5, vR g3 i3)]) hx_g3 dL_isWoven_36 rfl rfl (by decide) ?_
  refine k_aload_n hx_g3 dL_isWoven_38 0 rfl ?_
  refine k_iload_n hx_g3 dL_isWoven_39 1 rfl ?_
  refine k_aload_n hx_g3 dL_isWoven_40 3 rfl ?_
  refine k_sv (rest := []) hx_g3 sL_31 dL_isWoven_41 (c_L_read I_34 hz hA1 (by omega)) rfl rfl rfl ⟨rfl, rfl⟩ ⟨by decide, by decide⟩ (fun M_41 p_41 => ?_)
  obtain ⟨w_41, I_41, o_41⟩ := p_41
  refine k_aload_n hx_g3 dL_isWoven_44 0 rfl ?_
  refine k_iload_n hx_g3 dL_isWoven_45 2 rfl ?_
  refine k_aload hx_g3 dL_isWoven_46 4 rfl ?_
  refine k_sv (rest := []) hx_g3 sL_31 dL_isWoven_48 (c_L_read I_41 hy hA2 (by omega)) rfl rfl rfl ⟨rfl, rfl⟩ ⟨by decide, by decide⟩ (fun M_48 p_48 => ?_)
  obtain ⟨w_48, I_48, o_48⟩ := p_48
  have w1a : Wa M_48 i1 (rope σ.1 z) := w_41.same (o_48 i1 hA1.1 h12)
  refine k_iconst hx_g3 dL_isWoven_51 ?_
  refine k_aload_n hx_g3 dL_isWoven_52 3 rfl ?_
  refine k_iconst hx_g3 dL_isWoven_53 ?_
  refine k_iald (v := ((rope σ.1 z).length)) hx_g3 dL_isWoven_54 (ha_g3 _ (ha_g2 _ hA_i1).1).1.2 (LAY_hi (ha_g3 _ (ha_g2 _ hA_i1).1).1.1) (by omega) (by decide) (w1a.1) ?_
  refine k_aload hx_g3 dL_isWoven_55 4 rfl ?_
  refine k_iconst hx_g3 dL_isWoven_57 ?_
  refine k_iald (v := ((rope σ.1 y).length)) hx_g3 dL_isWoven_58 (ha_g3 _ hA_i2).1.2 (LAY_hi (ha_g3 _ hA_i2).1.1) (by omega) (by decide) (w_48.1) ?_
  refine k_iadd hx_g3 dL_isWoven_59 ?_
  refine k_imul hx_g3 dL_isWoven_60 ?_
  refine k_bipush hx_g3 dL_isWoven_61 (by decide +kernel) ?_
  refine k_icmp_le hx_g3 dL_isWoven_63 (by omega) (fun h_63 => ?_) (fun h_63 => ?_)
  · refine k_aload_n hx_g3 dL_isWoven_68 3 rfl ?_
    refine k_aload hx_g3 dL_isWoven_69 5 rfl ?_
    refine k_sv (rest := []) hx_g3 sL_82 dL_isWoven_71 (c_L_copy hA1 w1a (by omega) hA_i3 h13) rfl rfl rfl ⟨rfl, rfl⟩ ⟨by decide, by decide⟩ (fun M_71 p_71 => ?_)
    obtain ⟨w_71, o_71⟩ := p_71
    have I_71 := I_48.hi hA_i3.1 o_71
    refine k_aload hx_g3 dL_isWoven_74 5 rfl ?_
    refine k_sv (rest := []) hx_g3 sL_74 dL_isWoven_76 (c_L_turn hA_i3 w_71 (by omega)) rfl rfl rfl ⟨rfl, rfl⟩ ⟨by decide, by decide⟩ (fun M_76 p_76 => ?_)
    obtain ⟨w_76, o_76⟩ := p_76
    have I_76 := I_71.hi hA_i3.1 o_76
    have w1 : Wa M_76 i1 (rope σ.1 z) := (w1a.same (o_71 i1 h13)).same (o_76 i1 h13)
    have w2 : Wa M_76 i2 (rope σ.1 y) := (w_48.same (o_71 i2 h23)).same (o_76 i2 h23)
    have htz := trn_len (rope σ.1 z)
    have hty := trn_len (rope σ.1 y)
    refine k_iconst hx_g3 dL_isWoven_79 ?_
    refine k_istore (ls' := [(0, vR g3 0), (1, vI z), (2, vI y), (3, vR g3 i1), (4, vR g3 i2), (5, vR g3 i3), (6, vI 1)]) hx_g3 dL_isWoven_80 rfl rfl (by decide) ?_
    have loopA : ∀ (fA : Nat), ∀ (k : Nat) (q : Int) (MA : Mem), q = k + 1 → k ≤ (rope σ.1 y).length → (rope σ.1 y).length - k < fA → Wa MA i1 (rope σ.1 z ++ (rope σ.1 y).take k) → OA i1 M_76 MA → K x g3 3 192 LAY (NN g3) MA 82 [(0, vR g3 0), (1, vI z), (2, vI y), (3, vR g3 i1), (4, vR g3 i2), (5, vR g3 i3), (6, vI q)] [] := by
      intro fA
      induction fA with
      | zero => intro k q MA hq hk hf hwa ho; omega
      | succ fA ihA =>
        intro k q MA hq hk hf hwa ho
        have w_s := w2.same (ho i2 (Ne.symm h12))
        refine k_iload hx_g3 dL_isWoven_82 6 rfl ?_
        refine k_aload hx_g3 dL_isWoven_84 4 rfl ?_
        refine k_iconst hx_g3 dL_isWoven_86 ?_
        refine k_iald (v := ((rope σ.1 y).length)) hx_g3 dL_isWoven_87 hA2.2 (LAY_hi hA2.1) (by omega) (by decide) (w_s.1) ?_
        refine k_icmp_gt hx_g3 dL_isWoven_88 (by omega) (fun h_88 => ?_) (fun h_88 => ?_)
        · have hwa2 : Wa MA i1 (rope σ.1 z ++ rope σ.1 y) := by rw [List.take_of_length_le (by omega)] at hwa; exact hwa
          have IA := I_76.hi hA1.1 ho
          have w3A := w_76.same (ho i3 (Ne.symm h13))
          have w2A := w2.same (ho i2 (Ne.symm h12))
          refine k_iconst hx_g3 dL_isWoven_106 ?_
          refine k_istore (ls' := [(0, vR g3 0), (1, vI z), (2, vI y), (3, vR g3 i1), (4, vR g3 i2), (5, vR g3 i3), (6, vI 1)]) hx_g3 dL_isWoven_107 rfl rfl (by decide) ?_
          refine K.sub [0, 1, 2, 3, 4, 5, 6] rfl ?_
          have loopB : ∀ (fB : Nat), ∀ (kB : Nat) (qB : Int) (MB : Mem), qB = kB + 1 → kB ≤ (trn (rope σ.1 z)).length → (trn (rope σ.1 z)).length - kB < fB → Wa MB i1 (rope σ.1 z ++ rope σ.1 y ++ (trn (rope σ.1 z)).take kB) → OA i1 MA MB → K x g3 3 192 LAY (NN g3) MB 109 [(0, vR g3 0), (1, vI z), (2, vI y), (3, vR g3 i1), (4, vR g3 i2), (5, vR g3 i3), (6, vI qB)] [] := by
            intro fB
            induction fB with
            | zero => intro kB qB MB hq hk hf hwa ho; omega
            | succ fB ihB =>
              intro kB qB MB hq hk hf hwa ho
              have w_s := w3A.same (ho i3 (Ne.symm h13))
              refine k_iload hx_g3 dL_isWoven_109 6 rfl ?_
              refine k_aload hx_g3 dL_isWoven_111 5 rfl ?_
              refine k_iconst hx_g3 dL_isWoven_113 ?_
              refine k_iald (v := ((trn (rope σ.1 z)).length)) hx_g3 dL_isWoven_114 hA_i3.2 (LAY_hi hA_i3.1) (by omega) (by decide) (w_s.1) ?_
              refine k_icmp_gt hx_g3 dL_isWoven_115 (by omega) (fun h_115 => ?_) (fun h_115 => ?_)
              · have hwe : Wa MB i1 (rope σ.1 z ++ rope σ.1 y ++ trn (rope σ.1 z)) := by rw [List.take_of_length_le (by omega)] at hwa; exact hwa
                have IB := IA.hi hA1.1 ho
                have w2B := w2A.same (ho i2 (Ne.symm h12))
                refine k_aload hx_g3 dL_isWoven_133 4 rfl ?_
                refine k_sv (rest := []) hx_g3 sL_74 dL_isWoven_135 (c_L_turn hA2 w2B (by omega)) rfl rfl rfl ⟨rfl, rfl⟩ ⟨by decide, by decide⟩ (fun M_135 p_135 => ?_)
                obtain ⟨w2t, o_135⟩ := p_135
                have IB2 := IB.hi hA2.1 o_135
                have w1c := hwe.same (o_135 i1 h12)
                refine k_iconst hx_g3 dL_isWoven_138 ?_
                refine k_istore (ls' := [(0, vR g3 0), (1, vI z), (2, vI y), (3, vR g3 i1), (4, vR g3 i2), (5, vR g3 i3), (6, vI 1)]) hx_g3 dL_isWoven_139 rfl rfl (by decide) ?_
                refine K.sub [0, 1, 2, 3, 4, 5, 6] rfl ?_
                have loopC : ∀ (fC : Nat), ∀ (kC : Nat) (qC : Int) (MC : Mem), qC = kC + 1 → kC ≤ (trn (rope σ.1 y)).length → (trn (rope σ.1 y)).length - kC < fC → Wa MC i1 (rope σ.1 z ++ rope σ.1 y ++ trn (rope σ.1 z) ++ (trn (rope σ.1 y)).take kC) → OA i1 M_135 MC → K x g3 3 192 LAY (NN g3) MC 141 [(0, vR g3 0), (1, vI z), (2, vI y), (3, vR g3 i1), (4, vR g3 i2), (5, vR g3 i3), (6, vI qC)] [] := by
                  intro fC
                  induction fC with
                  | zero => intro kC qC MC hq hk hf hwa ho; omega
                  | succ fC ihC =>
                    intro kC qC MC hq hk hf hwa ho
                    have w_s := w2t.same (ho i2 (Ne.symm h12))
                    refine k_iload hx_g3 dL_isWoven_141 6 rfl ?_
                    refine k_aload hx_g3 dL_isWoven_143 4 rfl ?_
                    refine k_iconst hx_g3 dL_isWoven_145 ?_
                    refine k_iald (v := ((trn (rope σ.1 y)).length)) hx_g3 dL_isWoven_146 hA2.2 (LAY_hi hA2.1) (by omega) (by decide) (w_s.1) ?_
                    refine k_icmp_gt hx_g3 dL_isWoven_147 (by omega) (fun h_147 => ?_) (fun h_147 => ?_)
                    · have hwe : Wa MC i1 (rope σ.1 z ++ rope σ.1 y ++ trn (rope σ.1 z) ++ trn (rope σ.1 y)) := by rw [List.take_of_length_le (by omega)] at hwa; exact hwa
                      have IC := IB2.hi hA1.1 ho
                      refine k_aload_n hx_g3 dL_isWoven_165 3 rfl ?_
                      refine k_sv (rest := []) hx_g3 sL_41 dL_isWoven_166 (c_L_pull hA1 hwe (by simp only [List.length_append]; omega)) rfl rfl rfl ⟨rfl, rfl⟩ ⟨by decide, by decide⟩ (fun M_166 p_166 => ?_)
                      obtain ⟨w_166, o_166⟩ := p_166
                      have I_166 := IC.hi hA1.1 o_166
                      have hwl := wv_len σ z y
                      refine k_aload_n hx_g3 dL_isWoven_169 0 rfl ?_
                      refine k_iload_n hx_g3 dL_isWoven_170 1 rfl ?_
                      refine k_iload_n hx_g3 dL_isWoven_171 2 rfl ?_
                      refine k_vi (rest := []) hx_g3 vL_79 dL_isWoven_172 (s_weave I_166 hz hy hzy (by omega)) n_0 L_0 rfl rfl rfl ⟨rfl, rfl⟩ ⟨by decide, by decide⟩ (fun z_172 M_172 p_172 => ?_)
                      obtain ⟨rfl, ⟨σ1, I_172, hrp⟩, o_172⟩ := p_172
                      have w_172 := w_166.same (o_172 i1 hA1.1)
                      have hrz := hrp z hz
                      rw [if_pos rfl] at hrz
                      refine k_aload_n hx_g3 dL_isWoven_175 3 rfl ?_
                      refine k_iconst hx_g3 dL_isWoven_176 ?_
                      refine k_iald (v := ((wv σ z y).length)) hx_g3 dL_isWoven_177 hA1.2 (LAY_hi hA1.1) (by omega) (by decide) (w_172.1) ?_
                      refine k_icmp_ne hx_g3 dL_isWoven_178 (by omega) (fun h_178 => absurd h_178 (by omega)) (fun h_178 => ?_)
                      refine k_aload_n hx_g3 dL_isWoven_181 0 rfl ?_
                      refine k_iload_n hx_g3 dL_isWoven_182 1 rfl ?_
                      refine k_aload_n hx_g3 dL_isWoven_183 3 rfl ?_
                      refine k_si (rest := []) hx_g3 sL_62 dL_isWoven_184 (c_L_isWord I_172 hz hA1 (by rw [hrz]; omega) (by rw [hrz]; exact w_172)) rfl rfl rfl ⟨rfl, rfl⟩ ⟨by decide, by decide⟩ (fun z_184 M_184 p_184 => ?_)
                      obtain ⟨rfl, I_184, o_184⟩ := p_184
                      refine k_ifeq hx_g3 dL_isWoven_187 (by omega) (fun h_187 => absurd h_187 (by omega)) (fun h_187 => ?_)
                      refine k_iconst hx_g3 dL_isWoven_190 ?_
                      refine k_goto hx_g3 dL_isWoven_191 ?_
                      refine k_za hx_g3 hr_g3 ⟨by decide, by decide⟩ dL_isWoven_195 (by first | exact Or.inl rfl | exact Or.inr rfl | exact b2i_or _) ?_
                      exact ⟨rfl, σ1, I_184, CH.ok (M := M) h60 (by omega) hrp⟩
                    · have hc_s := at0_z w_s.2.2 (z := qC - 1) (by omega) (by omega)
                      refine k_aload_n hx_g3 dL_isWoven_150 3 rfl ?_
                      refine k_aload hx_g3 dL_isWoven_151 4 rfl ?_
                      refine k_iload hx_g3 dL_isWoven_153 6 rfl ?_
                      refine k_iald (v := (at0 (trn (rope σ.1 y)) (qC - 1))) hx_g3 dL_isWoven_155 hA2.2 (LAY_hi hA2.1) (by omega) (by decide) (w_s.2.1 _ (by omega) (by omega)) ?_
                      refine k_sv (rest := []) hx_g3 sL_17 dL_isWoven_156 (c_L_add hA1 hwa (by simp only [List.length_append, List.length_take]; omega) hc_s) rfl rfl rfl ⟨rfl, rfl⟩ ⟨by decide, by decide⟩ (fun M_156 p_156 => ?_)
                      obtain ⟨a_s, b_s⟩ := p_156
                      rw [show qC - 1 = (kC : Int) by omega, List.append_assoc, take_at0 (by omega)] at a_s
                      refine k_iinc (ls' := [(0, vR g3 0), (1, vI z), (2, vI y), (3, vR g3 i1), (4, vR g3 i2), (5, vR g3 i3), (6, vI (qC + 1))]) hx_g3 dL_isWoven_159 6 rfl rfl rfl (by decide) ?_
                      refine k_goto hx_g3 dL_isWoven_162 ?_
                      refine K.sub [0, 1, 2, 3, 4, 5, 6] rfl ?_
                      exact ihC (kC + 1) (qC + 1) M_156 (by omega) (by omega) (by omega) a_s (ho.tr b_s)
                exact loopC ((trn (rope σ.1 y)).length + 1) 0 1 M_135 rfl (by omega) (by omega) (by rw [List.take_zero, List.append_nil]; exact w1c) OA.rf
              · have hc_s := at0_z w_s.2.2 (z := qB - 1) (by omega) (by omega)
                refine k_aload_n hx_g3 dL_isWoven_118 3 rfl ?_
                refine k_aload hx_g3 dL_isWoven_119 5 rfl ?_
                refine k_iload hx_g3 dL_isWoven_121 6 rfl ?_
                refine k_iald (v := (at0 (trn (rope σ.1 z)) (qB - 1))) hx_g3 dL_isWoven_123 hA_i3.2 (LAY_hi hA_i3.1) (by omega) (by decide) (w_s.2.1 _ (by omega) (by omega)) ?_
                refine k_sv (rest := []) hx_g3 sL_17 dL_isWoven_124 (c_L_add hA1 hwa (by simp only [List.length_append, List.length_take]; omega) hc_s) rfl rfl rfl ⟨rfl, rfl⟩ ⟨by decide, by decide⟩ (fun M_124 p_124 => ?_)
                obtain ⟨a_s, b_s⟩ := p_124
                rw [show qB - 1 = (kB : Int) by omega, List.append_assoc, take_at0 (by omega)] at a_s
                refine k_iinc (ls' := [(0, vR g3 0), (1, vI z), (2, vI y), (3, vR g3 i1), (4, vR g3 i2), (5, vR g3 i3), (6, vI (qB + 1))]) hx_g3 dL_isWoven_127 6 rfl rfl rfl (by decide) ?_
                refine k_goto hx_g3 dL_isWoven_130 ?_
                refine K.sub [0, 1, 2, 3, 4, 5, 6] rfl ?_
                exact ihB (kB + 1) (qB + 1) M_124 (by omega) (by omega) (by omega) a_s (ho.tr b_s)
          exact loopB ((trn (rope σ.1 z)).length + 1) 0 1 MA rfl (by omega) (by omega) (by rw [List.take_zero, List.append_nil]; exact hwa2) OA.rf
        · have hc_s := at0_z w_s.2.2 (z := q - 1) (by omega) (by omega)
          refine k_aload_n hx_g3 dL_isWoven_91 3 rfl ?_
          refine k_aload hx_g3 dL_isWoven_92 4 rfl ?_
          refine k_iload hx_g3 dL_isWoven_94 6 rfl ?_
          refine k_iald (v := (at0 (rope σ.1 y) (q - 1))) hx_g3 dL_isWoven_96 hA2.2 (LAY_hi hA2.1) (by omega) (by decide) (w_s.2.1 _ (by omega) (by omega)) ?_
          refine k_sv (rest := []) hx_g3 sL_17 dL_isWoven_97 (c_L_add hA1 hwa (by simp only [List.length_append, List.length_take]; omega) hc_s) rfl rfl rfl ⟨rfl, rfl⟩ ⟨by decide, by decide⟩ (fun M_97 p_97 => ?_)
          obtain ⟨a_s, b_s⟩ := p_97
          rw [show q - 1 = (k : Int) by omega, List.append_assoc, take_at0 (by omega)] at a_s
          refine k_iinc (ls' := [(0, vR g3 0), (1, vI z), (2, vI y), (3, vR g3 i1), (4, vR g3 i2), (5, vR g3 i3), (6, vI (q + 1))]) hx_g3 dL_isWoven_100 6 rfl rfl rfl (by decide) ?_
          refine k_goto hx_g3 dL_isWoven_103 ?_
          refine K.sub [0, 1, 2, 3, 4, 5, 6] rfl ?_
          exact ihA (k + 1) (q + 1) M_97 (by omega) (by omega) (by omega) a_s (ho.tr b_s)
    exact loopA ((rope σ.1 y).length + 1) 0 1 M_76 rfl (by omega) (by omega) (by rw [List.take_zero, List.append_nil]; exact w1) OA.rf
  · refine k_iconst hx_g3 dL_isWoven_66 ?_
    refine k_za hx_g3 hr_g3 ⟨by decide, by decide⟩ dL_isWoven_67 (by first | exact Or.inl rfl | exact Or.inr rfl | exact b2i_or _) ?_
    exact ⟨rfl, σ, I_48, h60⟩
theorem c_L_isWoven {g : GE} {l : Launch} {M : Mem} {σ : Sg} (hI : Inv M σ) (h60 : OKN σ 60) {z : Int} (hz : 0 ≤ z ∧ z < 4) {y : Int} (hy : 0 ≤ y ∧ y < 4) : Ca g l μL_isWoven 3 192 [vR g 0, vI z, vI y] M AO := by
  by_cases h : z = y
  · subst h; exact c_L_isWoven0 hI h60 hz
  · exact c_L_isWoven1 hI h60 hz hy h
def csR (σ : Sg) (p b : Int) : Nat → Int
  | 0 => 0
  | r + 1 => csR σ p b r + (swF p b (rope σ.1 r)).length
theorem csR_4 (σ : Sg) (p b : Int) : csR σ p b 4 = csw σ.1 p b := by
  unfold csw
  simp only [csR, rope, Int.toNat_natCast]
  omega
theorem csR_rg (σ : Sg) (p b : Int) (h : OKN σ 60) : ∀ r : Nat, r ≤ 4 → 0 ≤ csR σ p b r ∧ csR σ p b r ≤ 180 * r
  | 0, _ => by simp [csR]
  | r + 1, hr => by
    have h1 := csR_rg σ p b h r (by omega)
    have h2 := swF_len p b (rope σ.1 r)
    have h3 := h r (by omega)
    rw [csR]
    omega

theorem c_L_isSwapped {g : GE} {l : Launch} {M : Mem} {σ : Sg} (hI : Inv M σ) (h60 : OKN σ 60) {p b : Int} (hp : 0 ≤ p ∧ p < 5) (hb : 0 ≤ b ∧ b < 2) : Ca g l μL_isSwapped 3 192 [vR g 0, vI p, vI b] M AO := by
  refine Ca.of (by decide +kernel) rfl rfl (fun x hx hr => ?_)
  refine k_bipush hx dL_isSwapped_0 (by decide +kernel) ?_
  refine k_new64 (ls := fun q => [(0, rf q 0), (1, vI p), (2, vI b)]) (st := fun q => []) hx dL_isSwapped_2 ⟨by decide, by decide⟩ (fun g1 i1 M_2 hs_g1 hA_i1 ha_g1 ho_i1 => ?_)
  have hx_g1 := hx.sm hs_g1
  have hr_g1 := hr.sm hs_g1
  show K _ _ _ _ _ _ _ 4 [(0, vR g1 0), (1, vI p), (2, vI b)] [vR g1 i1]
  have I_2 : Inv M_2 σ := hI.hi hA_i1.1 ho_i1
  refine k_astore_n (ls' := [(0, vR g1 0), (1, vI p), (2, vI b), (3, vR g1 i1)]) hx_g1 dL_isSwapped_4 rfl rfl (by decide) ?_
  refine k_bipush hx_g1 dL_isSwapped_5 (by decide +kernel) ?_
  refine k_new64 (ls := fun q => [(0, rf q 0), (1, vI p), (2, vI b), (3, rf q i1)]) (st := fun q => []) hx_g1 dL_isSwapped_7 ⟨by decide, by decide⟩ (fun g2 i2 M_7 hs_g2 hA_i2 ha_g2 ho_i2 => ?_)
  have hx_g2 := hx_g1.sm hs_g2
  have hr_g2 := hr_g1.sm hs_g2
  show K _ _ _ _ _ _ _ 9 [(0, vR g2 0), (1, vI p), (2, vI b), (3, vR g2 i1)] [vR g2 i2]
  have I_7 : Inv M_7 σ := I_2.hi hA_i2.1 ho_i2
  have h12 : i1 ≠ i2 := (ha_g2 _ hA_i1).2
  refine k_astore (ls' := [(0, vR g2 0), (1, vI p), (2, vI b), (3, vR g2 i1), (4, vR g2 i2)]) hx_g2 dL_isSwapped_9 rfl rfl (by decide) ?_
  refine k_bipush hx_g2 dL_isSwapped_11 (by decide +kernel) ?_
  refine k_new64 (ls := fun q => [(0, rf q 0), (1, vI p), (2, vI b), (3, rf q i1), (4, rf q i2)]) (st := fun q => []) hx_g2 dL_isSwapped_13 ⟨by decide, by decide⟩ (fun g3 i3 M_13 hs_g3 hA_i3 ha_g3 ho_i3 => ?_)
  have hx_g3 := hx_g2.sm hs_g3
  have hr_g3 := hr_g2.sm hs_g3
  show K _ _ _ _ _ _ _ 15 [(0, vR g3 0), (1, vI p), (2, vI b), (3, vR g3 i1), (4, vR g3 i2)] [vR g3 i3]
  have I_13 : Inv M_13 σ := I_7.hi hA_i3.1 ho_i3
  have hA1 := (ha_g3 _ (ha_g2 _ hA_i1).1).1
  have hA2 := (ha_g3 _ hA_i2).1
  have h13 : i1 ≠ i3 := (ha_g3 _ (ha_g2 _ hA_i1).1).2
  have h23 : i2 ≠ i3 := (ha_g3 _ hA_i2).2
  refine k_astore (ls' := [(0, vR g3 0), (1, vI p), (2, vI b), (3, vR g3 i1), (4, vR g3 i2), (5, vR g3 i3)]) hx_g3 dL_isSwapped_15 rfl rfl (by decide) ?_
  refine k_iconst hx_g3 dL_isSwapped_17 ?_
  refine k_istore (ls' := [(0, vR g3 0), (1, vI p), (2, vI b), (3, vR g3 i1), (4, vR g3 i2), (5, vR g3 i3), (6, vI 0)]) hx_g3 dL_isSwapped_18 rfl rfl (by decide) ?_
  refine k_iconst hx_g3 dL_isSwapped_20 ?_
  refine k_istore (ls' := [(0, vR g3 0), (1, vI p), (2, vI b), (3, vR g3 i1), (4, vR g3 i2), (5, vR g3 i3), (6, vI 0), (7, vI 0)]) hx_g3 dL_isSwapped_21 rfl rfl (by decide) ?_
  have loop : ∀ (f : Nat), ∀ (r : Nat) (al q : Int) (M' : Mem), q = r → r ≤ 4 → 4 - r < f → al = csR σ p b r → (∀ u : Int, 0 ≤ u → u < r → (rope σ.1 u).length ≤ 20) → Inv M' σ → (0 < r → Wa M' i3 (swF p b (rope σ.1 0))) → K x g3 3 192 LAY (NN g3) M' 23 [(0, vR g3 0), (1, vI p), (2, vI b), (3, vR g3 i1), (4, vR g3 i2), (5, vR g3 i3), (6, vI al), (7, vI q)] [] := by
    intro f
    induction f with
    | zero => intro r al q M' hq hr hf hal h20 I' hw3; omega
    | succ f ih =>
      intro r al q M' hq hr hf hal h20 I' hw3
      have har := csR_rg σ p b h60 r hr
      have hlq : q < 4 → (rope σ.1 q).length ≤ 60 := fun e => h60 q (by omega)
      refine k_iload hx_g3 dL_isSwapped_23 7 rfl ?_
      refine k_iconst hx_g3 dL_isSwapped_25 ?_
      refine k_icmp_ge hx_g3 dL_isSwapped_26 (by omega) (fun h_26 => ?_) (fun h_26 => ?_)
      · refine k_aload_n hx_g3 dL_isSwapped_81 0 rfl ?_
        refine k_iload_n hx_g3 dL_isSwapped_82 1 rfl ?_
        refine k_iload_n hx_g3 dL_isSwapped_83 2 rfl ?_
        refine k_vi (rest := []) hx_g3 vL_90 dL_isSwapped_84 (q_ifSwapped I' hp hb) n_0 L_0 rfl rfl rfl ⟨rfl, rfl⟩ ⟨by decide, by decide⟩ (fun z_84 M_84 p_84 => ?_)
        obtain ⟨rfl, I_84, o_84⟩ := p_84
        have I_84 : Inv M_84 σ := I_84
        have h20' : OKN σ 20 := fun u hu => h20 u hu.1 (by omega)
        have hal2 : al = csw σ.1 p b := by rw [hal, show r = 4 by omega, csR_4]
        refine k_iload hx_g3 dL_isSwapped_87 6 rfl ?_
        refine k_icmp_ne hx_g3 dL_isSwapped_89 (by omega) (fun h_89 => absurd h_89 (by omega)) (fun h_89 => ?_)
        refine k_aload_n hx_g3 dL_isSwapped_92 0 rfl ?_
        refine k_iload_n hx_g3 dL_isSwapped_93 1 rfl ?_
        refine k_iload_n hx_g3 dL_isSwapped_94 2 rfl ?_
        refine k_vi (rest := []) hx_g3 vL_93 dL_isSwapped_95 (s_swap I_84 hp hb h20') n_0 L_0 rfl rfl rfl ⟨rfl, rfl⟩ ⟨by decide, by decide⟩ (fun z_95 M_95 p_95 => ?_)
        obtain ⟨rfl, ⟨σ1, I_95, hrp, hall⟩, o_95⟩ := p_95
        refine k_iload hx_g3 dL_isSwapped_98 6 rfl ?_
        refine k_icmp_ne hx_g3 dL_isSwapped_100 (by omega) (fun h_100 => absurd h_100 (by omega)) (fun h_100 => ?_)
        refine k_aload_n hx_g3 dL_isSwapped_103 0 rfl ?_
        refine k_bipush hx_g3 dL_isSwapped_104 (by decide +kernel) ?_
        refine k_vi (rest := []) hx_g3 vL_35 dL_isSwapped_106 (q_all I_95) n_0 L_0 rfl rfl rfl ⟨rfl, rfl⟩ ⟨by decide, by decide⟩ (fun z_106 M_106 p_106 => ?_)
        obtain ⟨rfl, I_106, o_106⟩ := p_106
        have I_106 : Inv M_106 σ1 := I_106
        rw [hall]
        have hr0 := hrp 0 (by decide)
        have hw0 := (((hw3 (by omega)).same (o_84 i3 hA_i3.1)).same (o_95 i3 hA_i3.1)).same (o_106 i3 hA_i3.1)
        have hs0 := swF_len p b (rope σ.1 0)
        have hs1 := h20' 0 (by decide)
        refine k_iload hx_g3 dL_isSwapped_109 6 rfl ?_
        refine k_icmp_ne hx_g3 dL_isSwapped_111 (by omega) (fun h_111 => absurd h_111 (by omega)) (fun h_111 => ?_)
        refine k_aload_n hx_g3 dL_isSwapped_114 0 rfl ?_
        refine k_iconst hx_g3 dL_isSwapped_115 ?_
        refine k_aload hx_g3 dL_isSwapped_116 5 rfl ?_
        refine k_si (rest := []) hx_g3 sL_62 dL_isSwapped_118 (c_L_isWord I_106 (z := 0) (by decide) hA_i3 (by rw [hr0]; omega) (by rw [hr0]; exact hw0)) rfl rfl rfl ⟨rfl, rfl⟩ ⟨by decide, by decide⟩ (fun z_118 M_118 p_118 => ?_)
        obtain ⟨rfl, I_118, o_118⟩ := p_118
        refine k_ifeq hx_g3 dL_isSwapped_121 (by omega) (fun h_121 => absurd h_121 (by omega)) (fun h_121 => ?_)
        refine k_iconst hx_g3 dL_isSwapped_124 ?_
        refine k_goto hx_g3 dL_isSwapped_125 ?_
        refine k_za hx_g3 hr_g3 ⟨by decide, by decide⟩ dL_isSwapped_129 (by first | exact Or.inl rfl | exact Or.inr rfl | exact b2i_or _) ?_
        exact ⟨rfl, σ1, I_118, fun u hu => by rw [hrp u hu]; have e1 := swF_len p b (rope σ.1 u); have e2 := h20' u hu; omega⟩
      · refine k_aload_n hx_g3 dL_isSwapped_29 0 rfl ?_
        refine k_iload hx_g3 dL_isSwapped_30 7 rfl ?_
        refine k_aload_n hx_g3 dL_isSwapped_32 3 rfl ?_
        refine k_sv (rest := []) hx_g3 sL_31 dL_isSwapped_33 (c_L_read I' (z := q) (by omega) hA1 (by omega)) rfl rfl rfl ⟨rfl, rfl⟩ ⟨by decide, by decide⟩ (fun M_33 p_33 => ?_)
        obtain ⟨w_33, I_33, o_33⟩ := p_33
        refine k_aload_n hx_g3 dL_isSwapped_36 3 rfl ?_
        refine k_iconst hx_g3 dL_isSwapped_37 ?_
        refine k_iald (v := ((rope σ.1 q).length)) hx_g3 dL_isSwapped_38 hA1.2 (LAY_hi hA1.1) (by omega) (by decide) (w_33.1) ?_
        refine k_bipush hx_g3 dL_isSwapped_39 (by decide +kernel) ?_
        refine k_icmp_le hx_g3 dL_isSwapped_41 (by omega) (fun h_41 => ?_) (fun h_41 => ?_)
        · refine k_aload_n hx_g3 dL_isSwapped_46 3 rfl ?_
          refine k_iload_n hx_g3 dL_isSwapped_47 1 rfl ?_
          refine k_iload_n hx_g3 dL_isSwapped_48 2 rfl ?_
          refine k_aload hx_g3 dL_isSwapped_49 4 rfl ?_
          refine k_sv (rest := []) hx_g3 sL_86 dL_isSwapped_51 (c_L_change hA1 w_33 (by omega) hA2 h12 hp hb) rfl rfl rfl ⟨rfl, rfl⟩ ⟨by decide, by decide⟩ (fun M_51 p_51 => ?_)
          obtain ⟨w_51, o_51⟩ := p_51
          have I_51 := I_33.hi hA2.1 o_51
          have hsl := swF_len p b (rope σ.1 q)
          refine k_iload hx_g3 dL_isSwapped_54 6 rfl ?_
          refine k_aload hx_g3 dL_isSwapped_56 4 rfl ?_
          refine k_iconst hx_g3 dL_isSwapped_58 ?_
          refine k_iald (v := ((swF p b (rope σ.1 q)).length)) hx_g3 dL_isSwapped_59 hA2.2 (LAY_hi hA2.1) (by omega) (by decide) (w_51.1) ?_
          refine k_iadd hx_g3 dL_isSwapped_60 ?_
          refine k_istore (ls' := [(0, vR g3 0), (1, vI p), (2, vI b), (3, vR g3 i1), (4, vR g3 i2), (5, vR g3 i3), (6, vI (al + ((swF p b (rope σ.1 q)).length))), (7, vI q)]) hx_g3 dL_isSwapped_61 rfl rfl (by decide) ?_
          refine k_iload hx_g3 dL_isSwapped_63 7 rfl ?_
          refine k_ifne hx_g3 dL_isSwapped_65 (by omega) (fun h_65 => ?_) (fun h_65 => ?_)
          · refine k_iinc (ls' := [(0, vR g3 0), (1, vI p), (2, vI b), (3, vR g3 i1), (4, vR g3 i2), (5, vR g3 i3), (6, vI (al + ((swF p b (rope σ.1 q)).length))), (7, vI (q + 1))]) hx_g3 dL_isSwapped_75 7 rfl rfl rfl (by decide) ?_
            refine k_goto hx_g3 dL_isSwapped_78 ?_
            refine K.sub [0, 1, 2, 3, 4, 5, 6, 7] rfl ?_
            refine ih (r + 1) (al + (swF p b (rope σ.1 q)).length) (q + 1) M_51 (by omega) (by omega) (by omega) (by rw [csR, hal, hq]) (fun u u0 u1 => ?_) I_51 (fun _ => ?_)
            · by_cases e : u = q
              · rw [e]; omega
              · exact h20 u u0 (by omega)
            · exact ((hw3 (by omega)).same (o_33 i3 hA_i3.1 (Ne.symm h13))).same (o_51 i3 (Ne.symm h23))
          · refine k_aload hx_g3 dL_isSwapped_68 4 rfl ?_
            refine k_aload hx_g3 dL_isSwapped_70 5 rfl ?_
            refine k_sv (rest := []) hx_g3 sL_82 dL_isSwapped_72 (c_L_copy hA2 w_51 (by omega) hA_i3 h23) rfl rfl rfl ⟨rfl, rfl⟩ ⟨by decide, by decide⟩ (fun M_72 p_72 => ?_)
            obtain ⟨w_72, o_72⟩ := p_72
            have I_72 := I_51.hi hA_i3.1 o_72
            refine k_iinc (ls' := [(0, vR g3 0), (1, vI p), (2, vI b), (3, vR g3 i1), (4, vR g3 i2), (5, vR g3 i3), (6, vI (al + ((swF p b (rope σ.1 q)).length))), (7, vI (q + 1))]) hx_g3 dL_isSwapped_75 7 rfl rfl rfl (by decide) ?_
            refine k_goto hx_g3 dL_isSwapped_78 ?_
            refine K.sub [0, 1, 2, 3, 4, 5, 6, 7] rfl ?_
            refine ih (r + 1) (al + (swF p b (rope σ.1 q)).length) (q + 1) M_72 (by omega) (by omega) (by omega) (by rw [csR, hal, hq]) (fun u u0 u1 => ?_) I_72 (fun _ => ?_)
            · by_cases e : u = q
              · rw [e]; omega
              · exact h20 u u0 (by omega)
            · have e : q = 0 := by omega
              rw [e] at w_72; exact w_72
        · refine k_iconst hx_g3 dL_isSwapped_44 ?_
          refine k_za hx_g3 hr_g3 ⟨by decide, by decide⟩ dL_isSwapped_45 (by first | exact Or.inl rfl | exact Or.inr rfl | exact b2i_or _) ?_
          exact ⟨rfl, σ, I_33, h60⟩
  exact loop 5 0 0 0 M_13 rfl (by omega) (by omega) rfl (fun u u0 u1 => by omega) I_13 (fun e => by omega)
end
section
/-! the law's least form -/
theorem rot_mod {t : List Int} {r k : Nat} (hr : r < t.length) (hk : k < t.length) : at0 t (((r : Int) + k) % (t.length : Int)) = at0 (rot t r) k := by
  rw [rot_at (Nat.le_of_lt hr) hk]
  have e : ((r : Int) + k) % (t.length : Int) = (((r + k) % t.length : Nat) : Int) := by rw [Int.natCast_emod, Int.natCast_add]
  rw [e]
  by_cases h : r + k < t.length
  · rw [if_pos h, Nat.mod_eq_of_lt h]
  · rw [if_neg h, Nat.mod_eq_sub_mod (by omega), Nat.mod_eq_of_lt (by omega)]
theorem sh_mod2 {t : List Int} {r k : Nat} : at0 t (((r : Int) + k) % (t.length : Int)) = at0 t ((r + k) % t.length : Nat) := by
  have e : ((r : Int) + k) % (t.length : Int) = (((r + k) % t.length : Nat) : Int) := by rw [Int.natCast_emod, Int.natCast_add]
  rw [e]
theorem lst_t {v : List Int} : lst v = least (tight (red v)) := rfl
theorem rot_eq {t u : List Int} {r : Nat} (hr : r ≤ t.length) (hu : u.length = t.length) (h : ∀ j : Nat, j < t.length → at0 (rot t r) j = at0 u j) : rot t r = u := by
  have hl := rot_len hr
  exact ext_at0 (by omega) (fun k hk => h k (by omega))
theorem pset_le (w : List Int) : 0 ≤ pset w ∧ pset w < 64 := bset_rg _ _ _ _ _ _

set_option maxHeartbeats 4000000 in
theorem c_L_isLeast {g : GE} {l : Launch} {M : Mem} {σ : Sg} (hI : Inv M σ) {z : Int} (hz : 0 ≤ z ∧ z < 4) {i : Nat} (hA : IsA g i) {t : List Int} (ht : t = tight (red (rope σ.1 z))) {a n : Int} (ha : 1 ≤ a) (hn : n = t.length) (han : a + n ≤ 64) (hw : ∀ k : Int, 0 ≤ k → k < n → M i (a + k) = at0 t k) : Ca g l μL_isLeast 1 64 [vR g 0, vI z, vR g i, vI a, vI n] M (fun y M' => y = 1 ∧ Inv M' σ) := by
  refine Ca.of (by decide +kernel) rfl rfl (fun x hx hr => ?_)
  obtain ⟨u, hu⟩ : ∃ u, u = least t := ⟨_, rfl⟩
  have hul : u = lst (rope σ.1 z) := by rw [hu, ht]
  have hulen : u.length = t.length := by rw [hu]; exact least_len t
  have htc : Cr t := by rw [ht]; exact tight_cr (red_cr (hI.1.rope hz).1.2.2)
  have huc : Cr u := by rw [hu]; exact least_cr htc
  have hsl0 := leastS_lt (w := t)
  refine k_aload_n hx dL_isLeast_0 0 rfl ?_
  refine k_iload_n hx dL_isLeast_1 1 rfl ?_
  refine k_iconst hx dL_isLeast_2 ?_
  refine k_vi (rest := []) hx vL_8 dL_isLeast_3 (q_of hI hz (k := 4) (by decide)) n_0 L_0 rfl rfl rfl ⟨rfl, rfl⟩ ⟨by decide, by decide⟩ (fun z_3 M_3 p_3 => ?_)
  obtain ⟨e_3, I_3, o_3⟩ := p_3
  have I_3 : Inv M_3 σ := I_3
  have e_3 : z_3 = t.length := by rw [e_3, ht]; rfl
  subst e_3
  refine k_iload hx dL_isLeast_6 4 rfl ?_
  refine k_icmp_ne hx dL_isLeast_8 (by omega) (fun h_8 => absurd h_8 (by omega)) (fun h_8 => ?_)
  refine k_aload_n hx dL_isLeast_11 0 rfl ?_
  refine k_iload_n hx dL_isLeast_12 1 rfl ?_
  refine k_iload hx dL_isLeast_13 4 rfl ?_
  refine k_vi (rest := []) hx vL_52 dL_isLeast_15 (q_least I_3 hz (k := n) (by omega)) n_0 L_0 rfl rfl rfl ⟨rfl, rfl⟩ ⟨by decide, by decide⟩ (fun z_15 M_15 p_15 => ?_)
  obtain ⟨e_15, I_15, o_15⟩ := p_15
  have I_15 : Inv M_15 σ := I_15
  have e_15 : z_15 = -1 := by rw [e_15]; show at0 (lst (rope σ.1 z)) n = -1; rw [← hul]; exact at0_out (by omega)
  subst e_15
  refine k_iconst hx dL_isLeast_18 ?_
  refine k_icmp_ne hx dL_isLeast_19 (by omega) (fun h_19 => absurd h_19 (by omega)) (fun h_19 => ?_)
  refine k_aload_n hx dL_isLeast_22 0 rfl ?_
  refine k_iload_n hx dL_isLeast_23 1 rfl ?_
  refine k_iconst hx dL_isLeast_24 ?_
  refine k_vi (rest := []) hx vL_52 dL_isLeast_25 (q_least I_15 hz (k := -1) (by omega)) n_0 L_0 rfl rfl rfl ⟨rfl, rfl⟩ ⟨by decide, by decide⟩ (fun z_25 M_25 p_25 => ?_)
  obtain ⟨e_25, I_25, o_25⟩ := p_25
  have I_25 : Inv M_25 σ := I_25
  have e_25 : z_25 = -1 := by rw [e_25]; show at0 (lst (rope σ.1 z)) (-1) = -1; exact at0_out (by omega)
  subst e_25
  refine k_iconst hx dL_isLeast_28 ?_
  refine k_icmp_eq hx dL_isLeast_29 (by omega) (fun h_29 => ?_) (fun h_29 => absurd h_29 (by omega))
  refine k_bipush hx dL_isLeast_34 (by decide +kernel) ?_
  refine k_new64 (ls := fun q => [(0, rf q 0), (1, vI z), (2, rf q i), (3, vI a), (4, vI n)]) (st := fun q => []) hx dL_isLeast_36 ⟨by decide, by decide⟩ (fun g1 i1 M_36 hs_g1 hA_i1 ha_g1 ho_i1 => ?_)
  have hx_g1 := hx.sm hs_g1
  have hr_g1 := hr.sm hs_g1
  show K _ _ _ _ _ _ _ 38 [(0, vR g1 0), (1, vI z), (2, vR g1 i), (3, vI a), (4, vI n)] [vR g1 i1]
  have hA1 := (ha_g1 _ hA).1
  have hne : i ≠ i1 := (ha_g1 _ hA).2
  have I_36 : Inv M_36 σ := I_25.hi hA_i1.1 ho_i1
  have o36 : ∀ b, 120 ≤ b → b ≠ i1 → M_36 b = M b := fun b hb hb2 => by rw [ho_i1 b hb2, o_25 b hb, o_15 b hb]; exact o_3 b hb
  refine k_astore (ls' := [(0, vR g1 0), (1, vI z), (2, vR g1 i), (3, vI a), (4, vI n), (5, vR g1 i1)]) hx_g1 dL_isLeast_38 rfl rfl (by decide) ?_
  refine k_iconst hx_g1 dL_isLeast_40 ?_
  refine k_istore (ls' := [(0, vR g1 0), (1, vI z), (2, vR g1 i), (3, vI a), (4, vI n), (5, vR g1 i1), (6, vI 0)]) hx_g1 dL_isLeast_41 rfl rfl (by decide) ?_
  have loop1 : ∀ (f1 : Nat), ∀ (k : Nat) (y : Int) (M' : Mem), y = k → k ≤ t.length → t.length - k < f1 → Inv M' σ → (∀ j : Int, 0 ≤ j → j < k → M' i1 j = at0 u j) → (∀ b, 120 ≤ b → b ≠ i1 → M' b = M b) → K x g1 1 64 LAY (NN g1) M' 43 [(0, vR g1 0), (1, vI z), (2, vR g1 i), (3, vI a), (4, vI n), (5, vR g1 i1), (6, vI y)] [] := by
    intro f1
    induction f1 with
    | zero => intro k y M' hy hk hf I' hfm ho; omega
    | succ f1 ih1 =>
      intro k y M' hy hk hf I' hfm ho
      refine k_iload hx_g1 dL_isLeast_43 6 rfl ?_
      refine k_iload hx_g1 dL_isLeast_45 4 rfl ?_
      refine k_icmp_ge hx_g1 dL_isLeast_47 (by omega) (fun h_47 => ?_) (fun h_47 => ?_)
      · obtain ⟨M1, hM1⟩ : ∃ m, m = M' := ⟨_, rfl⟩
        rw [← hM1]
        have hI1 : Inv M1 σ := by rw [hM1]; exact I'
        have hform : ∀ k : Int, 0 ≤ k → k < n → M1 i1 k = at0 u k := fun k k0 k1 => by rw [hM1]; exact hfm k k0 (by omega)
        have hwI : ∀ k : Int, 0 ≤ k → k < n → M1 i (a + k) = at0 t k := fun k k0 k1 => by rw [hM1, ho i hA1.1 hne]; exact hw k k0 k1
        have loop2 : ∀ (f : Nat), ∀ (r : Nat) (fz po pw q : Int), q = r → r ≤ t.length → t.length - r < f → (fz = 0 ∨ fz = 1) → ((n = 0 ∨ leastS t < r) → fz = 1) → po = pset (t.take r) → pw = shc t r → K x g1 1 64 LAY (NN g1) M1 98 [(0, vR g1 0), (1, vI z), (2, vR g1 i), (3, vI a), (4, vI n), (5, vR g1 i1), (6, vI fz), (7, vI po), (8, vI pw), (9, vI q)] [] := by
          intro f
          induction f with
          | zero => intro r fz po pw q hq hr hf hf01 hfd hpo hpw; omega
          | succ f ih =>
            intro r fz po pw q hq hr hf hf01 hfd hpo hpw
            have hpr0 := pset_le (t.take r)
            have hsl := shc_le t r
            refine k_iload hx_g1 dL_isLeast_98 9 rfl ?_
            refine k_iload hx_g1 dL_isLeast_100 4 rfl ?_
            refine k_icmp_ge hx_g1 dL_isLeast_102 (by omega) (fun h_102 => ?_) (fun h_102 => ?_)
            · refine k_iload hx_g1 dL_isLeast_287 6 rfl ?_
              refine k_ifeq hx_g1 dL_isLeast_289 (by omega) (fun h_289 => absurd h_289 (by have := hfd (by by_cases e : n = 0; exact Or.inl e; exact Or.inr (by rcases leastS_lt (w := t) with h | h <;> omega)); omega)) (fun h_289 => ?_)
              refine k_aload_n hx_g1 dL_isLeast_292 0 rfl ?_
              refine k_iload_n hx_g1 dL_isLeast_293 1 rfl ?_
              refine k_iconst hx_g1 dL_isLeast_294 ?_
              refine k_vi (rest := []) hx_g1 vL_8 dL_isLeast_295 (q_of hI1 hz (k := 5) (by decide)) n_0 L_0 rfl rfl rfl ⟨rfl, rfl⟩ ⟨by decide, by decide⟩ (fun z_295 M_295 p_295 => ?_)
              obtain ⟨e_295, I_295, o_295⟩ := p_295
              have I_295 : Inv M_295 σ := I_295
              have e_295 : z_295 = power t := by rw [e_295, ht]; rfl
              subst e_295
              have hpt : pw = power t := by rw [hpw, show r = t.length by omega, shc_power]
              have hpl : power t ≤ t.length + 1 := by rw [← shc_power]; exact shc_le t t.length
              refine k_iload hx_g1 dL_isLeast_298 8 rfl ?_
              refine k_icmp_ne hx_g1 dL_isLeast_300 (by omega) (fun h_300 => absurd h_300 (by omega)) (fun h_300 => ?_)
              refine k_aload_n hx_g1 dL_isLeast_303 0 rfl ?_
              refine k_iload_n hx_g1 dL_isLeast_304 1 rfl ?_
              refine k_bipush hx_g1 dL_isLeast_305 (by decide +kernel) ?_
              refine k_vi (rest := []) hx_g1 vL_8 dL_isLeast_307 (q_of I_295 hz (k := 6) (by decide)) n_0 L_0 rfl rfl rfl ⟨rfl, rfl⟩ ⟨by decide, by decide⟩ (fun z_307 M_307 p_307 => ?_)
              obtain ⟨e_307, I_307, o_307⟩ := p_307
              have I_307 : Inv M_307 σ := I_307
              have e_307 : z_307 = pset t := by rw [e_307, ht]; rfl
              subst e_307
              have hpt2 : po = pset t := by rw [hpo, List.take_of_length_le (by omega)]
              have hpr := pset_le t
              refine k_iload hx_g1 dL_isLeast_310 7 rfl ?_
              refine k_icmp_ne hx_g1 dL_isLeast_312 (by omega) (fun h_312 => absurd h_312 (by omega)) (fun h_312 => ?_)
              refine k_iconst hx_g1 dL_isLeast_315 ?_
              refine k_goto hx_g1 dL_isLeast_316 ?_
              refine k_za hx_g1 hr_g1 ⟨by decide, by decide⟩ dL_isLeast_320 (by first | exact Or.inl rfl | exact Or.inr rfl | exact b2i_or _) ?_
              exact ⟨rfl, I_307⟩
            · have hrl : (rot t r).length = t.length := rot_len (by omega)
              have hc0 := op_cr htc (k := r) (by omega)
              have hqr : at0 t q = at0 t r := by rw [hq]
              have hmn := least_min (w := t) (j := r) (by omega)
              have hps : zI (pset (t.take r)) ||| (zI 1 <<< (zI (pst (at0 t q)) &&& 31)) = zI (pset (t.take (r + 1))) := by
                rw [hqr, pset_snoc hc0, take_at0 (by omega)]
              have h6 := mod6 hc0
              rw [← hqr] at h6 hc0
              have j205 : ∀ (fz : Int), (fz = 0 ∨ fz = 1) → ((n = 0 ∨ leastS t < r + 1) → fz = 1) → ∀ (k10 : Int), K x g1 1 64 LAY (NN g1) M1 205 [(0, vR g1 0), (1, vI z), (2, vR g1 i), (3, vI a), (4, vI n), (5, vR g1 i1), (6, vI fz), (7, vI (pset (t.take (r + 1)))), (8, vI pw), (9, vI q), (10, vI k10)] [] := by
                intro fz hf01 hfd k10
                have loopB : ∀ (fB : Nat), ∀ (sn : Nat) (bz s : Int), s = sn → sn ≤ t.length → t.length - sn < fB → ((bz = 1 ∧ 0 < r ∧ ∀ j : Nat, j < sn → at0 t j = at0 t ((r + j) % t.length : Nat)) ∨ (bz = 0 ∧ ¬ (0 < r ∧ Sh t r))) → K x g1 1 64 LAY (NN g1) M1 220 [(0, vR g1 0), (1, vI z), (2, vR g1 i), (3, vI a), (4, vI n), (5, vR g1 i1), (6, vI fz), (7, vI (pset (t.take (r + 1)))), (8, vI pw), (9, vI q), (11, vI bz), (12, vI s)] [] := by
                  intro fB
                  induction fB with
                  | zero => intro sn bz s hs hk hf hb; omega
                  | succ fB ihB =>
                    intro sn bz s hs hk hf hb
                    have hbz : bz = 0 ∨ bz = 1 := by omega
                    refine k_iload hx_g1 dL_isLeast_220 11 rfl ?_
                    refine k_iload hx_g1 dL_isLeast_222 4 rfl ?_
                    refine k_icmp_ge hx_g1 dL_isLeast_224 (by omega) (fun h_224 => ?_) (fun h_224 => ?_)
                    · refine k_iload hx_g1 dL_isLeast_266 8 rfl ?_
                      refine k_iload hx_g1 dL_isLeast_268 10 rfl ?_
                      refine k_ifeq hx_g1 dL_isLeast_270 (by omega) (fun h_270 => ?_) (fun h_270 => ?_)
                      · have hnot : ¬ (0 < r ∧ Sh t r) := by
                          rcases hb with ⟨e, -, -⟩ | ⟨-, e⟩
                          · omega
                          · exact e
                        refine k_iconst hx_g1 dL_isLeast_277 ?_
                        refine k_iadd hx_g1 dL_isLeast_278 ?_
                        refine k_istore (ls' := [(0, vR g1 0), (1, vI z), (2, vR g1 i), (3, vI a), (4, vI n), (5, vR g1 i1), (6, vI fz), (7, vI (pset (t.take (r + 1)))), (8, vI (pw + 0)), (9, vI q), (11, vI bz), (12, vI s)]) hx_g1 dL_isLeast_279 rfl rfl (by decide) ?_
                        refine k_iinc (ls' := [(0, vR g1 0), (1, vI z), (2, vR g1 i), (3, vI a), (4, vI n), (5, vR g1 i1), (6, vI fz), (7, vI (pset (t.take (r + 1)))), (8, vI (pw + 0)), (9, vI (q + 1)), (11, vI bz), (12, vI s)]) hx_g1 dL_isLeast_281 9 rfl rfl rfl (by decide) ?_
                        refine k_goto hx_g1 dL_isLeast_284 ?_
                        refine K.sub [0, 1, 2, 3, 4, 5, 6, 7, 8, 9] rfl ?_
                        exact ih (r + 1) fz (pset (t.take (r + 1))) (pw + 0) (q + 1) (by omega) (by omega) (by omega) hf01 (fun hh => hfd (by omega)) rfl (by rw [shc, hpw, if_neg hnot]; omega)
                      · have hsame : 0 < r ∧ Sh t r := by
                          rcases hb with ⟨-, e1, e2⟩ | ⟨e, -⟩
                          · exact ⟨e1, fun j hj => e2 j (by omega)⟩
                          · omega
                        refine k_iconst hx_g1 dL_isLeast_273 ?_
                        refine k_goto hx_g1 dL_isLeast_274 ?_
                        refine k_iadd hx_g1 dL_isLeast_278 ?_
                        refine k_istore (ls' := [(0, vR g1 0), (1, vI z), (2, vR g1 i), (3, vI a), (4, vI n), (5, vR g1 i1), (6, vI fz), (7, vI (pset (t.take (r + 1)))), (8, vI (pw + 1)), (9, vI q), (11, vI bz), (12, vI s)]) hx_g1 dL_isLeast_279 rfl rfl (by decide) ?_
                        refine k_iinc (ls' := [(0, vR g1 0), (1, vI z), (2, vR g1 i), (3, vI a), (4, vI n), (5, vR g1 i1), (6, vI fz), (7, vI (pset (t.take (r + 1)))), (8, vI (pw + 1)), (9, vI (q + 1)), (11, vI bz), (12, vI s)]) hx_g1 dL_isLeast_281 9 rfl rfl rfl (by decide) ?_
                        refine k_goto hx_g1 dL_isLeast_284 ?_
                        refine K.sub [0, 1, 2, 3, 4, 5, 6, 7, 8, 9] rfl ?_
                        exact ih (r + 1) fz (pset (t.take (r + 1))) (pw + 1) (q + 1) (by omega) (by omega) (by omega) hf01 (fun hh => hfd (by omega)) rfl (by rw [shc, hpw, if_pos hsame]; omega)
                    · refine k_iload hx_g1 dL_isLeast_227 10 rfl ?_
                      refine k_ifeq hx_g1 dL_isLeast_229 (by omega) (fun h_229 => ?_) (fun h_229 => ?_)
                      · have hnot : ¬ (0 < r ∧ Sh t r) := by
                          rcases hb with ⟨e, -, -⟩ | ⟨-, e⟩
                          · omega
                          · exact e
                        refine k_iload hx_g1 dL_isLeast_266 8 rfl ?_
                        refine k_iload hx_g1 dL_isLeast_268 10 rfl ?_
                        refine k_ifeq hx_g1 dL_isLeast_270 (by omega) (fun h_270 => ?_) (fun h_270 => ?_)
                        · have hnot : ¬ (0 < r ∧ Sh t r) := by
                            rcases hb with ⟨e, -, -⟩ | ⟨-, e⟩
                            · omega
                            · exact e
                          refine k_iconst hx_g1 dL_isLeast_277 ?_
                          refine k_iadd hx_g1 dL_isLeast_278 ?_
                          refine k_istore (ls' := [(0, vR g1 0), (1, vI z), (2, vR g1 i), (3, vI a), (4, vI n), (5, vR g1 i1), (6, vI fz), (7, vI (pset (t.take (r + 1)))), (8, vI (pw + 0)), (9, vI q), (11, vI bz), (12, vI s)]) hx_g1 dL_isLeast_279 rfl rfl (by decide) ?_
                          refine k_iinc (ls' := [(0, vR g1 0), (1, vI z), (2, vR g1 i), (3, vI a), (4, vI n), (5, vR g1 i1), (6, vI fz), (7, vI (pset (t.take (r + 1)))), (8, vI (pw + 0)), (9, vI (q + 1)), (11, vI bz), (12, vI s)]) hx_g1 dL_isLeast_281 9 rfl rfl rfl (by decide) ?_
                          refine k_goto hx_g1 dL_isLeast_284 ?_
                          refine K.sub [0, 1, 2, 3, 4, 5, 6, 7, 8, 9] rfl ?_
                          exact ih (r + 1) fz (pset (t.take (r + 1))) (pw + 0) (q + 1) (by omega) (by omega) (by omega) hf01 (fun hh => hfd (by omega)) rfl (by rw [shc, hpw, if_neg hnot]; omega)
                        · have hsame : 0 < r ∧ Sh t r := by
                            rcases hb with ⟨-, e1, e2⟩ | ⟨e, -⟩
                            · exact ⟨e1, fun j hj => e2 j (by omega)⟩
                            · omega
                          refine k_iconst hx_g1 dL_isLeast_273 ?_
                          refine k_goto hx_g1 dL_isLeast_274 ?_
                          refine k_iadd hx_g1 dL_isLeast_278 ?_
                          refine k_istore (ls' := [(0, vR g1 0), (1, vI z), (2, vR g1 i), (3, vI a), (4, vI n), (5, vR g1 i1), (6, vI fz), (7, vI (pset (t.take (r + 1)))), (8, vI (pw + 1)), (9, vI q), (11, vI bz), (12, vI s)]) hx_g1 dL_isLeast_279 rfl rfl (by decide) ?_
                          refine k_iinc (ls' := [(0, vR g1 0), (1, vI z), (2, vR g1 i), (3, vI a), (4, vI n), (5, vR g1 i1), (6, vI fz), (7, vI (pset (t.take (r + 1)))), (8, vI (pw + 1)), (9, vI (q + 1)), (11, vI bz), (12, vI s)]) hx_g1 dL_isLeast_281 9 rfl rfl rfl (by decide) ?_
                          refine k_goto hx_g1 dL_isLeast_284 ?_
                          refine K.sub [0, 1, 2, 3, 4, 5, 6, 7, 8, 9] rfl ?_
                          exact ih (r + 1) fz (pset (t.take (r + 1))) (pw + 1) (q + 1) (by omega) (by omega) (by omega) hf01 (fun hh => hfd (by omega)) rfl (by rw [shc, hpw, if_pos hsame]; omega)
                      · obtain ⟨hr0, hall⟩ : 0 < r ∧ ∀ j : Nat, j < sn → at0 t j = at0 t ((r + j) % t.length : Nat) := by
                          rcases hb with ⟨-, e1, e2⟩ | ⟨e, -⟩
                          · exact ⟨e1, e2⟩
                          · omega
                        have cA := at0_z htc (z := s) (by omega) (by omega)
                        have cB := at0_z htc (z := (q + s) % n) (Int.emod_nonneg _ (by omega)) (by have := Int.emod_lt_of_pos (q + s) (show 0 < n by omega); omega)
                        have m0 := Int.emod_nonneg (q + s) (show n ≠ 0 by omega)
                        have m1 := Int.emod_lt_of_pos (q + s) (show 0 < n by omega)
                        refine k_aload_n hx_g1 dL_isLeast_232 2 rfl ?_
                        refine k_iload_n hx_g1 dL_isLeast_233 3 rfl ?_
                        refine k_iload hx_g1 dL_isLeast_234 11 rfl ?_
                        refine k_iadd hx_g1 dL_isLeast_236 ?_
                        
                        refine k_iald (v := (at0 t (s : Int))) hx_g1 dL_isLeast_237 hA1.2 (LAY_hi hA1.1) (by omega) (by decide) (hwI s (by omega) (by omega)) ?_
                        refine k_aload_n hx_g1 dL_isLeast_238 2 rfl ?_
                        refine k_iload_n hx_g1 dL_isLeast_239 3 rfl ?_
                        refine k_iload hx_g1 dL_isLeast_240 9 rfl ?_
                        refine k_iload hx_g1 dL_isLeast_242 11 rfl ?_
                        refine k_iadd hx_g1 dL_isLeast_244 ?_
                        refine k_iload hx_g1 dL_isLeast_245 4 rfl ?_
                        refine k_irem hx_g1 dL_isLeast_247 (by omega) ?_
                        refine k_iadd hx_g1 dL_isLeast_248 ?_
                        refine k_iald (v := (at0 t ((q + s) % n))) hx_g1 dL_isLeast_249 hA1.2 (LAY_hi hA1.1) (by omega) (by decide) (hwI _ (Int.emod_nonneg _ (by omega)) (Int.emod_lt_of_pos _ (by omega))) ?_
                        refine k_icmp_ne hx_g1 dL_isLeast_250 (by omega) (fun h_250 => ?_) (fun h_250 => ?_)
                        · refine k_iconst hx_g1 dL_isLeast_257 ?_
                          refine k_istore (ls' := [(0, vR g1 0), (1, vI z), (2, vR g1 i), (3, vI a), (4, vI n), (5, vR g1 i1), (6, vI fz), (7, vI (pset (t.take (r + 1)))), (8, vI pw), (9, vI q), (11, vI 0), (12, vI s)]) hx_g1 dL_isLeast_258 rfl rfl (by decide) ?_
                          refine k_iinc (ls' := [(0, vR g1 0), (1, vI z), (2, vR g1 i), (3, vI a), (4, vI n), (5, vR g1 i1), (6, vI fz), (7, vI (pset (t.take (r + 1)))), (8, vI pw), (9, vI q), (11, vI 0), (12, vI (s + 1))]) hx_g1 dL_isLeast_260 11 rfl rfl rfl (by decide) ?_
                          refine k_goto hx_g1 dL_isLeast_263 ?_
                          refine K.sub [0, 1, 2, 3, 4, 5, 6, 7, 8, 9, 10, 11] rfl ?_
                          exact ihB (sn + 1) 0 (s + 1) (by omega) (by omega) (by omega) (Or.inr ⟨rfl, fun hh => h_250 (by have e1 := hh.2 sn (by omega); rw [hs, hq, hn, sh_mod2]; exact e1)⟩)
                        · refine k_iconst hx_g1 dL_isLeast_253 ?_
                          refine k_goto hx_g1 dL_isLeast_254 ?_
                          refine k_istore (ls' := [(0, vR g1 0), (1, vI z), (2, vR g1 i), (3, vI a), (4, vI n), (5, vR g1 i1), (6, vI fz), (7, vI (pset (t.take (r + 1)))), (8, vI pw), (9, vI q), (11, vI 1), (12, vI s)]) hx_g1 dL_isLeast_258 rfl rfl (by decide) ?_
                          refine k_iinc (ls' := [(0, vR g1 0), (1, vI z), (2, vR g1 i), (3, vI a), (4, vI n), (5, vR g1 i1), (6, vI fz), (7, vI (pset (t.take (r + 1)))), (8, vI pw), (9, vI q), (11, vI 1), (12, vI (s + 1))]) hx_g1 dL_isLeast_260 11 rfl rfl rfl (by decide) ?_
                          refine k_goto hx_g1 dL_isLeast_263 ?_
                          refine K.sub [0, 1, 2, 3, 4, 5, 6, 7, 8, 9, 10, 11] rfl ?_
                          exact ihB (sn + 1) 1 (s + 1) (by omega) (by omega) (by omega) (Or.inl ⟨rfl, hr0, fun j hj => by
                            by_cases e : j = sn
                            · subst e; rw [hs, hq, hn, sh_mod2] at h_250; omega
                            · exact hall j (by omega)⟩)
                refine k_iload hx_g1 dL_isLeast_205 9 rfl ?_
                refine k_ifle hx_g1 dL_isLeast_207 (by omega) (fun h_207 => ?_) (fun h_207 => ?_)
                · refine k_iconst hx_g1 dL_isLeast_214 ?_
                  refine k_istore (ls' := [(0, vR g1 0), (1, vI z), (2, vR g1 i), (3, vI a), (4, vI n), (5, vR g1 i1), (6, vI fz), (7, vI (pset (t.take (r + 1)))), (8, vI pw), (9, vI q), (10, vI k10), (11, vI 0)]) hx_g1 dL_isLeast_215 rfl rfl (by decide) ?_
                  refine k_iconst hx_g1 dL_isLeast_217 ?_
                  refine k_istore (ls' := [(0, vR g1 0), (1, vI z), (2, vR g1 i), (3, vI a), (4, vI n), (5, vR g1 i1), (6, vI fz), (7, vI (pset (t.take (r + 1)))), (8, vI pw), (9, vI q), (10, vI k10), (11, vI 0), (12, vI 0)]) hx_g1 dL_isLeast_218 rfl rfl (by decide) ?_
                  refine K.sub [0, 1, 2, 3, 4, 5, 6, 7, 8, 9, 11, 12] rfl ?_
                  exact loopB (t.length + 1) 0 0 0 rfl (by omega) (by omega) (Or.inr ⟨rfl, fun hh => by omega⟩)
                · refine k_iconst hx_g1 dL_isLeast_210 ?_
                  refine k_goto hx_g1 dL_isLeast_211 ?_
                  refine k_istore (ls' := [(0, vR g1 0), (1, vI z), (2, vR g1 i), (3, vI a), (4, vI n), (5, vR g1 i1), (6, vI fz), (7, vI (pset (t.take (r + 1)))), (8, vI pw), (9, vI q), (10, vI k10), (11, vI 1)]) hx_g1 dL_isLeast_215 rfl rfl (by decide) ?_
                  refine k_iconst hx_g1 dL_isLeast_217 ?_
                  refine k_istore (ls' := [(0, vR g1 0), (1, vI z), (2, vR g1 i), (3, vI a), (4, vI n), (5, vR g1 i1), (6, vI fz), (7, vI (pset (t.take (r + 1)))), (8, vI pw), (9, vI q), (10, vI k10), (11, vI 1), (12, vI 0)]) hx_g1 dL_isLeast_218 rfl rfl (by decide) ?_
                  refine K.sub [0, 1, 2, 3, 4, 5, 6, 7, 8, 9, 11, 12] rfl ?_
                  exact loopB (t.length + 1) 0 1 0 rfl (by omega) (by omega) (Or.inl ⟨rfl, by omega, fun j hj => by omega⟩)
              have j157 : ∀ (k : Nat) (k10 : Int), k10 = k → k ≤ t.length → (∀ j : Nat, j < k → at0 (rot t r) j = at0 u j) → (k < t.length → at0 (rot t r) k ≠ at0 u k) → lexLt ((rot t r).drop k) (u.drop k) = false → K x g1 1 64 LAY (NN g1) M1 157 [(0, vR g1 0), (1, vI z), (2, vR g1 i), (3, vI a), (4, vI n), (5, vR g1 i1), (6, vI fz), (7, vI (pset (t.take (r + 1)))), (8, vI pw), (9, vI q), (10, vI k10)] [] := by
                intro k k10 hk10 hk hall hdiff hlex
                have hge : k10 < n → at0 u k10 ≤ at0 t ((q + k10) % n) := fun e => by
                  have st := lexLt_step (u := rot t r) (v := u) (k := k) (by omega) (by omega)
                  rw [hlex, if_neg (hdiff (by omega))] at st
                  have st2 := of_decide_eq_false st.symm
                  rw [hq, hk10, hn, rot_mod (by omega) (by omega)]
                  omega
                have hfnd : (n = 0 ∨ leastS t < r + 1) → ¬ (fz = 0 ∧ ¬ k10 = n) := fun hh e => by
                  rcases hh with e0 | e0
                  · exact absurd (hfd (Or.inl e0)) (by omega)
                  · by_cases e1 : leastS t < r
                    · exact absurd (hfd (Or.inr e1)) (by omega)
                    · have e2 : leastS t = r := by omega
                      have e3 : rot t r = u := by rw [hu, ← e2]; rfl
                      exact hdiff (by omega) (by rw [e3])
                refine k_iload hx_g1 dL_isLeast_157 6 rfl ?_
                refine k_ifne hx_g1 dL_isLeast_159 (by omega) (fun h_159 => ?_) (fun h_159 => ?_)
                · refine k_iconst hx_g1 dL_isLeast_169 ?_
                  refine k_goto hx_g1 dL_isLeast_170 ?_
                  refine k_istore (ls' := [(0, vR g1 0), (1, vI z), (2, vR g1 i), (3, vI a), (4, vI n), (5, vR g1 i1), (6, vI 1), (7, vI (pset (t.take (r + 1)))), (8, vI pw), (9, vI q), (10, vI k10)]) hx_g1 dL_isLeast_174 rfl rfl (by decide) ?_
                  refine k_iload hx_g1 dL_isLeast_176 10 rfl ?_
                  refine k_iload hx_g1 dL_isLeast_178 4 rfl ?_
                  refine k_icmp_ge hx_g1 dL_isLeast_180 (by omega) (fun h_180 => ?_) (fun h_180 => ?_)
                  · exact j205 1 (by omega) (fun hh => rfl) k10
                  · have cA := at0_z htc (z := (q + k10) % n) (Int.emod_nonneg _ (by omega)) (by have := Int.emod_lt_of_pos (q + k10) (show 0 < n by omega); omega)
                    have m0 := Int.emod_nonneg (q + k10) (show n ≠ 0 by omega)
                    have m1 := Int.emod_lt_of_pos (q + k10) (show 0 < n by omega)
                    have cB := at0_z huc (z := k10) (by omega) (by omega)
                    refine k_aload_n hx_g1 dL_isLeast_183 2 rfl ?_
                    refine k_iload_n hx_g1 dL_isLeast_184 3 rfl ?_
                    refine k_iload hx_g1 dL_isLeast_185 9 rfl ?_
                    refine k_iload hx_g1 dL_isLeast_187 10 rfl ?_
                    refine k_iadd hx_g1 dL_isLeast_189 ?_
                    refine k_iload hx_g1 dL_isLeast_190 4 rfl ?_
                    refine k_irem hx_g1 dL_isLeast_192 (by omega) ?_
                    refine k_iadd hx_g1 dL_isLeast_193 ?_
                    refine k_iald (v := (at0 t ((q + k10) % n))) hx_g1 dL_isLeast_194 hA1.2 (LAY_hi hA1.1) (by omega) (by decide) (hwI _ (Int.emod_nonneg _ (by omega)) (Int.emod_lt_of_pos _ (by omega))) ?_
                    refine k_aload hx_g1 dL_isLeast_195 5 rfl ?_
                    refine k_iload hx_g1 dL_isLeast_197 10 rfl ?_
                    refine k_iald (v := (at0 u k10)) hx_g1 dL_isLeast_199 hA_i1.2 (LAY_hi hA_i1.1) (by omega) (by decide) (hform k10 (by omega) (by omega)) ?_
                    refine k_icmp_ge hx_g1 dL_isLeast_200 (by omega) (fun h_200 => ?_) (fun h_200 => absurd h_200 (by have := hge (by omega); omega))
                    exact j205 1 (by omega) (fun hh => rfl) k10
                · refine k_iload hx_g1 dL_isLeast_162 10 rfl ?_
                  refine k_iload hx_g1 dL_isLeast_164 4 rfl ?_
                  refine k_icmp_ne hx_g1 dL_isLeast_166 (by omega) (fun h_166 => ?_) (fun h_166 => ?_)
                  · refine k_iconst hx_g1 dL_isLeast_173 ?_
                    refine k_istore (ls' := [(0, vR g1 0), (1, vI z), (2, vR g1 i), (3, vI a), (4, vI n), (5, vR g1 i1), (6, vI 0), (7, vI (pset (t.take (r + 1)))), (8, vI pw), (9, vI q), (10, vI k10)]) hx_g1 dL_isLeast_174 rfl rfl (by decide) ?_
                    refine k_iload hx_g1 dL_isLeast_176 10 rfl ?_
                    refine k_iload hx_g1 dL_isLeast_178 4 rfl ?_
                    refine k_icmp_ge hx_g1 dL_isLeast_180 (by omega) (fun h_180 => ?_) (fun h_180 => ?_)
                    · exact j205 0 (by omega) (fun hh => absurd (hfnd hh) (by omega)) k10
                    · have cA := at0_z htc (z := (q + k10) % n) (Int.emod_nonneg _ (by omega)) (by have := Int.emod_lt_of_pos (q + k10) (show 0 < n by omega); omega)
                      have m0 := Int.emod_nonneg (q + k10) (show n ≠ 0 by omega)
                      have m1 := Int.emod_lt_of_pos (q + k10) (show 0 < n by omega)
                      have cB := at0_z huc (z := k10) (by omega) (by omega)
                      refine k_aload_n hx_g1 dL_isLeast_183 2 rfl ?_
                      refine k_iload_n hx_g1 dL_isLeast_184 3 rfl ?_
                      refine k_iload hx_g1 dL_isLeast_185 9 rfl ?_
                      refine k_iload hx_g1 dL_isLeast_187 10 rfl ?_
                      refine k_iadd hx_g1 dL_isLeast_189 ?_
                      refine k_iload hx_g1 dL_isLeast_190 4 rfl ?_
                      refine k_irem hx_g1 dL_isLeast_192 (by omega) ?_
                      refine k_iadd hx_g1 dL_isLeast_193 ?_
                      refine k_iald (v := (at0 t ((q + k10) % n))) hx_g1 dL_isLeast_194 hA1.2 (LAY_hi hA1.1) (by omega) (by decide) (hwI _ (Int.emod_nonneg _ (by omega)) (Int.emod_lt_of_pos _ (by omega))) ?_
                      refine k_aload hx_g1 dL_isLeast_195 5 rfl ?_
                      refine k_iload hx_g1 dL_isLeast_197 10 rfl ?_
                      refine k_iald (v := (at0 u k10)) hx_g1 dL_isLeast_199 hA_i1.2 (LAY_hi hA_i1.1) (by omega) (by decide) (hform k10 (by omega) (by omega)) ?_
                      refine k_icmp_ge hx_g1 dL_isLeast_200 (by omega) (fun h_200 => ?_) (fun h_200 => absurd h_200 (by have := hge (by omega); omega))
                      exact j205 0 (by omega) (fun hh => absurd (hfnd hh) (by omega)) k10
                  · refine k_iconst hx_g1 dL_isLeast_169 ?_
                    refine k_goto hx_g1 dL_isLeast_170 ?_
                    refine k_istore (ls' := [(0, vR g1 0), (1, vI z), (2, vR g1 i), (3, vI a), (4, vI n), (5, vR g1 i1), (6, vI 1), (7, vI (pset (t.take (r + 1)))), (8, vI pw), (9, vI q), (10, vI k10)]) hx_g1 dL_isLeast_174 rfl rfl (by decide) ?_
                    refine k_iload hx_g1 dL_isLeast_176 10 rfl ?_
                    refine k_iload hx_g1 dL_isLeast_178 4 rfl ?_
                    refine k_icmp_ge hx_g1 dL_isLeast_180 (by omega) (fun h_180 => ?_) (fun h_180 => ?_)
                    · exact j205 1 (by omega) (fun hh => rfl) k10
                    · have cA := at0_z htc (z := (q + k10) % n) (Int.emod_nonneg _ (by omega)) (by have := Int.emod_lt_of_pos (q + k10) (show 0 < n by omega); omega)
                      have m0 := Int.emod_nonneg (q + k10) (show n ≠ 0 by omega)
                      have m1 := Int.emod_lt_of_pos (q + k10) (show 0 < n by omega)
                      have cB := at0_z huc (z := k10) (by omega) (by omega)
                      refine k_aload_n hx_g1 dL_isLeast_183 2 rfl ?_
                      refine k_iload_n hx_g1 dL_isLeast_184 3 rfl ?_
                      refine k_iload hx_g1 dL_isLeast_185 9 rfl ?_
                      refine k_iload hx_g1 dL_isLeast_187 10 rfl ?_
                      refine k_iadd hx_g1 dL_isLeast_189 ?_
                      refine k_iload hx_g1 dL_isLeast_190 4 rfl ?_
                      refine k_irem hx_g1 dL_isLeast_192 (by omega) ?_
                      refine k_iadd hx_g1 dL_isLeast_193 ?_
                      refine k_iald (v := (at0 t ((q + k10) % n))) hx_g1 dL_isLeast_194 hA1.2 (LAY_hi hA1.1) (by omega) (by decide) (hwI _ (Int.emod_nonneg _ (by omega)) (Int.emod_lt_of_pos _ (by omega))) ?_
                      refine k_aload hx_g1 dL_isLeast_195 5 rfl ?_
                      refine k_iload hx_g1 dL_isLeast_197 10 rfl ?_
                      refine k_iald (v := (at0 u k10)) hx_g1 dL_isLeast_199 hA_i1.2 (LAY_hi hA_i1.1) (by omega) (by decide) (hform k10 (by omega) (by omega)) ?_
                      refine k_icmp_ge hx_g1 dL_isLeast_200 (by omega) (fun h_200 => ?_) (fun h_200 => absurd h_200 (by have := hge (by omega); omega))
                      exact j205 1 (by omega) (fun hh => rfl) k10
              have loopA : ∀ (fA : Nat), ∀ (k : Nat) (k10 : Int), k10 = k → k ≤ t.length → t.length - k < fA → (∀ j : Nat, j < k → at0 (rot t r) j = at0 u j) → lexLt ((rot t r).drop k) (u.drop k) = false → K x g1 1 64 LAY (NN g1) M1 124 [(0, vR g1 0), (1, vI z), (2, vR g1 i), (3, vI a), (4, vI n), (5, vR g1 i1), (6, vI fz), (7, vI (pset (t.take (r + 1)))), (8, vI pw), (9, vI q), (10, vI k10)] [] := by
                intro fA
                induction fA with
                | zero => intro k k10 hk10 hk hf hall hlex; omega
                | succ fA ihA =>
                  intro k k10 hk10 hk hf hall hlex
                  refine k_iload hx_g1 dL_isLeast_124 10 rfl ?_
                  refine k_iload hx_g1 dL_isLeast_126 4 rfl ?_
                  refine k_icmp_ge hx_g1 dL_isLeast_128 (by omega) (fun h_128 => ?_) (fun h_128 => ?_)
                  · first | exact j157 k k10 hk10 hk hall (fun e => absurd e (by omega)) hlex | exact j157 k k10 hk10 hk hall (fun _ e => by rw [e1, e2] at h_148; exact h_148 e) hlex
                  · have cA := at0_z htc (z := (q + k10) % n) (Int.emod_nonneg _ (by omega)) (by have := Int.emod_lt_of_pos (q + k10) (show 0 < n by omega); omega)
                    have m0 := Int.emod_nonneg (q + k10) (show n ≠ 0 by omega)
                    have m1 := Int.emod_lt_of_pos (q + k10) (show 0 < n by omega)
                    have cB := at0_z huc (z := k10) (by omega) (by omega)
                    have e1 : at0 t ((q + k10) % n) = at0 (rot t r) k := by rw [hq, hk10, hn, rot_mod (by omega) (by omega)]
                    have e2 : at0 u k10 = at0 u k := by rw [hk10]
                    have st := lexLt_step (u := rot t r) (v := u) (k := k) (by omega) (by omega)
                    refine k_aload_n hx_g1 dL_isLeast_131 2 rfl ?_
                    refine k_iload_n hx_g1 dL_isLeast_132 3 rfl ?_
                    refine k_iload hx_g1 dL_isLeast_133 9 rfl ?_
                    refine k_iload hx_g1 dL_isLeast_135 10 rfl ?_
                    refine k_iadd hx_g1 dL_isLeast_137 ?_
                    refine k_iload hx_g1 dL_isLeast_138 4 rfl ?_
                    refine k_irem hx_g1 dL_isLeast_140 (by omega) ?_
                    refine k_iadd hx_g1 dL_isLeast_141 ?_
                    refine k_iald (v := (at0 t ((q + k10) % n))) hx_g1 dL_isLeast_142 hA1.2 (LAY_hi hA1.1) (by omega) (by decide) (hwI _ (Int.emod_nonneg _ (by omega)) (Int.emod_lt_of_pos _ (by omega))) ?_
                    refine k_aload hx_g1 dL_isLeast_143 5 rfl ?_
                    refine k_iload hx_g1 dL_isLeast_145 10 rfl ?_
                    refine k_iald (v := (at0 u k10)) hx_g1 dL_isLeast_147 hA_i1.2 (LAY_hi hA_i1.1) (by omega) (by decide) (hform k10 (by omega) (by omega)) ?_
                    refine k_icmp_ne hx_g1 dL_isLeast_148 (by omega) (fun h_148 => ?_) (fun h_148 => ?_)
                    · first | exact j157 k k10 hk10 hk hall (fun e => absurd e (by omega)) hlex | exact j157 k k10 hk10 hk hall (fun _ e => by rw [e1, e2] at h_148; exact h_148 e) hlex
                    · refine k_iinc (ls' := [(0, vR g1 0), (1, vI z), (2, vR g1 i), (3, vI a), (4, vI n), (5, vR g1 i1), (6, vI fz), (7, vI (pset (t.take (r + 1)))), (8, vI pw), (9, vI q), (10, vI (k10 + 1))]) hx_g1 dL_isLeast_151 10 rfl rfl rfl (by decide) ?_
                      refine k_goto hx_g1 dL_isLeast_154 ?_
                      exact ihA (k + 1) (k10 + 1) (by omega) (by omega) (by omega) (fun j hj => by
                        by_cases e : j = k
                        · subst e; rw [← e1, ← e2]; omega
                        · exact hall j (by omega)) (by rw [← hlex, st, if_pos (by rw [← e1, ← e2]; omega)])
              refine k_iconst hx_g1 dL_isLeast_105 ?_
              refine k_istore (ls' := [(0, vR g1 0), (1, vI z), (2, vR g1 i), (3, vI a), (4, vI n), (5, vR g1 i1), (6, vI fz), (7, vI po), (8, vI pw), (9, vI q), (10, vI 0)]) hx_g1 dL_isLeast_106 rfl rfl (by decide) ?_
              refine k_iload hx_g1 dL_isLeast_108 7 rfl ?_
              refine k_iconst hx_g1 dL_isLeast_110 ?_
              refine k_aload_n hx_g1 dL_isLeast_111 2 rfl ?_
              refine k_iload_n hx_g1 dL_isLeast_112 3 rfl ?_
              refine k_iload hx_g1 dL_isLeast_113 9 rfl ?_
              refine k_iadd hx_g1 dL_isLeast_115 ?_
              refine k_iald (v := (at0 t q)) hx_g1 dL_isLeast_116 hA1.2 (LAY_hi hA1.1) (by omega) (by decide) (hwI q (by omega) (by omega)) ?_
              refine k_bipush hx_g1 dL_isLeast_117 (by decide +kernel) ?_
              refine k_irem hx_g1 dL_isLeast_119 (by omega) ?_
              rw [h6]
              refine k_ishl (v := zI ((zI 1 <<< (zI (pst (at0 t q)) &&& 31)).toInt)) hx_g1 dL_isLeast_120 ((zI_of _).symm) ?_
              refine k_ior (v := zI (pset (t.take (r + 1)))) hx_g1 dL_isLeast_121 (by rw [zI_of, hpo]; exact hps) ?_
              refine k_istore (ls' := [(0, vR g1 0), (1, vI z), (2, vR g1 i), (3, vI a), (4, vI n), (5, vR g1 i1), (6, vI fz), (7, vI (pset (t.take (r + 1)))), (8, vI pw), (9, vI q), (10, vI 0)]) hx_g1 dL_isLeast_122 rfl rfl (by decide) ?_
              refine K.sub [0, 1, 2, 3, 4, 5, 6, 7, 8, 9, 10] rfl ?_
              exact loopA (t.length + 1) 0 0 rfl (by omega) (by omega) (fun j hj => by omega) (by rw [List.drop_zero, List.drop_zero, hu]; exact hmn)
        refine k_iload hx_g1 dL_isLeast_68 4 rfl ?_
        refine k_ifne hx_g1 dL_isLeast_70 (by omega) (fun h_70 => ?_) (fun h_70 => ?_)
        · refine k_iconst hx_g1 dL_isLeast_77 ?_
          refine k_istore (ls' := [(0, vR g1 0), (1, vI z), (2, vR g1 i), (3, vI a), (4, vI n), (5, vR g1 i1), (6, vI 0)]) hx_g1 dL_isLeast_78 rfl rfl (by decide) ?_
          refine k_iconst hx_g1 dL_isLeast_80 ?_
          refine k_istore (ls' := [(0, vR g1 0), (1, vI z), (2, vR g1 i), (3, vI a), (4, vI n), (5, vR g1 i1), (6, vI 0), (7, vI 0)]) hx_g1 dL_isLeast_81 rfl rfl (by decide) ?_
          refine k_iload hx_g1 dL_isLeast_83 4 rfl ?_
          refine k_ifne hx_g1 dL_isLeast_85 (by omega) (fun h_85 => ?_) (fun h_85 => absurd h_85 (by omega))
          refine k_iconst hx_g1 dL_isLeast_92 ?_
          refine k_istore (ls' := [(0, vR g1 0), (1, vI z), (2, vR g1 i), (3, vI a), (4, vI n), (5, vR g1 i1), (6, vI 0), (7, vI 0), (8, vI 1)]) hx_g1 dL_isLeast_93 rfl rfl (by decide) ?_
          refine k_iconst hx_g1 dL_isLeast_95 ?_
          refine k_istore (ls' := [(0, vR g1 0), (1, vI z), (2, vR g1 i), (3, vI a), (4, vI n), (5, vR g1 i1), (6, vI 0), (7, vI 0), (8, vI 1), (9, vI 0)]) hx_g1 dL_isLeast_96 rfl rfl (by decide) ?_
          exact loop2 (t.length + 1) 0 0 0 1 0 rfl (by omega) (by omega) (Or.inl rfl) (fun e => by omega) rfl (by rw [shc, if_neg (by omega)]; rfl)
        · refine k_iconst hx_g1 dL_isLeast_73 ?_
          refine k_goto hx_g1 dL_isLeast_74 ?_
          refine k_istore (ls' := [(0, vR g1 0), (1, vI z), (2, vR g1 i), (3, vI a), (4, vI n), (5, vR g1 i1), (6, vI 1)]) hx_g1 dL_isLeast_78 rfl rfl (by decide) ?_
          refine k_iconst hx_g1 dL_isLeast_80 ?_
          refine k_istore (ls' := [(0, vR g1 0), (1, vI z), (2, vR g1 i), (3, vI a), (4, vI n), (5, vR g1 i1), (6, vI 1), (7, vI 0)]) hx_g1 dL_isLeast_81 rfl rfl (by decide) ?_
          refine k_iload hx_g1 dL_isLeast_83 4 rfl ?_
          refine k_ifne hx_g1 dL_isLeast_85 (by omega) (fun h_85 => absurd h_85 (by omega)) (fun h_85 => ?_)
          refine k_iconst hx_g1 dL_isLeast_88 ?_
          refine k_goto hx_g1 dL_isLeast_89 ?_
          refine k_istore (ls' := [(0, vR g1 0), (1, vI z), (2, vR g1 i), (3, vI a), (4, vI n), (5, vR g1 i1), (6, vI 1), (7, vI 0), (8, vI 0)]) hx_g1 dL_isLeast_93 rfl rfl (by decide) ?_
          refine k_iconst hx_g1 dL_isLeast_95 ?_
          refine k_istore (ls' := [(0, vR g1 0), (1, vI z), (2, vR g1 i), (3, vI a), (4, vI n), (5, vR g1 i1), (6, vI 1), (7, vI 0), (8, vI 0), (9, vI 0)]) hx_g1 dL_isLeast_96 rfl rfl (by decide) ?_
          exact loop2 (t.length + 1) 0 1 0 0 0 rfl (by omega) (by omega) (Or.inr rfl) (fun _ => rfl) rfl (by rw [shc, if_pos (by omega)]; rfl)
      · refine k_aload hx_g1 dL_isLeast_50 5 rfl ?_
        refine k_iload hx_g1 dL_isLeast_52 6 rfl ?_
        refine k_aload_n hx_g1 dL_isLeast_54 0 rfl ?_
        refine k_iload_n hx_g1 dL_isLeast_55 1 rfl ?_
        refine k_iload hx_g1 dL_isLeast_56 6 rfl ?_
        refine k_vi (rest := [vI y, vR g1 i1]) hx_g1 vL_52 dL_isLeast_58 (q_least I' hz (k := y) (by omega)) n_0 L_0 rfl rfl rfl ⟨rfl, rfl⟩ ⟨by decide, by decide⟩ (fun z_58 M_58 p_58 => ?_)
        obtain ⟨rfl, I_58, o_58⟩ := p_58
        have I_58 : Inv M_58 σ := I_58
        refine k_iastN hx_g1 dL_isLeast_61 hA_i1.2 (LAY_hi hA_i1.1) (by omega) (by decide) (fun M_61 hM_61 => ?_)
        refine k_iinc (ls' := [(0, vR g1 0), (1, vI z), (2, vR g1 i), (3, vI a), (4, vI n), (5, vR g1 i1), (6, vI (y + 1))]) hx_g1 dL_isLeast_62 6 rfl rfl rfl (by decide) ?_
        refine k_goto hx_g1 dL_isLeast_65 ?_
        refine ih1 (k + 1) (y + 1) M_61 (by omega) (by omega) (by omega) (I_58.hi hA_i1.1 (fun b hb => by rw [hM_61, up_i hb])) (fun j j0 j1 => ?_) (fun b hb hb2 => by rw [hM_61, up_i hb2, o_58 b hb]; exact ho b hb hb2)
        rw [hM_61]
        by_cases e : j = y
        · subst e; rw [up_s, ← hul]
        · rw [up_k e, o_58 i1 hA_i1.1]; exact hfm j j0 (by omega)
  exact loop1 (t.length + 1) 0 0 M_36 rfl (by omega) (by omega) I_36 (fun j j0 j1 => by omega) o36
end
section
/-! all that is told of a rope -/
theorem wsF_1 (ws w : List Int) (k : Nat) : wsF ws w (k + 1) = wsF ws w k + ws.getD (pst (at0 w k)).toNat 0 := rfl
theorem wndF_1 (w : List Int) (p : Int) (k : Nat) : wndF w p (k + 1) = wndF w p k + (if at0 w k = p then 1 else if at0 w k = op p then -1 else 0) := rfl

set_option maxHeartbeats 8000000 in
theorem c_L_isTold {g : GE} {l : Launch} {M : Mem} {σ : Sg} (hI : Inv M σ) {z : Int} (hz : 0 ≤ z ∧ z < 4) (hl : (rope σ.1 z).length ≤ 60) : Ca g l μL_isTold 2 128 [vR g 0, vI z] M (fun y M' => y = 1 ∧ Inv M' σ) := by
  refine Ca.of (by decide +kernel) rfl rfl (fun x hx hr => ?_)
  have hvc : Cr (rope σ.1 z) := (hI.1.rope hz).1.2.2
  have hwV := wsF_rg hI.1.1.2.2.1 hvc (rope σ.1 z).length (Nat.le_refl _)
  have hwVe : wsum σ.1.1 (rope σ.1 z) = wsF σ.1.1 (rope σ.1 z) (rope σ.1 z).length := rfl
  refine k_bipush hx dL_isTold_0 (by decide +kernel) ?_
  refine k_new64 (ls := fun q => [(0, rf q 0), (1, vI z)]) (st := fun q => []) hx dL_isTold_2 ⟨by decide, by decide⟩ (fun g1 i1 M_2 hs_g1 hA_i1 ha_g1 ho_i1 => ?_)
  have hx_g1 := hx.sm hs_g1
  have hr_g1 := hr.sm hs_g1
  show K _ _ _ _ _ _ _ 4 [(0, vR g1 0), (1, vI z)] [vR g1 i1]
  have I_2 : Inv M_2 σ := hI.hi hA_i1.1 ho_i1
  refine k_astore_n (ls' := [(0, vR g1 0), (1, vI z), (2, vR g1 i1)]) hx_g1 dL_isTold_4 rfl rfl (by decide) ?_
  refine k_aload_n hx_g1 dL_isTold_5 0 rfl ?_
  refine k_iload_n hx_g1 dL_isTold_6 1 rfl ?_
  refine k_aload_n hx_g1 dL_isTold_7 2 rfl ?_
  refine k_sv (rest := []) hx_g1 sL_31 dL_isTold_8 (c_L_read I_2 hz hA_i1 (by omega)) rfl rfl rfl ⟨rfl, rfl⟩ ⟨by decide, by decide⟩ (fun M_8 p_8 => ?_)
  obtain ⟨w_8, I_8, o_8⟩ := p_8
  refine k_iconst hx_g1 dL_isTold_11 ?_
  refine k_istore_n (ls' := [(0, vR g1 0), (1, vI z), (2, vR g1 i1), (3, vI 0)]) hx_g1 dL_isTold_12 rfl rfl (by decide) ?_
  refine k_bipush hx_g1 dL_isTold_13 (by decide +kernel) ?_
  refine k_istore (ls' := [(0, vR g1 0), (1, vI z), (2, vR g1 i1), (3, vI 0), (4, vI (-6))]) hx_g1 dL_isTold_15 rfl rfl (by decide) ?_
  refine k_aload_n hx_g1 dL_isTold_17 2 rfl ?_
  refine k_iconst hx_g1 dL_isTold_18 ?_
  refine k_iald (v := ((rope σ.1 z).length)) hx_g1 dL_isTold_19 hA_i1.2 (LAY_hi hA_i1.1) (by omega) (by decide) (w_8.1) ?_
  refine k_istore (ls' := [(0, vR g1 0), (1, vI z), (2, vR g1 i1), (3, vI 0), (4, vI (-6)), (5, vI ((rope σ.1 z).length))]) hx_g1 dL_isTold_20 rfl rfl (by decide) ?_
  have loop1 : ∀ (f1 : Nat), ∀ (kn : Nat) (wd pr y : Int) (M' : Mem), y = kn → kn ≤ (rope σ.1 z).length → kn < f1 → wd = wsum σ.1.1 (rope σ.1 z) - wsF σ.1.1 (rope σ.1 z) kn → pr = fpF (rope σ.1 z) ((rope σ.1 z).length + 1 - kn) kn → Inv M' σ → Wa M' i1 (rope σ.1 z) → K x g1 1 64 LAY (NN g1) M' 22 [(0, vR g1 0), (1, vI z), (2, vR g1 i1), (3, vI wd), (4, vI pr), (5, vI y)] [] := by
    intro f1
    induction f1 with
    | zero => intro kn wd pr y M' hy hk hf hwd hpr I' hwa; omega
    | succ f1 ih1 =>
      intro kn wd pr y M' hy hk hf hwd hpr I' hwa
      refine k_iload hx_g1 dL_isTold_22 5 rfl ?_
      refine k_ifle hx_g1 dL_isTold_24 (by omega) (fun h_24 => ?_) (fun h_24 => ?_)
      · have hkn : kn = 0 := by omega
        subst hkn
        have hwd0 : wd = wsum σ.1.1 (rope σ.1 z) := by rw [hwd]; show wsum σ.1.1 (rope σ.1 z) - 0 = _; omega
        have hpr0 : pr = firstP (rope σ.1 z) := hpr
        have hpg := fp_rg (rope σ.1 z) ((rope σ.1 z).length + 1) 0
        have hpe : firstP (rope σ.1 z) = fpF (rope σ.1 z) ((rope σ.1 z).length + 1) 0 := rfl
        have loopp : ∀ (fp : Nat), ∀ (pn : Nat) (p : Int) (M' : Mem), p = pn → pn ≤ 6 → 6 - pn < fp → Inv M' σ → Wa M' i1 (rope σ.1 z) → K x g1 1 64 LAY (NN g1) M' 85 [(0, vR g1 0), (1, vI z), (2, vR g1 i1), (3, vI wd), (4, vI pr), (5, vI p)] [] := by
          intro fp
          induction fp with
          | zero => intro pn p M' hp hp6 hf I' hwa; omega
          | succ fp ihp =>
            intro pn p M' hp hp6 hf I' hwa
            refine k_iload hx_g1 dL_isTold_85 5 rfl ?_
            refine k_bipush hx_g1 dL_isTold_87 (by decide +kernel) ?_
            refine k_icmp_ge hx_g1 dL_isTold_89 (by omega) (fun h_89 => ?_) (fun h_89 => ?_)
            · refine k_aload_n hx_g1 dL_isTold_169 0 rfl ?_
              refine k_iload_n hx_g1 dL_isTold_170 1 rfl ?_
              refine k_iconst hx_g1 dL_isTold_171 ?_
              refine k_vi (rest := []) hx_g1 vL_8 dL_isTold_172 (q_of I' hz (k := 1) (by decide)) n_0 L_0 rfl rfl rfl ⟨rfl, rfl⟩ ⟨by decide, by decide⟩ (fun z_172 M_172 p_172 => ?_)
              obtain ⟨e_172, I_172, o_172⟩ := p_172
              have I_172 : Inv M_172 σ := I_172
              have e_172 : z_172 = wsum σ.1.1 (rope σ.1 z) := by rw [e_172]; rfl
              subst e_172
              refine k_iload_n hx_g1 dL_isTold_175 3 rfl ?_
              refine k_icmp_ne hx_g1 dL_isTold_176 (by omega) (fun h_176 => absurd h_176 (by omega)) (fun h_176 => ?_)
              refine k_aload_n hx_g1 dL_isTold_179 0 rfl ?_
              refine k_iload_n hx_g1 dL_isTold_180 1 rfl ?_
              refine k_bipush hx_g1 dL_isTold_181 (by decide +kernel) ?_
              refine k_vi (rest := []) hx_g1 vL_8 dL_isTold_183 (q_of I_172 hz (k := 7) (by decide)) n_0 L_0 rfl rfl rfl ⟨rfl, rfl⟩ ⟨by decide, by decide⟩ (fun z_183 M_183 p_183 => ?_)
              obtain ⟨e_183, I_183, o_183⟩ := p_183
              have I_183 : Inv M_183 σ := I_183
              have e_183 : z_183 = firstP (rope σ.1 z) := by rw [e_183]; rfl
              subst e_183
              have hw2 : Wa M_183 i1 (rope σ.1 z) := (hwa.same (o_172 i1 hA_i1.1)).same (o_183 i1 hA_i1.1)
              refine k_iload hx_g1 dL_isTold_186 4 rfl ?_
              refine k_icmp_eq hx_g1 dL_isTold_188 (by omega) (fun h_188 => ?_) (fun h_188 => absurd h_188 (by omega))
              refine k_aload_n hx_g1 dL_isTold_193 2 rfl ?_
              refine k_sv (rest := []) hx_g1 sL_41 dL_isTold_194 (c_L_pull hA_i1 hw2 (by omega)) rfl rfl rfl ⟨rfl, rfl⟩ ⟨by decide, by decide⟩ (fun M_194 p_194 => ?_)
              obtain ⟨w_194, o_194⟩ := p_194
              have I_194 := I_183.hi hA_i1.1 o_194
              have hrl := red_len_le (rope σ.1 z)
              have hrc : Cr (red (rope σ.1 z)) := red_cr hvc
              have hrgR := wsF_rg hI.1.1.2.2.1 hrc (red (rope σ.1 z)).length (Nat.le_refl _)
              have hwR : wsum σ.1.1 (red (rope σ.1 z)) = wsF σ.1.1 (red (rope σ.1 z)) (red (rope σ.1 z)).length := rfl
              have loop3 : ∀ (f3 : Nat), ∀ (kk : Nat) (sm y : Int) (M' : Mem), y = kk + 1 → kk ≤ (red (rope σ.1 z)).length → (red (rope σ.1 z)).length - kk < f3 → sm = wsF σ.1.1 (red (rope σ.1 z)) kk → Inv M' σ → Wa M' i1 (red (rope σ.1 z)) → K x g1 1 64 LAY (NN g1) M' 203 [(0, vR g1 0), (1, vI z), (2, vR g1 i1), (3, vI wd), (4, vI pr), (5, vI sm), (6, vI y)] [] := by
                intro f3
                induction f3 with
                | zero => intro kk sm y M' hy hk hf hsm I' hwa; omega
                | succ f3 ih3 =>
                  intro kk sm y M' hy hk hf hsm I' hwa
                  have hrg := wsF_rg hI.1.1.2.2.1 hrc kk hk
                  refine k_iload hx_g1 dL_isTold_203 6 rfl ?_
                  refine k_aload_n hx_g1 dL_isTold_205 2 rfl ?_
                  refine k_iconst hx_g1 dL_isTold_206 ?_
                  refine k_iald (v := ((red (rope σ.1 z)).length)) hx_g1 dL_isTold_207 hA_i1.2 (LAY_hi hA_i1.1) (by omega) (by decide) (hwa.1) ?_
                  refine k_icmp_gt hx_g1 dL_isTold_208 (by omega) (fun h_208 => ?_) (fun h_208 => ?_)
                  · have hsm2 : sm = wsum σ.1.1 (red (rope σ.1 z)) := by rw [hsm, show kk = (red (rope σ.1 z)).length by omega]; rfl
                    have j299 : ∀ (M3 : Mem), Inv M3 σ → Wa M3 i1 (red (rope σ.1 z)) → ∀ k6 : Int, K x g1 1 64 LAY (NN g1) M3 299 [(0, vR g1 0), (1, vI z), (2, vR g1 i1), (3, vI wd), (4, vI pr), (5, vI sm), (6, vI k6)] [] := by
                      intro M3 I3 hwa k6
                      have j337 : ∀ (s : Nat) (fr tz : Int), fr = s + 1 → tz = (red (rope σ.1 z)).length - s → 2 * s ≤ (red (rope σ.1 z)).length → tight (red (rope σ.1 z)) = slc (red (rope σ.1 z)) s ((red (rope σ.1 z)).length - s) → K x g1 1 64 LAY (NN g1) M3 337 [(0, vR g1 0), (1, vI z), (2, vR g1 i1), (3, vI wd), (4, vI pr), (5, vI sm), (6, vI fr), (7, vI tz)] [] := by
                        intro s fr tz hfr htz hs2 hti
                        have htl : (tight (red (rope σ.1 z))).length = (red (rope σ.1 z)).length - s - s := by rw [hti]; exact slc_len (by omega)
                        refine k_aload_n hx_g1 dL_isTold_337 0 rfl ?_
                        refine k_iload_n hx_g1 dL_isTold_338 1 rfl ?_
                        refine k_aload_n hx_g1 dL_isTold_339 2 rfl ?_
                        refine k_iload hx_g1 dL_isTold_340 6 rfl ?_
                        refine k_iload hx_g1 dL_isTold_342 7 rfl ?_
                        refine k_iload hx_g1 dL_isTold_344 6 rfl ?_
                        refine k_isub hx_g1 dL_isTold_346 ?_
                        refine k_iconst hx_g1 dL_isTold_347 ?_
                        refine k_iadd hx_g1 dL_isTold_348 ?_
                        refine k_sa (ls := fun q => [(0, rf q 0), (1, vI z), (2, rf q i1), (3, vI wd), (4, vI pr), (5, vI sm), (6, vI fr), (7, vI tz)]) (As := fun q => [rf q 0, vI z, rf q i1, vI fr, vI ((tz - fr) + 1)]) hx_g1 sL_48 dL_isTold_349 (c_L_isLeast I3 hz hA_i1 rfl (a := fr) (n := tz - fr + 1) (by omega) (by omega) (by omega) (fun k k0 k1 => by
                          rw [hwa.2.1 _ (by omega) (by omega), hti, show k = ((k.toNat : Nat) : Int) by omega, slc_at (by omega) (by omega)]
                          congr 1; omega)) rfl rfl ⟨rfl, rfl⟩ ⟨Nat.le_of_ble_eq_true rfl, Nat.le_of_ble_eq_true rfl⟩ (fun g2 z_349 M_349 hs_g2 p_349 => ?_)
                        have hx_g2 := hx_g1.sm hs_g2
                        have hr_g2 := hr_g1.sm hs_g2
                        obtain ⟨rfl, I_349⟩ := p_349
                        show K _ _ _ _ _ _ _ 352 [(0, vR g2 0), (1, vI z), (2, vR g2 i1), (3, vI wd), (4, vI pr), (5, vI sm), (6, vI fr), (7, vI tz)] [vI 1]
                        refine k_za hx_g2 hr_g2 ⟨by decide, by decide⟩ dL_isTold_352 (by first | exact Or.inl rfl | exact Or.inr rfl | exact b2i_or _) ?_
                        exact ⟨rfl, I_349⟩
                      have loop4 : ∀ (f4 : Nat), ∀ (s e : Nat) (fr tz : Int), fr = s + 1 → tz = (red (rope σ.1 z)).length - s → 2 * s ≤ (red (rope σ.1 z)).length → (red (rope σ.1 z)).length ≤ e + 2 * s → (red (rope σ.1 z)).length - s < f4 → tight (red (rope σ.1 z)) = strip e (slc (red (rope σ.1 z)) s ((red (rope σ.1 z)).length - s)) → K x g1 1 64 LAY (NN g1) M3 307 [(0, vR g1 0), (1, vI z), (2, vR g1 i1), (3, vI wd), (4, vI pr), (5, vI sm), (6, vI fr), (7, vI tz)] [] := by
                        intro f4
                        induction f4 with
                        | zero => intro s e fr tz hfr htz hs2 he hf hst; omega
                        | succ f4 ih4 =>
                          intro s e fr tz hfr htz hs2 he hf hst
                          have hsl : (slc (red (rope σ.1 z)) s ((red (rope σ.1 z)).length - s)).length = (red (rope σ.1 z)).length - s - s := slc_len (by omega)
                          refine k_iload hx_g1 dL_isTold_307 6 rfl ?_
                          refine k_iload hx_g1 dL_isTold_309 7 rfl ?_
                          refine k_icmp_ge hx_g1 dL_isTold_311 (by omega) (fun h_311 => ?_) (fun h_311 => ?_)
                          · exact j337 s fr tz hfr htz (by omega) (by rw [hst]; exact strip_stop (fun q => by first | omega | exact h_325 (e1.symm.trans (q.2.trans (congrArg op e2)))) e)
                          · have cA := at0_z hwa.2.2 (z := fr - 1) (by omega) (by omega)
                            have cB := at0_z hwa.2.2 (z := tz - 1) (by omega) (by omega)
                            have e1 : at0 (slc (red (rope σ.1 z)) s ((red (rope σ.1 z)).length - s)) (0 : Nat) = at0 (red (rope σ.1 z)) (fr - 1) := by rw [slc_at (by omega) (by omega)]; congr 1; omega
                            have e2 : at0 (slc (red (rope σ.1 z)) s ((red (rope σ.1 z)).length - s)) ((slc (red (rope σ.1 z)) s ((red (rope σ.1 z)).length - s)).length - 1 : Nat) = at0 (red (rope σ.1 z)) (tz - 1) := by rw [hsl, slc_at (by omega) (by omega)]; congr 1; omega
                            refine k_aload_n hx_g1 dL_isTold_314 2 rfl ?_
                            refine k_iload hx_g1 dL_isTold_315 6 rfl ?_
                            refine k_iald (v := (at0 (red (rope σ.1 z)) (fr - 1))) hx_g1 dL_isTold_317 hA_i1.2 (LAY_hi hA_i1.1) (by omega) (by decide) (hwa.2.1 _ (by omega) (by omega)) ?_
                            refine k_aload_n hx_g1 dL_isTold_318 2 rfl ?_
                            refine k_iload hx_g1 dL_isTold_319 7 rfl ?_
                            refine k_iald (v := (at0 (red (rope σ.1 z)) (tz - 1))) hx_g1 dL_isTold_321 hA_i1.2 (LAY_hi hA_i1.1) (by omega) (by decide) (hwa.2.1 _ (by omega) (by omega)) ?_
                            refine k_sp (rest := []) (e := (b2i (decide ((at0 (red (rope σ.1 z)) (fr - 1)) = op (at0 (red (rope σ.1 z)) (tz - 1)))))) hx_g1 sL_23 dL_isTold_322 (c_L_cancel (a := (at0 (red (rope σ.1 z)) (fr - 1))) (b := (at0 (red (rope σ.1 z)) (tz - 1))) (by omega) (by omega)) rfl rfl rfl ⟨rfl, rfl⟩ ⟨by decide, by decide⟩ ?_
                            refine k_beq hx_g1 dL_isTold_325 (fun h_325 => ?_) (fun h_325 => ?_)
                            · exact j337 s fr tz hfr htz (by omega) (by rw [hst]; exact strip_stop (fun q => by first | omega | exact h_325 (e1.symm.trans (q.2.trans (congrArg op e2)))) e)
                            · refine k_iinc (ls' := [(0, vR g1 0), (1, vI z), (2, vR g1 i1), (3, vI wd), (4, vI pr), (5, vI sm), (6, vI (fr + 1)), (7, vI tz)]) hx_g1 dL_isTold_328 6 rfl rfl rfl (by decide) ?_
                              refine k_iinc (ls' := [(0, vR g1 0), (1, vI z), (2, vR g1 i1), (3, vI wd), (4, vI pr), (5, vI sm), (6, vI (fr + 1)), (7, vI (tz + (-1)))]) hx_g1 dL_isTold_331 7 rfl rfl rfl (by decide) ?_
                              refine k_goto hx_g1 dL_isTold_334 ?_
                              exact ih4 (s + 1) (e - 1) (fr + 1) (tz + (-1)) (by omega) (by omega) (by omega) (by omega) (by omega) (by
                                rw [hst, ← slc_slc rfl (by omega)]
                                exact strip_go (by omega) ⟨by omega, e1.trans (h_325.trans (congrArg op e2.symm))⟩)
                      refine k_iconst hx_g1 dL_isTold_299 ?_
                      refine k_istore (ls' := [(0, vR g1 0), (1, vI z), (2, vR g1 i1), (3, vI wd), (4, vI pr), (5, vI sm), (6, vI 1)]) hx_g1 dL_isTold_300 rfl rfl (by decide) ?_
                      refine k_aload_n hx_g1 dL_isTold_302 2 rfl ?_
                      refine k_iconst hx_g1 dL_isTold_303 ?_
                      refine k_iald (v := ((red (rope σ.1 z)).length)) hx_g1 dL_isTold_304 hA_i1.2 (LAY_hi hA_i1.1) (by omega) (by decide) (hwa.1) ?_
                      refine k_istore (ls' := [(0, vR g1 0), (1, vI z), (2, vR g1 i1), (3, vI wd), (4, vI pr), (5, vI sm), (6, vI 1), (7, vI ((red (rope σ.1 z)).length))]) hx_g1 dL_isTold_305 rfl rfl (by decide) ?_
                      exact loop4 ((red (rope σ.1 z)).length + 1) 0 (red (rope σ.1 z)).length 1 (red (rope σ.1 z)).length (by omega) (by omega) (by omega) (by omega) (by omega) (by rw [Nat.sub_zero, slc_all]; rfl)
                    refine k_aload_n hx_g1 dL_isTold_233 0 rfl ?_
                    refine k_iload_n hx_g1 dL_isTold_234 1 rfl ?_
                    refine k_iconst hx_g1 dL_isTold_235 ?_
                    refine k_vi (rest := []) hx_g1 vL_8 dL_isTold_236 (q_of I' hz (k := 2) (by decide)) n_0 L_0 rfl rfl rfl ⟨rfl, rfl⟩ ⟨by decide, by decide⟩ (fun z_236 M_236 p_236 => ?_)
                    obtain ⟨e_236, I_236, o_236⟩ := p_236
                    have I_236 : Inv M_236 σ := I_236
                    have e_236 : z_236 = ((red (rope σ.1 z)).length : Int) := by rw [e_236]; rfl
                    subst e_236
                    refine k_aload_n hx_g1 dL_isTold_239 2 rfl ?_
                    refine k_iconst hx_g1 dL_isTold_240 ?_
                    refine k_iald (v := ((red (rope σ.1 z)).length)) hx_g1 dL_isTold_241 hA_i1.2 (LAY_hi hA_i1.1) (by omega) (by decide) ((hwa.same (o_236 i1 hA_i1.1)).1) ?_
                    refine k_icmp_ne hx_g1 dL_isTold_242 (by omega) (fun h_242 => absurd h_242 (by omega)) (fun h_242 => ?_)
                    refine k_aload_n hx_g1 dL_isTold_245 0 rfl ?_
                    refine k_iload_n hx_g1 dL_isTold_246 1 rfl ?_
                    refine k_iconst hx_g1 dL_isTold_247 ?_
                    refine k_vi (rest := []) hx_g1 vL_8 dL_isTold_248 (q_of I_236 hz (k := 3) (by decide)) n_0 L_0 rfl rfl rfl ⟨rfl, rfl⟩ ⟨by decide, by decide⟩ (fun z_248 M_248 p_248 => ?_)
                    obtain ⟨e_248, I_248, o_248⟩ := p_248
                    have I_248 : Inv M_248 σ := I_248
                    have e_248 : z_248 = wsum σ.1.1 (red (rope σ.1 z)) := by rw [e_248]; rfl
                    subst e_248
                    refine k_iload hx_g1 dL_isTold_251 5 rfl ?_
                    refine k_icmp_ne hx_g1 dL_isTold_253 (by omega) (fun h_253 => absurd h_253 (by omega)) (fun h_253 => ?_)
                    refine k_aload_n hx_g1 dL_isTold_256 0 rfl ?_
                    refine k_iload_n hx_g1 dL_isTold_257 1 rfl ?_
                    refine k_bipush hx_g1 dL_isTold_258 (by decide +kernel) ?_
                    refine k_vi (rest := []) hx_g1 vL_8 dL_isTold_260 (q_of I_248 hz (k := 8) (by decide)) n_0 L_0 rfl rfl rfl ⟨rfl, rfl⟩ ⟨by decide, by decide⟩ (fun z_260 M_260 p_260 => ?_)
                    obtain ⟨e_260, I_260, o_260⟩ := p_260
                    have I_260 : Inv M_260 σ := I_260
                    have e_260 : z_260 = b2i (decide (red (rope σ.1 z) = [])) := by rw [e_260]; show b2i (decide (wF 0 (rope σ.1 z) = [])) = _; rw [wF_0]
                    subst e_260
                    have hwb : Wa M_260 i1 (red (rope σ.1 z)) := ((hwa.same (o_236 i1 hA_i1.1)).same (o_248 i1 hA_i1.1)).same (o_260 i1 hA_i1.1)
                    refine k_aload_n hx_g1 dL_isTold_263 2 rfl ?_
                    refine k_iconst hx_g1 dL_isTold_264 ?_
                    refine k_iald (v := ((red (rope σ.1 z)).length)) hx_g1 dL_isTold_265 hA_i1.2 (LAY_hi hA_i1.1) (by omega) (by decide) (hwb.1) ?_
                    refine k_ifne hx_g1 dL_isTold_266 (by omega) (fun h_266 => ?_) (fun h_266 => ?_)
                    · have hbz : b2i (decide (red (rope σ.1 z) = [])) = 0 := (b2i_f (fun q => h_266 (by rw [q]; rfl))).symm
                      refine k_iconst hx_g1 dL_isTold_273 ?_
                      refine k_icmp_ne hx_g1 dL_isTold_274 (by omega) (fun h_274 => absurd h_274 (by omega)) (fun h_274 => ?_)
                      refine k_aload_n hx_g1 dL_isTold_277 0 rfl ?_
                      refine k_iload_n hx_g1 dL_isTold_278 1 rfl ?_
                      refine k_iconst hx_g1 dL_isTold_279 ?_
                      refine k_vi (rest := []) hx_g1 vL_45 dL_isTold_280 (q_falls I_260 hz) n_0 L_0 rfl rfl rfl ⟨rfl, rfl⟩ ⟨by decide, by decide⟩ (fun z_280 M_280 p_280 => ?_)
                      obtain ⟨e_280, I_280, o_280⟩ := p_280
                      have I_280 : Inv M_280 σ := I_280
                      have e_280 : z_280 = b2i (decide (red (rope σ.1 z) = [])) := by rw [e_280]
                      subst e_280
                      have hwc : Wa M_280 i1 (red (rope σ.1 z)) := hwb.same (o_280 i1 hA_i1.1)
                      refine k_aload_n hx_g1 dL_isTold_283 2 rfl ?_
                      refine k_iconst hx_g1 dL_isTold_284 ?_
                      refine k_iald (v := ((red (rope σ.1 z)).length)) hx_g1 dL_isTold_285 hA_i1.2 (LAY_hi hA_i1.1) (by omega) (by decide) (hwc.1) ?_
                      refine k_ifne hx_g1 dL_isTold_286 (by omega) (fun h_286 => ?_) (fun h_286 => absurd h_286 (by omega))
                      refine k_iconst hx_g1 dL_isTold_293 ?_
                      refine k_icmp_eq hx_g1 dL_isTold_294 (by omega) (fun h_294 => ?_) (fun h_294 => absurd h_294 (by omega))
                      exact j299 M_280 I_280 hwc y
                    · have hbz : b2i (decide (red (rope σ.1 z) = [])) = 1 := (b2i_t (List.length_eq_zero_iff.mp (by omega))).symm
                      refine k_iconst hx_g1 dL_isTold_269 ?_
                      refine k_goto hx_g1 dL_isTold_270 ?_
                      refine k_icmp_ne hx_g1 dL_isTold_274 (by omega) (fun h_274 => absurd h_274 (by omega)) (fun h_274 => ?_)
                      refine k_aload_n hx_g1 dL_isTold_277 0 rfl ?_
                      refine k_iload_n hx_g1 dL_isTold_278 1 rfl ?_
                      refine k_iconst hx_g1 dL_isTold_279 ?_
                      refine k_vi (rest := []) hx_g1 vL_45 dL_isTold_280 (q_falls I_260 hz) n_0 L_0 rfl rfl rfl ⟨rfl, rfl⟩ ⟨by decide, by decide⟩ (fun z_280 M_280 p_280 => ?_)
                      obtain ⟨e_280, I_280, o_280⟩ := p_280
                      have I_280 : Inv M_280 σ := I_280
                      have e_280 : z_280 = b2i (decide (red (rope σ.1 z) = [])) := by rw [e_280]
                      subst e_280
                      have hwc : Wa M_280 i1 (red (rope σ.1 z)) := hwb.same (o_280 i1 hA_i1.1)
                      refine k_aload_n hx_g1 dL_isTold_283 2 rfl ?_
                      refine k_iconst hx_g1 dL_isTold_284 ?_
                      refine k_iald (v := ((red (rope σ.1 z)).length)) hx_g1 dL_isTold_285 hA_i1.2 (LAY_hi hA_i1.1) (by omega) (by decide) (hwc.1) ?_
                      refine k_ifne hx_g1 dL_isTold_286 (by omega) (fun h_286 => absurd h_286 (by omega)) (fun h_286 => ?_)
                      refine k_iconst hx_g1 dL_isTold_289 ?_
                      refine k_goto hx_g1 dL_isTold_290 ?_
                      refine k_icmp_eq hx_g1 dL_isTold_294 (by omega) (fun h_294 => ?_) (fun h_294 => absurd h_294 (by omega))
                      exact j299 M_280 I_280 hwc y
                  · have hc := at0_z hwa.2.2 (z := y - 1) (by omega) (by omega)
                    have h6 := mod6 hc
                    have hpr := pst_rg hc
                    refine k_iload hx_g1 dL_isTold_211 5 rfl ?_
                    refine k_aload_n hx_g1 dL_isTold_213 0 rfl ?_
                    refine k_aload_n hx_g1 dL_isTold_214 2 rfl ?_
                    refine k_iload hx_g1 dL_isTold_215 6 rfl ?_
                    refine k_iald (v := (at0 (red (rope σ.1 z)) (y - 1))) hx_g1 dL_isTold_217 hA_i1.2 (LAY_hi hA_i1.1) (by omega) (by decide) (hwa.2.1 _ (by omega) (by omega)) ?_
                    refine k_bipush hx_g1 dL_isTold_218 (by decide +kernel) ?_
                    refine k_irem hx_g1 dL_isTold_220 (by omega) ?_
                    rw [h6]
                    refine k_vi (rest := [vI sm]) hx_g1 vL_35 dL_isTold_221 (q_count I' (p := pst (at0 (red (rope σ.1 z)) (y - 1))) hpr) n_0 L_0 rfl rfl rfl ⟨rfl, rfl⟩ ⟨by decide, by decide⟩ (fun z_221 M_221 p_221 => ?_)
                    obtain ⟨e_221, I_221, o_221⟩ := p_221
                    have I_221 : Inv M_221 σ := I_221
                    have e_221 : z_221 = (σ.1.1).getD (pst (at0 (red (rope σ.1 z)) (y - 1))).toNat 0 := by rw [e_221]
                    subst e_221
                    refine k_iadd hx_g1 dL_isTold_224 ?_
                    refine k_istore (ls' := [(0, vR g1 0), (1, vI z), (2, vR g1 i1), (3, vI wd), (4, vI pr), (5, vI (sm + ((σ.1.1).getD (pst (at0 (red (rope σ.1 z)) (y - 1))).toNat 0))), (6, vI y)]) hx_g1 dL_isTold_225 rfl rfl (by decide) ?_
                    refine k_iinc (ls' := [(0, vR g1 0), (1, vI z), (2, vR g1 i1), (3, vI wd), (4, vI pr), (5, vI (sm + ((σ.1.1).getD (pst (at0 (red (rope σ.1 z)) (y - 1))).toNat 0))), (6, vI (y + 1))]) hx_g1 dL_isTold_227 6 rfl rfl rfl (by decide) ?_
                    refine k_goto hx_g1 dL_isTold_230 ?_
                    exact ih3 (kk + 1) _ (y + 1) M_221 (by omega) (by omega) (by omega) (by rw [wsF_1, hsm, show y - 1 = (kk : Int) by omega]) I_221 (hwa.same (o_221 i1 hA_i1.1))
              refine k_iconst hx_g1 dL_isTold_197 ?_
              refine k_istore (ls' := [(0, vR g1 0), (1, vI z), (2, vR g1 i1), (3, vI wd), (4, vI pr), (5, vI 0)]) hx_g1 dL_isTold_198 rfl rfl (by decide) ?_
              refine k_iconst hx_g1 dL_isTold_200 ?_
              refine k_istore (ls' := [(0, vR g1 0), (1, vI z), (2, vR g1 i1), (3, vI wd), (4, vI pr), (5, vI 0), (6, vI 1)]) hx_g1 dL_isTold_201 rfl rfl (by decide) ?_
              exact loop3 ((red (rope σ.1 z)).length + 1) 0 0 1 M_194 (by omega) (by omega) (by omega) rfl I_194 w_194
            · have loopw : ∀ (fw : Nat), ∀ (kk : Nat) (wn y : Int), y = kk + 1 → kk ≤ (rope σ.1 z).length → (rope σ.1 z).length - kk < fw → wn = 1000 + wndF (rope σ.1 z) p kk → K x g1 1 64 LAY (NN g1) M' 100 [(0, vR g1 0), (1, vI z), (2, vR g1 i1), (3, vI wd), (4, vI pr), (5, vI p), (6, vI wn), (7, vI y)] [] := by
                intro fw
                induction fw with
                | zero => intro kk wn y hy hk hf hwn; omega
                | succ fw ihw =>
                  intro kk wn y hy hk hf hwn
                  have hwr := wndF_rg (rope σ.1 z) p kk
                  refine k_iload hx_g1 dL_isTold_100 7 rfl ?_
                  refine k_aload_n hx_g1 dL_isTold_102 2 rfl ?_
                  refine k_iconst hx_g1 dL_isTold_103 ?_
                  refine k_iald (v := ((rope σ.1 z).length)) hx_g1 dL_isTold_104 hA_i1.2 (LAY_hi hA_i1.1) (by omega) (by decide) (hwa.1) ?_
                  refine k_icmp_gt hx_g1 dL_isTold_105 (by omega) (fun h_105 => ?_) (fun h_105 => ?_)
                  · refine k_aload_n hx_g1 dL_isTold_149 0 rfl ?_
                    refine k_iload_n hx_g1 dL_isTold_150 1 rfl ?_
                    refine k_iload hx_g1 dL_isTold_151 5 rfl ?_
                    refine k_vi (rest := []) hx_g1 vL_38 dL_isTold_153 (q_winds I' hz (p := p) (by omega)) n_0 L_0 rfl rfl rfl ⟨rfl, rfl⟩ ⟨by decide, by decide⟩ (fun z_153 M_153 p_153 => ?_)
                    obtain ⟨e_153, I_153, o_153⟩ := p_153
                    have I_153 : Inv M_153 σ := I_153
                    have e_153 : z_153 = 1000 + wnd (rope σ.1 z) p := by rw [e_153]
                    subst e_153
                    have hwe : wn = 1000 + wnd (rope σ.1 z) p := by rw [hwn, show kk = (rope σ.1 z).length by omega]; rfl
                    refine k_iload hx_g1 dL_isTold_156 6 rfl ?_
                    refine k_icmp_eq hx_g1 dL_isTold_158 (by omega) (fun h_158 => ?_) (fun h_158 => absurd h_158 (by omega))
                    refine k_iinc (ls' := [(0, vR g1 0), (1, vI z), (2, vR g1 i1), (3, vI wd), (4, vI pr), (5, vI (p + 1)), (6, vI wn), (7, vI y)]) hx_g1 dL_isTold_163 5 rfl rfl rfl (by decide) ?_
                    refine k_goto hx_g1 dL_isTold_166 ?_
                    refine K.sub [0, 1, 2, 3, 4, 5] rfl ?_
                    exact ihp (pn + 1) (p + 1) M_153 (by omega) (by omega) (by omega) I_153 (hwa.same (o_153 i1 hA_i1.1))
                  · have hc := at0_z hwa.2.2 (z := y - 1) (by omega) (by omega)
                    have e1 : at0 (rope σ.1 z) (y - 1) = at0 (rope σ.1 z) kk := by congr 1; omega
                    have e2 : op p = p + 6 := by unfold op; rw [if_pos (by omega)]
                    have hst := wndF_1 (rope σ.1 z) p kk
                    refine k_iload hx_g1 dL_isTold_108 6 rfl ?_
                    refine k_aload_n hx_g1 dL_isTold_110 2 rfl ?_
                    refine k_iload hx_g1 dL_isTold_111 7 rfl ?_
                    refine k_iald (v := (at0 (rope σ.1 z) (y - 1))) hx_g1 dL_isTold_113 hA_i1.2 (LAY_hi hA_i1.1) (by omega) (by decide) (hwa.2.1 _ (by omega) (by omega)) ?_
                    refine k_iload hx_g1 dL_isTold_114 5 rfl ?_
                    refine k_icmp_ne hx_g1 dL_isTold_116 (by omega) (fun h_116 => ?_) (fun h_116 => ?_)
                    · refine k_aload_n hx_g1 dL_isTold_123 2 rfl ?_
                      refine k_iload hx_g1 dL_isTold_124 7 rfl ?_
                      refine k_iald (v := (at0 (rope σ.1 z) (y - 1))) hx_g1 dL_isTold_126 hA_i1.2 (LAY_hi hA_i1.1) (by omega) (by decide) (hwa.2.1 _ (by omega) (by omega)) ?_
                      refine k_iload hx_g1 dL_isTold_127 5 rfl ?_
                      refine k_bipush hx_g1 dL_isTold_129 (by decide +kernel) ?_
                      refine k_iadd hx_g1 dL_isTold_131 ?_
                      refine k_icmp_ne hx_g1 dL_isTold_132 (by omega) (fun h_132 => ?_) (fun h_132 => ?_)
                      · refine k_iconst hx_g1 dL_isTold_139 ?_
                        refine k_iadd hx_g1 dL_isTold_140 ?_
                        refine k_istore (ls' := [(0, vR g1 0), (1, vI z), (2, vR g1 i1), (3, vI wd), (4, vI pr), (5, vI p), (6, vI (wn + 0)), (7, vI y)]) hx_g1 dL_isTold_141 rfl rfl (by decide) ?_
                        refine k_iinc (ls' := [(0, vR g1 0), (1, vI z), (2, vR g1 i1), (3, vI wd), (4, vI pr), (5, vI p), (6, vI (wn + 0)), (7, vI (y + 1))]) hx_g1 dL_isTold_143 7 rfl rfl rfl (by decide) ?_
                        refine k_goto hx_g1 dL_isTold_146 ?_
                        exact ihw (kk + 1) _ (y + 1) (by omega) (by omega) (by omega) (by rw [hst, hwn, ← e1]; rw [if_neg (by omega), if_neg (by omega)]; omega)
                      · refine k_iconst hx_g1 dL_isTold_135 ?_
                        refine k_goto hx_g1 dL_isTold_136 ?_
                        refine k_iadd hx_g1 dL_isTold_140 ?_
                        refine k_istore (ls' := [(0, vR g1 0), (1, vI z), (2, vR g1 i1), (3, vI wd), (4, vI pr), (5, vI p), (6, vI (wn + (-1))), (7, vI y)]) hx_g1 dL_isTold_141 rfl rfl (by decide) ?_
                        refine k_iinc (ls' := [(0, vR g1 0), (1, vI z), (2, vR g1 i1), (3, vI wd), (4, vI pr), (5, vI p), (6, vI (wn + (-1))), (7, vI (y + 1))]) hx_g1 dL_isTold_143 7 rfl rfl rfl (by decide) ?_
                        refine k_goto hx_g1 dL_isTold_146 ?_
                        exact ihw (kk + 1) _ (y + 1) (by omega) (by omega) (by omega) (by rw [hst, hwn, ← e1]; rw [if_neg (by omega), if_pos (by omega)]; omega)
                    · refine k_iconst hx_g1 dL_isTold_119 ?_
                      refine k_goto hx_g1 dL_isTold_120 ?_
                      refine k_iadd hx_g1 dL_isTold_140 ?_
                      refine k_istore (ls' := [(0, vR g1 0), (1, vI z), (2, vR g1 i1), (3, vI wd), (4, vI pr), (5, vI p), (6, vI (wn + 1)), (7, vI y)]) hx_g1 dL_isTold_141 rfl rfl (by decide) ?_
                      refine k_iinc (ls' := [(0, vR g1 0), (1, vI z), (2, vR g1 i1), (3, vI wd), (4, vI pr), (5, vI p), (6, vI (wn + 1)), (7, vI (y + 1))]) hx_g1 dL_isTold_143 7 rfl rfl rfl (by decide) ?_
                      refine k_goto hx_g1 dL_isTold_146 ?_
                      exact ihw (kk + 1) _ (y + 1) (by omega) (by omega) (by omega) (by rw [hst, hwn, ← e1]; rw [if_pos (by omega)]; omega)
              refine k_sipush hx_g1 dL_isTold_92 (by decide +kernel) ?_
              refine k_istore (ls' := [(0, vR g1 0), (1, vI z), (2, vR g1 i1), (3, vI wd), (4, vI pr), (5, vI p), (6, vI 1000)]) hx_g1 dL_isTold_95 rfl rfl (by decide) ?_
              refine k_iconst hx_g1 dL_isTold_97 ?_
              refine k_istore (ls' := [(0, vR g1 0), (1, vI z), (2, vR g1 i1), (3, vI wd), (4, vI pr), (5, vI p), (6, vI 1000), (7, vI 1)]) hx_g1 dL_isTold_98 rfl rfl (by decide) ?_
              exact loopw ((rope σ.1 z).length + 1) 0 1000 1 (by omega) (by omega) (by omega) rfl
        refine k_iconst hx_g1 dL_isTold_82 ?_
        refine k_istore (ls' := [(0, vR g1 0), (1, vI z), (2, vR g1 i1), (3, vI wd), (4, vI pr), (5, vI 0)]) hx_g1 dL_isTold_83 rfl rfl (by decide) ?_
        exact loopp 7 0 0 M' (by omega) (by omega) (by omega) I' hwa
      · obtain ⟨m, rfl⟩ : ∃ m, kn = m + 1 := ⟨kn - 1, by omega⟩
        have hc := at0_z hwa.2.2 (z := y - 1) (by omega) (by omega)
        have e1 : at0 (rope σ.1 z) (y - 1) = at0 (rope σ.1 z) m := by congr 1; omega
        have e2 : at0 (rope σ.1 z) y = at0 (rope σ.1 z) (m + 1 : Nat) := by congr 1
        have h6 := mod6 hc
        have hpr2 := pst_rg hc
        have hst := fp_step (w := rope σ.1 z) (k := m) (by omega)
        have hws := wsF_1 σ.1.1 (rope σ.1 z) m
        refine k_iload_n hx_g1 dL_isTold_27 3 rfl ?_
        refine k_aload_n hx_g1 dL_isTold_28 0 rfl ?_
        refine k_aload_n hx_g1 dL_isTold_29 2 rfl ?_
        refine k_iload hx_g1 dL_isTold_30 5 rfl ?_
        refine k_iald (v := (at0 (rope σ.1 z) (y - 1))) hx_g1 dL_isTold_32 hA_i1.2 (LAY_hi hA_i1.1) (by omega) (by decide) (hwa.2.1 _ (by omega) (by omega)) ?_
        refine k_bipush hx_g1 dL_isTold_33 (by decide +kernel) ?_
        refine k_irem hx_g1 dL_isTold_35 (by omega) ?_
        rw [h6]
        refine k_vi (rest := [vI wd]) hx_g1 vL_35 dL_isTold_36 (q_count I' (p := pst (at0 (rope σ.1 z) (y - 1))) hpr2) n_0 L_0 rfl rfl rfl ⟨rfl, rfl⟩ ⟨by decide, by decide⟩ (fun z_36 M_36 p_36 => ?_)
        obtain ⟨e_36, I_36, o_36⟩ := p_36
        have I_36 : Inv M_36 σ := I_36
        have e_36 : z_36 = (σ.1.1).getD (pst (at0 (rope σ.1 z) (y - 1))).toNat 0 := by rw [e_36]
        subst e_36
        have hwb : Wa M_36 i1 (rope σ.1 z) := hwa.same (o_36 i1 hA_i1.1)
        refine k_iadd hx_g1 dL_isTold_39 ?_
        refine k_istore_n (ls' := [(0, vR g1 0), (1, vI z), (2, vR g1 i1), (3, vI (wd + ((σ.1.1).getD (pst (at0 (rope σ.1 z) (y - 1))).toNat 0))), (4, vI pr), (5, vI y)]) hx_g1 dL_isTold_40 rfl rfl (by decide) ?_
        refine k_iload hx_g1 dL_isTold_41 5 rfl ?_
        refine k_aload_n hx_g1 dL_isTold_43 2 rfl ?_
        refine k_iconst hx_g1 dL_isTold_44 ?_
        refine k_iald (v := ((rope σ.1 z).length)) hx_g1 dL_isTold_45 hA_i1.2 (LAY_hi hA_i1.1) (by omega) (by decide) (hwb.1) ?_
        refine k_icmp_ge hx_g1 dL_isTold_46 (by omega) (fun h_46 => ?_) (fun h_46 => ?_)
        · refine k_iload hx_g1 dL_isTold_72 4 rfl ?_
          refine k_istore (ls' := [(0, vR g1 0), (1, vI z), (2, vR g1 i1), (3, vI (wd + ((σ.1.1).getD (pst (at0 (rope σ.1 z) (y - 1))).toNat 0))), (4, vI pr), (5, vI y)]) hx_g1 dL_isTold_74 rfl rfl (by decide) ?_
          refine k_iinc (ls' := [(0, vR g1 0), (1, vI z), (2, vR g1 i1), (3, vI (wd + ((σ.1.1).getD (pst (at0 (rope σ.1 z) (y - 1))).toNat 0))), (4, vI pr), (5, vI (y + (-1)))]) hx_g1 dL_isTold_76 5 rfl rfl rfl (by decide) ?_
          refine k_goto hx_g1 dL_isTold_79 ?_
          exact ih1 m _ _ (y + (-1)) M_36 (by omega) (by omega) (by omega) (by rw [hwd, hws, ← e1]; omega) (by rw [hst]; rw [if_neg (fun q => by first | omega | exact h_62 (by rw [e1, e2]; exact q.2))]; exact hpr) I_36 hwb
        · refine k_aload_n hx_g1 dL_isTold_49 2 rfl ?_
          refine k_iload hx_g1 dL_isTold_50 5 rfl ?_
          have hc2 := at0_z hwa.2.2 (z := y) (by omega) (by omega)
          refine k_iald (v := (at0 (rope σ.1 z) (y - 1))) hx_g1 dL_isTold_52 hA_i1.2 (LAY_hi hA_i1.1) (by omega) (by decide) (hwb.2.1 _ (by omega) (by omega)) ?_
          refine k_aload_n hx_g1 dL_isTold_53 2 rfl ?_
          refine k_iload hx_g1 dL_isTold_54 5 rfl ?_
          refine k_iconst hx_g1 dL_isTold_56 ?_
          refine k_iadd hx_g1 dL_isTold_57 ?_
          refine k_iald (v := (at0 (rope σ.1 z) y)) hx_g1 dL_isTold_58 hA_i1.2 (LAY_hi hA_i1.1) (by omega) (by decide) (by rw [hwb.2.1 _ (by omega) (by omega)]; congr 1; omega) ?_
          refine k_sp (rest := []) (e := (b2i (decide ((at0 (rope σ.1 z) (y - 1)) = op (at0 (rope σ.1 z) y))))) hx_g1 sL_23 dL_isTold_59 (c_L_cancel (a := (at0 (rope σ.1 z) (y - 1))) (b := (at0 (rope σ.1 z) y)) (by omega) (by omega)) rfl rfl rfl ⟨rfl, rfl⟩ ⟨by decide, by decide⟩ ?_
          refine k_beq hx_g1 dL_isTold_62 (fun h_62 => ?_) (fun h_62 => ?_)
          · refine k_iload hx_g1 dL_isTold_72 4 rfl ?_
            refine k_istore (ls' := [(0, vR g1 0), (1, vI z), (2, vR g1 i1), (3, vI (wd + ((σ.1.1).getD (pst (at0 (rope σ.1 z) (y - 1))).toNat 0))), (4, vI pr), (5, vI y)]) hx_g1 dL_isTold_74 rfl rfl (by decide) ?_
            refine k_iinc (ls' := [(0, vR g1 0), (1, vI z), (2, vR g1 i1), (3, vI (wd + ((σ.1.1).getD (pst (at0 (rope σ.1 z) (y - 1))).toNat 0))), (4, vI pr), (5, vI (y + (-1)))]) hx_g1 dL_isTold_76 5 rfl rfl rfl (by decide) ?_
            refine k_goto hx_g1 dL_isTold_79 ?_
            exact ih1 m _ _ (y + (-1)) M_36 (by omega) (by omega) (by omega) (by rw [hwd, hws, ← e1]; omega) (by rw [hst]; rw [if_neg (fun q => by first | omega | exact h_62 (by rw [e1, e2]; exact q.2))]; exact hpr) I_36 hwb
          · refine k_iload hx_g1 dL_isTold_65 5 rfl ?_
            refine k_iconst hx_g1 dL_isTold_67 ?_
            refine k_isub hx_g1 dL_isTold_68 ?_
            refine k_goto hx_g1 dL_isTold_69 ?_
            refine k_istore (ls' := [(0, vR g1 0), (1, vI z), (2, vR g1 i1), (3, vI (wd + ((σ.1.1).getD (pst (at0 (rope σ.1 z) (y - 1))).toNat 0))), (4, vI (y - 1)), (5, vI y)]) hx_g1 dL_isTold_74 rfl rfl (by decide) ?_
            refine k_iinc (ls' := [(0, vR g1 0), (1, vI z), (2, vR g1 i1), (3, vI (wd + ((σ.1.1).getD (pst (at0 (rope σ.1 z) (y - 1))).toNat 0))), (4, vI (y - 1)), (5, vI (y + (-1)))]) hx_g1 dL_isTold_76 5 rfl rfl rfl (by decide) ?_
            refine k_goto hx_g1 dL_isTold_79 ?_
            exact ih1 m _ _ (y + (-1)) M_36 (by omega) (by omega) (by omega) (by rw [hwd, hws, ← e1]; omega) (by rw [hst]; rw [if_pos ⟨by omega, by rw [← e1, ← e2]; exact h_62⟩]; omega) I_36 hwb
  exact loop1 ((rope σ.1 z).length + 1) (rope σ.1 z).length 0 (-6) (rope σ.1 z).length M_8 rfl (Nat.le_refl _) (by omega) (by show (0 : Int) = wsF _ _ _ - _; omega) (by rw [show (rope σ.1 z).length + 1 - (rope σ.1 z).length = 0 + 1 by omega, fpF, if_neg (by omega)]) I_8 w_8
end

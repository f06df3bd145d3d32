def RX0 : String := "HotPanLocks$History"
def TX0 : u_T := fun k => match k with
  | 0 => ("HotPanLocks$History", "slots", "[LHotPanLocks$State;", true)
  | 1 => ("HotPanLocks$History", "next", "I", false)
  | _ => ("HotPanLocks$History", "kept", "I", false)
def tyX0 : Nat → FieldType := fun k => match k with
  | 0 => .array (.object "HotPanLocks$State")
  | 1 => .int
  | _ => .int
abbrev wsX00 : List Cond := u_ws RX0 TX0 3
theorem nmX0 : ∀ a, a < 3 → ∀ b, b < 3 → a ≠ b → (TX0 a).2.1 ≠ (TX0 b).2.1 := by decide +kernel
theorem tyX0_ok : ∀ k, k < 3 → parseFieldDescriptor (TX0 k).2.2.1 = some (tyX0 k) := by decide +kernel
abbrev cX0_init : ByteArray := prog_2_method_1_code
def yX0_init : MethodName := ⟨RX0, "<init>", "()V"⟩
abbrev cX0_slotAt : ByteArray := prog_2_method_2_code
def yX0_slotAt : MethodName := ⟨RX0, "slotAt", "(I)LHotPanLocks$State;"⟩
abbrev cX0_save : ByteArray := prog_2_method_3_code
def yX0_save : MethodName := ⟨RX0, "save", "(LHotPanLocks$State;)V"⟩
def RX1 : String := "HotPanLocks$Numbers"
def TX1 : u_T := fun k => match k with
  | _ => ("HotPanLocks$Numbers", "cells", "[I", true)
def tyX1 : Nat → FieldType := fun k => match k with
  | _ => .array .int
abbrev wsX10 : List Cond := u_ws RX1 TX1 1
theorem nmX1 : ∀ a, a < 1 → ∀ b, b < 1 → a ≠ b → (TX1 a).2.1 ≠ (TX1 b).2.1 := by decide +kernel
theorem tyX1_ok : ∀ k, k < 1 → parseFieldDescriptor (TX1 k).2.2.1 = some (tyX1 k) := by decide +kernel
abbrev cX1_init : ByteArray := prog_3_method_1_code
def yX1_init : MethodName := ⟨RX1, "<init>", "(I)V"⟩
abbrev cX1_at : ByteArray := prog_3_method_2_code
def yX1_at : MethodName := ⟨RX1, "at", "(I)I"⟩
abbrev cX1_put : ByteArray := prog_3_method_3_code
def yX1_put : MethodName := ⟨RX1, "put", "(II)V"⟩
abbrev cX1_raise : ByteArray := prog_3_method_4_code
def yX1_raise : MethodName := ⟨RX1, "raise", "(I)V"⟩
abbrev cX1_sum : ByteArray := prog_3_method_5_code
def yX1_sum : MethodName := ⟨RX1, "sum", "()I"⟩
abbrev cX1_copyFrom : ByteArray := prog_3_method_6_code
def yX1_copyFrom : MethodName := ⟨RX1, "copyFrom", "(LHotPanLocks$Numbers;)V"⟩
def RX2 : String := "HotPanLocks$State"
def TX2 : u_T := fun k => match k with
  | 0 => ("HotPanLocks$State", "locks", "LHotPanLocks$Numbers;", true)
  | 1 => ("HotPanLocks$State", "requestRow", "LHotPanLocks$Numbers;", true)
  | 2 => ("HotPanLocks$State", "requestMode", "LHotPanLocks$Numbers;", true)
  | 3 => ("HotPanLocks$State", "requestPlace", "LHotPanLocks$Numbers;", true)
  | 4 => ("HotPanLocks$State", "heat", "LHotPanLocks$Numbers;", true)
  | 5 => ("HotPanLocks$State", "handedOn", "LHotPanLocks$Numbers;", true)
  | 6 => ("HotPanLocks$State", "burnt", "LHotPanLocks$Numbers;", true)
  | 7 => ("HotPanLocks$State", "lost", "LHotPanLocks$Numbers;", true)
  | 8 => ("HotPanLocks$State", "granted", "LHotPanLocks$Numbers;", true)
  | 9 => ("HotPanLocks$State", "asked", "LHotPanLocks$Numbers;", true)
  | 10 => ("HotPanLocks$State", "settings", "LHotPanLocks$Numbers;", true)
  | _ => ("HotPanLocks$State", "ticks", "I", false)
def tyX2 : Nat → FieldType := fun k => match k with
  | 0 => .object "HotPanLocks$Numbers"
  | 1 => .object "HotPanLocks$Numbers"
  | 2 => .object "HotPanLocks$Numbers"
  | 3 => .object "HotPanLocks$Numbers"
  | 4 => .object "HotPanLocks$Numbers"
  | 5 => .object "HotPanLocks$Numbers"
  | 6 => .object "HotPanLocks$Numbers"
  | 7 => .object "HotPanLocks$Numbers"
  | 8 => .object "HotPanLocks$Numbers"
  | 9 => .object "HotPanLocks$Numbers"
  | 10 => .object "HotPanLocks$Numbers"
  | _ => .int
abbrev wsX20 : List Cond := u_ws RX2 TX2 12
theorem nmX2 : ∀ a, a < 12 → ∀ b, b < 12 → a ≠ b → (TX2 a).2.1 ≠ (TX2 b).2.1 := by decide +kernel
theorem tyX2_ok : ∀ k, k < 12 → parseFieldDescriptor (TX2 k).2.2.1 = some (tyX2 k) := by decide +kernel
abbrev cX2_init : ByteArray := prog_4_method_1_code
def yX2_init : MethodName := ⟨RX2, "<init>", "()V"⟩
abbrev cX2_copyFrom : ByteArray := prog_4_method_2_code
def yX2_copyFrom : MethodName := ⟨RX2, "copyFrom", "(LHotPanLocks$State;)V"⟩
abbrev cX2_isWaiting : ByteArray := prog_4_method_3_code
def yX2_isWaiting : MethodName := ⟨RX2, "isWaiting", "(I)Z"⟩
abbrev cX2_queueLength : ByteArray := prog_4_method_4_code
def yX2_queueLength : MethodName := ⟨RX2, "queueLength", "(I)I"⟩
abbrev cX2_handAt : ByteArray := prog_4_method_5_code
def yX2_handAt : MethodName := ⟨RX2, "handAt", "(II)I"⟩
abbrev cX2_enqueue : ByteArray := prog_4_method_6_code
def yX2_enqueue : MethodName := ⟨RX2, "enqueue", "(III)V"⟩
abbrev cX2_placeForHolder : ByteArray := prog_4_method_7_code
def yX2_placeForHolder : MethodName := ⟨RX2, "placeForHolder", "(I)I"⟩
abbrev cX2_dequeue : ByteArray := prog_4_method_8_code
def yX2_dequeue : MethodName := ⟨RX2, "dequeue", "(I)V"⟩
abbrev cX2_clashes : ByteArray := prog_4_method_9_code
def yX2_clashes : MethodName := ⟨RX2, "clashes", "(IIII)Z"⟩
abbrev cX2_grant : ByteArray := prog_4_method_10_code
def yX2_grant : MethodName := ⟨RX2, "grant", "(I)V"⟩
abbrev cX2_settle : ByteArray := prog_4_method_11_code
def yX2_settle : MethodName := ⟨RX2, "settle", "(I)I"⟩
abbrev cX2_direct : ByteArray := prog_4_method_12_code
def yX2_direct : MethodName := ⟨RX2, "direct", "(I)I"⟩
abbrev cX2_reach : ByteArray := prog_4_method_13_code
def yX2_reach : MethodName := ⟨RX2, "reach", "(I)I"⟩
abbrev cX2_loserFor : ByteArray := prog_4_method_14_code
def yX2_loserFor : MethodName := ⟨RX2, "loserFor", "(I)I"⟩
abbrev cX2_strip : ByteArray := prog_4_method_15_code
def yX2_strip : MethodName := ⟨RX2, "strip", "(I)I"⟩
abbrev cX2_takeAsking : ByteArray := prog_4_method_16_code
def yX2_takeAsking : MethodName := ⟨RX2, "takeAsking", "(III)I"⟩
abbrev cX2_canLetGo : ByteArray := prog_4_method_17_code
def yX2_canLetGo : MethodName := ⟨RX2, "canLetGo", "(II)Z"⟩
abbrev cX2_letGo : ByteArray := prog_4_method_18_code
def yX2_letGo : MethodName := ⟨RX2, "letGo", "(II)I"⟩
abbrev cX2_stopWaiting : ByteArray := prog_4_method_19_code
def yX2_stopWaiting : MethodName := ⟨RX2, "stopWaiting", "(I)I"⟩
abbrev cX2_canPassOver : ByteArray := prog_4_method_20_code
def yX2_canPassOver : MethodName := ⟨RX2, "canPassOver", "(III)Z"⟩
abbrev cX2_passOver : ByteArray := prog_4_method_21_code
def yX2_passOver : MethodName := ⟨RX2, "passOver", "(III)I"⟩
abbrev cX2_takersOf : ByteArray := prog_4_method_22_code
def yX2_takersOf : MethodName := ⟨RX2, "takersOf", "(II)I"⟩
abbrev cX2_heatAfter : ByteArray := prog_4_method_23_code
def yX2_heatAfter : MethodName := ⟨RX2, "heatAfter", "(II)I"⟩
abbrev cX2_tick : ByteArray := prog_4_method_24_code
def yX2_tick : MethodName := ⟨RX2, "tick", "()I"⟩
abbrev cX2_burn : ByteArray := prog_4_method_25_code
def yX2_burn : MethodName := ⟨RX2, "burn", "(I)I"⟩
abbrev cX2_greatestMode : ByteArray := prog_4_method_27_code
def yX2_greatestMode : MethodName := ⟨RX2, "greatestMode", "(I)I"⟩
abbrev cX2_holders : ByteArray := prog_4_method_28_code
def yX2_holders : MethodName := ⟨RX2, "holders", "(I)I"⟩
abbrev cX2_locksOf : ByteArray := prog_4_method_29_code
def yX2_locksOf : MethodName := ⟨RX2, "locksOf", "(I)I"⟩
abbrev cX2_work : ByteArray := prog_4_method_30_code
def yX2_work : MethodName := ⟨RX2, "work", "(I)I"⟩
abbrev cX2_lockCount : ByteArray := prog_4_method_31_code
def yX2_lockCount : MethodName := ⟨RX2, "lockCount", "()I"⟩
abbrev cX2_waitingCount : ByteArray := prog_4_method_32_code
def yX2_waitingCount : MethodName := ⟨RX2, "waitingCount", "()I"⟩
abbrev cX2_heldRows : ByteArray := prog_4_method_33_code
def yX2_heldRows : MethodName := ⟨RX2, "heldRows", "()I"⟩
abbrev cX2_handPart : ByteArray := prog_4_method_34_code
def yX2_handPart : MethodName := ⟨RX2, "handPart", "(II)I"⟩
abbrev cX2_rowPart : ByteArray := prog_4_method_35_code
def yX2_rowPart : MethodName := ⟨RX2, "rowPart", "(II)I"⟩
abbrev cX2_requestPart : ByteArray := prog_4_method_36_code
def yX2_requestPart : MethodName := ⟨RX2, "requestPart", "(III)I"⟩
abbrev cX2_total : ByteArray := prog_4_method_37_code
def yX2_total : MethodName := ⟨RX2, "total", "(I)I"⟩
def RX3 : String := "HotPanLocks$Text"
def TX3 : u_T := fun k => match k with
  | 0 => ("HotPanLocks$Text", "codes", "LHotPanLocks$Numbers;", true)
  | _ => ("HotPanLocks$Text", "length", "I", false)
def tyX3 : Nat → FieldType := fun k => match k with
  | 0 => .object "HotPanLocks$Numbers"
  | _ => .int
abbrev wsX30 : List Cond := u_ws RX3 TX3 2
theorem nmX3 : ∀ a, a < 2 → ∀ b, b < 2 → a ≠ b → (TX3 a).2.1 ≠ (TX3 b).2.1 := by decide +kernel
theorem tyX3_ok : ∀ k, k < 2 → parseFieldDescriptor (TX3 k).2.2.1 = some (tyX3 k) := by decide +kernel
abbrev cX3_init : ByteArray := prog_5_method_1_code
def yX3_init : MethodName := ⟨RX3, "<init>", "()V"⟩
def RX4 : String := "HotPanLocks"
def TX4 : u_T := fun k => match k with
  | 0 => ("HotPanLocks", "state", "LHotPanLocks$State;", true)
  | 1 => ("HotPanLocks", "trial", "LHotPanLocks$State;", true)
  | 2 => ("HotPanLocks", "history", "LHotPanLocks$History;", true)
  | _ => ("HotPanLocks", "text", "LHotPanLocks$Text;", true)
def tyX4 : Nat → FieldType := fun k => match k with
  | 0 => .object "HotPanLocks$State"
  | 1 => .object "HotPanLocks$State"
  | 2 => .object "HotPanLocks$History"
  | _ => .object "HotPanLocks$Text"
abbrev wsX40 : List Cond := u_ws RX4 TX4 4
theorem nmX4 : ∀ a, a < 4 → ∀ b, b < 4 → a ≠ b → (TX4 a).2.1 ≠ (TX4 b).2.1 := by decide +kernel
theorem tyX4_ok : ∀ k, k < 4 → parseFieldDescriptor (TX4 k).2.2.1 = some (tyX4 k) := by decide +kernel
abbrev cX4_init : ByteArray := prog_1_method_1_code
def yX4_init : MethodName := ⟨RX4, "<init>", "()V"⟩
abbrev cX4_ask : ByteArray := prog_1_method_2_code
def yX4_ask : MethodName := ⟨RX4, "ask", "(III)I"⟩
abbrev cX4_release : ByteArray := prog_1_method_3_code
def yX4_release : MethodName := ⟨RX4, "release", "(II)I"⟩
abbrev cX4_giveUp : ByteArray := prog_1_method_4_code
def yX4_giveUp : MethodName := ⟨RX4, "giveUp", "(I)I"⟩
abbrev cX4_handOn : ByteArray := prog_1_method_5_code
def yX4_handOn : MethodName := ⟨RX4, "handOn", "(III)I"⟩
abbrev cX4_pass : ByteArray := prog_1_method_6_code
def yX4_pass : MethodName := ⟨RX4, "pass", "(I)I"⟩
abbrev cX4_set : ByteArray := prog_1_method_8_code
def yX4_set : MethodName := ⟨RX4, "set", "(II)I"⟩
abbrev cX4_lock : ByteArray := prog_1_method_14_code
def yX4_lock : MethodName := ⟨RX4, "lock", "(II)I"⟩
abbrev cX4_hand : ByteArray := prog_1_method_15_code
def yX4_hand : MethodName := ⟨RX4, "hand", "(II)I"⟩
abbrev cX4_row : ByteArray := prog_1_method_16_code
def yX4_row : MethodName := ⟨RX4, "row", "(II)I"⟩
abbrev cX4_request : ByteArray := prog_1_method_17_code
def yX4_request : MethodName := ⟨RX4, "request", "(III)I"⟩
abbrev cX4_count : ByteArray := prog_1_method_18_code
def yX4_count : MethodName := ⟨RX4, "count", "(I)I"⟩
abbrev cX4_takers : ByteArray := prog_1_method_21_code
def yX4_takers : MethodName := ⟨RX4, "takers", "(II)I"⟩
abbrev cX4_waitsFor : ByteArray := prog_1_method_23_code
def yX4_waitsFor : MethodName := ⟨RX4, "waitsFor", "(I)I"⟩
abbrev cX4_isHand : ByteArray := prog_1_method_27_code
def yX4_isHand : MethodName := ⟨RX4, "isHand", "(I)Z"⟩
abbrev cX4_isRow : ByteArray := prog_1_method_28_code
def yX4_isRow : MethodName := ⟨RX4, "isRow", "(I)Z"⟩
abbrev cX4_isMode : ByteArray := prog_1_method_29_code
def yX4_isMode : MethodName := ⟨RX4, "isMode", "(I)Z"⟩
abbrev cX4_isSetting : ByteArray := prog_1_method_30_code
def yX4_isSetting : MethodName := ⟨RX4, "isSetting", "(I)Z"⟩
abbrev cX4_leastValue : ByteArray := prog_1_method_31_code
def yX4_leastValue : MethodName := ⟨RX4, "leastValue", "(I)I"⟩
abbrev cX4_greatestValue : ByteArray := prog_1_method_32_code
def yX4_greatestValue : MethodName := ⟨RX4, "greatestValue", "(I)I"⟩
abbrev cX4_cell : ByteArray := prog_1_method_33_code
def yX4_cell : MethodName := ⟨RX4, "cell", "(II)I"⟩
abbrev cX4_has : ByteArray := prog_1_method_34_code
def yX4_has : MethodName := ⟨RX4, "has", "(II)Z"⟩
abbrev cX4_numberOf : ByteArray := prog_1_method_37_code
def yX4_numberOf : MethodName := ⟨RX4, "numberOf", "(I)I"⟩
def RX5 : String := "HotPanLocksModel"
def TX5 : u_T := fun k => match k with
  | _ => ("", "", "", false)
def tyX5 : Nat → FieldType := fun k => match k with
  | _ => .int
abbrev wsX50 : List Cond := u_ws RX5 TX5 0
theorem nmX5 : ∀ a, a < 0 → ∀ b, b < 0 → a ≠ b → (TX5 a).2.1 ≠ (TX5 b).2.1 := by decide +kernel
theorem tyX5_ok : ∀ k, k < 0 → parseFieldDescriptor (TX5 k).2.2.1 = some (tyX5 k) := by decide +kernel
def RJ9 : String := "java/lang/Math"
def TJ9 : u_T := fun k => match k with
  | _ => ("", "", "", false)
def tyJ9 : Nat → FieldType := fun k => match k with
  | _ => .int
abbrev wsJ90 : List Cond := u_ws RJ9 TJ9 0
theorem nmJ9 : ∀ a, a < 0 → ∀ b, b < 0 → a ≠ b → (TJ9 a).2.1 ≠ (TJ9 b).2.1 := by decide +kernel
theorem tyJ9_ok : ∀ k, k < 0 → parseFieldDescriptor (TJ9 k).2.2.1 = some (tyJ9 k) := by decide +kernel
abbrev cJ9_max_7cf53 : ByteArray := prog_12_method_65_code
def yJ9_max_7cf53 : MethodName := ⟨RJ9, "max", "(II)I"⟩
abbrev cJ9_min_7cf53 : ByteArray := prog_12_method_69_code
def yJ9_min_7cf53 : MethodName := ⟨RJ9, "min", "(II)I"⟩
def RJ0 : String := "java/lang/String"
def TJ0 : u_T := fun k => match k with
  | _ => ("", "", "", false)
def tyJ0 : Nat → FieldType := fun k => match k with
  | _ => .int
abbrev wsJ00 : List Cond := u_ws RJ0 TJ0 0
theorem nmJ0 : ∀ a, a < 0 → ∀ b, b < 0 → a ≠ b → (TJ0 a).2.1 ≠ (TJ0 b).2.1 := by decide +kernel
theorem tyJ0_ok : ∀ k, k < 0 → parseFieldDescriptor (TJ0 k).2.2.1 = some (tyJ0 k) := by decide +kernel
def RJ10 : String := "java/lang/System"
def TJ10 : u_T := fun k => match k with
  | _ => ("", "", "", false)
def tyJ10 : Nat → FieldType := fun k => match k with
  | _ => .int
abbrev wsJ100 : List Cond := u_ws RJ10 TJ10 0
theorem nmJ10 : ∀ a, a < 0 → ∀ b, b < 0 → a ≠ b → (TJ10 a).2.1 ≠ (TJ10 b).2.1 := by decide +kernel
theorem tyJ10_ok : ∀ k, k < 0 → parseFieldDescriptor (TJ10 k).2.2.1 = some (tyJ10 k) := by decide +kernel
def RL : String := "HotPanLocksLaw"
abbrev cL_cell : ByteArray := method_2_code
def yL_cell : MethodName := ⟨RL, "cell", "([II)I"⟩
abbrev cL_at : ByteArray := method_3_code
def yL_at : MethodName := ⟨RL, "at", "(II)I"⟩
abbrev cL_rowOf : ByteArray := method_4_code
def yL_rowOf : MethodName := ⟨RL, "rowOf", "([I[II)I"⟩
abbrev cL_clashes : ByteArray := method_5_code
def yL_clashes : MethodName := ⟨RL, "clashes", "([IIIII)Z"⟩
abbrev cL_waits : ByteArray := method_6_code
def yL_waits : MethodName := ⟨RL, "waits", "([I[I[II)I"⟩
abbrev cL_over : ByteArray := method_7_code
def yL_over : MethodName := ⟨RL, "over", "([I[I[II)I"⟩
abbrev cL_leave : ByteArray := method_8_code
def yL_leave : MethodName := ⟨RL, "leave", "([I[III)V"⟩
abbrev cL_settle : ByteArray := method_9_code
def yL_settle : MethodName := ⟨RL, "settle", "([I[I[I[II)I"⟩
abbrev cL_work : ByteArray := method_10_code
def yL_work : MethodName := ⟨RL, "work", "([II)I"⟩
abbrev cL_asks : ByteArray := method_11_code
def yL_asks : MethodName := ⟨RL, "asks", "([I[I[I[I[I[IIII)I"⟩
abbrev cL_act : ByteArray := method_12_code
def yL_act : MethodName := ⟨RL, "act", "(LHotPanLocks;II[I[I[I[I[I[I[I[I[I)Z"⟩
abbrev cL_agree : ByteArray := method_13_code
def yL_agree : MethodName := ⟨RL, "agree", "(LHotPanLocks;[I[I[I[I[I[I[I[I[I)Z"⟩
abbrev cL_law : ByteArray := code
def yL_law : MethodName := ⟨RL, "law", "([I)Z"⟩
abbrev vwCl : List vw_C := [(RX0, TX0, 3), (RX1, TX1, 1), (RX2, TX2, 12), (RX3, TX3, 2), (RX4, TX4, 4)]

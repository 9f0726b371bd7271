/-- a private method of a class that the tables say can be made, by its rows of tables_1 -/
def lw_okq (q : MethodName × Nat) : Prop := (q.1.cls ≠ "java/lang/invoke/MethodHandle" ∧ q.1.cls ≠ "java/lang/invoke/VarHandle") ∧ Cond.instantiable q.1.cls q.2 ∈ tables_1 ∧ Cond.privateMethod q.1 ∈ tables_1 ∧ Cond.instanceMethod q.1 ∈ tables_1
theorem lw_p0 : lw_okq (⟨"RevealBeacon", "tryOut", "(IZ)I"⟩, 5) := ⟨⟨by decide +kernel, by decide +kernel⟩, List.mem_of_getElem? (i := 10) (by decide +kernel), List.mem_of_getElem? (i := 261) (by decide +kernel), List.mem_of_getElem? (i := 262) (by decide +kernel)⟩
theorem lw_p1 : lw_okq (⟨"RevealBeacon$History", "placeAt", "(I)LRevealBeacon$State;"⟩, 3) := ⟨⟨by decide +kernel, by decide +kernel⟩, List.mem_of_getElem? (i := 114) (by decide +kernel), List.mem_of_getElem? (i := 364) (by decide +kernel), List.mem_of_getElem? (i := 365) (by decide +kernel)⟩
theorem lw_p2 : lw_okq (⟨"RevealBeacon", "imageAt", "(I)LRevealBeacon$Image;"⟩, 5) := ⟨⟨by decide +kernel, by decide +kernel⟩, List.mem_of_getElem? (i := 10) (by decide +kernel), List.mem_of_getElem? (i := 469) (by decide +kernel), List.mem_of_getElem? (i := 470) (by decide +kernel)⟩
def lw_privs_1 : List (MethodName × Nat) := [(⟨"RevealBeacon", "tryOut", "(IZ)I"⟩, 5), (⟨"RevealBeacon$History", "placeAt", "(I)LRevealBeacon$State;"⟩, 3), (⟨"RevealBeacon", "imageAt", "(I)LRevealBeacon$Image;"⟩, 5)]
theorem lw_r1 : ∀ q ∈ lw_privs_1, lw_okq q := List.forall_mem_cons.mpr ⟨lw_p0, List.forall_mem_cons.mpr ⟨lw_p1, List.forall_mem_cons.mpr ⟨lw_p2, fun _ h => absurd h List.not_mem_nil⟩⟩⟩
def lw_privs : List (MethodName × Nat) := lw_privs_1
def lw_tbl : List Cond := k2_sels lw_privs ++ tables_1
theorem lw_privs_ok : ∀ q ∈ lw_privs, lw_okq q := lw_r1
/-- the streams that the claim lets the run draw from -/
abbrev lw_cs : List Choice := [Jvm.Choice.named "NaN.bits"]
theorem lw_bits : nanBits ∈ lw_cs := by first | decide | exact List.mem_cons_self | simp [lw_cs, nanBits]
def RX0 : String := "RevealBeacon$History"
def TX0 : u_T := fun k => match k with
  | 0 => ("RevealBeacon$History", "states", "[LRevealBeacon$State;", true)
  | 1 => ("RevealBeacon$History", "first", "I", false)
  | _ => ("RevealBeacon$History", "count", "I", false)
def tyX0 : Nat → FieldType := fun k => match k with
  | 0 => .array (.object "RevealBeacon$State")
  | 1 => .int
  | _ => .int
theorem nmX0 : ∀ a, a < 3 → ∀ b, b < 3 → a ≠ b → (TX0 a).2.1 ≠ (TX0 b).2.1 := by decide +kernel
theorem tyX0_ok : ∀ k, k < 3 → parseFieldDescriptor (TX0 k).2.2.1 = some (tyX0 k) := by decide +kernel
abbrev cX0_init : ByteArray := prog_2_method_1_code
def yX0_init : MethodName := ⟨RX0, "<init>", "()V"⟩
abbrev cX0_record : ByteArray := prog_2_method_2_code
def yX0_record : MethodName := ⟨RX0, "record", "(LRevealBeacon$State;)V"⟩
abbrev cX0_restore : ByteArray := prog_2_method_3_code
def yX0_restore : MethodName := ⟨RX0, "restore", "(LRevealBeacon$State;)V"⟩
abbrev cX0_placeAt : ByteArray := prog_2_method_4_code
def yX0_placeAt : MethodName := ⟨RX0, "placeAt", "(I)LRevealBeacon$State;"⟩
def RX1 : String := "RevealBeacon$Image"
def TX1 : u_T := fun k => match k with
  | 0 => ("RevealBeacon$Image", "content", "LRevealBeacon$State;", true)
  | _ => ("RevealBeacon$Image", "filled", "Z", false)
def tyX1 : Nat → FieldType := fun k => match k with
  | 0 => .object "RevealBeacon$State"
  | _ => .boolean
theorem nmX1 : ∀ a, a < 2 → ∀ b, b < 2 → a ≠ b → (TX1 a).2.1 ≠ (TX1 b).2.1 := by decide +kernel
theorem tyX1_ok : ∀ k, k < 2 → parseFieldDescriptor (TX1 k).2.2.1 = some (tyX1 k) := by decide +kernel
abbrev cX1_init : ByteArray := prog_3_method_1_code
def yX1_init : MethodName := ⟨RX1, "<init>", "()V"⟩
def RX2 : String := "RevealBeacon$Row"
def TX2 : u_T := fun k => match k with
  | _ => ("RevealBeacon$Row", "cells", "[I", true)
def tyX2 : Nat → FieldType := fun k => match k with
  | _ => .array .int
theorem nmX2 : ∀ a, a < 1 → ∀ b, b < 1 → a ≠ b → (TX2 a).2.1 ≠ (TX2 b).2.1 := by decide +kernel
theorem tyX2_ok : ∀ k, k < 1 → parseFieldDescriptor (TX2 k).2.2.1 = some (tyX2 k) := by decide +kernel
abbrev cX2_init : ByteArray := prog_4_method_1_code
def yX2_init : MethodName := ⟨RX2, "<init>", "(I)V"⟩
abbrev cX2_at : ByteArray := prog_4_method_2_code
def yX2_at : MethodName := ⟨RX2, "at", "(I)I"⟩
abbrev cX2_put : ByteArray := prog_4_method_3_code
def yX2_put : MethodName := ⟨RX2, "put", "(II)V"⟩
abbrev cX2_add : ByteArray := prog_4_method_4_code
def yX2_add : MethodName := ⟨RX2, "add", "(II)V"⟩
abbrev cX2_fill : ByteArray := prog_4_method_5_code
def yX2_fill : MethodName := ⟨RX2, "fill", "(I)V"⟩
abbrev cX2_copyFrom : ByteArray := prog_4_method_6_code
def yX2_copyFrom : MethodName := ⟨RX2, "copyFrom", "(LRevealBeacon$Row;)V"⟩
def RX3 : String := "RevealBeacon$State"
def TX3 : u_T := fun k => match k with
  | 0 => ("RevealBeacon$State", "members", "I", false)
  | 1 => ("RevealBeacon$State", "threshold", "I", false)
  | 2 => ("RevealBeacon$State", "clock", "I", false)
  | 3 => ("RevealBeacon$State", "round", "I", false)
  | 4 => ("RevealBeacon$State", "phase", "I", false)
  | 5 => ("RevealBeacon$State", "age", "I", false)
  | 6 => ("RevealBeacon$State", "pool", "I", false)
  | 7 => ("RevealBeacon$State", "seed", "I", false)
  | 8 => ("RevealBeacon$State", "settings", "LRevealBeacon$Row;", true)
  | 9 => ("RevealBeacon$State", "outputs", "LRevealBeacon$Row;", true)
  | 10 => ("RevealBeacon$State", "deposits", "LRevealBeacon$Row;", true)
  | 11 => ("RevealBeacon$State", "switches", "LRevealBeacon$Row;", true)
  | 12 => ("RevealBeacon$State", "fines", "LRevealBeacon$Row;", true)
  | 13 => ("RevealBeacon$State", "standings", "LRevealBeacon$Row;", true)
  | 14 => ("RevealBeacon$State", "commitments", "LRevealBeacon$Row;", true)
  | 15 => ("RevealBeacon$State", "secrets", "LRevealBeacon$Row;", true)
  | 16 => ("RevealBeacon$State", "knowns", "LRevealBeacon$Row;", true)
  | 17 => ("RevealBeacon$State", "shares", "LRevealBeacon$Row;", true)
  | _ => ("RevealBeacon$State", "shown", "LRevealBeacon$Row;", true)
def tyX3 : Nat → FieldType := fun k => match k with
  | 0 => .int
  | 1 => .int
  | 2 => .int
  | 3 => .int
  | 4 => .int
  | 5 => .int
  | 6 => .int
  | 7 => .int
  | 8 => .object "RevealBeacon$Row"
  | 9 => .object "RevealBeacon$Row"
  | 10 => .object "RevealBeacon$Row"
  | 11 => .object "RevealBeacon$Row"
  | 12 => .object "RevealBeacon$Row"
  | 13 => .object "RevealBeacon$Row"
  | 14 => .object "RevealBeacon$Row"
  | 15 => .object "RevealBeacon$Row"
  | 16 => .object "RevealBeacon$Row"
  | 17 => .object "RevealBeacon$Row"
  | _ => .object "RevealBeacon$Row"
theorem nmX3 : ∀ a, a < 19 → ∀ b, b < 19 → a ≠ b → (TX3 a).2.1 ≠ (TX3 b).2.1 := by decide +kernel
theorem tyX3_ok : ∀ k, k < 19 → parseFieldDescriptor (TX3 k).2.2.1 = some (tyX3 k) := by decide +kernel
abbrev cX3_init : ByteArray := prog_5_method_1_code
def yX3_init : MethodName := ⟨RX3, "<init>", "()V"⟩
abbrev cX3_copyFrom : ByteArray := prog_5_method_2_code
def yX3_copyFrom : MethodName := ⟨RX3, "copyFrom", "(LRevealBeacon$State;)V"⟩
abbrev cX3_restart : ByteArray := prog_5_method_3_code
def yX3_restart : MethodName := ⟨RX3, "restart", "(II)V"⟩
abbrev cX3_startRound : ByteArray := prog_5_method_4_code
def yX3_startRound : MethodName := ⟨RX3, "startRound", "()V"⟩
abbrev cX3_enter : ByteArray := prog_5_method_5_code
def yX3_enter : MethodName := ⟨RX3, "enter", "(I)V"⟩
abbrev cX3_isMember : ByteArray := prog_5_method_6_code
def yX3_isMember : MethodName := ⟨RX3, "isMember", "(I)Z"⟩
abbrev cX3_isPair : ByteArray := prog_5_method_7_code
def yX3_isPair : MethodName := ⟨RX3, "isPair", "(II)Z"⟩
abbrev cX3_isOn : ByteArray := prog_5_method_8_code
def yX3_isOn : MethodName := ⟨RX3, "isOn", "(I)Z"⟩
abbrev cX3_isBound : ByteArray := prog_5_method_9_code
def yX3_isBound : MethodName := ⟨RX3, "isBound", "(I)Z"⟩
abbrev cX3_isKnown : ByteArray := prog_5_method_10_code
def yX3_isKnown : MethodName := ⟨RX3, "isKnown", "(I)Z"⟩
abbrev cX3_isHidden : ByteArray := prog_5_method_11_code
def yX3_isHidden : MethodName := ⟨RX3, "isHidden", "(I)Z"⟩
abbrev cX3_countOn : ByteArray := prog_5_method_12_code
def yX3_countOn : MethodName := ⟨RX3, "countOn", "()I"⟩
abbrev cX3_countBound : ByteArray := prog_5_method_13_code
def yX3_countBound : MethodName := ⟨RX3, "countBound", "()I"⟩
abbrev cX3_countStanding : ByteArray := prog_5_method_14_code
def yX3_countStanding : MethodName := ⟨RX3, "countStanding", "(I)I"⟩
abbrev cX3_sumDeposits : ByteArray := prog_5_method_15_code
def yX3_sumDeposits : MethodName := ⟨RX3, "sumDeposits", "()I"⟩
abbrev cX3_fine : ByteArray := prog_5_method_16_code
def yX3_fine : MethodName := ⟨RX3, "fine", "(II)V"⟩
abbrev cX3_mayCommit : ByteArray := prog_5_method_17_code
def yX3_mayCommit : MethodName := ⟨RX3, "mayCommit", "(I)Z"⟩
abbrev cX3_bind : ByteArray := prog_5_method_18_code
def yX3_bind : MethodName := ⟨RX3, "bind", "(III)V"⟩
abbrev cX3_dealShares : ByteArray := prog_5_method_19_code
def yX3_dealShares : MethodName := ⟨RX3, "dealShares", "(II)V"⟩
abbrev cX3_drawCoefficient : ByteArray := prog_5_method_20_code
def yX3_drawCoefficient : MethodName := ⟨RX3, "drawCoefficient", "()I"⟩
abbrev cX3_trueShare : ByteArray := prog_5_method_21_code
def yX3_trueShare : MethodName := ⟨RX3, "trueShare", "(II)I"⟩
abbrev cX3_mayReveal : ByteArray := prog_5_method_22_code
def yX3_mayReveal : MethodName := ⟨RX3, "mayReveal", "(I)Z"⟩
abbrev cX3_open : ByteArray := prog_5_method_23_code
def yX3_open : MethodName := ⟨RX3, "open", "(III)I"⟩
abbrev cX3_learn : ByteArray := prog_5_method_24_code
def yX3_learn : MethodName := ⟨RX3, "learn", "(III)V"⟩
abbrev cX3_uncover : ByteArray := prog_5_method_25_code
def yX3_uncover : MethodName := ⟨RX3, "uncover", "(I)V"⟩
abbrev cX3_uncoverAllBut : ByteArray := prog_5_method_26_code
def yX3_uncoverAllBut : MethodName := ⟨RX3, "uncoverAllBut", "(I)V"⟩
abbrev cX3_mayPublish : ByteArray := prog_5_method_27_code
def yX3_mayPublish : MethodName := ⟨RX3, "mayPublish", "(II)Z"⟩
abbrev cX3_canShow : ByteArray := prog_5_method_28_code
def yX3_canShow : MethodName := ⟨RX3, "canShow", "(II)Z"⟩
abbrev cX3_isShown : ByteArray := prog_5_method_29_code
def yX3_isShown : MethodName := ⟨RX3, "isShown", "(II)Z"⟩
abbrev cX3_findGivers : ByteArray := prog_5_method_30_code
def yX3_findGivers : MethodName := ⟨RX3, "findGivers", "(I)I"⟩
abbrev cX3_countShown : ByteArray := prog_5_method_31_code
def yX3_countShown : MethodName := ⟨RX3, "countShown", "(I)I"⟩
abbrev cX3_show : ByteArray := prog_5_method_32_code
def yX3_show : MethodName := ⟨RX3, "show", "(III)I"⟩
abbrev cX3_interpolate : ByteArray := prog_5_method_33_code
def yX3_interpolate : MethodName := ⟨RX3, "interpolate", "(II)I"⟩
abbrev cX3_showAll : ByteArray := prog_5_method_34_code
def yX3_showAll : MethodName := ⟨RX3, "showAll", "(I)V"⟩
abbrev cX3_passTime : ByteArray := prog_5_method_35_code
def yX3_passTime : MethodName := ⟨RX3, "passTime", "()V"⟩
abbrev cX3_endPhase : ByteArray := prog_5_method_36_code
def yX3_endPhase : MethodName := ⟨RX3, "endPhase", "()V"⟩
abbrev cX3_fineSilent : ByteArray := prog_5_method_37_code
def yX3_fineSilent : MethodName := ⟨RX3, "fineSilent", "()V"⟩
abbrev cX3_close : ByteArray := prog_5_method_38_code
def yX3_close : MethodName := ⟨RX3, "close", "()V"⟩
abbrev cX3_payOut : ByteArray := prog_5_method_39_code
def yX3_payOut : MethodName := ⟨RX3, "payOut", "()V"⟩
abbrev cX3_combineKnown : ByteArray := prog_5_method_40_code
def yX3_combineKnown : MethodName := ⟨RX3, "combineKnown", "()I"⟩
abbrev cX3_combineBound : ByteArray := prog_5_method_41_code
def yX3_combineBound : MethodName := ⟨RX3, "combineBound", "()I"⟩
def RX4 : String := "RevealBeacon"
def TX4 : u_T := fun k => match k with
  | 0 => ("RevealBeacon", "now", "LRevealBeacon$State;", true)
  | 1 => ("RevealBeacon", "trial", "LRevealBeacon$State;", true)
  | 2 => ("RevealBeacon", "history", "LRevealBeacon$History;", true)
  | 3 => ("RevealBeacon", "imageZero", "LRevealBeacon$Image;", true)
  | _ => ("RevealBeacon", "imageOne", "LRevealBeacon$Image;", true)
def tyX4 : Nat → FieldType := fun k => match k with
  | 0 => .object "RevealBeacon$State"
  | 1 => .object "RevealBeacon$State"
  | 2 => .object "RevealBeacon$History"
  | 3 => .object "RevealBeacon$Image"
  | _ => .object "RevealBeacon$Image"
theorem nmX4 : ∀ a, a < 5 → ∀ b, b < 5 → a ≠ b → (TX4 a).2.1 ≠ (TX4 b).2.1 := by decide +kernel
theorem tyX4_ok : ∀ k, k < 5 → parseFieldDescriptor (TX4 k).2.2.1 = some (tyX4 k) := by decide +kernel
abbrev cX4_init : ByteArray := prog_1_method_1_code
def yX4_init : MethodName := ⟨RX4, "<init>", "()V"⟩
abbrev cX4_begin : ByteArray := prog_1_method_2_code
def yX4_begin : MethodName := ⟨RX4, "begin", "(II)I"⟩
abbrev cX4_set : ByteArray := prog_1_method_3_code
def yX4_set : MethodName := ⟨RX4, "set", "(II)I"⟩
abbrev cX4_setSeed : ByteArray := prog_1_method_4_code
def yX4_setSeed : MethodName := ⟨RX4, "setSeed", "(I)I"⟩
abbrev cX4_turn : ByteArray := prog_1_method_5_code
def yX4_turn : MethodName := ⟨RX4, "turn", "(II)I"⟩
abbrev cX4_pay : ByteArray := prog_1_method_6_code
def yX4_pay : MethodName := ⟨RX4, "pay", "(II)I"⟩
abbrev cX4_commit : ByteArray := prog_1_method_7_code
def yX4_commit : MethodName := ⟨RX4, "commit", "(III)I"⟩
abbrev cX4_reveal : ByteArray := prog_1_method_8_code
def yX4_reveal : MethodName := ⟨RX4, "reveal", "(III)I"⟩
abbrev cX4_publish : ByteArray := prog_1_method_9_code
def yX4_publish : MethodName := ⟨RX4, "publish", "(III)I"⟩
abbrev cX4_give : ByteArray := prog_1_method_10_code
def yX4_give : MethodName := ⟨RX4, "give", "(II)I"⟩
abbrev cX4_tick : ByteArray := prog_1_method_11_code
def yX4_tick : MethodName := ⟨RX4, "tick", "(I)I"⟩
abbrev cX4_next : ByteArray := prog_1_method_12_code
def yX4_next : MethodName := ⟨RX4, "next", "()I"⟩
abbrev cX4_undo : ByteArray := prog_1_method_13_code
def yX4_undo : MethodName := ⟨RX4, "undo", "()I"⟩
abbrev cX4_told : ByteArray := prog_1_method_14_code
def yX4_told : MethodName := ⟨RX4, "told", "(I)I"⟩
abbrev cX4_setting : ByteArray := prog_1_method_15_code
def yX4_setting : MethodName := ⟨RX4, "setting", "(I)I"⟩
abbrev cX4_member : ByteArray := prog_1_method_16_code
def yX4_member : MethodName := ⟨RX4, "member", "(II)I"⟩
abbrev cX4_mark : ByteArray := prog_1_method_17_code
def yX4_mark : MethodName := ⟨RX4, "mark", "(II)I"⟩
abbrev cX4_share : ByteArray := prog_1_method_18_code
def yX4_share : MethodName := ⟨RX4, "share", "(II)I"⟩
abbrev cX4_past : ByteArray := prog_1_method_21_code
def yX4_past : MethodName := ⟨RX4, "past", "(I)I"⟩
abbrev cX4_honest : ByteArray := prog_1_method_22_code
def yX4_honest : MethodName := ⟨RX4, "honest", "()I"⟩
abbrev cX4_outcome : ByteArray := prog_1_method_23_code
def yX4_outcome : MethodName := ⟨RX4, "outcome", "()I"⟩
abbrev cX4_influence : ByteArray := prog_1_method_24_code
def yX4_influence : MethodName := ⟨RX4, "influence", "(I)I"⟩
abbrev cX4_mean : ByteArray := prog_1_method_25_code
def yX4_mean : MethodName := ⟨RX4, "mean", "()F"⟩
abbrev cX4_keep : ByteArray := prog_1_method_26_code
def yX4_keep : MethodName := ⟨RX4, "keep", "(I)I"⟩
abbrev cX4_back : ByteArray := prog_1_method_27_code
def yX4_back : MethodName := ⟨RX4, "back", "(I)I"⟩
abbrev cX4_imageAt : ByteArray := prog_1_method_28_code
def yX4_imageAt : MethodName := ⟨RX4, "imageAt", "(I)LRevealBeacon$Image;"⟩
abbrev cX4_tryOut : ByteArray := prog_1_method_29_code
def yX4_tryOut : MethodName := ⟨RX4, "tryOut", "(IZ)I"⟩
abbrev cX4_isSetting : ByteArray := prog_1_method_30_code
def yX4_isSetting : MethodName := ⟨RX4, "isSetting", "(I)Z"⟩
abbrev cX4_lowestValue : ByteArray := prog_1_method_31_code
def yX4_lowestValue : MethodName := ⟨RX4, "lowestValue", "(I)I"⟩
abbrev cX4_highestValue : ByteArray := prog_1_method_32_code
def yX4_highestValue : MethodName := ⟨RX4, "highestValue", "(I)I"⟩
abbrev cX4_isSecret : ByteArray := prog_1_method_33_code
def yX4_isSecret : MethodName := ⟨RX4, "isSecret", "(I)Z"⟩
abbrev cX4_isSalt : ByteArray := prog_1_method_34_code
def yX4_isSalt : MethodName := ⟨RX4, "isSalt", "(I)Z"⟩
abbrev cX4_computeCommitment : ByteArray := prog_1_method_35_code
def yX4_computeCommitment : MethodName := ⟨RX4, "computeCommitment", "(III)I"⟩
abbrev cX4_computeMark : ByteArray := prog_1_method_36_code
def yX4_computeMark : MethodName := ⟨RX4, "computeMark", "(II)I"⟩
abbrev cX4_cell : ByteArray := prog_1_method_38_code
def yX4_cell : MethodName := ⟨RX4, "cell", "(II)I"⟩
abbrev cX4_raise : ByteArray := prog_1_method_39_code
def yX4_raise : MethodName := ⟨RX4, "raise", "(II)I"⟩
abbrev cX4_invert : ByteArray := prog_1_method_40_code
def yX4_invert : MethodName := ⟨RX4, "invert", "(I)I"⟩
abbrev cX4_isAmong : ByteArray := prog_1_method_41_code
def yX4_isAmong : MethodName := ⟨RX4, "isAmong", "(II)Z"⟩
abbrev cX4_weigh : ByteArray := prog_1_method_42_code
def yX4_weigh : MethodName := ⟨RX4, "weigh", "(II)I"⟩
def RX5 : String := "RevealBeaconModel"
def TX5 : u_T := fun k => match k with
  | _ => ("", "", "", false)
def tyX5 : Nat → FieldType := fun k => match k with
  | _ => .int
theorem nmX5 : ∀ a, a < 0 → ∀ b, b < 0 → a ≠ b → (TX5 a).2.1 ≠ (TX5 b).2.1 := by decide +kernel
theorem tyX5_ok : ∀ k, k < 0 → parseFieldDescriptor (TX5 k).2.2.1 = some (tyX5 k) := by decide +kernel
def RJ6 : String := "java/lang/Integer"
abbrev cJ6_bitCount_0f7a4 : ByteArray := prog_8_method_49_code
def yJ6_bitCount_0f7a4 : MethodName := ⟨RJ6, "bitCount", "(I)I"⟩
def RJ9 : String := "java/lang/Math"
abbrev cJ9_floorMod_7cf53 : ByteArray := prog_9_method_50_code
def yJ9_floorMod_7cf53 : MethodName := ⟨RJ9, "floorMod", "(II)I"⟩
abbrev cJ9_min_7cf53 : ByteArray := prog_9_method_69_code
def yJ9_min_7cf53 : MethodName := ⟨RJ9, "min", "(II)I"⟩
def RJ10 : String := "java/lang/System"
def RL : String := "RevealBeaconLaw"
abbrev cL_cell : ByteArray := method_2_code
def yL_cell : MethodName := ⟨RL, "cell", "([II)I"⟩
abbrev cL_low : ByteArray := method_3_code
def yL_low : MethodName := ⟨RL, "low", "(II)I"⟩
abbrev cL_change : ByteArray := method_4_code
def yL_change : MethodName := ⟨RL, "change", "(LRevealBeacon;II)I"⟩
abbrev cL_areMembers : ByteArray := method_5_code
def yL_areMembers : MethodName := ⟨RL, "areMembers", "(LRevealBeacon;)Z"⟩
abbrev cL_isOutput : ByteArray := method_6_code
def yL_isOutput : MethodName := ⟨RL, "isOutput", "(LRevealBeacon;)Z"⟩
abbrev cL_areAlike : ByteArray := method_7_code
def yL_areAlike : MethodName := ⟨RL, "areAlike", "(LRevealBeacon;LRevealBeacon;)Z"⟩
abbrev cL_law : ByteArray := code
def yL_law : MethodName := ⟨RL, "law", "([I)Z"⟩
abbrev vwCl : List vw_C := [(RX0, TX0, 3), (RX1, TX1, 2), (RX2, TX2, 1), (RX3, TX3, 19), (RX4, TX4, 5)]
/-! the methods: name, bytes, locals, answer; own table, arguments (with the receiver), height of calls, makes cells, constructor -/
abbrev rb_T : Type := MethodName × ByteArray × Nat × Option FieldType × Nat × Nat × Nat × Bool × Bool
def rb_mt0 : List rb_T := [
  (yX4_init, cX4_init, 1, none, 4, 1, 4, true, true),
  (yX3_init, cX3_init, 1, none, 3, 1, 2, true, true),
  (yX2_init, cX2_init, 2, none, 2, 2, 1, true, true),
  (yX2_put, cX2_put, 3, none, 2, 3, 0, false, false),
  (yX0_init, cX0_init, 2, none, 0, 1, 3, true, true),
  (yX1_init, cX1_init, 1, none, 1, 1, 3, true, true),
  (yX3_restart, cX3_restart, 3, none, 3, 3, 2, false, false),
  (yX2_fill, cX2_fill, 3, none, 2, 2, 0, false, false),
  (yX3_startRound, cX3_startRound, 1, none, 3, 1, 1, false, false),
  (yX3_enter, cX3_enter, 2, none, 3, 2, 0, false, false),
  (yX4_told, cX4_told, 2, (some FieldType.int), 4, 2, 3, false, false),
  (yX3_countBound, cX3_countBound, 1, (some FieldType.int), 3, 1, 2, false, false),
  (yX3_countStanding, cX3_countStanding, 4, (some FieldType.int), 3, 2, 1, false, false),
  (yX2_at, cX2_at, 2, (some FieldType.int), 2, 2, 0, false, false),
  (yX3_sumDeposits, cX3_sumDeposits, 3, (some FieldType.int), 3, 1, 1, false, false),
  (yX3_countOn, cX3_countOn, 3, (some FieldType.int), 3, 1, 2, false, false),
  (yX3_isOn, cX3_isOn, 2, (some FieldType.boolean), 3, 2, 1, false, false),
  (yX4_member, cX4_member, 3, (some FieldType.int), 4, 3, 4, false, false),
  (yX3_isMember, cX3_isMember, 2, (some FieldType.boolean), 3, 2, 0, false, false),
  (yX3_isBound, cX3_isBound, 2, (some FieldType.boolean), 3, 2, 1, false, false),
  (yX3_isKnown, cX3_isKnown, 2, (some FieldType.boolean), 3, 2, 1, false, false),
  (yX3_countShown, cX3_countShown, 2, (some FieldType.int), 3, 2, 3, false, false),
  (yX3_findGivers, cX3_findGivers, 4, (some FieldType.int), 3, 2, 2, false, false),
  (yX3_isShown, cX3_isShown, 3, (some FieldType.boolean), 3, 3, 1, false, false),
  (yX4_cell, cX4_cell, 2, (some FieldType.int), 4, 2, 0, false, false),
  (yJ6_bitCount_0f7a4, cJ6_bitCount_0f7a4, 1, (some FieldType.int), 6, 1, 0, false, false),
  (yX4_influence, cX4_influence, 2, (some FieldType.int), 4, 2, 6, false, false),
  (yX3_mayReveal, cX3_mayReveal, 2, (some FieldType.boolean), 3, 2, 2, false, false),
  (yX3_isHidden, cX3_isHidden, 2, (some FieldType.boolean), 3, 2, 1, false, false),
  (yX4_tryOut, cX4_tryOut, 3, (some FieldType.int), 4, 3, 5, false, false),
  (yX3_copyFrom, cX3_copyFrom, 2, none, 3, 2, 2, false, false),
  (yX2_copyFrom, cX2_copyFrom, 2, none, 2, 2, 1, false, false),
  (yJ9_min_7cf53, cJ9_min_7cf53, 2, (some FieldType.int), 7, 2, 0, false, false),
  (yX3_uncoverAllBut, cX3_uncoverAllBut, 3, none, 3, 2, 3, false, false),
  (yX3_uncover, cX3_uncover, 2, none, 3, 2, 2, false, false),
  (yX3_learn, cX3_learn, 4, none, 3, 4, 1, false, false),
  (yX3_showAll, cX3_showAll, 4, none, 3, 2, 4, false, false),
  (yX3_canShow, cX3_canShow, 3, (some FieldType.boolean), 3, 3, 2, false, false),
  (yX3_trueShare, cX3_trueShare, 3, (some FieldType.int), 3, 3, 1, false, false),
  (yX3_show, cX3_show, 6, (some FieldType.int), 3, 4, 3, false, false)]
def rb_mt1 : List rb_T := [
  (yX4_computeMark, cX4_computeMark, 2, (some FieldType.int), 4, 2, 0, false, false),
  (yX3_fine, cX3_fine, 4, none, 3, 3, 2, false, false),
  (yX2_add, cX2_add, 3, none, 2, 3, 1, false, false),
  (yX3_interpolate, cX3_interpolate, 5, (some FieldType.int), 3, 3, 2, false, false),
  (yX4_isAmong, cX4_isAmong, 2, (some FieldType.boolean), 4, 2, 0, false, false),
  (yX4_weigh, cX4_weigh, 5, (some FieldType.int), 4, 2, 1, false, false),
  (yJ9_floorMod_7cf53, cJ9_floorMod_7cf53, 3, (some FieldType.int), 7, 2, 0, false, false),
  (yX4_invert, cX4_invert, 3, (some FieldType.int), 4, 1, 0, false, false),
  (yX3_combineKnown, cX3_combineKnown, 5, (some FieldType.int), 3, 1, 2, false, false),
  (yL_cell, cL_cell, 2, (some FieldType.int), 9, 2, 0, false, false),
  (yL_low, cL_low, 2, (some FieldType.int), 9, 2, 0, false, false),
  (yL_change, cL_change, 7, (some FieldType.int), 9, 3, 7, false, false),
  (yX4_begin, cX4_begin, 4, (some FieldType.int), 4, 3, 4, false, false),
  (yX0_record, cX0_record, 3, none, 0, 2, 3, false, false),
  (yX0_placeAt, cX0_placeAt, 3, (some (FieldType.object "RevealBeacon$State")), 0, 2, 0, false, false),
  (yX4_setSeed, cX4_setSeed, 3, (some FieldType.int), 4, 2, 4, false, false),
  (yX4_set, cX4_set, 4, (some FieldType.int), 4, 3, 4, false, false),
  (yX4_isSetting, cX4_isSetting, 1, (some FieldType.boolean), 4, 1, 0, false, false),
  (yX4_lowestValue, cX4_lowestValue, 1, (some FieldType.int), 4, 1, 0, false, false),
  (yX4_highestValue, cX4_highestValue, 1, (some FieldType.int), 4, 1, 0, false, false),
  (yX4_turn, cX4_turn, 4, (some FieldType.int), 4, 3, 4, false, false),
  (yX4_pay, cX4_pay, 3, (some FieldType.int), 4, 3, 4, false, false),
  (yX4_commit, cX4_commit, 4, (some FieldType.int), 4, 4, 4, false, false),
  (yX4_isSecret, cX4_isSecret, 1, (some FieldType.boolean), 4, 1, 0, false, false),
  (yX4_isSalt, cX4_isSalt, 1, (some FieldType.boolean), 4, 1, 0, false, false),
  (yX3_mayCommit, cX3_mayCommit, 2, (some FieldType.boolean), 3, 2, 2, false, false),
  (yX3_bind, cX3_bind, 4, none, 3, 4, 3, false, false),
  (yX4_computeCommitment, cX4_computeCommitment, 3, (some FieldType.int), 4, 3, 0, false, false),
  (yX3_dealShares, cX3_dealShares, 7, none, 3, 3, 2, false, false),
  (yX3_drawCoefficient, cX3_drawCoefficient, 1, (some FieldType.int), 3, 1, 0, false, false),
  (yX4_raise, cX4_raise, 4, (some FieldType.int), 4, 2, 0, false, false),
  (yX4_reveal, cX4_reveal, 4, (some FieldType.int), 4, 4, 4, false, false),
  (yX3_open, cX3_open, 4, (some FieldType.int), 3, 4, 3, false, false),
  (yX4_give, cX4_give, 3, (some FieldType.int), 4, 3, 4, false, false),
  (yX3_isPair, cX3_isPair, 3, (some FieldType.boolean), 3, 3, 1, false, false),
  (yX3_mayPublish, cX3_mayPublish, 3, (some FieldType.boolean), 3, 3, 3, false, false),
  (yX4_publish, cX4_publish, 4, (some FieldType.int), 4, 4, 4, false, false),
  (yX4_next, cX4_next, 1, (some FieldType.int), 4, 1, 4, false, false),
  (yX4_keep, cX4_keep, 3, (some FieldType.int), 4, 2, 3, false, false),
  (yX4_imageAt, cX4_imageAt, 2, (some (FieldType.object "RevealBeacon$Image")), 4, 2, 0, false, false)]
def rb_mt2 : List rb_T := [
  (yX4_back, cX4_back, 3, (some FieldType.int), 4, 2, 4, false, false),
  (yX4_undo, cX4_undo, 1, (some FieldType.int), 4, 1, 4, false, false),
  (yX0_restore, cX0_restore, 3, none, 0, 2, 3, false, false),
  (yX4_tick, cX4_tick, 3, (some FieldType.int), 4, 2, 6, false, false),
  (yX3_passTime, cX3_passTime, 1, none, 3, 1, 5, false, false),
  (yX3_endPhase, cX3_endPhase, 1, none, 3, 1, 4, false, false),
  (yX3_fineSilent, cX3_fineSilent, 2, none, 3, 1, 3, false, false),
  (yX3_close, cX3_close, 1, none, 3, 1, 3, false, false),
  (yX3_payOut, cX3_payOut, 4, none, 3, 1, 2, false, false),
  (yL_areMembers, cL_areMembers, 13, (some FieldType.boolean), 9, 1, 5, false, false),
  (yX4_share, cX4_share, 3, (some FieldType.int), 4, 3, 1, false, false),
  (yX4_mark, cX4_mark, 3, (some FieldType.int), 4, 3, 2, false, false),
  (yL_isOutput, cL_isOutput, 6, (some FieldType.boolean), 9, 1, 6, false, false),
  (yX4_setting, cX4_setting, 2, (some FieldType.int), 4, 2, 1, false, false),
  (yX4_outcome, cX4_outcome, 1, (some FieldType.int), 4, 1, 5, false, false),
  (yX4_honest, cX4_honest, 1, (some FieldType.int), 4, 1, 3, false, false),
  (yX3_combineBound, cX3_combineBound, 3, (some FieldType.int), 3, 1, 2, false, false),
  (yL_areAlike, cL_areAlike, 5, (some FieldType.boolean), 9, 2, 5, false, false),
  (yX4_mean, cX4_mean, 2, (some FieldType.float), 4, 1, 2, false, false),
  (yX4_past, cX4_past, 2, (some FieldType.int), 4, 2, 1, false, false),
  (yL_law, cL_law, 12, (some FieldType.boolean), 9, 1, 8, true, false)]
def rb_mt : List rb_T := rb_mt0 ++ (rb_mt1 ++ (rb_mt2))
/-- field links: (own table, entry) to (place of the table, field) -/
def rb_fl : List ((Nat × Nat) × (Nat × Nat)) := [((0, 11), (0, 0)), ((0, 18), (0, 2)), ((0, 30), (0, 1)), ((1, 10), (1, 0)), ((2, 7), (2, 0)), ((3, 14), (3, 8)), ((3, 20), (3, 9)), ((3, 23), (3, 10)), ((3, 26), (3, 11)), ((3, 29), (3, 12)), ((3, 32), (3, 13)), ((3, 35), (3, 14)), ((3, 38), (3, 15)), ((3, 41), (3, 16)), ((3, 44), (3, 17)), ((3, 47), (3, 18)), ((3, 50), (3, 7)), ((3, 58), (3, 0)), ((3, 61), (3, 1)), ((3, 64), (3, 2)), ((3, 67), (3, 3)), ((3, 70), (3, 4)), ((3, 73), (3, 5)), ((3, 76), (3, 6)), ((4, 10), (4, 0)), ((4, 16), (4, 1)), ((4, 22), (4, 2)), ((4, 29), (4, 3)), ((4, 33), (4, 4)), ((4, 40), (3, 3)), ((4, 59), (3, 8)), ((4, 71), (3, 7)), ((4, 77), (3, 11)), ((4, 80), (3, 10)), ((4, 99), (3, 14)), ((4, 126), (3, 4)), ((4, 132), (0, 2)), ((4, 138), (3, 0)), ((4, 141), (3, 1)), ((4, 144), (3, 2)), ((4, 147), (3, 5)), ((4, 150), (3, 6)), ((4, 160), (3, 9)), ((4, 175), (3, 16)), ((4, 181), (3, 13)), ((4, 184), (3, 12)), ((4, 190), (3, 18)), ((4, 223), (1, 0)), ((4, 226), (1, 1))]
/-- method links: to (method, kind): 0 by receiver, 1 static, 2 constructor, 3 static of a mate, 4 constructor of a mate, 5 Object.<init>, 6 arraycopy -/
def rb_il : List ((Nat × Nat) × (Nat × Nat)) := [((0, 3), (0, 5)), ((0, 17), (1, 2)), ((0, 22), (54, 0)), ((0, 26), (30, 0)), ((1, 1), (0, 5)), ((1, 9), (1, 2)), ((2, 1), (0, 5)), ((2, 13), (13, 0)), ((2, 17), (3, 0)), ((2, 21), (32, 1)), ((2, 27), (0, 6)), ((3, 3), (0, 5)), ((3, 11), (2, 2)), ((3, 54), (3, 0)), ((3, 79), (31, 0)), ((3, 83), (7, 0)), ((3, 86), (8, 0)), ((3, 89), (9, 0)), ((3, 92), (18, 0)), ((3, 96), (13, 0)), ((3, 100), (16, 0)), ((3, 103), (12, 0)), ((3, 106), (32, 1)), ((3, 112), (42, 0)), ((3, 115), (19, 0)), ((3, 118), (67, 3)), ((3, 122), (68, 0)), ((3, 125), (24, 3)), ((3, 128), (69, 0)), ((3, 132), (38, 0)), ((3, 135), (70, 3)), ((3, 145), (28, 0)), ((3, 148), (41, 0)), ((3, 151), (35, 0)), ((3, 155), (34, 0)), ((3, 158), (37, 0)), ((3, 162), (23, 0)), ((3, 165), (22, 0)), ((3, 168), (25, 1)), ((3, 173), (40, 3)), ((3, 176), (43, 0)), ((3, 179), (44, 3)), ((3, 182), (45, 3)), ((3, 185), (39, 0)), ((3, 188), (85, 0)), ((3, 191), (11, 0)), ((3, 194), (86, 0)), ((3, 197), (87, 0)), ((3, 200), (88, 0)), ((3, 203), (48, 0)), ((3, 206), (20, 0)), ((4, 1), (0, 5)), ((4, 9), (1, 2)), ((4, 21), (4, 2)), ((4, 28), (5, 4)), ((4, 36), (6, 0)), ((4, 44), (53, 0)), ((4, 48), (57, 1)), ((4, 52), (58, 1)), ((4, 56), (59, 1)), ((4, 63), (13, 0)), ((4, 68), (3, 0)), ((4, 74), (18, 0)), ((4, 83), (42, 0)), ((4, 86), (63, 1)), ((4, 89), (64, 1)), ((4, 92), (65, 0)), ((4, 95), (66, 0)), ((4, 102), (27, 0)), ((4, 105), (72, 0)), ((4, 109), (74, 0)), ((4, 113), (75, 0)), ((4, 116), (39, 0)), ((4, 119), (38, 0)), ((4, 123), (84, 0)), ((4, 129), (8, 0)), ((4, 135), (82, 0)), ((4, 153), (11, 0)), ((4, 157), (12, 0)), ((4, 163), (14, 0)), ((4, 166), (15, 0)), ((4, 169), (19, 0)), ((4, 172), (20, 0)), ((4, 178), (21, 0)), ((4, 187), (40, 1)), ((4, 193), (24, 1)), ((4, 202), (96, 0)), ((4, 205), (30, 0)), ((4, 208), (36, 0)), ((4, 212), (48, 0)), ((4, 215), (29, 0)), ((4, 219), (79, 0)), ((4, 230), (33, 0)), ((4, 233), (34, 0)), ((4, 236), (46, 1)), ((4, 241), (44, 1)), ((4, 244), (47, 1)), ((9, 9), (10, 0)), ((9, 15), (50, 1)), ((9, 21), (52, 0)), ((9, 25), (55, 0)), ((9, 28), (56, 0)), ((9, 31), (60, 0)), ((9, 34), (61, 0)), ((9, 37), (62, 0)), ((9, 41), (71, 0)), ((9, 44), (73, 0)), ((9, 47), (76, 0)), ((9, 50), (77, 0)), ((9, 54), (78, 0)), ((9, 57), (80, 0)), ((9, 60), (81, 0)), ((9, 63), (83, 0)), ((9, 66), (17, 0)), ((9, 69), (90, 0)), ((9, 72), (91, 0)), ((9, 75), (93, 0)), ((9, 78), (94, 0)), ((9, 81), (95, 0)), ((9, 84), (98, 0)), ((9, 88), (99, 0)), ((9, 91), (0, 2)), ((9, 92), (49, 1)), ((9, 96), (51, 1)), ((9, 100), (89, 1)), ((9, 104), (92, 1)), ((9, 107), (26, 0)), ((9, 110), (97, 1))]
/-- links to what is made -/
def rb_cl : List ((Nat × Nat) × Nat) := [((0, 9), 3), ((1, 7), 3), ((3, 9), 2), ((4, 7), 3), ((4, 19), 0), ((4, 26), 1), ((9, 10), 4)]
/-- constants -/
def rb_kl : List ((Nat × Nat) × Value) := [((3, 138), .long 1103515245), ((3, 140), .long 12345), ((3, 142), .long 2147483648), ((3, 144), .int 65536), ((6, 265), .int 1431655765), ((6, 266), .int 858993459), ((6, 267), .int 252645135), ((9, 7), .int 747796405), ((9, 8), .int 2147483647), ((9, 24), .int 16777215)]
/-- slots of two words: (method, place) -/
def rb_dd : List (Nat × Nat) := []
def rb_cn : Nat → String := fun k => match k with
  | 0 => RX0
  | 1 => RX1
  | 2 => RX2
  | 3 => RX3
  | 4 => RX4
  | 5 => RX5
  | 6 => RJ6
  | 7 => RJ9
  | 8 => RJ10
  | _ => RL

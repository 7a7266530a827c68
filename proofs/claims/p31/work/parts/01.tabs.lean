-- ===== PART A: goes FIRST, ahead of the names: the tables' words, and 'selects' of the private methods out of them =====
/-- a private method of a class that the tables say can be made, by its rows of tables_1 -/
def lw_okq (q : MethodName × Nat) : Prop := (q.1.cls ≠ "java/lang/invoke/MethodHandle" ∧ q.1.cls ≠ "java/lang/invoke/VarHandle") ∧ Cond.instantiable q.1.cls q.2 ∈ tables_1 ∧ Cond.privateMethod q.1 ∈ tables_1 ∧ Cond.instanceMethod q.1 ∈ tables_1
theorem lw_p0 : lw_okq (⟨"BridgeWardens$World", "drawRiddle", "(LBridgeWardens$Bridge;)V"⟩, 11) := ⟨⟨by decide +kernel, by decide +kernel⟩, List.mem_of_getElem? (i := 19) (by decide +kernel), List.mem_of_getElem? (i := 270) (by decide +kernel), List.mem_of_getElem? (i := 271) (by decide +kernel)⟩
theorem lw_p1 : lw_okq (⟨"BridgeWardens", "recorded", "(I)I"⟩, 7) := ⟨⟨by decide +kernel, by decide +kernel⟩, List.mem_of_getElem? (i := 11) (by decide +kernel), List.mem_of_getElem? (i := 283) (by decide +kernel), List.mem_of_getElem? (i := 284) (by decide +kernel)⟩
theorem lw_p2 : lw_okq (⟨"BridgeWardens$World", "sumOverBridges", "(I)I"⟩, 11) := ⟨⟨by decide +kernel, by decide +kernel⟩, List.mem_of_getElem? (i := 19) (by decide +kernel), List.mem_of_getElem? (i := 319) (by decide +kernel), List.mem_of_getElem? (i := 320) (by decide +kernel)⟩
theorem lw_p3 : lw_okq (⟨"BridgeWardens$World", "payerOfTie", "(LBridgeWardens$Cart;LBridgeWardens$Cart;)LBridgeWardens$Cart;"⟩, 11) := ⟨⟨by decide +kernel, by decide +kernel⟩, List.mem_of_getElem? (i := 19) (by decide +kernel), List.mem_of_getElem? (i := 391) (by decide +kernel), List.mem_of_getElem? (i := 392) (by decide +kernel)⟩
theorem lw_p4 : lw_okq (⟨"BridgeWardens$World", "isTied", "(LBridgeWardens$Bridge;)Z"⟩, 11) := ⟨⟨by decide +kernel, by decide +kernel⟩, List.mem_of_getElem? (i := 19) (by decide +kernel), List.mem_of_getElem? (i := 395) (by decide +kernel), List.mem_of_getElem? (i := 396) (by decide +kernel)⟩
theorem lw_p5 : lw_okq (⟨"BridgeWardens$World", "letOver", "(LBridgeWardens$Bridge;)I"⟩, 11) := ⟨⟨by decide +kernel, by decide +kernel⟩, List.mem_of_getElem? (i := 19) (by decide +kernel), List.mem_of_getElem? (i := 409) (by decide +kernel), List.mem_of_getElem? (i := 410) (by decide +kernel)⟩
theorem lw_p6 : lw_okq (⟨"BridgeWardens$World", "release", "(LBridgeWardens$Cart;LBridgeWardens$Bridge;)V"⟩, 11) := ⟨⟨by decide +kernel, by decide +kernel⟩, List.mem_of_getElem? (i := 19) (by decide +kernel), List.mem_of_getElem? (i := 423) (by decide +kernel), List.mem_of_getElem? (i := 424) (by decide +kernel)⟩
theorem lw_p7 : lw_okq (⟨"BridgeWardens", "appendNote", "(LBridgeWardens$Cart;)V"⟩, 7) := ⟨⟨by decide +kernel, by decide +kernel⟩, List.mem_of_getElem? (i := 11) (by decide +kernel), List.mem_of_getElem? (i := 497) (by decide +kernel), List.mem_of_getElem? (i := 498) (by decide +kernel)⟩
def lw_privs_1 : List (MethodName × Nat) := [(⟨"BridgeWardens$World", "drawRiddle", "(LBridgeWardens$Bridge;)V"⟩, 11), (⟨"BridgeWardens", "recorded", "(I)I"⟩, 7), (⟨"BridgeWardens$World", "sumOverBridges", "(I)I"⟩, 11), (⟨"BridgeWardens$World", "payerOfTie", "(LBridgeWardens$Cart;LBridgeWardens$Cart;)LBridgeWardens$Cart;"⟩, 11), (⟨"BridgeWardens$World", "isTied", "(LBridgeWardens$Bridge;)Z"⟩, 11), (⟨"BridgeWardens$World", "letOver", "(LBridgeWardens$Bridge;)I"⟩, 11), (⟨"BridgeWardens$World", "release", "(LBridgeWardens$Cart;LBridgeWardens$Bridge;)V"⟩, 11), (⟨"BridgeWardens", "appendNote", "(LBridgeWardens$Cart;)V"⟩, 7)]
theorem lw_r1 : ∀ q ∈ lw_privs_1, lw_okq q := List.forall_mem_cons.mpr ⟨lw_p0, List.forall_mem_cons.mpr ⟨lw_p1, List.forall_mem_cons.mpr ⟨lw_p2, List.forall_mem_cons.mpr ⟨lw_p3, List.forall_mem_cons.mpr ⟨lw_p4, List.forall_mem_cons.mpr ⟨lw_p5, List.forall_mem_cons.mpr ⟨lw_p6, List.forall_mem_cons.mpr ⟨lw_p7, fun _ h => absurd h List.not_mem_nil⟩⟩⟩⟩⟩⟩⟩⟩
def lw_privs : List (MethodName × Nat) := lw_privs_1
def lw_tbl : List Cond := k2_sels lw_privs ++ tables_1
theorem lw_privs_ok : ∀ q ∈ lw_privs, lw_okq q := lw_r1
def RX0 : String := "BridgeWardens$Bridge"
def TX0 : u_T := fun k => match k with
  | 0 => ("BridgeWardens$Bridge", "number", "I", true)
  | 1 => ("BridgeWardens$Bridge", "town", "I", false)
  | 2 => ("BridgeWardens$Bridge", "other", "I", false)
  | 3 => ("BridgeWardens$Bridge", "size", "I", false)
  | 4 => ("BridgeWardens$Bridge", "riddle", "I", false)
  | 5 => ("BridgeWardens$Bridge", "waiting", "I", false)
  | 6 => ("BridgeWardens$Bridge", "till", "I", false)
  | 7 => ("BridgeWardens$Bridge", "crossings", "I", false)
  | _ => ("BridgeWardens$Bridge", "ties", "I", false)
def tyX0 : Nat → FieldType := fun k => match k with
  | 0 => .int
  | 1 => .int
  | 2 => .int
  | 3 => .int
  | 4 => .int
  | 5 => .int
  | 6 => .int
  | 7 => .int
  | _ => .int
abbrev wsX00 : List Cond := u_ws RX0 TX0 9
theorem nmX0 : ∀ a, a < 9 → ∀ b, b < 9 → a ≠ b → (TX0 a).2.1 ≠ (TX0 b).2.1 := by decide +kernel
theorem tyX0_ok : ∀ k, k < 9 → parseFieldDescriptor (TX0 k).2.2.1 = some (tyX0 k) := by decide +kernel
abbrev cX0_init : ByteArray := prog_2_method_1_code
def yX0_init : MethodName := ⟨RX0, "<init>", "(I)V"⟩
abbrev cX0_copyFrom : ByteArray := prog_2_method_2_code
def yX0_copyFrom : MethodName := ⟨RX0, "copyFrom", "(LBridgeWardens$Bridge;)V"⟩
abbrev cX0_part : ByteArray := prog_2_method_3_code
def yX0_part : MethodName := ⟨RX0, "part", "(I)I"⟩
abbrev cX0_isAt : ByteArray := prog_2_method_4_code
def yX0_isAt : MethodName := ⟨RX0, "isAt", "(I)Z"⟩
abbrev cX0_farFrom : ByteArray := prog_2_method_5_code
def yX0_farFrom : MethodName := ⟨RX0, "farFrom", "(I)I"⟩
abbrev cX0_distance : ByteArray := prog_2_method_7_code
def yX0_distance : MethodName := ⟨RX0, "distance", "(I)I"⟩
abbrev cX0_takeRiddle : ByteArray := prog_2_method_8_code
def yX0_takeRiddle : MethodName := ⟨RX0, "takeRiddle", "(I)V"⟩
def RX1 : String := "BridgeWardens$Cart"
def TX1 : u_T := fun k => match k with
  | 0 => ("BridgeWardens$Cart", "number", "I", true)
  | 1 => ("BridgeWardens$Cart", "town", "I", false)
  | 2 => ("BridgeWardens$Cart", "coins", "I", false)
  | 3 => ("BridgeWardens$Cart", "bridge", "I", false)
  | 4 => ("BridgeWardens$Cart", "guess", "I", false)
  | 5 => ("BridgeWardens$Cart", "waited", "I", false)
  | 6 => ("BridgeWardens$Cart", "crossings", "I", false)
  | 7 => ("BridgeWardens$Cart", "paid", "I", false)
  | 8 => ("BridgeWardens$Cart", "gifts", "I", false)
  | 9 => ("BridgeWardens$Cart", "lowerEnds", "[I", true)
  | _ => ("BridgeWardens$Cart", "upperEnds", "[I", true)
def tyX1 : Nat → FieldType := fun k => match k with
  | 0 => .int
  | 1 => .int
  | 2 => .int
  | 3 => .int
  | 4 => .int
  | 5 => .int
  | 6 => .int
  | 7 => .int
  | 8 => .int
  | 9 => .array .int
  | _ => .array .int
abbrev wsX10 : List Cond := u_ws RX1 TX1 11
theorem nmX1 : ∀ a, a < 11 → ∀ b, b < 11 → a ≠ b → (TX1 a).2.1 ≠ (TX1 b).2.1 := by decide +kernel
theorem tyX1_ok : ∀ k, k < 11 → parseFieldDescriptor (TX1 k).2.2.1 = some (tyX1 k) := by decide +kernel
abbrev cX1_init : ByteArray := prog_3_method_1_code
def yX1_init : MethodName := ⟨RX1, "<init>", "(I)V"⟩
abbrev cX1_copyFrom : ByteArray := prog_3_method_2_code
def yX1_copyFrom : MethodName := ⟨RX1, "copyFrom", "(LBridgeWardens$Cart;)V"⟩
abbrev cX1_part : ByteArray := prog_3_method_3_code
def yX1_part : MethodName := ⟨RX1, "part", "(I)I"⟩
abbrev cX1_isWaiting : ByteArray := prog_3_method_4_code
def yX1_isWaiting : MethodName := ⟨RX1, "isWaiting", "()Z"⟩
abbrev cX1_lowest : ByteArray := prog_3_method_5_code
def yX1_lowest : MethodName := ⟨RX1, "lowest", "(LBridgeWardens$Bridge;)I"⟩
abbrev cX1_highest : ByteArray := prog_3_method_6_code
def yX1_highest : MethodName := ⟨RX1, "highest", "(LBridgeWardens$Bridge;)I"⟩
abbrev cX1_numbersLeft : ByteArray := prog_3_method_7_code
def yX1_numbersLeft : MethodName := ⟨RX1, "numbersLeft", "(LBridgeWardens$Bridge;)I"⟩
abbrev cX1_forget : ByteArray := prog_3_method_8_code
def yX1_forget : MethodName := ⟨RX1, "forget", "(LBridgeWardens$Bridge;)V"⟩
abbrev cX1_halve : ByteArray := prog_3_method_9_code
def yX1_halve : MethodName := ⟨RX1, "halve", "(LBridgeWardens$Bridge;)V"⟩
abbrev cX1_numbersNearer : ByteArray := prog_3_method_10_code
def yX1_numbersNearer : MethodName := ⟨RX1, "numbersNearer", "(LBridgeWardens$Bridge;II)I"⟩
abbrev cX1_pay : ByteArray := prog_3_method_11_code
def yX1_pay : MethodName := ⟨RX1, "pay", "(ILBridgeWardens$Bridge;)V"⟩
abbrev cX1_takeGift : ByteArray := prog_3_method_12_code
def yX1_takeGift : MethodName := ⟨RX1, "takeGift", "(ILBridgeWardens$Bridge;)V"⟩
def RX2 : String := "BridgeWardens$History"
def TX2 : u_T := fun k => match k with
  | 0 => ("BridgeWardens$History", "states", "[LBridgeWardens$World;", true)
  | 1 => ("BridgeWardens$History", "spare", "I", false)
  | _ => ("BridgeWardens$History", "undoable", "I", false)
def tyX2 : Nat → FieldType := fun k => match k with
  | 0 => .array (.object "BridgeWardens$World")
  | 1 => .int
  | _ => .int
abbrev wsX20 : List Cond := u_ws RX2 TX2 3
theorem nmX2 : ∀ a, a < 3 → ∀ b, b < 3 → a ≠ b → (TX2 a).2.1 ≠ (TX2 b).2.1 := by decide +kernel
theorem tyX2_ok : ∀ k, k < 3 → parseFieldDescriptor (TX2 k).2.2.1 = some (tyX2 k) := by decide +kernel
abbrev cX2_init : ByteArray := prog_4_method_1_code
def yX2_init : MethodName := ⟨RX2, "<init>", "()V"⟩
abbrev cX2_note : ByteArray := prog_4_method_2_code
def yX2_note : MethodName := ⟨RX2, "note", "(LBridgeWardens$World;)V"⟩
abbrev cX2_keepNoted : ByteArray := prog_4_method_3_code
def yX2_keepNoted : MethodName := ⟨RX2, "keepNoted", "()V"⟩
abbrev cX2_takeBack : ByteArray := prog_4_method_4_code
def yX2_takeBack : MethodName := ⟨RX2, "takeBack", "(LBridgeWardens$World;)V"⟩
def RX3 : String := "BridgeWardens$OrderReader"
def TX3 : u_T := fun k => match k with
  | 0 => ("BridgeWardens$OrderReader", "pad", "LBridgeWardens$Pad;", true)
  | 1 => ("BridgeWardens$OrderReader", "place", "I", false)
  | 2 => ("BridgeWardens$OrderReader", "kind", "I", false)
  | 3 => ("BridgeWardens$OrderReader", "first", "I", false)
  | 4 => ("BridgeWardens$OrderReader", "second", "I", false)
  | _ => ("BridgeWardens$OrderReader", "third", "I", false)
def tyX3 : Nat → FieldType := fun k => match k with
  | 0 => .object "BridgeWardens$Pad"
  | 1 => .int
  | 2 => .int
  | 3 => .int
  | 4 => .int
  | _ => .int
abbrev wsX30 : List Cond := u_ws RX3 TX3 6
theorem nmX3 : ∀ a, a < 6 → ∀ b, b < 6 → a ≠ b → (TX3 a).2.1 ≠ (TX3 b).2.1 := by decide +kernel
theorem tyX3_ok : ∀ k, k < 6 → parseFieldDescriptor (TX3 k).2.2.1 = some (tyX3 k) := by decide +kernel
abbrev cX3_init : ByteArray := prog_5_method_1_code
def yX3_init : MethodName := ⟨RX3, "<init>", "(LBridgeWardens$Pad;)V"⟩
def RX4 : String := "BridgeWardens$Pad"
def TX4 : u_T := fun k => match k with
  | 0 => ("BridgeWardens$Pad", "codes", "[I", true)
  | _ => ("BridgeWardens$Pad", "length", "I", false)
def tyX4 : Nat → FieldType := fun k => match k with
  | 0 => .array .int
  | _ => .int
abbrev wsX40 : List Cond := u_ws RX4 TX4 2
theorem nmX4 : ∀ a, a < 2 → ∀ b, b < 2 → a ≠ b → (TX4 a).2.1 ≠ (TX4 b).2.1 := by decide +kernel
theorem tyX4_ok : ∀ k, k < 2 → parseFieldDescriptor (TX4 k).2.2.1 = some (tyX4 k) := by decide +kernel
abbrev cX4_init : ByteArray := prog_6_method_1_code
def yX4_init : MethodName := ⟨RX4, "<init>", "()V"⟩
abbrev cX4_clear : ByteArray := prog_6_method_2_code
def yX4_clear : MethodName := ⟨RX4, "clear", "()V"⟩
abbrev cX4_codeAt : ByteArray := prog_6_method_3_code
def yX4_codeAt : MethodName := ⟨RX4, "codeAt", "(I)I"⟩
abbrev cX4_append : ByteArray := prog_6_method_4_code
def yX4_append : MethodName := ⟨RX4, "append", "(I)V"⟩
abbrev cX4_appendNumber : ByteArray := prog_6_method_5_code
def yX4_appendNumber : MethodName := ⟨RX4, "appendNumber", "(I)V"⟩
def RX5 : String := "BridgeWardens$World"
def TX5 : u_T := fun k => match k with
  | 0 => ("BridgeWardens$World", "settings", "[I", true)
  | 1 => ("BridgeWardens$World", "bridges", "[LBridgeWardens$Bridge;", true)
  | 2 => ("BridgeWardens$World", "carts", "[LBridgeWardens$Cart;", true)
  | 3 => ("BridgeWardens$World", "line", "[I", true)
  | 4 => ("BridgeWardens$World", "lineLength", "I", false)
  | 5 => ("BridgeWardens$World", "bridgeCount", "I", false)
  | 6 => ("BridgeWardens$World", "cartCount", "I", false)
  | 7 => ("BridgeWardens$World", "seed", "I", false)
  | 8 => ("BridgeWardens$World", "hours", "I", false)
  | 9 => ("BridgeWardens$World", "coinsBrought", "I", false)
  | _ => ("BridgeWardens$World", "hints", "I", false)
def tyX5 : Nat → FieldType := fun k => match k with
  | 0 => .array .int
  | 1 => .array (.object "BridgeWardens$Bridge")
  | 2 => .array (.object "BridgeWardens$Cart")
  | 3 => .array .int
  | 4 => .int
  | 5 => .int
  | 6 => .int
  | 7 => .int
  | 8 => .int
  | 9 => .int
  | _ => .int
abbrev wsX50 : List Cond := u_ws RX5 TX5 11
theorem nmX5 : ∀ a, a < 11 → ∀ b, b < 11 → a ≠ b → (TX5 a).2.1 ≠ (TX5 b).2.1 := by decide +kernel
theorem tyX5_ok : ∀ k, k < 11 → parseFieldDescriptor (TX5 k).2.2.1 = some (tyX5 k) := by decide +kernel
abbrev cX5_init : ByteArray := prog_7_method_1_code
def yX5_init : MethodName := ⟨RX5, "<init>", "()V"⟩
abbrev cX5_copyFrom : ByteArray := prog_7_method_2_code
def yX5_copyFrom : MethodName := ⟨RX5, "copyFrom", "(LBridgeWardens$World;)V"⟩
abbrev cX5_bridgeOf : ByteArray := prog_7_method_3_code
def yX5_bridgeOf : MethodName := ⟨RX5, "bridgeOf", "(I)LBridgeWardens$Bridge;"⟩
abbrev cX5_cartOf : ByteArray := prog_7_method_4_code
def yX5_cartOf : MethodName := ⟨RX5, "cartOf", "(I)LBridgeWardens$Cart;"⟩
abbrev cX5_changeSetting : ByteArray := prog_7_method_5_code
def yX5_changeSetting : MethodName := ⟨RX5, "changeSetting", "(II)I"⟩
abbrev cX5_addBridge : ByteArray := prog_7_method_6_code
def yX5_addBridge : MethodName := ⟨RX5, "addBridge", "(III)I"⟩
abbrev cX5_addCart : ByteArray := prog_7_method_7_code
def yX5_addCart : MethodName := ⟨RX5, "addCart", "(II)I"⟩
abbrev cX5_comeToWait : ByteArray := prog_7_method_8_code
def yX5_comeToWait : MethodName := ⟨RX5, "comeToWait", "(III)I"⟩
abbrev cX5_stopWaiting : ByteArray := prog_7_method_9_code
def yX5_stopWaiting : MethodName := ⟨RX5, "stopWaiting", "(I)I"⟩
abbrev cX5_buyHint : ByteArray := prog_7_method_10_code
def yX5_buyHint : MethodName := ⟨RX5, "buyHint", "(II)I"⟩
abbrev cX5_passHours : ByteArray := prog_7_method_11_code
def yX5_passHours : MethodName := ⟨RX5, "passHours", "(I)I"⟩
abbrev cX5_playHour : ByteArray := prog_7_method_12_code
def yX5_playHour : MethodName := ⟨RX5, "playHour", "()I"⟩
abbrev cX5_letOver : ByteArray := prog_7_method_13_code
def yX5_letOver : MethodName := ⟨RX5, "letOver", "(LBridgeWardens$Bridge;)I"⟩
abbrev cX5_comerOver : ByteArray := prog_7_method_14_code
def yX5_comerOver : MethodName := ⟨RX5, "comerOver", "(LBridgeWardens$Bridge;)LBridgeWardens$Cart;"⟩
abbrev cX5_isTied : ByteArray := prog_7_method_15_code
def yX5_isTied : MethodName := ⟨RX5, "isTied", "(LBridgeWardens$Bridge;)Z"⟩
abbrev cX5_payerOfTie : ByteArray := prog_7_method_16_code
def yX5_payerOfTie : MethodName := ⟨RX5, "payerOfTie", "(LBridgeWardens$Cart;LBridgeWardens$Cart;)LBridgeWardens$Cart;"⟩
abbrev cX5_release : ByteArray := prog_7_method_17_code
def yX5_release : MethodName := ⟨RX5, "release", "(LBridgeWardens$Cart;LBridgeWardens$Bridge;)V"⟩
abbrev cX5_drawRiddle : ByteArray := prog_7_method_18_code
def yX5_drawRiddle : MethodName := ⟨RX5, "drawRiddle", "(LBridgeWardens$Bridge;)V"⟩
abbrev cX5_waiterAt : ByteArray := prog_7_method_19_code
def yX5_waiterAt : MethodName := ⟨RX5, "waiterAt", "(LBridgeWardens$Bridge;I)LBridgeWardens$Cart;"⟩
abbrev cX5_reasonToStay : ByteArray := prog_7_method_20_code
def yX5_reasonToStay : MethodName := ⟨RX5, "reasonToStay", "(LBridgeWardens$Cart;)I"⟩
abbrev cX5_total : ByteArray := prog_7_method_21_code
def yX5_total : MethodName := ⟨RX5, "total", "(I)I"⟩
abbrev cX5_waitingSet : ByteArray := prog_7_method_22_code
def yX5_waitingSet : MethodName := ⟨RX5, "waitingSet", "()I"⟩
abbrev cX5_sumOverCarts : ByteArray := prog_7_method_23_code
def yX5_sumOverCarts : MethodName := ⟨RX5, "sumOverCarts", "(I)I"⟩
abbrev cX5_sumOverBridges : ByteArray := prog_7_method_24_code
def yX5_sumOverBridges : MethodName := ⟨RX5, "sumOverBridges", "(I)I"⟩
def RX6 : String := "BridgeWardens"
def TX6 : u_T := fun k => match k with
  | 0 => ("BridgeWardens", "now", "LBridgeWardens$World;", true)
  | 1 => ("BridgeWardens", "trial", "LBridgeWardens$World;", true)
  | 2 => ("BridgeWardens", "history", "LBridgeWardens$History;", true)
  | 3 => ("BridgeWardens", "slots", "[LBridgeWardens$World;", true)
  | 4 => ("BridgeWardens", "saved", "[Z", true)
  | 5 => ("BridgeWardens", "pad", "LBridgeWardens$Pad;", true)
  | _ => ("BridgeWardens", "orders", "LBridgeWardens$OrderReader;", true)
def tyX6 : Nat → FieldType := fun k => match k with
  | 0 => .object "BridgeWardens$World"
  | 1 => .object "BridgeWardens$World"
  | 2 => .object "BridgeWardens$History"
  | 3 => .array (.object "BridgeWardens$World")
  | 4 => .array .boolean
  | 5 => .object "BridgeWardens$Pad"
  | _ => .object "BridgeWardens$OrderReader"
abbrev wsX60 : List Cond := u_ws RX6 TX6 7
theorem nmX6 : ∀ a, a < 7 → ∀ b, b < 7 → a ≠ b → (TX6 a).2.1 ≠ (TX6 b).2.1 := by decide +kernel
theorem tyX6_ok : ∀ k, k < 7 → parseFieldDescriptor (TX6 k).2.2.1 = some (tyX6 k) := by decide +kernel
abbrev cX6_init : ByteArray := prog_1_method_1_code
def yX6_init : MethodName := ⟨RX6, "<init>", "()V"⟩
abbrev cX6_set : ByteArray := prog_1_method_2_code
def yX6_set : MethodName := ⟨RX6, "set", "(II)I"⟩
abbrev cX6_bridge : ByteArray := prog_1_method_3_code
def yX6_bridge : MethodName := ⟨RX6, "bridge", "(III)I"⟩
abbrev cX6_cart : ByteArray := prog_1_method_4_code
def yX6_cart : MethodName := ⟨RX6, "cart", "(II)I"⟩
abbrev cX6_guess : ByteArray := prog_1_method_5_code
def yX6_guess : MethodName := ⟨RX6, "guess", "(III)I"⟩
abbrev cX6_leave : ByteArray := prog_1_method_6_code
def yX6_leave : MethodName := ⟨RX6, "leave", "(I)I"⟩
abbrev cX6_hint : ByteArray := prog_1_method_7_code
def yX6_hint : MethodName := ⟨RX6, "hint", "(II)I"⟩
abbrev cX6_pass : ByteArray := prog_1_method_8_code
def yX6_pass : MethodName := ⟨RX6, "pass", "(I)I"⟩
abbrev cX6_write : ByteArray := prog_1_method_9_code
def yX6_write : MethodName := ⟨RX6, "write", "(I)I"⟩
abbrev cX6_ofBridge : ByteArray := prog_1_method_10_code
def yX6_ofBridge : MethodName := ⟨RX6, "ofBridge", "(II)I"⟩
abbrev cX6_ofCart : ByteArray := prog_1_method_11_code
def yX6_ofCart : MethodName := ⟨RX6, "ofCart", "(II)I"⟩
abbrev cX6_knows : ByteArray := prog_1_method_12_code
def yX6_knows : MethodName := ⟨RX6, "knows", "(III)I"⟩
abbrev cX6_waits : ByteArray := prog_1_method_13_code
def yX6_waits : MethodName := ⟨RX6, "waits", "(II)I"⟩
abbrev cX6_sign : ByteArray := prog_1_method_14_code
def yX6_sign : MethodName := ⟨RX6, "sign", "(I)I"⟩
abbrev cX6_count : ByteArray := prog_1_method_15_code
def yX6_count : MethodName := ⟨RX6, "count", "(I)I"⟩
abbrev cX6_next : ByteArray := prog_1_method_16_code
def yX6_next : MethodName := ⟨RX6, "next", "(I)I"⟩
abbrev cX6_why : ByteArray := prog_1_method_17_code
def yX6_why : MethodName := ⟨RX6, "why", "(I)I"⟩
abbrev cX6_overIn : ByteArray := prog_1_method_18_code
def yX6_overIn : MethodName := ⟨RX6, "overIn", "(I)I"⟩
abbrev cX6_wins : ByteArray := prog_1_method_19_code
def yX6_wins : MethodName := ⟨RX6, "wins", "(IIII)I"⟩
abbrev cX6_bestGuess : ByteArray := prog_1_method_20_code
def yX6_bestGuess : MethodName := ⟨RX6, "bestGuess", "(IIII)I"⟩
abbrev cX6_would : ByteArray := prog_1_method_22_code
def yX6_would : MethodName := ⟨RX6, "would", "(II)I"⟩
abbrev cX6_wipe : ByteArray := prog_1_method_24_code
def yX6_wipe : MethodName := ⟨RX6, "wipe", "()I"⟩
abbrev cX6_undo : ByteArray := prog_1_method_27_code
def yX6_undo : MethodName := ⟨RX6, "undo", "()I"⟩
abbrev cX6_isBelow : ByteArray := prog_1_method_30_code
def yX6_isBelow : MethodName := ⟨RX6, "isBelow", "(II)Z"⟩
abbrev cX6_numberOf : ByteArray := prog_1_method_31_code
def yX6_numberOf : MethodName := ⟨RX6, "numberOf", "(LBridgeWardens$Cart;I)I"⟩
abbrev cX6_recorded : ByteArray := prog_1_method_32_code
def yX6_recorded : MethodName := ⟨RX6, "recorded", "(I)I"⟩
abbrev cX6_appendNote : ByteArray := prog_1_method_34_code
def yX6_appendNote : MethodName := ⟨RX6, "appendNote", "(LBridgeWardens$Cart;)V"⟩
def RX7 : String := "BridgeWardensModel"
def TX7 : u_T := fun k => match k with
  | _ => ("", "", "", false)
def tyX7 : Nat → FieldType := fun k => match k with
  | _ => .int
abbrev wsX70 : List Cond := u_ws RX7 TX7 0
theorem nmX7 : ∀ a, a < 0 → ∀ b, b < 0 → a ≠ b → (TX7 a).2.1 ≠ (TX7 b).2.1 := by decide +kernel
theorem tyX7_ok : ∀ k, k < 0 → parseFieldDescriptor (TX7 k).2.2.1 = some (tyX7 k) := by decide +kernel
def RJ9 : String := "java/lang/Math"
def RJ10 : String := "java/lang/System"
def RL : String := "BridgeWardensLaw"
abbrev cL_cell : ByteArray := method_2_code
def yL_cell : MethodName := ⟨RL, "cell", "([II)I"⟩
abbrev cL_low : ByteArray := method_3_code
def yL_low : MethodName := ⟨RL, "low", "(II)I"⟩
abbrev cL_hangs : ByteArray := method_4_code
def yL_hangs : MethodName := ⟨RL, "hangs", "(LBridgeWardens;)Z"⟩
abbrev cL_print : ByteArray := method_5_code
def yL_print : MethodName := ⟨RL, "print", "(LBridgeWardens;)J"⟩
abbrev cL_waits : ByteArray := method_6_code
def yL_waits : MethodName := ⟨RL, "waits", "(LBridgeWardens;II)Z"⟩
abbrev cL_notes : ByteArray := method_7_code
def yL_notes : MethodName := ⟨RL, "notes", "(LBridgeWardens;I)Z"⟩
abbrev cL_guesses : ByteArray := method_8_code
def yL_guesses : MethodName := ⟨RL, "guesses", "(LBridgeWardens;III)Z"⟩
abbrev cL_act : ByteArray := method_9_code
def yL_act : MethodName := ⟨RL, "act", "(LBridgeWardens;II)I"⟩
abbrev cL_law : ByteArray := code
def yL_law : MethodName := ⟨RL, "law", "([I)Z"⟩
abbrev vwCl : List vw_C := [(RX0, TX0, 9), (RX1, TX1, 11), (RX2, TX2, 3), (RX3, TX3, 6), (RX4, TX4, 2), (RX5, TX5, 11), (RX6, TX6, 7)]

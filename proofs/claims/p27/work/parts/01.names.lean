-- ===== PART A: goes FIRST, ahead of the names: the tables' words, and 'selects' of the private methods out of them =====
/-- a private method of a class that the tables say can be made, by its rows of tables_1 -/
def lw_okq (q : MethodName × Nat) : Prop := (q.1.cls ≠ "java/lang/invoke/MethodHandle" ∧ q.1.cls ≠ "java/lang/invoke/VarHandle") ∧ Cond.instantiable q.1.cls q.2 ∈ tables_1 ∧ Cond.privateMethod q.1 ∈ tables_1 ∧ Cond.instanceMethod q.1 ∈ tables_1
theorem lw_p0 : lw_okq (⟨"java/lang/Throwable", "fillInStackTrace", "(I)Ljava/lang/Throwable;"⟩, 6) := ⟨⟨by decide +kernel, by decide +kernel⟩, List.mem_of_getElem? (i := 239) (by decide +kernel), List.mem_of_getElem? (i := 237) (by decide +kernel), List.mem_of_getElem? (i := 238) (by decide +kernel)⟩
theorem lw_p1 : lw_okq (⟨"TankPlant", "needTank", "(I)V"⟩, 4) := ⟨⟨by decide +kernel, by decide +kernel⟩, List.mem_of_getElem? (i := 16) (by decide +kernel), List.mem_of_getElem? (i := 302) (by decide +kernel), List.mem_of_getElem? (i := 303) (by decide +kernel)⟩
theorem lw_p2 : lw_okq (⟨"TankPlant", "needTankOrOutside", "(I)V"⟩, 4) := ⟨⟨by decide +kernel, by decide +kernel⟩, List.mem_of_getElem? (i := 16) (by decide +kernel), List.mem_of_getElem? (i := 332) (by decide +kernel), List.mem_of_getElem? (i := 333) (by decide +kernel)⟩
theorem lw_p3 : lw_okq (⟨"TankPlant", "needSwitch", "(I)V"⟩, 4) := ⟨⟨by decide +kernel, by decide +kernel⟩, List.mem_of_getElem? (i := 16) (by decide +kernel), List.mem_of_getElem? (i := 336) (by decide +kernel), List.mem_of_getElem? (i := 337) (by decide +kernel)⟩
theorem lw_p4 : lw_okq (⟨"TankPlant$Plant", "tick", "()I"⟩, 5) := ⟨⟨by decide +kernel, by decide +kernel⟩, List.mem_of_getElem? (i := 24) (by decide +kernel), List.mem_of_getElem? (i := 364) (by decide +kernel), List.mem_of_getElem? (i := 365) (by decide +kernel)⟩
theorem lw_p5 : lw_okq (⟨"TankPlant$Pumps", "move", "(ILTankPlant$Tanks;)V"⟩, 13) := ⟨⟨by decide +kernel, by decide +kernel⟩, List.mem_of_getElem? (i := 91) (by decide +kernel), List.mem_of_getElem? (i := 392) (by decide +kernel), List.mem_of_getElem? (i := 393) (by decide +kernel)⟩
theorem lw_p6 : lw_okq (⟨"TankPlant$Pumps", "enter", "(II)V"⟩, 13) := ⟨⟨by decide +kernel, by decide +kernel⟩, List.mem_of_getElem? (i := 91) (by decide +kernel), List.mem_of_getElem? (i := 399) (by decide +kernel), List.mem_of_getElem? (i := 400) (by decide +kernel)⟩
theorem lw_p7 : lw_okq (⟨"TankPlant$Plant", "repeatLast", "(I)I"⟩, 5) := ⟨⟨by decide +kernel, by decide +kernel⟩, List.mem_of_getElem? (i := 24) (by decide +kernel), List.mem_of_getElem? (i := 408) (by decide +kernel), List.mem_of_getElem? (i := 409) (by decide +kernel)⟩
theorem lw_p8 : lw_okq (⟨"TankPlant$Pumps", "steadyTicksOf", "(ILTankPlant$Tanks;I)I"⟩, 13) := ⟨⟨by decide +kernel, by decide +kernel⟩, List.mem_of_getElem? (i := 91) (by decide +kernel), List.mem_of_getElem? (i := 430) (by decide +kernel), List.mem_of_getElem? (i := 431) (by decide +kernel)⟩
theorem lw_p9 : lw_okq (⟨"TankPlant", "needPump", "(I)V"⟩, 4) := ⟨⟨by decide +kernel, by decide +kernel⟩, List.mem_of_getElem? (i := 16) (by decide +kernel), List.mem_of_getElem? (i := 471) (by decide +kernel), List.mem_of_getElem? (i := 472) (by decide +kernel)⟩
def lw_privs_1 : List (MethodName × Nat) := [(⟨"java/lang/Throwable", "fillInStackTrace", "(I)Ljava/lang/Throwable;"⟩, 6), (⟨"TankPlant", "needTank", "(I)V"⟩, 4), (⟨"TankPlant", "needTankOrOutside", "(I)V"⟩, 4), (⟨"TankPlant", "needSwitch", "(I)V"⟩, 4), (⟨"TankPlant$Plant", "tick", "()I"⟩, 5), (⟨"TankPlant$Pumps", "move", "(ILTankPlant$Tanks;)V"⟩, 13), (⟨"TankPlant$Pumps", "enter", "(II)V"⟩, 13), (⟨"TankPlant$Plant", "repeatLast", "(I)I"⟩, 5), (⟨"TankPlant$Pumps", "steadyTicksOf", "(ILTankPlant$Tanks;I)I"⟩, 13), (⟨"TankPlant", "needPump", "(I)V"⟩, 4)]
theorem lw_r1 : ∀ q ∈ lw_privs_1, lw_okq q := List.forall_mem_cons.mpr ⟨lw_p0, List.forall_mem_cons.mpr ⟨lw_p1, List.forall_mem_cons.mpr ⟨lw_p2, List.forall_mem_cons.mpr ⟨lw_p3, List.forall_mem_cons.mpr ⟨lw_p4, List.forall_mem_cons.mpr ⟨lw_p5, List.forall_mem_cons.mpr ⟨lw_p6, List.forall_mem_cons.mpr ⟨lw_p7, List.forall_mem_cons.mpr ⟨lw_p8, List.forall_mem_cons.mpr ⟨lw_p9, fun _ h => absurd h List.not_mem_nil⟩⟩⟩⟩⟩⟩⟩⟩⟩⟩
def lw_privs : List (MethodName × Nat) := lw_privs_1
def lw_tbl : List Cond := k2_sels lw_privs ++ tables_1
theorem lw_privs_ok : ∀ q ∈ lw_privs, lw_okq q := lw_r1

def RX0 : String := "TankPlant$ChangeLog"
def TX0 : u_T := fun k => match k with
  | 0 => ("TankPlant$ChangeLog", "count", "J", false)
  | 1 => ("TankPlant$ChangeLog", "times", "[J", true)
  | _ => ("TankPlant$ChangeLog", "numbers", "[I", true)
def tyX0 : Nat → FieldType := fun k => match k with
  | 0 => .long
  | 1 => .array .long
  | _ => .array .int
abbrev wsX00 : List Cond := u_ws RX0 TX0 3
theorem nmX0 : ∀ a, a < 3 → ∀ b, b < 3 → a ≠ b → (TX0 a).2.1 ≠ (TX0 b).2.1 := by decide +kernel
theorem tyX0_ok : ∀ k, k < 3 → parseFieldDescriptor (TX0 k).2.2.1 = some (tyX0 k) := by decide +kernel
abbrev cX0_init : ByteArray := prog_2_method_1_code
def yX0_init : MethodName := ⟨RX0, "<init>", "()V"⟩
abbrev cX0_note : ByteArray := prog_2_method_2_code
def yX0_note : MethodName := ⟨RX0, "note", "(JI)V"⟩
def RX1 : String := "TankPlant$Plant"
def TX1 : u_T := fun k => match k with
  | 0 => ("TankPlant$Plant", "tanks", "LTankPlant$Tanks;", true)
  | 1 => ("TankPlant$Plant", "switches", "LTankPlant$Switches;", true)
  | 2 => ("TankPlant$Plant", "pumps", "LTankPlant$Pumps;", true)
  | 3 => ("TankPlant$Plant", "log", "LTankPlant$ChangeLog;", true)
  | _ => ("TankPlant$Plant", "time", "J", false)
def tyX1 : Nat → FieldType := fun k => match k with
  | 0 => .object "TankPlant$Tanks"
  | 1 => .object "TankPlant$Switches"
  | 2 => .object "TankPlant$Pumps"
  | 3 => .object "TankPlant$ChangeLog"
  | _ => .long
abbrev wsX10 : List Cond := u_ws RX1 TX1 5
theorem nmX1 : ∀ a, a < 5 → ∀ b, b < 5 → a ≠ b → (TX1 a).2.1 ≠ (TX1 b).2.1 := by decide +kernel
theorem tyX1_ok : ∀ k, k < 5 → parseFieldDescriptor (TX1 k).2.2.1 = some (tyX1 k) := by decide +kernel
abbrev cX1_init : ByteArray := prog_3_method_1_code
def yX1_init : MethodName := ⟨RX1, "<init>", "()V"⟩
abbrev cX1_advance : ByteArray := prog_3_method_3_code
def yX1_advance : MethodName := ⟨RX1, "advance", "(I)I"⟩
abbrev cX1_tick : ByteArray := prog_3_method_6_code
def yX1_tick : MethodName := ⟨RX1, "tick", "()I"⟩
abbrev cX1_repeatLast : ByteArray := prog_3_method_7_code
def yX1_repeatLast : MethodName := ⟨RX1, "repeatLast", "(I)I"⟩
def RX2 : String := "TankPlant$Pumps"
def TX2 : u_T := fun k => match k with
  | 0 => ("TankPlant$Pumps", "count", "I", false)
  | 1 => ("TankPlant$Pumps", "from", "[I", true)
  | 2 => ("TankPlant$Pumps", "to", "[I", true)
  | 3 => ("TankPlant$Pumps", "rate", "[I", true)
  | 4 => ("TankPlant$Pumps", "lift", "[I", true)
  | 5 => ("TankPlant$Pumps", "control", "[I", true)
  | 6 => ("TankPlant$Pumps", "inverted", "[Z", true)
  | 7 => ("TankPlant$Pumps", "total", "[J", true)
  | 8 => ("TankPlant$Pumps", "energy", "[J", true)
  | 9 => ("TankPlant$Pumps", "shortTicks", "[J", true)
  | 10 => ("TankPlant$Pumps", "amount", "[I", true)
  | 11 => ("TankPlant$Pumps", "sourceLeft", "[I", true)
  | _ => ("TankPlant$Pumps", "roomLeft", "[I", true)
def tyX2 : Nat → FieldType := fun k => match k with
  | 0 => .int
  | 1 => .array .int
  | 2 => .array .int
  | 3 => .array .int
  | 4 => .array .int
  | 5 => .array .int
  | 6 => .array .boolean
  | 7 => .array .long
  | 8 => .array .long
  | 9 => .array .long
  | 10 => .array .int
  | 11 => .array .int
  | _ => .array .int
abbrev wsX20 : List Cond := u_ws RX2 TX2 13
theorem nmX2 : ∀ a, a < 13 → ∀ b, b < 13 → a ≠ b → (TX2 a).2.1 ≠ (TX2 b).2.1 := by decide +kernel
theorem tyX2_ok : ∀ k, k < 13 → parseFieldDescriptor (TX2 k).2.2.1 = some (tyX2 k) := by decide +kernel
abbrev cX2_init : ByteArray := prog_4_method_1_code
def yX2_init : MethodName := ⟨RX2, "<init>", "()V"⟩
abbrev cX2_append : ByteArray := prog_4_method_2_code
def yX2_append : MethodName := ⟨RX2, "append", "(IIIIIZ)I"⟩
abbrev cX2_isActive : ByteArray := prog_4_method_4_code
def yX2_isActive : MethodName := ⟨RX2, "isActive", "(ILTankPlant$Switches;)Z"⟩
abbrev cX2_moveAll : ByteArray := prog_4_method_5_code
def yX2_moveAll : MethodName := ⟨RX2, "moveAll", "(LTankPlant$Tanks;LTankPlant$Switches;)V"⟩
abbrev cX2_move : ByteArray := prog_4_method_6_code
def yX2_move : MethodName := ⟨RX2, "move", "(ILTankPlant$Tanks;)V"⟩
abbrev cX2_enter : ByteArray := prog_4_method_7_code
def yX2_enter : MethodName := ⟨RX2, "enter", "(II)V"⟩
abbrev cX2_steadyTicks : ByteArray := prog_4_method_8_code
def yX2_steadyTicks : MethodName := ⟨RX2, "steadyTicks", "(LTankPlant$Tanks;LTankPlant$Switches;I)I"⟩
abbrev cX2_steadyTicksOf : ByteArray := prog_4_method_9_code
def yX2_steadyTicksOf : MethodName := ⟨RX2, "steadyTicksOf", "(ILTankPlant$Tanks;I)I"⟩
abbrev cX2_repeat : ByteArray := prog_4_method_10_code
def yX2_repeat : MethodName := ⟨RX2, "repeat", "(LTankPlant$Switches;I)V"⟩
def RX3 : String := "TankPlant$Switches"
def TX3 : u_T := fun k => match k with
  | 0 => ("TankPlant$Switches", "count", "I", false)
  | 1 => ("TankPlant$Switches", "tank", "[I", true)
  | 2 => ("TankPlant$Switches", "low", "[I", true)
  | 3 => ("TankPlant$Switches", "high", "[I", true)
  | _ => ("TankPlant$Switches", "on", "[Z", true)
def tyX3 : Nat → FieldType := fun k => match k with
  | 0 => .int
  | 1 => .array .int
  | 2 => .array .int
  | 3 => .array .int
  | _ => .array .boolean
abbrev wsX30 : List Cond := u_ws RX3 TX3 5
theorem nmX3 : ∀ a, a < 5 → ∀ b, b < 5 → a ≠ b → (TX3 a).2.1 ≠ (TX3 b).2.1 := by decide +kernel
theorem tyX3_ok : ∀ k, k < 5 → parseFieldDescriptor (TX3 k).2.2.1 = some (tyX3 k) := by decide +kernel
abbrev cX3_init : ByteArray := prog_5_method_1_code
def yX3_init : MethodName := ⟨RX3, "<init>", "()V"⟩
abbrev cX3_append : ByteArray := prog_5_method_2_code
def yX3_append : MethodName := ⟨RX3, "append", "(III)I"⟩
abbrev cX3_follow : ByteArray := prog_5_method_4_code
def yX3_follow : MethodName := ⟨RX3, "follow", "(LTankPlant$Tanks;LTankPlant$ChangeLog;J)I"⟩
abbrev cX3_steadyTicks : ByteArray := prog_5_method_5_code
def yX3_steadyTicks : MethodName := ⟨RX3, "steadyTicks", "(LTankPlant$Tanks;I)I"⟩
def RX4 : String := "TankPlant$Tanks"
def TX4 : u_T := fun k => match k with
  | 0 => ("TankPlant$Tanks", "count", "I", false)
  | 1 => ("TankPlant$Tanks", "capacity", "[I", true)
  | 2 => ("TankPlant$Tanks", "level", "[I", true)
  | 3 => ("TankPlant$Tanks", "leak", "[I", true)
  | 4 => ("TankPlant$Tanks", "levelSum", "[J", true)
  | _ => ("TankPlant$Tanks", "before", "[I", true)
def tyX4 : Nat → FieldType := fun k => match k with
  | 0 => .int
  | 1 => .array .int
  | 2 => .array .int
  | 3 => .array .int
  | 4 => .array .long
  | _ => .array .int
abbrev wsX40 : List Cond := u_ws RX4 TX4 6
theorem nmX4 : ∀ a, a < 6 → ∀ b, b < 6 → a ≠ b → (TX4 a).2.1 ≠ (TX4 b).2.1 := by decide +kernel
theorem tyX4_ok : ∀ k, k < 6 → parseFieldDescriptor (TX4 k).2.2.1 = some (tyX4 k) := by decide +kernel
abbrev cX4_init : ByteArray := prog_6_method_1_code
def yX4_init : MethodName := ⟨RX4, "<init>", "()V"⟩
abbrev cX4_append : ByteArray := prog_6_method_2_code
def yX4_append : MethodName := ⟨RX4, "append", "(III)I"⟩
abbrev cX4_noteLevels : ByteArray := prog_6_method_4_code
def yX4_noteLevels : MethodName := ⟨RX4, "noteLevels", "()V"⟩
abbrev cX4_leakAndSum : ByteArray := prog_6_method_5_code
def yX4_leakAndSum : MethodName := ⟨RX4, "leakAndSum", "()V"⟩
abbrev cX4_drift : ByteArray := prog_6_method_6_code
def yX4_drift : MethodName := ⟨RX4, "drift", "(I)I"⟩
abbrev cX4_steadyTicks : ByteArray := prog_6_method_9_code
def yX4_steadyTicks : MethodName := ⟨RX4, "steadyTicks", "(I)I"⟩
abbrev cX4_repeat : ByteArray := prog_6_method_10_code
def yX4_repeat : MethodName := ⟨RX4, "repeat", "(I)V"⟩
def RX5 : String := "TankPlant"
def TX5 : u_T := fun k => match k with
  | 0 => ("TankPlant", "plant", "LTankPlant$Plant;", true)
  | 1 => ("TankPlant", "trial", "LTankPlant$Plant;", true)
  | 2 => ("TankPlant", "depots", "[LTankPlant$Plant;", true)
  | _ => ("TankPlant", "depotCount", "I", false)
def tyX5 : Nat → FieldType := fun k => match k with
  | 0 => .object "TankPlant$Plant"
  | 1 => .object "TankPlant$Plant"
  | 2 => .array (.object "TankPlant$Plant")
  | _ => .int
abbrev wsX50 : List Cond := u_ws RX5 TX5 4
theorem nmX5 : ∀ a, a < 4 → ∀ b, b < 4 → a ≠ b → (TX5 a).2.1 ≠ (TX5 b).2.1 := by decide +kernel
theorem tyX5_ok : ∀ k, k < 4 → parseFieldDescriptor (TX5 k).2.2.1 = some (tyX5 k) := by decide +kernel
abbrev cX5_init : ByteArray := prog_1_method_1_code
def yX5_init : MethodName := ⟨RX5, "<init>", "()V"⟩
abbrev cX5_addTank : ByteArray := prog_1_method_2_code
def yX5_addTank : MethodName := ⟨RX5, "addTank", "(III)I"⟩
abbrev cX5_addSwitch : ByteArray := prog_1_method_3_code
def yX5_addSwitch : MethodName := ⟨RX5, "addSwitch", "(III)I"⟩
abbrev cX5_addPump : ByteArray := prog_1_method_4_code
def yX5_addPump : MethodName := ⟨RX5, "addPump", "(IIIIIZ)I"⟩
abbrev cX5_run : ByteArray := prog_1_method_8_code
def yX5_run : MethodName := ⟨RX5, "run", "(I)I"⟩
abbrev cX5_time : ByteArray := prog_1_method_11_code
def yX5_time : MethodName := ⟨RX5, "time", "()J"⟩
abbrev cX5_level : ByteArray := prog_1_method_12_code
def yX5_level : MethodName := ⟨RX5, "level", "(I)I"⟩
abbrev cX5_levelSum : ByteArray := prog_1_method_13_code
def yX5_levelSum : MethodName := ⟨RX5, "levelSum", "(I)J"⟩
abbrev cX5_isOn : ByteArray := prog_1_method_15_code
def yX5_isOn : MethodName := ⟨RX5, "isOn", "(I)Z"⟩
abbrev cX5_total : ByteArray := prog_1_method_16_code
def yX5_total : MethodName := ⟨RX5, "total", "(I)J"⟩
abbrev cX5_energy : ByteArray := prog_1_method_17_code
def yX5_energy : MethodName := ⟨RX5, "energy", "(I)J"⟩
abbrev cX5_shortTicks : ByteArray := prog_1_method_18_code
def yX5_shortTicks : MethodName := ⟨RX5, "shortTicks", "(I)J"⟩
abbrev cX5_changeCount : ByteArray := prog_1_method_20_code
def yX5_changeCount : MethodName := ⟨RX5, "changeCount", "()J"⟩
abbrev cX5_needTank : ByteArray := prog_1_method_26_code
def yX5_needTank : MethodName := ⟨RX5, "needTank", "(I)V"⟩
abbrev cX5_needTankOrOutside : ByteArray := prog_1_method_27_code
def yX5_needTankOrOutside : MethodName := ⟨RX5, "needTankOrOutside", "(I)V"⟩
abbrev cX5_needSwitch : ByteArray := prog_1_method_28_code
def yX5_needSwitch : MethodName := ⟨RX5, "needSwitch", "(I)V"⟩
abbrev cX5_needPump : ByteArray := prog_1_method_29_code
def yX5_needPump : MethodName := ⟨RX5, "needPump", "(I)V"⟩
abbrev cX5_needAmount : ByteArray := prog_1_method_31_code
def yX5_needAmount : MethodName := ⟨RX5, "needAmount", "(II)V"⟩
abbrev cX5_needLeak : ByteArray := prog_1_method_32_code
def yX5_needLeak : MethodName := ⟨RX5, "needLeak", "(I)V"⟩
abbrev cX5_needRate : ByteArray := prog_1_method_33_code
def yX5_needRate : MethodName := ⟨RX5, "needRate", "(I)V"⟩
abbrev cX5_needTicks : ByteArray := prog_1_method_34_code
def yX5_needTicks : MethodName := ⟨RX5, "needTicks", "(II)V"⟩
abbrev cX5_isWithin : ByteArray := prog_1_method_35_code
def yX5_isWithin : MethodName := ⟨RX5, "isWithin", "(III)Z"⟩
abbrev cX5_ticksWhile : ByteArray := prog_1_method_37_code
def yX5_ticksWhile : MethodName := ⟨RX5, "ticksWhile", "(JJI)I"⟩
def RX6 : String := "TankPlantModel"
def TX6 : u_T := fun k => match k with
  | _ => ("", "", "", false)
def tyX6 : Nat → FieldType := fun k => match k with
  | _ => .int
abbrev wsX60 : List Cond := u_ws RX6 TX6 0
theorem nmX6 : ∀ a, a < 0 → ∀ b, b < 0 → a ≠ b → (TX6 a).2.1 ≠ (TX6 b).2.1 := by decide +kernel
theorem tyX6_ok : ∀ k, k < 0 → parseFieldDescriptor (TX6 k).2.2.1 = some (tyX6 k) := by decide +kernel
def RJ9 : String := "java/lang/Math"
def TJ9 : u_T := fun k => match k with
  | _ => ("", "", "", false)
def tyJ9 : Nat → FieldType := fun k => match k with
  | _ => .int
abbrev wsJ90 : List Cond := u_ws RJ9 TJ9 0
theorem nmJ9 : ∀ a, a < 0 → ∀ b, b < 0 → a ≠ b → (TJ9 a).2.1 ≠ (TJ9 b).2.1 := by decide +kernel
theorem tyJ9_ok : ∀ k, k < 0 → parseFieldDescriptor (TJ9 k).2.2.1 = some (tyJ9 k) := by decide +kernel
abbrev cJ9_max_7cf53 : ByteArray := prog_13_method_65_code
def yJ9_max_7cf53 : MethodName := ⟨RJ9, "max", "(II)I"⟩
abbrev cJ9_min_7cf53 : ByteArray := prog_13_method_69_code
def yJ9_min_7cf53 : MethodName := ⟨RJ9, "min", "(II)I"⟩
abbrev cJ9_min_f86c9 : ByteArray := prog_13_method_70_code
def yJ9_min_f86c9 : MethodName := ⟨RJ9, "min", "(JJ)J"⟩
def RJ0 : String := "java/lang/String"
def TJ0 : u_T := fun k => match k with
  | _ => ("", "", "", false)
def tyJ0 : Nat → FieldType := fun k => match k with
  | _ => .int
abbrev wsJ00 : List Cond := u_ws RJ0 TJ0 0
theorem nmJ0 : ∀ a, a < 0 → ∀ b, b < 0 → a ≠ b → (TJ0 a).2.1 ≠ (TJ0 b).2.1 := by decide +kernel
theorem tyJ0_ok : ∀ k, k < 0 → parseFieldDescriptor (TJ0 k).2.2.1 = some (tyJ0 k) := by decide +kernel
def RJ10 : String := "java/lang/System"
def TJ10 : u_T := fun k => match k with
  | _ => ("", "", "", false)
def tyJ10 : Nat → FieldType := fun k => match k with
  | _ => .int
abbrev wsJ100 : List Cond := u_ws RJ10 TJ10 0
theorem nmJ10 : ∀ a, a < 0 → ∀ b, b < 0 → a ≠ b → (TJ10 a).2.1 ≠ (TJ10 b).2.1 := by decide +kernel
theorem tyJ10_ok : ∀ k, k < 0 → parseFieldDescriptor (TJ10 k).2.2.1 = some (tyJ10 k) := by decide +kernel
def RL : String := "TankPlantLaw"
abbrev cL_below : ByteArray := method_2_code
def yL_below : MethodName := ⟨RL, "below", "(II)I"⟩
abbrev cL_cell : ByteArray := method_3_code
def yL_cell : MethodName := ⟨RL, "cell", "([II)I"⟩
abbrev cL_law : ByteArray := code
def yL_law : MethodName := ⟨RL, "law", "([I)Z"⟩
abbrev vwCl : List vw_C := [(RX0, TX0, 3), (RX1, TX1, 5), (RX2, TX2, 13), (RX3, TX3, 5), (RX4, TX4, 6), (RX5, TX5, 4)]

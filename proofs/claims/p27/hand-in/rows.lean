section
-- ===== PART A: goes FIRST, ahead of the names: the tables' words, and 'selects' of the private methods out of them =====
/-- a private method of a class that the tables say can be made, by its rows of tables_1 -/
def lw_okq (q : MethodName × Nat) : Prop := (q.1.cls ≠ "java/lang/invoke/MethodHandle" ∧ q.1.cls ≠ "java/lang/invoke/VarHandle") ∧ Cond.instantiable q.1.cls q.2 ∈ tables_1 ∧ Cond.privateMethod q.1 ∈ tables_1 ∧ Cond.instanceMethod q.1 ∈ tables_1
theorem lw_p0 : lw_okq (⟨"java/lang/Throwable", "fillInStackTrace", "(I)Ljava/lang/Throwable;"⟩, 6) := ⟨⟨by decide +kernel, by decide +kernel⟩, List.mem_of_getElem? (i := 239) (by decide +kernel), List.mem_of_getElem? (i := 237) (by decide +kernel), List.mem_of_getElem? (i := 238) (by decide +kernel)⟩
theorem lw_p1 : lw_okq (⟨"TankPlant", "needTank", "(I)V"⟩, 4) := ⟨⟨by decide +kernel, by decide +kernel⟩, List.mem_of_getElem? (i := 16) (by decide +kernel), List.mem_of_getElem? (i := 302) (by decide +kernel), List.mem_of_getElem? (i := 303) (by decide +kernel)⟩
theorem lw_p2 : lw_okq (⟨"TankPlant", "needTankOrOutside", "(I)V"⟩, 4) := ⟨⟨by decide +kernel, by decide +kernel⟩, List.mem_of_getElem? (i := 16) (by decide +kernel), List.mem_of_getElem? (i := 332) (by decide +kernel), List.mem_of_getElem? (i := 333) (by decide +kernel)⟩
theorem lw_p3 : lw_okq (⟨"TankPlant", "needSwitch", "(I)V"⟩, 4) := ⟨⟨by decide +kernel, by decide +kernel⟩, List.mem_of_getElem? (i := 16) (by decide +kernel), List.mem_of_getElem? (i := 336) (by decide +kernel), List.mem_of_getElem? (i := 337) (by decide +kernel)⟩
theorem lw_p4 : lw_okq (⟨"TankPlant$Plant", "tick", "()I"⟩, 5) := ⟨⟨by decide +kernel, by decide +kernel⟩, List.mem_of_getElem? (i := 24) (by decide +kernel), List.mem_of_getElem? (i := 364) (by decide +kernel), List.mem_of_getElem? (i := 365) (by decide +kernel)⟩
theorem lw_p5 : lw_okq (⟨"TankPlant$Pumps", "move", "(ILTankPlant$Tanks;)V"⟩, 13) := ⟨⟨by decide +kernel, by decide +kernel⟩, List.mem_of_getElem? (i := 91) (by decide +kernel), List.mem_of_getElem? (i := 392) (by decide +kernel), List.mem_of_getElem? (i := 393) (by decide +kernel)⟩
theorem lw_p6 : lw_okq (⟨"TankPlant$Pumps", "enter", "(II)V"⟩, 13) := ⟨⟨by decide +kernel, by decide +kernel⟩, List.mem_of_getElem? (i := 91) (by decide +kernel), List.mem_of_getElem? (i := 399) (by decide +kernel), List.mem_of_getElem? (i := 400) (by decide +kernel)⟩
theorem lw_p7 : lw_okq (⟨"TankPlant$Plant", "repeatLast", "(I)I"⟩, 5) := ⟨⟨by decide +kernel, by decide +kernel⟩, List.mem_of_getElem? (i := 24) (by decide +kernel), List.mem_of_getElem? (i := 408) (by decide +kernel), List.mem_of_getElem? (i := 409) (by decide +kernel)⟩
theorem lw_p8 : lw_okq (⟨"TankPlant$Pumps", "steadyTicksOf", "(ILTankPlant$Tanks;I)I"⟩, 13) := ⟨⟨by decide +kernel, by decide +kernel⟩, List.mem_of_getElem? (i := 91) (by decide +kernel), List.mem_of_getElem? (i := 430) (by decide +kernel), List.mem_of_getElem? (i := 431) (by decide +kernel)⟩
theorem lw_p9 : lw_okq (⟨"TankPlant", "needPump", "(I)V"⟩, 4) := ⟨⟨by decide +kernel, by decide +kernel⟩, List.mem_of_getElem? (i := 16) (by decide +kernel), List.mem_of_getElem? (i := 471) (by decide +kernel), List.mem_of_getElem? (i := 472) (by decide +kernel)⟩
def lw_privs_1 : List (MethodName × Nat) := [(⟨"java/lang/Throwable", "fillInStackTrace", "(I)Ljava/lang/Throwable;"⟩, 6), (⟨"TankPlant", "needTank", "(I)V"⟩, 4), (⟨"TankPlant", "needTankOrOutside", "(I)V"⟩, 4), (⟨"TankPlant", "needSwitch", "(I)V"⟩, 4), (⟨"TankPlant$Plant", "tick", "()I"⟩, 5), (⟨"TankPlant$Pumps", "move", "(ILTankPlant$Tanks;)V"⟩, 13), (⟨"TankPlant$Pumps", "enter", "(II)V"⟩, 13), (⟨"TankPlant$Plant", "repeatLast", "(I)I"⟩, 5), (⟨"TankPlant$Pumps", "steadyTicksOf", "(ILTankPlant$Tanks;I)I"⟩, 13), (⟨"TankPlant", "needPump", "(I)V"⟩, 4)]
theorem lw_r1 : ∀ q ∈ lw_privs_1, lw_okq q := List.forall_mem_cons.mpr ⟨lw_p0, List.forall_mem_cons.mpr ⟨lw_p1, List.forall_mem_cons.mpr ⟨lw_p2, List.forall_mem_cons.mpr ⟨lw_p3, List.forall_mem_cons.mpr ⟨lw_p4, List.forall_mem_cons.mpr ⟨lw_p5, List.forall_mem_cons.mpr ⟨lw_p6, List.forall_mem_cons.mpr ⟨lw_p7, List.forall_mem_cons.mpr ⟨lw_p8, List.forall_mem_cons.mpr ⟨lw_p9, fun _ h => absurd h List.not_mem_nil⟩⟩⟩⟩⟩⟩⟩⟩⟩⟩
def lw_privs : List (MethodName × Nat) := lw_privs_1
def lw_tbl : List Cond := k2_sels lw_privs ++ tables_1
theorem lw_privs_ok : ∀ q ∈ lw_privs, lw_okq q := lw_r1

def RX0 : String := "TankPlant$ChangeLog"
def TX0 : u_T := fun k => match k with
  | 0 => ("TankPlant$ChangeLog", "count", "J", false)
  | 1 => ("TankPlant$ChangeLog", "times", "[J", true)
  | _ => ("TankPlant$ChangeLog", "numbers", "[I", true)
def tyX0 : Nat → FieldType := fun k => match k with
  | 0 => .long
  | 1 => .array .long
  | _ => .array .int
abbrev wsX00 : List Cond := u_ws RX0 TX0 3
theorem nmX0 : ∀ a, a < 3 → ∀ b, b < 3 → a ≠ b → (TX0 a).2.1 ≠ (TX0 b).2.1 := by decide +kernel
theorem tyX0_ok : ∀ k, k < 3 → parseFieldDescriptor (TX0 k).2.2.1 = some (tyX0 k) := by decide +kernel
abbrev cX0_init : ByteArray := prog_2_method_1_code
def yX0_init : MethodName := ⟨RX0, "<init>", "()V"⟩
abbrev cX0_note : ByteArray := prog_2_method_2_code
def yX0_note : MethodName := ⟨RX0, "note", "(JI)V"⟩
def RX1 : String := "TankPlant$Plant"
def TX1 : u_T := fun k => match k with
  | 0 => ("TankPlant$Plant", "tanks", "LTankPlant$Tanks;", true)
  | 1 => ("TankPlant$Plant", "switches", "LTankPlant$Switches;", true)
  | 2 => ("TankPlant$Plant", "pumps", "LTankPlant$Pumps;", true)
  | 3 => ("TankPlant$Plant", "log", "LTankPlant$ChangeLog;", true)
  | _ => ("TankPlant$Plant", "time", "J", false)
def tyX1 : Nat → FieldType := fun k => match k with
  | 0 => .object "TankPlant$Tanks"
  | 1 => .object "TankPlant$Switches"
  | 2 => .object "TankPlant$Pumps"
  | 3 => .object "TankPlant$ChangeLog"
  | _ => .long
abbrev wsX10 : List Cond := u_ws RX1 TX1 5
theorem nmX1 : ∀ a, a < 5 → ∀ b, b < 5 → a ≠ b → (TX1 a).2.1 ≠ (TX1 b).2.1 := by decide +kernel
theorem tyX1_ok : ∀ k, k < 5 → parseFieldDescriptor (TX1 k).2.2.1 = some (tyX1 k) := by decide +kernel
abbrev cX1_init : ByteArray := prog_3_method_1_code
def yX1_init : MethodName := ⟨RX1, "<init>", "()V"⟩
abbrev cX1_advance : ByteArray := prog_3_method_3_code
def yX1_advance : MethodName := ⟨RX1, "advance", "(I)I"⟩
abbrev cX1_tick : ByteArray := prog_3_method_6_code
def yX1_tick : MethodName := ⟨RX1, "tick", "()I"⟩
abbrev cX1_repeatLast : ByteArray := prog_3_method_7_code
def yX1_repeatLast : MethodName := ⟨RX1, "repeatLast", "(I)I"⟩
def RX2 : String := "TankPlant$Pumps"
def TX2 : u_T := fun k => match k with
  | 0 => ("TankPlant$Pumps", "count", "I", false)
  | 1 => ("TankPlant$Pumps", "from", "[I", true)
  | 2 => ("TankPlant$Pumps", "to", "[I", true)
  | 3 => ("TankPlant$Pumps", "rate", "[I", true)
  | 4 => ("TankPlant$Pumps", "lift", "[I", true)
  | 5 => ("TankPlant$Pumps", "control", "[I", true)
  | 6 => ("TankPlant$Pumps", "inverted", "[Z", true)
  | 7 => ("TankPlant$Pumps", "total", "[J", true)
  | 8 => ("TankPlant$Pumps", "energy", "[J", true)
  | 9 => ("TankPlant$Pumps", "shortTicks", "[J", true)
  | 10 => ("TankPlant$Pumps", "amount", "[I", true)
  | 11 => ("TankPlant$Pumps", "sourceLeft", "[I", true)
  | _ => ("TankPlant$Pumps", "roomLeft", "[I", true)
def tyX2 : Nat → FieldType := fun k => match k with
  | 0 => .int
  | 1 => .array .int
  | 2 => .array .int
  | 3 => .array .int
  | 4 => .array .int
  | 5 => .array .int
  | 6 => .array .boolean
  | 7 => .array .long
  | 8 => .array .long
  | 9 => .array .long
  | 10 => .array .int
  | 11 => .array .int
  | _ => .array .int
abbrev wsX20 : List Cond := u_ws RX2 TX2 13
theorem nmX2 : ∀ a, a < 13 → ∀ b, b < 13 → a ≠ b → (TX2 a).2.1 ≠ (TX2 b).2.1 := by decide +kernel
theorem tyX2_ok : ∀ k, k < 13 → parseFieldDescriptor (TX2 k).2.2.1 = some (tyX2 k) := by decide +kernel
abbrev cX2_init : ByteArray := prog_4_method_1_code
def yX2_init : MethodName := ⟨RX2, "<init>", "()V"⟩
abbrev cX2_append : ByteArray := prog_4_method_2_code
def yX2_append : MethodName := ⟨RX2, "append", "(IIIIIZ)I"⟩
abbrev cX2_isActive : ByteArray := prog_4_method_4_code
def yX2_isActive : MethodName := ⟨RX2, "isActive", "(ILTankPlant$Switches;)Z"⟩
abbrev cX2_moveAll : ByteArray := prog_4_method_5_code
def yX2_moveAll : MethodName := ⟨RX2, "moveAll", "(LTankPlant$Tanks;LTankPlant$Switches;)V"⟩
abbrev cX2_move : ByteArray := prog_4_method_6_code
def yX2_move : MethodName := ⟨RX2, "move", "(ILTankPlant$Tanks;)V"⟩
abbrev cX2_enter : ByteArray := prog_4_method_7_code
def yX2_enter : MethodName := ⟨RX2, "enter", "(II)V"⟩
abbrev cX2_steadyTicks : ByteArray := prog_4_method_8_code
def yX2_steadyTicks : MethodName := ⟨RX2, "steadyTicks", "(LTankPlant$Tanks;LTankPlant$Switches;I)I"⟩
abbrev cX2_steadyTicksOf : ByteArray := prog_4_method_9_code
def yX2_steadyTicksOf : MethodName := ⟨RX2, "steadyTicksOf", "(ILTankPlant$Tanks;I)I"⟩
abbrev cX2_repeat : ByteArray := prog_4_method_10_code
def yX2_repeat : MethodName := ⟨RX2, "repeat", "(LTankPlant$Switches;I)V"⟩
def RX3 : String := "TankPlant$Switches"
def TX3 : u_T := fun k => match k with
  | 0 => ("TankPlant$Switches", "count", "I", false)
  | 1 => ("TankPlant$Switches", "tank", "[I", true)
  | 2 => ("TankPlant$Switches", "low", "[I", true)
  | 3 => ("TankPlant$Switches", "high", "[I", true)
  | _ => ("TankPlant$Switches", "on", "[Z", true)
def tyX3 : Nat → FieldType := fun k => match k with
  | 0 => .int
  | 1 => .array .int
  | 2 => .array .int
  | 3 => .array .int
  | _ => .array .boolean
abbrev wsX30 : List Cond := u_ws RX3 TX3 5
theorem nmX3 : ∀ a, a < 5 → ∀ b, b < 5 → a ≠ b → (TX3 a).2.1 ≠ (TX3 b).2.1 := by decide +kernel
theorem tyX3_ok : ∀ k, k < 5 → parseFieldDescriptor (TX3 k).2.2.1 = some (tyX3 k) := by decide +kernel
abbrev cX3_init : ByteArray := prog_5_method_1_code
def yX3_init : MethodName := ⟨RX3, "<init>", "()V"⟩
abbrev cX3_append : ByteArray := prog_5_method_2_code
def yX3_append : MethodName := ⟨RX3, "append", "(III)I"⟩
abbrev cX3_follow : ByteArray := prog_5_method_4_code
def yX3_follow : MethodName := ⟨RX3, "follow", "(LTankPlant$Tanks;LTankPlant$ChangeLog;J)I"⟩
abbrev cX3_steadyTicks : ByteArray := prog_5_method_5_code
def yX3_steadyTicks : MethodName := ⟨RX3, "steadyTicks", "(LTankPlant$Tanks;I)I"⟩
def RX4 : String := "TankPlant$Tanks"
def TX4 : u_T := fun k => match k with
  | 0 => ("TankPlant$Tanks", "count", "I", false)
  | 1 => ("TankPlant$Tanks", "capacity", "[I", true)
  | 2 => ("TankPlant$Tanks", "level", "[I", true)
  | 3 => ("TankPlant$Tanks", "leak", "[I", true)
  | 4 => ("TankPlant$Tanks", "levelSum", "[J", true)
  | _ => ("TankPlant$Tanks", "before", "[I", true)
def tyX4 : Nat → FieldType := fun k => match k with
  | 0 => .int
  | 1 => .array .int
  | 2 => .array .int
  | 3 => .array .int
  | 4 => .array .long
  | _ => .array .int
abbrev wsX40 : List Cond := u_ws RX4 TX4 6
theorem nmX4 : ∀ a, a < 6 → ∀ b, b < 6 → a ≠ b → (TX4 a).2.1 ≠ (TX4 b).2.1 := by decide +kernel
theorem tyX4_ok : ∀ k, k < 6 → parseFieldDescriptor (TX4 k).2.2.1 = some (tyX4 k) := by decide +kernel
abbrev cX4_init : ByteArray := prog_6_method_1_code
def yX4_init : MethodName := ⟨RX4, "<init>", "()V"⟩
abbrev cX4_append : ByteArray := prog_6_method_2_code
def yX4_append : MethodName := ⟨RX4, "append", "(III)I"⟩
abbrev cX4_noteLevels : ByteArray := prog_6_method_4_code
def yX4_noteLevels : MethodName := ⟨RX4, "noteLevels", "()V"⟩
abbrev cX4_leakAndSum : ByteArray := prog_6_method_5_code
def yX4_leakAndSum : MethodName := ⟨RX4, "leakAndSum", "()V"⟩
abbrev cX4_drift : ByteArray := prog_6_method_6_code
def yX4_drift : MethodName := ⟨RX4, "drift", "(I)I"⟩
abbrev cX4_steadyTicks : ByteArray := prog_6_method_9_code
def yX4_steadyTicks : MethodName := ⟨RX4, "steadyTicks", "(I)I"⟩
abbrev cX4_repeat : ByteArray := prog_6_method_10_code
def yX4_repeat : MethodName := ⟨RX4, "repeat", "(I)V"⟩
def RX5 : String := "TankPlant"
def TX5 : u_T := fun k => match k with
  | 0 => ("TankPlant", "plant", "LTankPlant$Plant;", true)
  | 1 => ("TankPlant", "trial", "LTankPlant$Plant;", true)
  | 2 => ("TankPlant", "depots", "[LTankPlant$Plant;", true)
  | _ => ("TankPlant", "depotCount", "I", false)
def tyX5 : Nat → FieldType := fun k => match k with
  | 0 => .object "TankPlant$Plant"
  | 1 => .object "TankPlant$Plant"
  | 2 => .array (.object "TankPlant$Plant")
  | _ => .int
abbrev wsX50 : List Cond := u_ws RX5 TX5 4
theorem nmX5 : ∀ a, a < 4 → ∀ b, b < 4 → a ≠ b → (TX5 a).2.1 ≠ (TX5 b).2.1 := by decide +kernel
theorem tyX5_ok : ∀ k, k < 4 → parseFieldDescriptor (TX5 k).2.2.1 = some (tyX5 k) := by decide +kernel
abbrev cX5_init : ByteArray := prog_1_method_1_code
def yX5_init : MethodName := ⟨RX5, "<init>", "()V"⟩
abbrev cX5_addTank : ByteArray := prog_1_method_2_code
def yX5_addTank : MethodName := ⟨RX5, "addTank", "(III)I"⟩
abbrev cX5_addSwitch : ByteArray := prog_1_method_3_code
def yX5_addSwitch : MethodName := ⟨RX5, "addSwitch", "(III)I"⟩
abbrev cX5_addPump : ByteArray := prog_1_method_4_code
def yX5_addPump : MethodName := ⟨RX5, "addPump", "(IIIIIZ)I"⟩
abbrev cX5_run : ByteArray := prog_1_method_8_code
def yX5_run : MethodName := ⟨RX5, "run", "(I)I"⟩
abbrev cX5_time : ByteArray := prog_1_method_11_code
def yX5_time : MethodName := ⟨RX5, "time", "()J"⟩
abbrev cX5_level : ByteArray := prog_1_method_12_code
def yX5_level : MethodName := ⟨RX5, "level", "(I)I"⟩
abbrev cX5_levelSum : ByteArray := prog_1_method_13_code
def yX5_levelSum : MethodName := ⟨RX5, "levelSum", "(I)J"⟩
abbrev cX5_isOn : ByteArray := prog_1_method_15_code
def yX5_isOn : MethodName := ⟨RX5, "isOn", "(I)Z"⟩
abbrev cX5_total : ByteArray := prog_1_method_16_code
def yX5_total : MethodName := ⟨RX5, "total", "(I)J"⟩
abbrev cX5_energy : ByteArray := prog_1_method_17_code
def yX5_energy : MethodName := ⟨RX5, "energy", "(I)J"⟩
abbrev cX5_shortTicks : ByteArray := prog_1_method_18_code
def yX5_shortTicks : MethodName := ⟨RX5, "shortTicks", "(I)J"⟩
abbrev cX5_changeCount : ByteArray := prog_1_method_20_code
def yX5_changeCount : MethodName := ⟨RX5, "changeCount", "()J"⟩
abbrev cX5_needTank : ByteArray := prog_1_method_26_code
def yX5_needTank : MethodName := ⟨RX5, "needTank", "(I)V"⟩
abbrev cX5_needTankOrOutside : ByteArray := prog_1_method_27_code
def yX5_needTankOrOutside : MethodName := ⟨RX5, "needTankOrOutside", "(I)V"⟩
abbrev cX5_needSwitch : ByteArray := prog_1_method_28_code
def yX5_needSwitch : MethodName := ⟨RX5, "needSwitch", "(I)V"⟩
abbrev cX5_needPump : ByteArray := prog_1_method_29_code
def yX5_needPump : MethodName := ⟨RX5, "needPump", "(I)V"⟩
abbrev cX5_needAmount : ByteArray := prog_1_method_31_code
def yX5_needAmount : MethodName := ⟨RX5, "needAmount", "(II)V"⟩
abbrev cX5_needLeak : ByteArray := prog_1_method_32_code
def yX5_needLeak : MethodName := ⟨RX5, "needLeak", "(I)V"⟩
abbrev cX5_needRate : ByteArray := prog_1_method_33_code
def yX5_needRate : MethodName := ⟨RX5, "needRate", "(I)V"⟩
abbrev cX5_needTicks : ByteArray := prog_1_method_34_code
def yX5_needTicks : MethodName := ⟨RX5, "needTicks", "(II)V"⟩
abbrev cX5_isWithin : ByteArray := prog_1_method_35_code
def yX5_isWithin : MethodName := ⟨RX5, "isWithin", "(III)Z"⟩
abbrev cX5_ticksWhile : ByteArray := prog_1_method_37_code
def yX5_ticksWhile : MethodName := ⟨RX5, "ticksWhile", "(JJI)I"⟩
def RX6 : String := "TankPlantModel"
def TX6 : u_T := fun k => match k with
  | _ => ("", "", "", false)
def tyX6 : Nat → FieldType := fun k => match k with
  | _ => .int
abbrev wsX60 : List Cond := u_ws RX6 TX6 0
theorem nmX6 : ∀ a, a < 0 → ∀ b, b < 0 → a ≠ b → (TX6 a).2.1 ≠ (TX6 b).2.1 := by decide +kernel
theorem tyX6_ok : ∀ k, k < 0 → parseFieldDescriptor (TX6 k).2.2.1 = some (tyX6 k) := by decide +kernel
def RJ9 : String := "java/lang/Math"
def TJ9 : u_T := fun k => match k with
  | _ => ("", "", "", false)
def tyJ9 : Nat → FieldType := fun k => match k with
  | _ => .int
abbrev wsJ90 : List Cond := u_ws RJ9 TJ9 0
theorem nmJ9 : ∀ a, a < 0 → ∀ b, b < 0 → a ≠ b → (TJ9 a).2.1 ≠ (TJ9 b).2.1 := by decide +kernel
theorem tyJ9_ok : ∀ k, k < 0 → parseFieldDescriptor (TJ9 k).2.2.1 = some (tyJ9 k) := by decide +kernel
abbrev cJ9_max_7cf53 : ByteArray := prog_13_method_65_code
def yJ9_max_7cf53 : MethodName := ⟨RJ9, "max", "(II)I"⟩
abbrev cJ9_min_7cf53 : ByteArray := prog_13_method_69_code
def yJ9_min_7cf53 : MethodName := ⟨RJ9, "min", "(II)I"⟩
abbrev cJ9_min_f86c9 : ByteArray := prog_13_method_70_code
def yJ9_min_f86c9 : MethodName := ⟨RJ9, "min", "(JJ)J"⟩
def RJ0 : String := "java/lang/String"
def TJ0 : u_T := fun k => match k with
  | _ => ("", "", "", false)
def tyJ0 : Nat → FieldType := fun k => match k with
  | _ => .int
abbrev wsJ00 : List Cond := u_ws RJ0 TJ0 0
theorem nmJ0 : ∀ a, a < 0 → ∀ b, b < 0 → a ≠ b → (TJ0 a).2.1 ≠ (TJ0 b).2.1 := by decide +kernel
theorem tyJ0_ok : ∀ k, k < 0 → parseFieldDescriptor (TJ0 k).2.2.1 = some (tyJ0 k) := by decide +kernel
def RJ10 : String := "java/lang/System"
def TJ10 : u_T := fun k => match k with
  | _ => ("", "", "", false)
def tyJ10 : Nat → FieldType := fun k => match k with
  | _ => .int
abbrev wsJ100 : List Cond := u_ws RJ10 TJ10 0
theorem nmJ10 : ∀ a, a < 0 → ∀ b, b < 0 → a ≠ b → (TJ10 a).2.1 ≠ (TJ10 b).2.1 := by decide +kernel
theorem tyJ10_ok : ∀ k, k < 0 → parseFieldDescriptor (TJ10 k).2.2.1 = some (tyJ10 k) := by decide +kernel
def RL : String := "TankPlantLaw"
abbrev cL_below : ByteArray := method_2_code
def yL_below : MethodName := ⟨RL, "below", "(II)I"⟩
abbrev cL_cell : ByteArray := method_3_code
def yL_cell : MethodName := ⟨RL, "cell", "([II)I"⟩
abbrev cL_law : ByteArray := code
def yL_law : MethodName := ⟨RL, "law", "([I)Z"⟩
abbrev vwCl : List vw_C := [(RX0, TX0, 3), (RX1, TX1, 5), (RX2, TX2, 13), (RX3, TX3, 5), (RX4, TX4, 6), (RX5, TX5, 4)]
end
section
theorem dX0_init_0 : decode cX0_init 0 = .ok (.aload_n 0, 1) := by decide +kernel
theorem dX0_init_1 : decode cX0_init 1 = .ok (.invokespecial 3, 3) := by decide +kernel
theorem dX0_init_4 : decode cX0_init 4 = .ok (.aload_n 0, 1) := by decide +kernel
theorem dX0_init_5 : decode cX0_init 5 = .ok (.bipush 30, 2) := by decide +kernel
theorem dX0_init_7 : decode cX0_init 7 = .ok (.newarray .long, 2) := by decide +kernel
theorem dX0_init_9 : decode cX0_init 9 = .ok (.putfield 9, 3) := by decide +kernel
theorem dX0_init_12 : decode cX0_init 12 = .ok (.aload_n 0, 1) := by decide +kernel
theorem dX0_init_13 : decode cX0_init 13 = .ok (.bipush 30, 2) := by decide +kernel
theorem dX0_init_15 : decode cX0_init 15 = .ok (.newarray .int, 2) := by decide +kernel
theorem dX0_init_17 : decode cX0_init 17 = .ok (.putfield 15, 3) := by decide +kernel
theorem dX0_init_20 : decode cX0_init 20 = .ok (.return_, 1) := by decide +kernel
theorem dX0_note_0 : decode cX0_note 0 = .ok (.aload_n 0, 1) := by decide +kernel
theorem dX0_note_1 : decode cX0_note 1 = .ok (.getfield 19, 3) := by decide +kernel
theorem dX0_note_4 : decode cX0_note 4 = .ok (.ldc2_w 23, 3) := by decide +kernel
theorem dX0_note_7 : decode cX0_note 7 = .ok (.lrem, 1) := by decide +kernel
theorem dX0_note_8 : decode cX0_note 8 = .ok (.l2i, 1) := by decide +kernel
theorem dX0_note_9 : decode cX0_note 9 = .ok (.istore 4, 2) := by decide +kernel
theorem dX0_note_11 : decode cX0_note 11 = .ok (.aload_n 0, 1) := by decide +kernel
theorem dX0_note_12 : decode cX0_note 12 = .ok (.getfield 9, 3) := by decide +kernel
theorem dX0_note_15 : decode cX0_note 15 = .ok (.iload 4, 2) := by decide +kernel
theorem dX0_note_17 : decode cX0_note 17 = .ok (.lload_n 1, 1) := by decide +kernel
theorem dX0_note_18 : decode cX0_note 18 = .ok (.lastore, 1) := by decide +kernel
theorem dX0_note_19 : decode cX0_note 19 = .ok (.aload_n 0, 1) := by decide +kernel
theorem dX0_note_20 : decode cX0_note 20 = .ok (.getfield 15, 3) := by decide +kernel
theorem dX0_note_23 : decode cX0_note 23 = .ok (.iload 4, 2) := by decide +kernel
theorem dX0_note_25 : decode cX0_note 25 = .ok (.iload_n 3, 1) := by decide +kernel
theorem dX0_note_26 : decode cX0_note 26 = .ok (.iastore, 1) := by decide +kernel
theorem dX0_note_27 : decode cX0_note 27 = .ok (.aload_n 0, 1) := by decide +kernel
theorem dX0_note_28 : decode cX0_note 28 = .ok (.dup, 1) := by decide +kernel
theorem dX0_note_29 : decode cX0_note 29 = .ok (.getfield 19, 3) := by decide +kernel
theorem dX0_note_32 : decode cX0_note 32 = .ok (.lconst 1, 1) := by decide +kernel
theorem dX0_note_33 : decode cX0_note 33 = .ok (.ladd, 1) := by decide +kernel
theorem dX0_note_34 : decode cX0_note 34 = .ok (.putfield 19, 3) := by decide +kernel
theorem dX0_note_37 : decode cX0_note 37 = .ok (.return_, 1) := by decide +kernel
theorem dX1_init_0 : decode cX1_init 0 = .ok (.aload_n 0, 1) := by decide +kernel
theorem dX1_init_1 : decode cX1_init 1 = .ok (.invokespecial 1, 3) := by decide +kernel
theorem dX1_init_4 : decode cX1_init 4 = .ok (.aload_n 0, 1) := by decide +kernel
theorem dX1_init_5 : decode cX1_init 5 = .ok (.new 7, 3) := by decide +kernel
theorem dX1_init_8 : decode cX1_init 8 = .ok (.dup, 1) := by decide +kernel
theorem dX1_init_9 : decode cX1_init 9 = .ok (.invokespecial 9, 3) := by decide +kernel
theorem dX1_init_12 : decode cX1_init 12 = .ok (.putfield 10, 3) := by decide +kernel
theorem dX1_init_15 : decode cX1_init 15 = .ok (.aload_n 0, 1) := by decide +kernel
theorem dX1_init_16 : decode cX1_init 16 = .ok (.new 16, 3) := by decide +kernel
theorem dX1_init_19 : decode cX1_init 19 = .ok (.dup, 1) := by decide +kernel
theorem dX1_init_20 : decode cX1_init 20 = .ok (.invokespecial 18, 3) := by decide +kernel
theorem dX1_init_23 : decode cX1_init 23 = .ok (.putfield 19, 3) := by decide +kernel
theorem dX1_init_26 : decode cX1_init 26 = .ok (.aload_n 0, 1) := by decide +kernel
theorem dX1_init_27 : decode cX1_init 27 = .ok (.new 23, 3) := by decide +kernel
theorem dX1_init_30 : decode cX1_init 30 = .ok (.dup, 1) := by decide +kernel
theorem dX1_init_31 : decode cX1_init 31 = .ok (.invokespecial 25, 3) := by decide +kernel
theorem dX1_init_34 : decode cX1_init 34 = .ok (.putfield 26, 3) := by decide +kernel
theorem dX1_init_37 : decode cX1_init 37 = .ok (.aload_n 0, 1) := by decide +kernel
theorem dX1_init_38 : decode cX1_init 38 = .ok (.new 30, 3) := by decide +kernel
theorem dX1_init_41 : decode cX1_init 41 = .ok (.dup, 1) := by decide +kernel
theorem dX1_init_42 : decode cX1_init 42 = .ok (.invokespecial 32, 3) := by decide +kernel
theorem dX1_init_45 : decode cX1_init 45 = .ok (.putfield 33, 3) := by decide +kernel
theorem dX1_init_48 : decode cX1_init 48 = .ok (.return_, 1) := by decide +kernel
theorem dX1_advance_0 : decode cX1_advance 0 = .ok (.iconst 0, 1) := by decide +kernel
theorem dX1_advance_1 : decode cX1_advance 1 = .ok (.istore_n 2, 1) := by decide +kernel
theorem dX1_advance_2 : decode cX1_advance 2 = .ok (.iconst 0, 1) := by decide +kernel
theorem dX1_advance_3 : decode cX1_advance 3 = .ok (.istore_n 3, 1) := by decide +kernel
theorem dX1_advance_4 : decode cX1_advance 4 = .ok (.iload_n 3, 1) := by decide +kernel
theorem dX1_advance_5 : decode cX1_advance 5 = .ok (.iload_n 1, 1) := by decide +kernel
theorem dX1_advance_6 : decode cX1_advance 6 = .ok (.if_icmp .ge 28, 3) := by decide +kernel
theorem dX1_advance_9 : decode cX1_advance 9 = .ok (.iload_n 2, 1) := by decide +kernel
theorem dX1_advance_10 : decode cX1_advance 10 = .ok (.aload_n 0, 1) := by decide +kernel
theorem dX1_advance_11 : decode cX1_advance 11 = .ok (.invokevirtual 54, 3) := by decide +kernel
theorem dX1_advance_14 : decode cX1_advance 14 = .ok (.iadd, 1) := by decide +kernel
theorem dX1_advance_15 : decode cX1_advance 15 = .ok (.istore_n 2, 1) := by decide +kernel
theorem dX1_advance_16 : decode cX1_advance 16 = .ok (.iload_n 3, 1) := by decide +kernel
theorem dX1_advance_17 : decode cX1_advance 17 = .ok (.aload_n 0, 1) := by decide +kernel
theorem dX1_advance_18 : decode cX1_advance 18 = .ok (.iload_n 1, 1) := by decide +kernel
theorem dX1_advance_19 : decode cX1_advance 19 = .ok (.iload_n 3, 1) := by decide +kernel
theorem dX1_advance_20 : decode cX1_advance 20 = .ok (.isub, 1) := by decide +kernel
theorem dX1_advance_21 : decode cX1_advance 21 = .ok (.iconst 1, 1) := by decide +kernel
theorem dX1_advance_22 : decode cX1_advance 22 = .ok (.isub, 1) := by decide +kernel
theorem dX1_advance_23 : decode cX1_advance 23 = .ok (.invokevirtual 58, 3) := by decide +kernel
theorem dX1_advance_26 : decode cX1_advance 26 = .ok (.iadd, 1) := by decide +kernel
theorem dX1_advance_27 : decode cX1_advance 27 = .ok (.istore_n 3, 1) := by decide +kernel
theorem dX1_advance_28 : decode cX1_advance 28 = .ok (.iinc 3 1, 3) := by decide +kernel
theorem dX1_advance_31 : decode cX1_advance 31 = .ok (.goto (-27), 3) := by decide +kernel
theorem dX1_advance_34 : decode cX1_advance 34 = .ok (.iload_n 2, 1) := by decide +kernel
theorem dX1_advance_35 : decode cX1_advance 35 = .ok (.ireturn, 1) := by decide +kernel
theorem dX1_tick_0 : decode cX1_tick 0 = .ok (.aload_n 0, 1) := by decide +kernel
theorem dX1_tick_1 : decode cX1_tick 1 = .ok (.getfield 10, 3) := by decide +kernel
theorem dX1_tick_4 : decode cX1_tick 4 = .ok (.invokevirtual 70, 3) := by decide +kernel
theorem dX1_tick_7 : decode cX1_tick 7 = .ok (.aload_n 0, 1) := by decide +kernel
theorem dX1_tick_8 : decode cX1_tick 8 = .ok (.getfield 19, 3) := by decide +kernel
theorem dX1_tick_11 : decode cX1_tick 11 = .ok (.aload_n 0, 1) := by decide +kernel
theorem dX1_tick_12 : decode cX1_tick 12 = .ok (.getfield 10, 3) := by decide +kernel
theorem dX1_tick_15 : decode cX1_tick 15 = .ok (.aload_n 0, 1) := by decide +kernel
theorem dX1_tick_16 : decode cX1_tick 16 = .ok (.getfield 33, 3) := by decide +kernel
theorem dX1_tick_19 : decode cX1_tick 19 = .ok (.aload_n 0, 1) := by decide +kernel
theorem dX1_tick_20 : decode cX1_tick 20 = .ok (.getfield 50, 3) := by decide +kernel
theorem dX1_tick_23 : decode cX1_tick 23 = .ok (.invokevirtual 73, 3) := by decide +kernel
theorem dX1_tick_26 : decode cX1_tick 26 = .ok (.istore_n 1, 1) := by decide +kernel
theorem dX1_tick_27 : decode cX1_tick 27 = .ok (.aload_n 0, 1) := by decide +kernel
theorem dX1_tick_28 : decode cX1_tick 28 = .ok (.getfield 26, 3) := by decide +kernel
theorem dX1_tick_31 : decode cX1_tick 31 = .ok (.aload_n 0, 1) := by decide +kernel
theorem dX1_tick_32 : decode cX1_tick 32 = .ok (.getfield 10, 3) := by decide +kernel
theorem dX1_tick_35 : decode cX1_tick 35 = .ok (.aload_n 0, 1) := by decide +kernel
theorem dX1_tick_36 : decode cX1_tick 36 = .ok (.getfield 19, 3) := by decide +kernel
theorem dX1_tick_39 : decode cX1_tick 39 = .ok (.invokevirtual 77, 3) := by decide +kernel
theorem dX1_tick_42 : decode cX1_tick 42 = .ok (.aload_n 0, 1) := by decide +kernel
theorem dX1_tick_43 : decode cX1_tick 43 = .ok (.getfield 10, 3) := by decide +kernel
theorem dX1_tick_46 : decode cX1_tick 46 = .ok (.invokevirtual 81, 3) := by decide +kernel
theorem dX1_tick_49 : decode cX1_tick 49 = .ok (.aload_n 0, 1) := by decide +kernel
theorem dX1_tick_50 : decode cX1_tick 50 = .ok (.dup, 1) := by decide +kernel
theorem dX1_tick_51 : decode cX1_tick 51 = .ok (.getfield 50, 3) := by decide +kernel
theorem dX1_tick_54 : decode cX1_tick 54 = .ok (.lconst 1, 1) := by decide +kernel
theorem dX1_tick_55 : decode cX1_tick 55 = .ok (.ladd, 1) := by decide +kernel
theorem dX1_tick_56 : decode cX1_tick 56 = .ok (.putfield 50, 3) := by decide +kernel
theorem dX1_tick_59 : decode cX1_tick 59 = .ok (.iload_n 1, 1) := by decide +kernel
theorem dX1_tick_60 : decode cX1_tick 60 = .ok (.ireturn, 1) := by decide +kernel
theorem dX1_repeatLast_0 : decode cX1_repeatLast 0 = .ok (.aload_n 0, 1) := by decide +kernel
theorem dX1_repeatLast_1 : decode cX1_repeatLast 1 = .ok (.getfield 19, 3) := by decide +kernel
theorem dX1_repeatLast_4 : decode cX1_repeatLast 4 = .ok (.aload_n 0, 1) := by decide +kernel
theorem dX1_repeatLast_5 : decode cX1_repeatLast 5 = .ok (.getfield 10, 3) := by decide +kernel
theorem dX1_repeatLast_8 : decode cX1_repeatLast 8 = .ok (.iload_n 1, 1) := by decide +kernel
theorem dX1_repeatLast_9 : decode cX1_repeatLast 9 = .ok (.invokevirtual 84, 3) := by decide +kernel
theorem dX1_repeatLast_12 : decode cX1_repeatLast 12 = .ok (.istore_n 2, 1) := by decide +kernel
theorem dX1_repeatLast_13 : decode cX1_repeatLast 13 = .ok (.aload_n 0, 1) := by decide +kernel
theorem dX1_repeatLast_14 : decode cX1_repeatLast 14 = .ok (.getfield 26, 3) := by decide +kernel
theorem dX1_repeatLast_17 : decode cX1_repeatLast 17 = .ok (.aload_n 0, 1) := by decide +kernel
theorem dX1_repeatLast_18 : decode cX1_repeatLast 18 = .ok (.getfield 10, 3) := by decide +kernel
theorem dX1_repeatLast_21 : decode cX1_repeatLast 21 = .ok (.aload_n 0, 1) := by decide +kernel
theorem dX1_repeatLast_22 : decode cX1_repeatLast 22 = .ok (.getfield 19, 3) := by decide +kernel
theorem dX1_repeatLast_25 : decode cX1_repeatLast 25 = .ok (.iload_n 2, 1) := by decide +kernel
theorem dX1_repeatLast_26 : decode cX1_repeatLast 26 = .ok (.invokevirtual 88, 3) := by decide +kernel
theorem dX1_repeatLast_29 : decode cX1_repeatLast 29 = .ok (.istore_n 2, 1) := by decide +kernel
theorem dX1_repeatLast_30 : decode cX1_repeatLast 30 = .ok (.aload_n 0, 1) := by decide +kernel
theorem dX1_repeatLast_31 : decode cX1_repeatLast 31 = .ok (.getfield 10, 3) := by decide +kernel
theorem dX1_repeatLast_34 : decode cX1_repeatLast 34 = .ok (.iload_n 2, 1) := by decide +kernel
theorem dX1_repeatLast_35 : decode cX1_repeatLast 35 = .ok (.invokevirtual 91, 3) := by decide +kernel
theorem dX1_repeatLast_38 : decode cX1_repeatLast 38 = .ok (.istore_n 2, 1) := by decide +kernel
theorem dX1_repeatLast_39 : decode cX1_repeatLast 39 = .ok (.iload_n 2, 1) := by decide +kernel
theorem dX1_repeatLast_40 : decode cX1_repeatLast 40 = .ok (.ifCond .gt 5, 3) := by decide +kernel
theorem dX1_repeatLast_43 : decode cX1_repeatLast 43 = .ok (.iconst 0, 1) := by decide +kernel
theorem dX1_repeatLast_44 : decode cX1_repeatLast 44 = .ok (.ireturn, 1) := by decide +kernel
theorem dX1_repeatLast_45 : decode cX1_repeatLast 45 = .ok (.aload_n 0, 1) := by decide +kernel
theorem dX1_repeatLast_46 : decode cX1_repeatLast 46 = .ok (.getfield 26, 3) := by decide +kernel
theorem dX1_repeatLast_49 : decode cX1_repeatLast 49 = .ok (.aload_n 0, 1) := by decide +kernel
theorem dX1_repeatLast_50 : decode cX1_repeatLast 50 = .ok (.getfield 19, 3) := by decide +kernel
theorem dX1_repeatLast_53 : decode cX1_repeatLast 53 = .ok (.iload_n 2, 1) := by decide +kernel
theorem dX1_repeatLast_54 : decode cX1_repeatLast 54 = .ok (.invokevirtual 93, 3) := by decide +kernel
theorem dX1_repeatLast_57 : decode cX1_repeatLast 57 = .ok (.aload_n 0, 1) := by decide +kernel
theorem dX1_repeatLast_58 : decode cX1_repeatLast 58 = .ok (.getfield 10, 3) := by decide +kernel
theorem dX1_repeatLast_61 : decode cX1_repeatLast 61 = .ok (.iload_n 2, 1) := by decide +kernel
theorem dX1_repeatLast_62 : decode cX1_repeatLast 62 = .ok (.invokevirtual 97, 3) := by decide +kernel
theorem dX1_repeatLast_65 : decode cX1_repeatLast 65 = .ok (.aload_n 0, 1) := by decide +kernel
theorem dX1_repeatLast_66 : decode cX1_repeatLast 66 = .ok (.dup, 1) := by decide +kernel
theorem dX1_repeatLast_67 : decode cX1_repeatLast 67 = .ok (.getfield 50, 3) := by decide +kernel
theorem dX1_repeatLast_70 : decode cX1_repeatLast 70 = .ok (.iload_n 2, 1) := by decide +kernel
theorem dX1_repeatLast_71 : decode cX1_repeatLast 71 = .ok (.i2l, 1) := by decide +kernel
theorem dX1_repeatLast_72 : decode cX1_repeatLast 72 = .ok (.ladd, 1) := by decide +kernel
theorem dX1_repeatLast_73 : decode cX1_repeatLast 73 = .ok (.putfield 50, 3) := by decide +kernel
theorem dX1_repeatLast_76 : decode cX1_repeatLast 76 = .ok (.iload_n 2, 1) := by decide +kernel
theorem dX1_repeatLast_77 : decode cX1_repeatLast 77 = .ok (.ireturn, 1) := by decide +kernel
theorem dX2_init_0 : decode cX2_init 0 = .ok (.aload_n 0, 1) := by decide +kernel
theorem dX2_init_1 : decode cX2_init 1 = .ok (.invokespecial 3, 3) := by decide +kernel
theorem dX2_init_4 : decode cX2_init 4 = .ok (.aload_n 0, 1) := by decide +kernel
theorem dX2_init_5 : decode cX2_init 5 = .ok (.bipush 16, 2) := by decide +kernel
theorem dX2_init_7 : decode cX2_init 7 = .ok (.newarray .int, 2) := by decide +kernel
theorem dX2_init_9 : decode cX2_init 9 = .ok (.putfield 9, 3) := by decide +kernel
theorem dX2_init_12 : decode cX2_init 12 = .ok (.aload_n 0, 1) := by decide +kernel
theorem dX2_init_13 : decode cX2_init 13 = .ok (.bipush 16, 2) := by decide +kernel
theorem dX2_init_15 : decode cX2_init 15 = .ok (.newarray .int, 2) := by decide +kernel
theorem dX2_init_17 : decode cX2_init 17 = .ok (.putfield 15, 3) := by decide +kernel
theorem dX2_init_20 : decode cX2_init 20 = .ok (.aload_n 0, 1) := by decide +kernel
theorem dX2_init_21 : decode cX2_init 21 = .ok (.bipush 16, 2) := by decide +kernel
theorem dX2_init_23 : decode cX2_init 23 = .ok (.newarray .int, 2) := by decide +kernel
theorem dX2_init_25 : decode cX2_init 25 = .ok (.putfield 18, 3) := by decide +kernel
theorem dX2_init_28 : decode cX2_init 28 = .ok (.aload_n 0, 1) := by decide +kernel
theorem dX2_init_29 : decode cX2_init 29 = .ok (.bipush 16, 2) := by decide +kernel
theorem dX2_init_31 : decode cX2_init 31 = .ok (.newarray .int, 2) := by decide +kernel
theorem dX2_init_33 : decode cX2_init 33 = .ok (.putfield 21, 3) := by decide +kernel
theorem dX2_init_36 : decode cX2_init 36 = .ok (.aload_n 0, 1) := by decide +kernel
theorem dX2_init_37 : decode cX2_init 37 = .ok (.bipush 16, 2) := by decide +kernel
theorem dX2_init_39 : decode cX2_init 39 = .ok (.newarray .int, 2) := by decide +kernel
theorem dX2_init_41 : decode cX2_init 41 = .ok (.putfield 24, 3) := by decide +kernel
theorem dX2_init_44 : decode cX2_init 44 = .ok (.aload_n 0, 1) := by decide +kernel
theorem dX2_init_45 : decode cX2_init 45 = .ok (.bipush 16, 2) := by decide +kernel
theorem dX2_init_47 : decode cX2_init 47 = .ok (.newarray .boolean, 2) := by decide +kernel
theorem dX2_init_49 : decode cX2_init 49 = .ok (.putfield 27, 3) := by decide +kernel
theorem dX2_init_52 : decode cX2_init 52 = .ok (.aload_n 0, 1) := by decide +kernel
theorem dX2_init_53 : decode cX2_init 53 = .ok (.bipush 16, 2) := by decide +kernel
theorem dX2_init_55 : decode cX2_init 55 = .ok (.newarray .long, 2) := by decide +kernel
theorem dX2_init_57 : decode cX2_init 57 = .ok (.putfield 31, 3) := by decide +kernel
theorem dX2_init_60 : decode cX2_init 60 = .ok (.aload_n 0, 1) := by decide +kernel
theorem dX2_init_61 : decode cX2_init 61 = .ok (.bipush 16, 2) := by decide +kernel
theorem dX2_init_63 : decode cX2_init 63 = .ok (.newarray .long, 2) := by decide +kernel
theorem dX2_init_65 : decode cX2_init 65 = .ok (.putfield 35, 3) := by decide +kernel
theorem dX2_init_68 : decode cX2_init 68 = .ok (.aload_n 0, 1) := by decide +kernel
theorem dX2_init_69 : decode cX2_init 69 = .ok (.bipush 16, 2) := by decide +kernel
theorem dX2_init_71 : decode cX2_init 71 = .ok (.newarray .long, 2) := by decide +kernel
theorem dX2_init_73 : decode cX2_init 73 = .ok (.putfield 38, 3) := by decide +kernel
theorem dX2_init_76 : decode cX2_init 76 = .ok (.aload_n 0, 1) := by decide +kernel
theorem dX2_init_77 : decode cX2_init 77 = .ok (.bipush 16, 2) := by decide +kernel
theorem dX2_init_79 : decode cX2_init 79 = .ok (.newarray .int, 2) := by decide +kernel
theorem dX2_init_81 : decode cX2_init 81 = .ok (.putfield 41, 3) := by decide +kernel
theorem dX2_init_84 : decode cX2_init 84 = .ok (.aload_n 0, 1) := by decide +kernel
theorem dX2_init_85 : decode cX2_init 85 = .ok (.bipush 16, 2) := by decide +kernel
theorem dX2_init_87 : decode cX2_init 87 = .ok (.newarray .int, 2) := by decide +kernel
theorem dX2_init_89 : decode cX2_init 89 = .ok (.putfield 44, 3) := by decide +kernel
theorem dX2_init_92 : decode cX2_init 92 = .ok (.aload_n 0, 1) := by decide +kernel
theorem dX2_init_93 : decode cX2_init 93 = .ok (.bipush 16, 2) := by decide +kernel
theorem dX2_init_95 : decode cX2_init 95 = .ok (.newarray .int, 2) := by decide +kernel
theorem dX2_init_97 : decode cX2_init 97 = .ok (.putfield 47, 3) := by decide +kernel
theorem dX2_init_100 : decode cX2_init 100 = .ok (.return_, 1) := by decide +kernel
theorem dX2_append_0 : decode cX2_append 0 = .ok (.aload_n 0, 1) := by decide +kernel
theorem dX2_append_1 : decode cX2_append 1 = .ok (.getfield 50, 3) := by decide +kernel
theorem dX2_append_4 : decode cX2_append 4 = .ok (.istore 7, 2) := by decide +kernel
theorem dX2_append_6 : decode cX2_append 6 = .ok (.aload_n 0, 1) := by decide +kernel
theorem dX2_append_7 : decode cX2_append 7 = .ok (.getfield 9, 3) := by decide +kernel
theorem dX2_append_10 : decode cX2_append 10 = .ok (.iload 7, 2) := by decide +kernel
theorem dX2_append_12 : decode cX2_append 12 = .ok (.iload_n 1, 1) := by decide +kernel
theorem dX2_append_13 : decode cX2_append 13 = .ok (.iastore, 1) := by decide +kernel
theorem dX2_append_14 : decode cX2_append 14 = .ok (.aload_n 0, 1) := by decide +kernel
theorem dX2_append_15 : decode cX2_append 15 = .ok (.getfield 15, 3) := by decide +kernel
theorem dX2_append_18 : decode cX2_append 18 = .ok (.iload 7, 2) := by decide +kernel
theorem dX2_append_20 : decode cX2_append 20 = .ok (.iload_n 2, 1) := by decide +kernel
theorem dX2_append_21 : decode cX2_append 21 = .ok (.iastore, 1) := by decide +kernel
theorem dX2_append_22 : decode cX2_append 22 = .ok (.aload_n 0, 1) := by decide +kernel
theorem dX2_append_23 : decode cX2_append 23 = .ok (.getfield 18, 3) := by decide +kernel
theorem dX2_append_26 : decode cX2_append 26 = .ok (.iload 7, 2) := by decide +kernel
theorem dX2_append_28 : decode cX2_append 28 = .ok (.iload_n 3, 1) := by decide +kernel
theorem dX2_append_29 : decode cX2_append 29 = .ok (.iastore, 1) := by decide +kernel
theorem dX2_append_30 : decode cX2_append 30 = .ok (.aload_n 0, 1) := by decide +kernel
theorem dX2_append_31 : decode cX2_append 31 = .ok (.getfield 21, 3) := by decide +kernel
theorem dX2_append_34 : decode cX2_append 34 = .ok (.iload 7, 2) := by decide +kernel
theorem dX2_append_36 : decode cX2_append 36 = .ok (.iload 4, 2) := by decide +kernel
theorem dX2_append_38 : decode cX2_append 38 = .ok (.iastore, 1) := by decide +kernel
theorem dX2_append_39 : decode cX2_append 39 = .ok (.aload_n 0, 1) := by decide +kernel
theorem dX2_append_40 : decode cX2_append 40 = .ok (.getfield 24, 3) := by decide +kernel
theorem dX2_append_43 : decode cX2_append 43 = .ok (.iload 7, 2) := by decide +kernel
theorem dX2_append_45 : decode cX2_append 45 = .ok (.iload 5, 2) := by decide +kernel
theorem dX2_append_47 : decode cX2_append 47 = .ok (.iastore, 1) := by decide +kernel
theorem dX2_append_48 : decode cX2_append 48 = .ok (.aload_n 0, 1) := by decide +kernel
theorem dX2_append_49 : decode cX2_append 49 = .ok (.getfield 27, 3) := by decide +kernel
theorem dX2_append_52 : decode cX2_append 52 = .ok (.iload 7, 2) := by decide +kernel
theorem dX2_append_54 : decode cX2_append 54 = .ok (.iload 6, 2) := by decide +kernel
theorem dX2_append_56 : decode cX2_append 56 = .ok (.bastore, 1) := by decide +kernel
theorem dX2_append_57 : decode cX2_append 57 = .ok (.aload_n 0, 1) := by decide +kernel
theorem dX2_append_58 : decode cX2_append 58 = .ok (.getfield 31, 3) := by decide +kernel
theorem dX2_append_61 : decode cX2_append 61 = .ok (.iload 7, 2) := by decide +kernel
theorem dX2_append_63 : decode cX2_append 63 = .ok (.lconst 0, 1) := by decide +kernel
theorem dX2_append_64 : decode cX2_append 64 = .ok (.lastore, 1) := by decide +kernel
theorem dX2_append_65 : decode cX2_append 65 = .ok (.aload_n 0, 1) := by decide +kernel
theorem dX2_append_66 : decode cX2_append 66 = .ok (.getfield 35, 3) := by decide +kernel
theorem dX2_append_69 : decode cX2_append 69 = .ok (.iload 7, 2) := by decide +kernel
theorem dX2_append_71 : decode cX2_append 71 = .ok (.lconst 0, 1) := by decide +kernel
theorem dX2_append_72 : decode cX2_append 72 = .ok (.lastore, 1) := by decide +kernel
theorem dX2_append_73 : decode cX2_append 73 = .ok (.aload_n 0, 1) := by decide +kernel
theorem dX2_append_74 : decode cX2_append 74 = .ok (.getfield 38, 3) := by decide +kernel
theorem dX2_append_77 : decode cX2_append 77 = .ok (.iload 7, 2) := by decide +kernel
theorem dX2_append_79 : decode cX2_append 79 = .ok (.lconst 0, 1) := by decide +kernel
theorem dX2_append_80 : decode cX2_append 80 = .ok (.lastore, 1) := by decide +kernel
theorem dX2_append_81 : decode cX2_append 81 = .ok (.aload_n 0, 1) := by decide +kernel
theorem dX2_append_82 : decode cX2_append 82 = .ok (.dup, 1) := by decide +kernel
theorem dX2_append_83 : decode cX2_append 83 = .ok (.getfield 50, 3) := by decide +kernel
theorem dX2_append_86 : decode cX2_append 86 = .ok (.iconst 1, 1) := by decide +kernel
theorem dX2_append_87 : decode cX2_append 87 = .ok (.iadd, 1) := by decide +kernel
theorem dX2_append_88 : decode cX2_append 88 = .ok (.putfield 50, 3) := by decide +kernel
theorem dX2_append_91 : decode cX2_append 91 = .ok (.iload 7, 2) := by decide +kernel
theorem dX2_append_93 : decode cX2_append 93 = .ok (.ireturn, 1) := by decide +kernel
theorem dX2_isActive_0 : decode cX2_isActive 0 = .ok (.aload_n 0, 1) := by decide +kernel
theorem dX2_isActive_1 : decode cX2_isActive 1 = .ok (.getfield 24, 3) := by decide +kernel
theorem dX2_isActive_4 : decode cX2_isActive 4 = .ok (.iload_n 1, 1) := by decide +kernel
theorem dX2_isActive_5 : decode cX2_isActive 5 = .ok (.iaload, 1) := by decide +kernel
theorem dX2_isActive_6 : decode cX2_isActive 6 = .ok (.istore_n 3, 1) := by decide +kernel
theorem dX2_isActive_7 : decode cX2_isActive 7 = .ok (.iload_n 3, 1) := by decide +kernel
theorem dX2_isActive_8 : decode cX2_isActive 8 = .ok (.iconst (-1), 1) := by decide +kernel
theorem dX2_isActive_9 : decode cX2_isActive 9 = .ok (.if_icmp .eq 18, 3) := by decide +kernel
theorem dX2_isActive_12 : decode cX2_isActive 12 = .ok (.aload_n 2, 1) := by decide +kernel
theorem dX2_isActive_13 : decode cX2_isActive 13 = .ok (.getfield 60, 3) := by decide +kernel
theorem dX2_isActive_16 : decode cX2_isActive 16 = .ok (.iload_n 3, 1) := by decide +kernel
theorem dX2_isActive_17 : decode cX2_isActive 17 = .ok (.baload, 1) := by decide +kernel
theorem dX2_isActive_18 : decode cX2_isActive 18 = .ok (.aload_n 0, 1) := by decide +kernel
theorem dX2_isActive_19 : decode cX2_isActive 19 = .ok (.getfield 27, 3) := by decide +kernel
theorem dX2_isActive_22 : decode cX2_isActive 22 = .ok (.iload_n 1, 1) := by decide +kernel
theorem dX2_isActive_23 : decode cX2_isActive 23 = .ok (.baload, 1) := by decide +kernel
theorem dX2_isActive_24 : decode cX2_isActive 24 = .ok (.if_icmp .eq 7, 3) := by decide +kernel
theorem dX2_isActive_27 : decode cX2_isActive 27 = .ok (.iconst 1, 1) := by decide +kernel
theorem dX2_isActive_28 : decode cX2_isActive 28 = .ok (.goto 4, 3) := by decide +kernel
theorem dX2_isActive_31 : decode cX2_isActive 31 = .ok (.iconst 0, 1) := by decide +kernel
theorem dX2_isActive_32 : decode cX2_isActive 32 = .ok (.ireturn, 1) := by decide +kernel
theorem dX2_moveAll_0 : decode cX2_moveAll 0 = .ok (.iconst 0, 1) := by decide +kernel
theorem dX2_moveAll_1 : decode cX2_moveAll 1 = .ok (.istore_n 3, 1) := by decide +kernel
theorem dX2_moveAll_2 : decode cX2_moveAll 2 = .ok (.iload_n 3, 1) := by decide +kernel
theorem dX2_moveAll_3 : decode cX2_moveAll 3 = .ok (.aload_n 0, 1) := by decide +kernel
theorem dX2_moveAll_4 : decode cX2_moveAll 4 = .ok (.getfield 50, 3) := by decide +kernel
theorem dX2_moveAll_7 : decode cX2_moveAll 7 = .ok (.if_icmp .ge 30, 3) := by decide +kernel
theorem dX2_moveAll_10 : decode cX2_moveAll 10 = .ok (.aload_n 0, 1) := by decide +kernel
theorem dX2_moveAll_11 : decode cX2_moveAll 11 = .ok (.iload_n 3, 1) := by decide +kernel
theorem dX2_moveAll_12 : decode cX2_moveAll 12 = .ok (.aload_n 2, 1) := by decide +kernel
theorem dX2_moveAll_13 : decode cX2_moveAll 13 = .ok (.invokevirtual 65, 3) := by decide +kernel
theorem dX2_moveAll_16 : decode cX2_moveAll 16 = .ok (.ifCond .eq 15, 3) := by decide +kernel
theorem dX2_moveAll_19 : decode cX2_moveAll 19 = .ok (.aload_n 0, 1) := by decide +kernel
theorem dX2_moveAll_20 : decode cX2_moveAll 20 = .ok (.iload_n 3, 1) := by decide +kernel
theorem dX2_moveAll_21 : decode cX2_moveAll 21 = .ok (.aload_n 1, 1) := by decide +kernel
theorem dX2_moveAll_22 : decode cX2_moveAll 22 = .ok (.invokevirtual 69, 3) := by decide +kernel
theorem dX2_moveAll_25 : decode cX2_moveAll 25 = .ok (.aload_n 0, 1) := by decide +kernel
theorem dX2_moveAll_26 : decode cX2_moveAll 26 = .ok (.iload_n 3, 1) := by decide +kernel
theorem dX2_moveAll_27 : decode cX2_moveAll 27 = .ok (.iconst 1, 1) := by decide +kernel
theorem dX2_moveAll_28 : decode cX2_moveAll 28 = .ok (.invokevirtual 73, 3) := by decide +kernel
theorem dX2_moveAll_31 : decode cX2_moveAll 31 = .ok (.iinc 3 1, 3) := by decide +kernel
theorem dX2_moveAll_34 : decode cX2_moveAll 34 = .ok (.goto (-32), 3) := by decide +kernel
theorem dX2_moveAll_37 : decode cX2_moveAll 37 = .ok (.return_, 1) := by decide +kernel
theorem dX2_move_0 : decode cX2_move 0 = .ok (.aload_n 0, 1) := by decide +kernel
theorem dX2_move_1 : decode cX2_move 1 = .ok (.getfield 9, 3) := by decide +kernel
theorem dX2_move_4 : decode cX2_move 4 = .ok (.iload_n 1, 1) := by decide +kernel
theorem dX2_move_5 : decode cX2_move 5 = .ok (.iaload, 1) := by decide +kernel
theorem dX2_move_6 : decode cX2_move 6 = .ok (.istore_n 3, 1) := by decide +kernel
theorem dX2_move_7 : decode cX2_move 7 = .ok (.aload_n 0, 1) := by decide +kernel
theorem dX2_move_8 : decode cX2_move 8 = .ok (.getfield 15, 3) := by decide +kernel
theorem dX2_move_11 : decode cX2_move 11 = .ok (.iload_n 1, 1) := by decide +kernel
theorem dX2_move_12 : decode cX2_move 12 = .ok (.iaload, 1) := by decide +kernel
theorem dX2_move_13 : decode cX2_move 13 = .ok (.istore 4, 2) := by decide +kernel
theorem dX2_move_15 : decode cX2_move 15 = .ok (.aload_n 0, 1) := by decide +kernel
theorem dX2_move_16 : decode cX2_move 16 = .ok (.getfield 18, 3) := by decide +kernel
theorem dX2_move_19 : decode cX2_move 19 = .ok (.iload_n 1, 1) := by decide +kernel
theorem dX2_move_20 : decode cX2_move 20 = .ok (.iaload, 1) := by decide +kernel
theorem dX2_move_21 : decode cX2_move 21 = .ok (.istore 5, 2) := by decide +kernel
theorem dX2_move_23 : decode cX2_move 23 = .ok (.iload_n 3, 1) := by decide +kernel
theorem dX2_move_24 : decode cX2_move 24 = .ok (.iconst (-1), 1) := by decide +kernel
theorem dX2_move_25 : decode cX2_move 25 = .ok (.if_icmp .eq 16, 3) := by decide +kernel
theorem dX2_move_28 : decode cX2_move 28 = .ok (.iload 5, 2) := by decide +kernel
theorem dX2_move_30 : decode cX2_move 30 = .ok (.aload_n 2, 1) := by decide +kernel
theorem dX2_move_31 : decode cX2_move 31 = .ok (.getfield 77, 3) := by decide +kernel
theorem dX2_move_34 : decode cX2_move 34 = .ok (.iload_n 3, 1) := by decide +kernel
theorem dX2_move_35 : decode cX2_move 35 = .ok (.iaload, 1) := by decide +kernel
theorem dX2_move_36 : decode cX2_move 36 = .ok (.invokestatic 82, 3) := by decide +kernel
theorem dX2_move_39 : decode cX2_move 39 = .ok (.istore 5, 2) := by decide +kernel
theorem dX2_move_41 : decode cX2_move 41 = .ok (.iload 4, 2) := by decide +kernel
theorem dX2_move_43 : decode cX2_move 43 = .ok (.iconst (-1), 1) := by decide +kernel
theorem dX2_move_44 : decode cX2_move 44 = .ok (.if_icmp .eq 25, 3) := by decide +kernel
theorem dX2_move_47 : decode cX2_move 47 = .ok (.iload 5, 2) := by decide +kernel
theorem dX2_move_49 : decode cX2_move 49 = .ok (.aload_n 2, 1) := by decide +kernel
theorem dX2_move_50 : decode cX2_move 50 = .ok (.getfield 88, 3) := by decide +kernel
theorem dX2_move_53 : decode cX2_move 53 = .ok (.iload 4, 2) := by decide +kernel
theorem dX2_move_55 : decode cX2_move 55 = .ok (.iaload, 1) := by decide +kernel
theorem dX2_move_56 : decode cX2_move 56 = .ok (.aload_n 2, 1) := by decide +kernel
theorem dX2_move_57 : decode cX2_move 57 = .ok (.getfield 77, 3) := by decide +kernel
theorem dX2_move_60 : decode cX2_move 60 = .ok (.iload 4, 2) := by decide +kernel
theorem dX2_move_62 : decode cX2_move 62 = .ok (.iaload, 1) := by decide +kernel
theorem dX2_move_63 : decode cX2_move 63 = .ok (.isub, 1) := by decide +kernel
theorem dX2_move_64 : decode cX2_move 64 = .ok (.invokestatic 82, 3) := by decide +kernel
theorem dX2_move_67 : decode cX2_move 67 = .ok (.istore 5, 2) := by decide +kernel
theorem dX2_move_69 : decode cX2_move 69 = .ok (.iload_n 3, 1) := by decide +kernel
theorem dX2_move_70 : decode cX2_move 70 = .ok (.iconst (-1), 1) := by decide +kernel
theorem dX2_move_71 : decode cX2_move 71 = .ok (.if_icmp .eq 26, 3) := by decide +kernel
theorem dX2_move_74 : decode cX2_move 74 = .ok (.aload_n 2, 1) := by decide +kernel
theorem dX2_move_75 : decode cX2_move 75 = .ok (.getfield 77, 3) := by decide +kernel
theorem dX2_move_78 : decode cX2_move 78 = .ok (.iload_n 3, 1) := by decide +kernel
theorem dX2_move_79 : decode cX2_move 79 = .ok (.dup2, 1) := by decide +kernel
theorem dX2_move_80 : decode cX2_move 80 = .ok (.iaload, 1) := by decide +kernel
theorem dX2_move_81 : decode cX2_move 81 = .ok (.iload 5, 2) := by decide +kernel
theorem dX2_move_83 : decode cX2_move 83 = .ok (.isub, 1) := by decide +kernel
theorem dX2_move_84 : decode cX2_move 84 = .ok (.iastore, 1) := by decide +kernel
theorem dX2_move_85 : decode cX2_move 85 = .ok (.aload_n 0, 1) := by decide +kernel
theorem dX2_move_86 : decode cX2_move 86 = .ok (.getfield 44, 3) := by decide +kernel
theorem dX2_move_89 : decode cX2_move 89 = .ok (.iload_n 1, 1) := by decide +kernel
theorem dX2_move_90 : decode cX2_move 90 = .ok (.aload_n 2, 1) := by decide +kernel
theorem dX2_move_91 : decode cX2_move 91 = .ok (.getfield 77, 3) := by decide +kernel
theorem dX2_move_94 : decode cX2_move 94 = .ok (.iload_n 3, 1) := by decide +kernel
theorem dX2_move_95 : decode cX2_move 95 = .ok (.iaload, 1) := by decide +kernel
theorem dX2_move_96 : decode cX2_move 96 = .ok (.iastore, 1) := by decide +kernel
theorem dX2_move_97 : decode cX2_move 97 = .ok (.iload 4, 2) := by decide +kernel
theorem dX2_move_99 : decode cX2_move 99 = .ok (.iconst (-1), 1) := by decide +kernel
theorem dX2_move_100 : decode cX2_move 100 = .ok (.if_icmp .eq 36, 3) := by decide +kernel
theorem dX2_move_103 : decode cX2_move 103 = .ok (.aload_n 2, 1) := by decide +kernel
theorem dX2_move_104 : decode cX2_move 104 = .ok (.getfield 77, 3) := by decide +kernel
theorem dX2_move_107 : decode cX2_move 107 = .ok (.iload 4, 2) := by decide +kernel
theorem dX2_move_109 : decode cX2_move 109 = .ok (.dup2, 1) := by decide +kernel
theorem dX2_move_110 : decode cX2_move 110 = .ok (.iaload, 1) := by decide +kernel
theorem dX2_move_111 : decode cX2_move 111 = .ok (.iload 5, 2) := by decide +kernel
theorem dX2_move_113 : decode cX2_move 113 = .ok (.iadd, 1) := by decide +kernel
theorem dX2_move_114 : decode cX2_move 114 = .ok (.iastore, 1) := by decide +kernel
theorem dX2_move_115 : decode cX2_move 115 = .ok (.aload_n 0, 1) := by decide +kernel
theorem dX2_move_116 : decode cX2_move 116 = .ok (.getfield 47, 3) := by decide +kernel
theorem dX2_move_119 : decode cX2_move 119 = .ok (.iload_n 1, 1) := by decide +kernel
theorem dX2_move_120 : decode cX2_move 120 = .ok (.aload_n 2, 1) := by decide +kernel
theorem dX2_move_121 : decode cX2_move 121 = .ok (.getfield 88, 3) := by decide +kernel
theorem dX2_move_124 : decode cX2_move 124 = .ok (.iload 4, 2) := by decide +kernel
theorem dX2_move_126 : decode cX2_move 126 = .ok (.iaload, 1) := by decide +kernel
theorem dX2_move_127 : decode cX2_move 127 = .ok (.aload_n 2, 1) := by decide +kernel
theorem dX2_move_128 : decode cX2_move 128 = .ok (.getfield 77, 3) := by decide +kernel
theorem dX2_move_131 : decode cX2_move 131 = .ok (.iload 4, 2) := by decide +kernel
theorem dX2_move_133 : decode cX2_move 133 = .ok (.iaload, 1) := by decide +kernel
theorem dX2_move_134 : decode cX2_move 134 = .ok (.isub, 1) := by decide +kernel
theorem dX2_move_135 : decode cX2_move 135 = .ok (.iastore, 1) := by decide +kernel
theorem dX2_move_136 : decode cX2_move 136 = .ok (.aload_n 0, 1) := by decide +kernel
theorem dX2_move_137 : decode cX2_move 137 = .ok (.getfield 41, 3) := by decide +kernel
theorem dX2_move_140 : decode cX2_move 140 = .ok (.iload_n 1, 1) := by decide +kernel
theorem dX2_move_141 : decode cX2_move 141 = .ok (.iload 5, 2) := by decide +kernel
theorem dX2_move_143 : decode cX2_move 143 = .ok (.iastore, 1) := by decide +kernel
theorem dX2_move_144 : decode cX2_move 144 = .ok (.return_, 1) := by decide +kernel
theorem dX2_enter_0 : decode cX2_enter 0 = .ok (.aload_n 0, 1) := by decide +kernel
theorem dX2_enter_1 : decode cX2_enter 1 = .ok (.getfield 41, 3) := by decide +kernel
theorem dX2_enter_4 : decode cX2_enter 4 = .ok (.iload_n 1, 1) := by decide +kernel
theorem dX2_enter_5 : decode cX2_enter 5 = .ok (.iaload, 1) := by decide +kernel
theorem dX2_enter_6 : decode cX2_enter 6 = .ok (.i2l, 1) := by decide +kernel
theorem dX2_enter_7 : decode cX2_enter 7 = .ok (.iload_n 2, 1) := by decide +kernel
theorem dX2_enter_8 : decode cX2_enter 8 = .ok (.i2l, 1) := by decide +kernel
theorem dX2_enter_9 : decode cX2_enter 9 = .ok (.lmul, 1) := by decide +kernel
theorem dX2_enter_10 : decode cX2_enter 10 = .ok (.lstore_n 3, 1) := by decide +kernel
theorem dX2_enter_11 : decode cX2_enter 11 = .ok (.aload_n 0, 1) := by decide +kernel
theorem dX2_enter_12 : decode cX2_enter 12 = .ok (.getfield 31, 3) := by decide +kernel
theorem dX2_enter_15 : decode cX2_enter 15 = .ok (.iload_n 1, 1) := by decide +kernel
theorem dX2_enter_16 : decode cX2_enter 16 = .ok (.dup2, 1) := by decide +kernel
theorem dX2_enter_17 : decode cX2_enter 17 = .ok (.laload, 1) := by decide +kernel
theorem dX2_enter_18 : decode cX2_enter 18 = .ok (.lload_n 3, 1) := by decide +kernel
theorem dX2_enter_19 : decode cX2_enter 19 = .ok (.ladd, 1) := by decide +kernel
theorem dX2_enter_20 : decode cX2_enter 20 = .ok (.lastore, 1) := by decide +kernel
theorem dX2_enter_21 : decode cX2_enter 21 = .ok (.aload_n 0, 1) := by decide +kernel
theorem dX2_enter_22 : decode cX2_enter 22 = .ok (.getfield 35, 3) := by decide +kernel
theorem dX2_enter_25 : decode cX2_enter 25 = .ok (.iload_n 1, 1) := by decide +kernel
theorem dX2_enter_26 : decode cX2_enter 26 = .ok (.dup2, 1) := by decide +kernel
theorem dX2_enter_27 : decode cX2_enter 27 = .ok (.laload, 1) := by decide +kernel
theorem dX2_enter_28 : decode cX2_enter 28 = .ok (.lload_n 3, 1) := by decide +kernel
theorem dX2_enter_29 : decode cX2_enter 29 = .ok (.aload_n 0, 1) := by decide +kernel
theorem dX2_enter_30 : decode cX2_enter 30 = .ok (.getfield 21, 3) := by decide +kernel
theorem dX2_enter_33 : decode cX2_enter 33 = .ok (.iload_n 1, 1) := by decide +kernel
theorem dX2_enter_34 : decode cX2_enter 34 = .ok (.iaload, 1) := by decide +kernel
theorem dX2_enter_35 : decode cX2_enter 35 = .ok (.i2l, 1) := by decide +kernel
theorem dX2_enter_36 : decode cX2_enter 36 = .ok (.lmul, 1) := by decide +kernel
theorem dX2_enter_37 : decode cX2_enter 37 = .ok (.ladd, 1) := by decide +kernel
theorem dX2_enter_38 : decode cX2_enter 38 = .ok (.lastore, 1) := by decide +kernel
theorem dX2_enter_39 : decode cX2_enter 39 = .ok (.aload_n 0, 1) := by decide +kernel
theorem dX2_enter_40 : decode cX2_enter 40 = .ok (.getfield 41, 3) := by decide +kernel
theorem dX2_enter_43 : decode cX2_enter 43 = .ok (.iload_n 1, 1) := by decide +kernel
theorem dX2_enter_44 : decode cX2_enter 44 = .ok (.iaload, 1) := by decide +kernel
theorem dX2_enter_45 : decode cX2_enter 45 = .ok (.aload_n 0, 1) := by decide +kernel
theorem dX2_enter_46 : decode cX2_enter 46 = .ok (.getfield 18, 3) := by decide +kernel
theorem dX2_enter_49 : decode cX2_enter 49 = .ok (.iload_n 1, 1) := by decide +kernel
theorem dX2_enter_50 : decode cX2_enter 50 = .ok (.iaload, 1) := by decide +kernel
theorem dX2_enter_51 : decode cX2_enter 51 = .ok (.if_icmp .ge 14, 3) := by decide +kernel
theorem dX2_enter_54 : decode cX2_enter 54 = .ok (.aload_n 0, 1) := by decide +kernel
theorem dX2_enter_55 : decode cX2_enter 55 = .ok (.getfield 38, 3) := by decide +kernel
theorem dX2_enter_58 : decode cX2_enter 58 = .ok (.iload_n 1, 1) := by decide +kernel
theorem dX2_enter_59 : decode cX2_enter 59 = .ok (.dup2, 1) := by decide +kernel
theorem dX2_enter_60 : decode cX2_enter 60 = .ok (.laload, 1) := by decide +kernel
theorem dX2_enter_61 : decode cX2_enter 61 = .ok (.iload_n 2, 1) := by decide +kernel
theorem dX2_enter_62 : decode cX2_enter 62 = .ok (.i2l, 1) := by decide +kernel
theorem dX2_enter_63 : decode cX2_enter 63 = .ok (.ladd, 1) := by decide +kernel
theorem dX2_enter_64 : decode cX2_enter 64 = .ok (.lastore, 1) := by decide +kernel
theorem dX2_enter_65 : decode cX2_enter 65 = .ok (.return_, 1) := by decide +kernel
theorem dX2_steadyTicks_0 : decode cX2_steadyTicks 0 = .ok (.iload_n 3, 1) := by decide +kernel
theorem dX2_steadyTicks_1 : decode cX2_steadyTicks 1 = .ok (.istore 4, 2) := by decide +kernel
theorem dX2_steadyTicks_3 : decode cX2_steadyTicks 3 = .ok (.iconst 0, 1) := by decide +kernel
theorem dX2_steadyTicks_4 : decode cX2_steadyTicks 4 = .ok (.istore 5, 2) := by decide +kernel
theorem dX2_steadyTicks_6 : decode cX2_steadyTicks 6 = .ok (.iload 5, 2) := by decide +kernel
theorem dX2_steadyTicks_8 : decode cX2_steadyTicks 8 = .ok (.aload_n 0, 1) := by decide +kernel
theorem dX2_steadyTicks_9 : decode cX2_steadyTicks 9 = .ok (.getfield 50, 3) := by decide +kernel
theorem dX2_steadyTicks_12 : decode cX2_steadyTicks 12 = .ok (.if_icmp .ge 35, 3) := by decide +kernel
theorem dX2_steadyTicks_15 : decode cX2_steadyTicks 15 = .ok (.iload 4, 2) := by decide +kernel
theorem dX2_steadyTicks_17 : decode cX2_steadyTicks 17 = .ok (.ifCond .le 30, 3) := by decide +kernel
theorem dX2_steadyTicks_20 : decode cX2_steadyTicks 20 = .ok (.aload_n 0, 1) := by decide +kernel
theorem dX2_steadyTicks_21 : decode cX2_steadyTicks 21 = .ok (.iload 5, 2) := by decide +kernel
theorem dX2_steadyTicks_23 : decode cX2_steadyTicks 23 = .ok (.aload_n 2, 1) := by decide +kernel
theorem dX2_steadyTicks_24 : decode cX2_steadyTicks 24 = .ok (.invokevirtual 65, 3) := by decide +kernel
theorem dX2_steadyTicks_27 : decode cX2_steadyTicks 27 = .ok (.ifCond .eq 14, 3) := by decide +kernel
theorem dX2_steadyTicks_30 : decode cX2_steadyTicks 30 = .ok (.aload_n 0, 1) := by decide +kernel
theorem dX2_steadyTicks_31 : decode cX2_steadyTicks 31 = .ok (.iload 5, 2) := by decide +kernel
theorem dX2_steadyTicks_33 : decode cX2_steadyTicks 33 = .ok (.aload_n 1, 1) := by decide +kernel
theorem dX2_steadyTicks_34 : decode cX2_steadyTicks 34 = .ok (.iload 4, 2) := by decide +kernel
theorem dX2_steadyTicks_36 : decode cX2_steadyTicks 36 = .ok (.invokevirtual 91, 3) := by decide +kernel
theorem dX2_steadyTicks_39 : decode cX2_steadyTicks 39 = .ok (.istore 4, 2) := by decide +kernel
theorem dX2_steadyTicks_41 : decode cX2_steadyTicks 41 = .ok (.iinc 5 1, 3) := by decide +kernel
theorem dX2_steadyTicks_44 : decode cX2_steadyTicks 44 = .ok (.goto (-38), 3) := by decide +kernel
theorem dX2_steadyTicks_47 : decode cX2_steadyTicks 47 = .ok (.iload 4, 2) := by decide +kernel
theorem dX2_steadyTicks_49 : decode cX2_steadyTicks 49 = .ok (.ireturn, 1) := by decide +kernel
theorem dX2_steadyTicksOf_0 : decode cX2_steadyTicksOf 0 = .ok (.iload_n 3, 1) := by decide +kernel
theorem dX2_steadyTicksOf_1 : decode cX2_steadyTicksOf 1 = .ok (.istore 4, 2) := by decide +kernel
theorem dX2_steadyTicksOf_3 : decode cX2_steadyTicksOf 3 = .ok (.aload_n 0, 1) := by decide +kernel
theorem dX2_steadyTicksOf_4 : decode cX2_steadyTicksOf 4 = .ok (.getfield 41, 3) := by decide +kernel
theorem dX2_steadyTicksOf_7 : decode cX2_steadyTicksOf 7 = .ok (.iload_n 1, 1) := by decide +kernel
theorem dX2_steadyTicksOf_8 : decode cX2_steadyTicksOf 8 = .ok (.iaload, 1) := by decide +kernel
theorem dX2_steadyTicksOf_9 : decode cX2_steadyTicksOf 9 = .ok (.aload_n 0, 1) := by decide +kernel
theorem dX2_steadyTicksOf_10 : decode cX2_steadyTicksOf 10 = .ok (.getfield 18, 3) := by decide +kernel
theorem dX2_steadyTicksOf_13 : decode cX2_steadyTicksOf 13 = .ok (.iload_n 1, 1) := by decide +kernel
theorem dX2_steadyTicksOf_14 : decode cX2_steadyTicksOf 14 = .ok (.iaload, 1) := by decide +kernel
theorem dX2_steadyTicksOf_15 : decode cX2_steadyTicksOf 15 = .ok (.if_icmp .ne 7, 3) := by decide +kernel
theorem dX2_steadyTicksOf_18 : decode cX2_steadyTicksOf 18 = .ok (.iconst 1, 1) := by decide +kernel
theorem dX2_steadyTicksOf_19 : decode cX2_steadyTicksOf 19 = .ok (.goto 4, 3) := by decide +kernel
theorem dX2_steadyTicksOf_22 : decode cX2_steadyTicksOf 22 = .ok (.iconst 0, 1) := by decide +kernel
theorem dX2_steadyTicksOf_23 : decode cX2_steadyTicksOf 23 = .ok (.istore 5, 2) := by decide +kernel
theorem dX2_steadyTicksOf_25 : decode cX2_steadyTicksOf 25 = .ok (.aload_n 0, 1) := by decide +kernel
theorem dX2_steadyTicksOf_26 : decode cX2_steadyTicksOf 26 = .ok (.getfield 9, 3) := by decide +kernel
theorem dX2_steadyTicksOf_29 : decode cX2_steadyTicksOf 29 = .ok (.iload_n 1, 1) := by decide +kernel
theorem dX2_steadyTicksOf_30 : decode cX2_steadyTicksOf 30 = .ok (.iaload, 1) := by decide +kernel
theorem dX2_steadyTicksOf_31 : decode cX2_steadyTicksOf 31 = .ok (.iconst (-1), 1) := by decide +kernel
theorem dX2_steadyTicksOf_32 : decode cX2_steadyTicksOf 32 = .ok (.if_icmp .eq 58, 3) := by decide +kernel
theorem dX2_steadyTicksOf_35 : decode cX2_steadyTicksOf 35 = .ok (.aload_n 2, 1) := by decide +kernel
theorem dX2_steadyTicksOf_36 : decode cX2_steadyTicksOf 36 = .ok (.aload_n 0, 1) := by decide +kernel
theorem dX2_steadyTicksOf_37 : decode cX2_steadyTicksOf 37 = .ok (.getfield 9, 3) := by decide +kernel
theorem dX2_steadyTicksOf_40 : decode cX2_steadyTicksOf 40 = .ok (.iload_n 1, 1) := by decide +kernel
theorem dX2_steadyTicksOf_41 : decode cX2_steadyTicksOf 41 = .ok (.iaload, 1) := by decide +kernel
theorem dX2_steadyTicksOf_42 : decode cX2_steadyTicksOf 42 = .ok (.invokevirtual 95, 3) := by decide +kernel
theorem dX2_steadyTicksOf_45 : decode cX2_steadyTicksOf 45 = .ok (.istore 6, 2) := by decide +kernel
theorem dX2_steadyTicksOf_47 : decode cX2_steadyTicksOf 47 = .ok (.aload_n 0, 1) := by decide +kernel
theorem dX2_steadyTicksOf_48 : decode cX2_steadyTicksOf 48 = .ok (.getfield 44, 3) := by decide +kernel
theorem dX2_steadyTicksOf_51 : decode cX2_steadyTicksOf 51 = .ok (.iload_n 1, 1) := by decide +kernel
theorem dX2_steadyTicksOf_52 : decode cX2_steadyTicksOf 52 = .ok (.iaload, 1) := by decide +kernel
theorem dX2_steadyTicksOf_53 : decode cX2_steadyTicksOf 53 = .ok (.i2l, 1) := by decide +kernel
theorem dX2_steadyTicksOf_54 : decode cX2_steadyTicksOf 54 = .ok (.iload 6, 2) := by decide +kernel
theorem dX2_steadyTicksOf_56 : decode cX2_steadyTicksOf 56 = .ok (.i2l, 1) := by decide +kernel
theorem dX2_steadyTicksOf_57 : decode cX2_steadyTicksOf 57 = .ok (.iload 4, 2) := by decide +kernel
theorem dX2_steadyTicksOf_59 : decode cX2_steadyTicksOf 59 = .ok (.invokestatic 99, 3) := by decide +kernel
theorem dX2_steadyTicksOf_62 : decode cX2_steadyTicksOf 62 = .ok (.istore 4, 2) := by decide +kernel
theorem dX2_steadyTicksOf_64 : decode cX2_steadyTicksOf 64 = .ok (.iload 5, 2) := by decide +kernel
theorem dX2_steadyTicksOf_66 : decode cX2_steadyTicksOf 66 = .ok (.ifCond .ne 17, 3) := by decide +kernel
theorem dX2_steadyTicksOf_69 : decode cX2_steadyTicksOf 69 = .ok (.aload_n 0, 1) := by decide +kernel
theorem dX2_steadyTicksOf_70 : decode cX2_steadyTicksOf 70 = .ok (.getfield 44, 3) := by decide +kernel
theorem dX2_steadyTicksOf_73 : decode cX2_steadyTicksOf 73 = .ok (.iload_n 1, 1) := by decide +kernel
theorem dX2_steadyTicksOf_74 : decode cX2_steadyTicksOf 74 = .ok (.iaload, 1) := by decide +kernel
theorem dX2_steadyTicksOf_75 : decode cX2_steadyTicksOf 75 = .ok (.ifCond .ne 12, 3) := by decide +kernel
theorem dX2_steadyTicksOf_78 : decode cX2_steadyTicksOf 78 = .ok (.iload 6, 2) := by decide +kernel
theorem dX2_steadyTicksOf_80 : decode cX2_steadyTicksOf 80 = .ok (.ifCond .ne 7, 3) := by decide +kernel
theorem dX2_steadyTicksOf_83 : decode cX2_steadyTicksOf 83 = .ok (.iconst 1, 1) := by decide +kernel
theorem dX2_steadyTicksOf_84 : decode cX2_steadyTicksOf 84 = .ok (.goto 4, 3) := by decide +kernel
theorem dX2_steadyTicksOf_87 : decode cX2_steadyTicksOf 87 = .ok (.iconst 0, 1) := by decide +kernel
theorem dX2_steadyTicksOf_88 : decode cX2_steadyTicksOf 88 = .ok (.istore 5, 2) := by decide +kernel
theorem dX2_steadyTicksOf_90 : decode cX2_steadyTicksOf 90 = .ok (.aload_n 0, 1) := by decide +kernel
theorem dX2_steadyTicksOf_91 : decode cX2_steadyTicksOf 91 = .ok (.getfield 15, 3) := by decide +kernel
theorem dX2_steadyTicksOf_94 : decode cX2_steadyTicksOf 94 = .ok (.iload_n 1, 1) := by decide +kernel
theorem dX2_steadyTicksOf_95 : decode cX2_steadyTicksOf 95 = .ok (.iaload, 1) := by decide +kernel
theorem dX2_steadyTicksOf_96 : decode cX2_steadyTicksOf 96 = .ok (.iconst (-1), 1) := by decide +kernel
theorem dX2_steadyTicksOf_97 : decode cX2_steadyTicksOf 97 = .ok (.if_icmp .eq 59, 3) := by decide +kernel
theorem dX2_steadyTicksOf_100 : decode cX2_steadyTicksOf 100 = .ok (.aload_n 2, 1) := by decide +kernel
theorem dX2_steadyTicksOf_101 : decode cX2_steadyTicksOf 101 = .ok (.aload_n 0, 1) := by decide +kernel
theorem dX2_steadyTicksOf_102 : decode cX2_steadyTicksOf 102 = .ok (.getfield 15, 3) := by decide +kernel
theorem dX2_steadyTicksOf_105 : decode cX2_steadyTicksOf 105 = .ok (.iload_n 1, 1) := by decide +kernel
theorem dX2_steadyTicksOf_106 : decode cX2_steadyTicksOf 106 = .ok (.iaload, 1) := by decide +kernel
theorem dX2_steadyTicksOf_107 : decode cX2_steadyTicksOf 107 = .ok (.invokevirtual 95, 3) := by decide +kernel
theorem dX2_steadyTicksOf_110 : decode cX2_steadyTicksOf 110 = .ok (.istore 6, 2) := by decide +kernel
theorem dX2_steadyTicksOf_112 : decode cX2_steadyTicksOf 112 = .ok (.aload_n 0, 1) := by decide +kernel
theorem dX2_steadyTicksOf_113 : decode cX2_steadyTicksOf 113 = .ok (.getfield 47, 3) := by decide +kernel
theorem dX2_steadyTicksOf_116 : decode cX2_steadyTicksOf 116 = .ok (.iload_n 1, 1) := by decide +kernel
theorem dX2_steadyTicksOf_117 : decode cX2_steadyTicksOf 117 = .ok (.iaload, 1) := by decide +kernel
theorem dX2_steadyTicksOf_118 : decode cX2_steadyTicksOf 118 = .ok (.i2l, 1) := by decide +kernel
theorem dX2_steadyTicksOf_119 : decode cX2_steadyTicksOf 119 = .ok (.iload 6, 2) := by decide +kernel
theorem dX2_steadyTicksOf_121 : decode cX2_steadyTicksOf 121 = .ok (.ineg, 1) := by decide +kernel
theorem dX2_steadyTicksOf_122 : decode cX2_steadyTicksOf 122 = .ok (.i2l, 1) := by decide +kernel
theorem dX2_steadyTicksOf_123 : decode cX2_steadyTicksOf 123 = .ok (.iload 4, 2) := by decide +kernel
theorem dX2_steadyTicksOf_125 : decode cX2_steadyTicksOf 125 = .ok (.invokestatic 99, 3) := by decide +kernel
theorem dX2_steadyTicksOf_128 : decode cX2_steadyTicksOf 128 = .ok (.istore 4, 2) := by decide +kernel
theorem dX2_steadyTicksOf_130 : decode cX2_steadyTicksOf 130 = .ok (.iload 5, 2) := by decide +kernel
theorem dX2_steadyTicksOf_132 : decode cX2_steadyTicksOf 132 = .ok (.ifCond .ne 17, 3) := by decide +kernel
theorem dX2_steadyTicksOf_135 : decode cX2_steadyTicksOf 135 = .ok (.aload_n 0, 1) := by decide +kernel
theorem dX2_steadyTicksOf_136 : decode cX2_steadyTicksOf 136 = .ok (.getfield 47, 3) := by decide +kernel
theorem dX2_steadyTicksOf_139 : decode cX2_steadyTicksOf 139 = .ok (.iload_n 1, 1) := by decide +kernel
theorem dX2_steadyTicksOf_140 : decode cX2_steadyTicksOf 140 = .ok (.iaload, 1) := by decide +kernel
theorem dX2_steadyTicksOf_141 : decode cX2_steadyTicksOf 141 = .ok (.ifCond .ne 12, 3) := by decide +kernel
theorem dX2_steadyTicksOf_144 : decode cX2_steadyTicksOf 144 = .ok (.iload 6, 2) := by decide +kernel
theorem dX2_steadyTicksOf_146 : decode cX2_steadyTicksOf 146 = .ok (.ifCond .ne 7, 3) := by decide +kernel
theorem dX2_steadyTicksOf_149 : decode cX2_steadyTicksOf 149 = .ok (.iconst 1, 1) := by decide +kernel
theorem dX2_steadyTicksOf_150 : decode cX2_steadyTicksOf 150 = .ok (.goto 4, 3) := by decide +kernel
theorem dX2_steadyTicksOf_153 : decode cX2_steadyTicksOf 153 = .ok (.iconst 0, 1) := by decide +kernel
theorem dX2_steadyTicksOf_154 : decode cX2_steadyTicksOf 154 = .ok (.istore 5, 2) := by decide +kernel
theorem dX2_steadyTicksOf_156 : decode cX2_steadyTicksOf 156 = .ok (.iload 5, 2) := by decide +kernel
theorem dX2_steadyTicksOf_158 : decode cX2_steadyTicksOf 158 = .ok (.ifCond .eq 8, 3) := by decide +kernel
theorem dX2_steadyTicksOf_161 : decode cX2_steadyTicksOf 161 = .ok (.iload 4, 2) := by decide +kernel
theorem dX2_steadyTicksOf_163 : decode cX2_steadyTicksOf 163 = .ok (.goto 4, 3) := by decide +kernel
theorem dX2_steadyTicksOf_166 : decode cX2_steadyTicksOf 166 = .ok (.iconst 0, 1) := by decide +kernel
theorem dX2_steadyTicksOf_167 : decode cX2_steadyTicksOf 167 = .ok (.ireturn, 1) := by decide +kernel
theorem dX2_repeat_0 : decode cX2_repeat 0 = .ok (.iconst 0, 1) := by decide +kernel
theorem dX2_repeat_1 : decode cX2_repeat 1 = .ok (.istore_n 3, 1) := by decide +kernel
theorem dX2_repeat_2 : decode cX2_repeat 2 = .ok (.iload_n 3, 1) := by decide +kernel
theorem dX2_repeat_3 : decode cX2_repeat 3 = .ok (.aload_n 0, 1) := by decide +kernel
theorem dX2_repeat_4 : decode cX2_repeat 4 = .ok (.getfield 50, 3) := by decide +kernel
theorem dX2_repeat_7 : decode cX2_repeat 7 = .ok (.if_icmp .ge 24, 3) := by decide +kernel
theorem dX2_repeat_10 : decode cX2_repeat 10 = .ok (.aload_n 0, 1) := by decide +kernel
theorem dX2_repeat_11 : decode cX2_repeat 11 = .ok (.iload_n 3, 1) := by decide +kernel
theorem dX2_repeat_12 : decode cX2_repeat 12 = .ok (.aload_n 1, 1) := by decide +kernel
theorem dX2_repeat_13 : decode cX2_repeat 13 = .ok (.invokevirtual 65, 3) := by decide +kernel
theorem dX2_repeat_16 : decode cX2_repeat 16 = .ok (.ifCond .eq 9, 3) := by decide +kernel
theorem dX2_repeat_19 : decode cX2_repeat 19 = .ok (.aload_n 0, 1) := by decide +kernel
theorem dX2_repeat_20 : decode cX2_repeat 20 = .ok (.iload_n 3, 1) := by decide +kernel
theorem dX2_repeat_21 : decode cX2_repeat 21 = .ok (.iload_n 2, 1) := by decide +kernel
theorem dX2_repeat_22 : decode cX2_repeat 22 = .ok (.invokevirtual 73, 3) := by decide +kernel
theorem dX2_repeat_25 : decode cX2_repeat 25 = .ok (.iinc 3 1, 3) := by decide +kernel
theorem dX2_repeat_28 : decode cX2_repeat 28 = .ok (.goto (-26), 3) := by decide +kernel
theorem dX2_repeat_31 : decode cX2_repeat 31 = .ok (.return_, 1) := by decide +kernel
theorem dX3_init_0 : decode cX3_init 0 = .ok (.aload_n 0, 1) := by decide +kernel
theorem dX3_init_1 : decode cX3_init 1 = .ok (.invokespecial 3, 3) := by decide +kernel
theorem dX3_init_4 : decode cX3_init 4 = .ok (.aload_n 0, 1) := by decide +kernel
theorem dX3_init_5 : decode cX3_init 5 = .ok (.bipush 10, 2) := by decide +kernel
theorem dX3_init_7 : decode cX3_init 7 = .ok (.newarray .int, 2) := by decide +kernel
theorem dX3_init_9 : decode cX3_init 9 = .ok (.putfield 9, 3) := by decide +kernel
theorem dX3_init_12 : decode cX3_init 12 = .ok (.aload_n 0, 1) := by decide +kernel
theorem dX3_init_13 : decode cX3_init 13 = .ok (.bipush 10, 2) := by decide +kernel
theorem dX3_init_15 : decode cX3_init 15 = .ok (.newarray .int, 2) := by decide +kernel
theorem dX3_init_17 : decode cX3_init 17 = .ok (.putfield 15, 3) := by decide +kernel
theorem dX3_init_20 : decode cX3_init 20 = .ok (.aload_n 0, 1) := by decide +kernel
theorem dX3_init_21 : decode cX3_init 21 = .ok (.bipush 10, 2) := by decide +kernel
theorem dX3_init_23 : decode cX3_init 23 = .ok (.newarray .int, 2) := by decide +kernel
theorem dX3_init_25 : decode cX3_init 25 = .ok (.putfield 18, 3) := by decide +kernel
theorem dX3_init_28 : decode cX3_init 28 = .ok (.aload_n 0, 1) := by decide +kernel
theorem dX3_init_29 : decode cX3_init 29 = .ok (.bipush 10, 2) := by decide +kernel
theorem dX3_init_31 : decode cX3_init 31 = .ok (.newarray .boolean, 2) := by decide +kernel
theorem dX3_init_33 : decode cX3_init 33 = .ok (.putfield 21, 3) := by decide +kernel
theorem dX3_init_36 : decode cX3_init 36 = .ok (.return_, 1) := by decide +kernel
theorem dX3_append_0 : decode cX3_append 0 = .ok (.aload_n 0, 1) := by decide +kernel
theorem dX3_append_1 : decode cX3_append 1 = .ok (.getfield 25, 3) := by decide +kernel
theorem dX3_append_4 : decode cX3_append 4 = .ok (.istore 4, 2) := by decide +kernel
theorem dX3_append_6 : decode cX3_append 6 = .ok (.aload_n 0, 1) := by decide +kernel
theorem dX3_append_7 : decode cX3_append 7 = .ok (.getfield 9, 3) := by decide +kernel
theorem dX3_append_10 : decode cX3_append 10 = .ok (.iload 4, 2) := by decide +kernel
theorem dX3_append_12 : decode cX3_append 12 = .ok (.iload_n 1, 1) := by decide +kernel
theorem dX3_append_13 : decode cX3_append 13 = .ok (.iastore, 1) := by decide +kernel
theorem dX3_append_14 : decode cX3_append 14 = .ok (.aload_n 0, 1) := by decide +kernel
theorem dX3_append_15 : decode cX3_append 15 = .ok (.getfield 15, 3) := by decide +kernel
theorem dX3_append_18 : decode cX3_append 18 = .ok (.iload 4, 2) := by decide +kernel
theorem dX3_append_20 : decode cX3_append 20 = .ok (.iload_n 2, 1) := by decide +kernel
theorem dX3_append_21 : decode cX3_append 21 = .ok (.iastore, 1) := by decide +kernel
theorem dX3_append_22 : decode cX3_append 22 = .ok (.aload_n 0, 1) := by decide +kernel
theorem dX3_append_23 : decode cX3_append 23 = .ok (.getfield 18, 3) := by decide +kernel
theorem dX3_append_26 : decode cX3_append 26 = .ok (.iload 4, 2) := by decide +kernel
theorem dX3_append_28 : decode cX3_append 28 = .ok (.iload_n 3, 1) := by decide +kernel
theorem dX3_append_29 : decode cX3_append 29 = .ok (.iastore, 1) := by decide +kernel
theorem dX3_append_30 : decode cX3_append 30 = .ok (.aload_n 0, 1) := by decide +kernel
theorem dX3_append_31 : decode cX3_append 31 = .ok (.getfield 21, 3) := by decide +kernel
theorem dX3_append_34 : decode cX3_append 34 = .ok (.iload 4, 2) := by decide +kernel
theorem dX3_append_36 : decode cX3_append 36 = .ok (.iconst 0, 1) := by decide +kernel
theorem dX3_append_37 : decode cX3_append 37 = .ok (.bastore, 1) := by decide +kernel
theorem dX3_append_38 : decode cX3_append 38 = .ok (.aload_n 0, 1) := by decide +kernel
theorem dX3_append_39 : decode cX3_append 39 = .ok (.dup, 1) := by decide +kernel
theorem dX3_append_40 : decode cX3_append 40 = .ok (.getfield 25, 3) := by decide +kernel
theorem dX3_append_43 : decode cX3_append 43 = .ok (.iconst 1, 1) := by decide +kernel
theorem dX3_append_44 : decode cX3_append 44 = .ok (.iadd, 1) := by decide +kernel
theorem dX3_append_45 : decode cX3_append 45 = .ok (.putfield 25, 3) := by decide +kernel
theorem dX3_append_48 : decode cX3_append 48 = .ok (.iload 4, 2) := by decide +kernel
theorem dX3_append_50 : decode cX3_append 50 = .ok (.ireturn, 1) := by decide +kernel
theorem dX3_follow_0 : decode cX3_follow 0 = .ok (.iconst 0, 1) := by decide +kernel
theorem dX3_follow_1 : decode cX3_follow 1 = .ok (.istore 5, 2) := by decide +kernel
theorem dX3_follow_3 : decode cX3_follow 3 = .ok (.iconst 0, 1) := by decide +kernel
theorem dX3_follow_4 : decode cX3_follow 4 = .ok (.istore 6, 2) := by decide +kernel
theorem dX3_follow_6 : decode cX3_follow 6 = .ok (.iload 6, 2) := by decide +kernel
theorem dX3_follow_8 : decode cX3_follow 8 = .ok (.aload_n 0, 1) := by decide +kernel
theorem dX3_follow_9 : decode cX3_follow 9 = .ok (.getfield 25, 3) := by decide +kernel
theorem dX3_follow_12 : decode cX3_follow 12 = .ok (.if_icmp .ge 103, 3) := by decide +kernel
theorem dX3_follow_15 : decode cX3_follow 15 = .ok (.aload_n 1, 1) := by decide +kernel
theorem dX3_follow_16 : decode cX3_follow 16 = .ok (.getfield 35, 3) := by decide +kernel
theorem dX3_follow_19 : decode cX3_follow 19 = .ok (.aload_n 0, 1) := by decide +kernel
theorem dX3_follow_20 : decode cX3_follow 20 = .ok (.getfield 9, 3) := by decide +kernel
theorem dX3_follow_23 : decode cX3_follow 23 = .ok (.iload 6, 2) := by decide +kernel
theorem dX3_follow_25 : decode cX3_follow 25 = .ok (.iaload, 1) := by decide +kernel
theorem dX3_follow_26 : decode cX3_follow 26 = .ok (.iaload, 1) := by decide +kernel
theorem dX3_follow_27 : decode cX3_follow 27 = .ok (.istore 7, 2) := by decide +kernel
theorem dX3_follow_29 : decode cX3_follow 29 = .ok (.aload_n 0, 1) := by decide +kernel
theorem dX3_follow_30 : decode cX3_follow 30 = .ok (.getfield 21, 3) := by decide +kernel
theorem dX3_follow_33 : decode cX3_follow 33 = .ok (.iload 6, 2) := by decide +kernel
theorem dX3_follow_35 : decode cX3_follow 35 = .ok (.baload, 1) := by decide +kernel
theorem dX3_follow_36 : decode cX3_follow 36 = .ok (.ifCond .eq 23, 3) := by decide +kernel
theorem dX3_follow_39 : decode cX3_follow 39 = .ok (.iload 7, 2) := by decide +kernel
theorem dX3_follow_41 : decode cX3_follow 41 = .ok (.aload_n 0, 1) := by decide +kernel
theorem dX3_follow_42 : decode cX3_follow 42 = .ok (.getfield 18, 3) := by decide +kernel
theorem dX3_follow_45 : decode cX3_follow 45 = .ok (.iload 6, 2) := by decide +kernel
theorem dX3_follow_47 : decode cX3_follow 47 = .ok (.iaload, 1) := by decide +kernel
theorem dX3_follow_48 : decode cX3_follow 48 = .ok (.if_icmp .ge 7, 3) := by decide +kernel
theorem dX3_follow_51 : decode cX3_follow 51 = .ok (.iconst 1, 1) := by decide +kernel
theorem dX3_follow_52 : decode cX3_follow 52 = .ok (.goto 24, 3) := by decide +kernel
theorem dX3_follow_55 : decode cX3_follow 55 = .ok (.iconst 0, 1) := by decide +kernel
theorem dX3_follow_56 : decode cX3_follow 56 = .ok (.goto 20, 3) := by decide +kernel
theorem dX3_follow_59 : decode cX3_follow 59 = .ok (.iload 7, 2) := by decide +kernel
theorem dX3_follow_61 : decode cX3_follow 61 = .ok (.aload_n 0, 1) := by decide +kernel
theorem dX3_follow_62 : decode cX3_follow 62 = .ok (.getfield 15, 3) := by decide +kernel
theorem dX3_follow_65 : decode cX3_follow 65 = .ok (.iload 6, 2) := by decide +kernel
theorem dX3_follow_67 : decode cX3_follow 67 = .ok (.iaload, 1) := by decide +kernel
theorem dX3_follow_68 : decode cX3_follow 68 = .ok (.if_icmp .gt 7, 3) := by decide +kernel
theorem dX3_follow_71 : decode cX3_follow 71 = .ok (.iconst 1, 1) := by decide +kernel
theorem dX3_follow_72 : decode cX3_follow 72 = .ok (.goto 4, 3) := by decide +kernel
theorem dX3_follow_75 : decode cX3_follow 75 = .ok (.iconst 0, 1) := by decide +kernel
theorem dX3_follow_76 : decode cX3_follow 76 = .ok (.istore 8, 2) := by decide +kernel
theorem dX3_follow_78 : decode cX3_follow 78 = .ok (.iload 8, 2) := by decide +kernel
theorem dX3_follow_80 : decode cX3_follow 80 = .ok (.aload_n 0, 1) := by decide +kernel
theorem dX3_follow_81 : decode cX3_follow 81 = .ok (.getfield 21, 3) := by decide +kernel
theorem dX3_follow_84 : decode cX3_follow 84 = .ok (.iload 6, 2) := by decide +kernel
theorem dX3_follow_86 : decode cX3_follow 86 = .ok (.baload, 1) := by decide +kernel
theorem dX3_follow_87 : decode cX3_follow 87 = .ok (.if_icmp .eq 22, 3) := by decide +kernel
theorem dX3_follow_90 : decode cX3_follow 90 = .ok (.aload_n 0, 1) := by decide +kernel
theorem dX3_follow_91 : decode cX3_follow 91 = .ok (.getfield 21, 3) := by decide +kernel
theorem dX3_follow_94 : decode cX3_follow 94 = .ok (.iload 6, 2) := by decide +kernel
theorem dX3_follow_96 : decode cX3_follow 96 = .ok (.iload 8, 2) := by decide +kernel
theorem dX3_follow_98 : decode cX3_follow 98 = .ok (.bastore, 1) := by decide +kernel
theorem dX3_follow_99 : decode cX3_follow 99 = .ok (.aload_n 2, 1) := by decide +kernel
theorem dX3_follow_100 : decode cX3_follow 100 = .ok (.lload_n 3, 1) := by decide +kernel
theorem dX3_follow_101 : decode cX3_follow 101 = .ok (.iload 6, 2) := by decide +kernel
theorem dX3_follow_103 : decode cX3_follow 103 = .ok (.invokevirtual 40, 3) := by decide +kernel
theorem dX3_follow_106 : decode cX3_follow 106 = .ok (.iinc 5 1, 3) := by decide +kernel
theorem dX3_follow_109 : decode cX3_follow 109 = .ok (.iinc 6 1, 3) := by decide +kernel
theorem dX3_follow_112 : decode cX3_follow 112 = .ok (.goto (-106), 3) := by decide +kernel
theorem dX3_follow_115 : decode cX3_follow 115 = .ok (.iload 5, 2) := by decide +kernel
theorem dX3_follow_117 : decode cX3_follow 117 = .ok (.ireturn, 1) := by decide +kernel
theorem dX3_steadyTicks_0 : decode cX3_steadyTicks 0 = .ok (.iload_n 2, 1) := by decide +kernel
theorem dX3_steadyTicks_1 : decode cX3_steadyTicks 1 = .ok (.istore_n 3, 1) := by decide +kernel
theorem dX3_steadyTicks_2 : decode cX3_steadyTicks 2 = .ok (.iconst 0, 1) := by decide +kernel
theorem dX3_steadyTicks_3 : decode cX3_steadyTicks 3 = .ok (.istore 4, 2) := by decide +kernel
theorem dX3_steadyTicks_5 : decode cX3_steadyTicks 5 = .ok (.iload 4, 2) := by decide +kernel
theorem dX3_steadyTicks_7 : decode cX3_steadyTicks 7 = .ok (.aload_n 0, 1) := by decide +kernel
theorem dX3_steadyTicks_8 : decode cX3_steadyTicks 8 = .ok (.getfield 25, 3) := by decide +kernel
theorem dX3_steadyTicks_11 : decode cX3_steadyTicks 11 = .ok (.if_icmp .ge 95, 3) := by decide +kernel
theorem dX3_steadyTicks_14 : decode cX3_steadyTicks 14 = .ok (.iload_n 3, 1) := by decide +kernel
theorem dX3_steadyTicks_15 : decode cX3_steadyTicks 15 = .ok (.ifCond .le 91, 3) := by decide +kernel
theorem dX3_steadyTicks_18 : decode cX3_steadyTicks 18 = .ok (.aload_n 1, 1) := by decide +kernel
theorem dX3_steadyTicks_19 : decode cX3_steadyTicks 19 = .ok (.getfield 46, 3) := by decide +kernel
theorem dX3_steadyTicks_22 : decode cX3_steadyTicks 22 = .ok (.aload_n 0, 1) := by decide +kernel
theorem dX3_steadyTicks_23 : decode cX3_steadyTicks 23 = .ok (.getfield 9, 3) := by decide +kernel
theorem dX3_steadyTicks_26 : decode cX3_steadyTicks 26 = .ok (.iload 4, 2) := by decide +kernel
theorem dX3_steadyTicks_28 : decode cX3_steadyTicks 28 = .ok (.iaload, 1) := by decide +kernel
theorem dX3_steadyTicks_29 : decode cX3_steadyTicks 29 = .ok (.iaload, 1) := by decide +kernel
theorem dX3_steadyTicks_30 : decode cX3_steadyTicks 30 = .ok (.istore 5, 2) := by decide +kernel
theorem dX3_steadyTicks_32 : decode cX3_steadyTicks 32 = .ok (.aload_n 1, 1) := by decide +kernel
theorem dX3_steadyTicks_33 : decode cX3_steadyTicks 33 = .ok (.aload_n 0, 1) := by decide +kernel
theorem dX3_steadyTicks_34 : decode cX3_steadyTicks 34 = .ok (.getfield 9, 3) := by decide +kernel
theorem dX3_steadyTicks_37 : decode cX3_steadyTicks 37 = .ok (.iload 4, 2) := by decide +kernel
theorem dX3_steadyTicks_39 : decode cX3_steadyTicks 39 = .ok (.iaload, 1) := by decide +kernel
theorem dX3_steadyTicks_40 : decode cX3_steadyTicks 40 = .ok (.invokevirtual 49, 3) := by decide +kernel
theorem dX3_steadyTicks_43 : decode cX3_steadyTicks 43 = .ok (.istore 6, 2) := by decide +kernel
theorem dX3_steadyTicks_45 : decode cX3_steadyTicks 45 = .ok (.aload_n 0, 1) := by decide +kernel
theorem dX3_steadyTicks_46 : decode cX3_steadyTicks 46 = .ok (.getfield 21, 3) := by decide +kernel
theorem dX3_steadyTicks_49 : decode cX3_steadyTicks 49 = .ok (.iload 4, 2) := by decide +kernel
theorem dX3_steadyTicks_51 : decode cX3_steadyTicks 51 = .ok (.baload, 1) := by decide +kernel
theorem dX3_steadyTicks_52 : decode cX3_steadyTicks 52 = .ok (.ifCond .eq 27, 3) := by decide +kernel
theorem dX3_steadyTicks_55 : decode cX3_steadyTicks 55 = .ok (.aload_n 0, 1) := by decide +kernel
theorem dX3_steadyTicks_56 : decode cX3_steadyTicks 56 = .ok (.getfield 18, 3) := by decide +kernel
theorem dX3_steadyTicks_59 : decode cX3_steadyTicks 59 = .ok (.iload 4, 2) := by decide +kernel
theorem dX3_steadyTicks_61 : decode cX3_steadyTicks 61 = .ok (.iaload, 1) := by decide +kernel
theorem dX3_steadyTicks_62 : decode cX3_steadyTicks 62 = .ok (.iconst 1, 1) := by decide +kernel
theorem dX3_steadyTicks_63 : decode cX3_steadyTicks 63 = .ok (.isub, 1) := by decide +kernel
theorem dX3_steadyTicks_64 : decode cX3_steadyTicks 64 = .ok (.iload 5, 2) := by decide +kernel
theorem dX3_steadyTicks_66 : decode cX3_steadyTicks 66 = .ok (.isub, 1) := by decide +kernel
theorem dX3_steadyTicks_67 : decode cX3_steadyTicks 67 = .ok (.i2l, 1) := by decide +kernel
theorem dX3_steadyTicks_68 : decode cX3_steadyTicks 68 = .ok (.iload 6, 2) := by decide +kernel
theorem dX3_steadyTicks_70 : decode cX3_steadyTicks 70 = .ok (.ineg, 1) := by decide +kernel
theorem dX3_steadyTicks_71 : decode cX3_steadyTicks 71 = .ok (.i2l, 1) := by decide +kernel
theorem dX3_steadyTicks_72 : decode cX3_steadyTicks 72 = .ok (.iload_n 3, 1) := by decide +kernel
theorem dX3_steadyTicks_73 : decode cX3_steadyTicks 73 = .ok (.invokestatic 53, 3) := by decide +kernel
theorem dX3_steadyTicks_76 : decode cX3_steadyTicks 76 = .ok (.goto 23, 3) := by decide +kernel
theorem dX3_steadyTicks_79 : decode cX3_steadyTicks 79 = .ok (.iload 5, 2) := by decide +kernel
theorem dX3_steadyTicks_81 : decode cX3_steadyTicks 81 = .ok (.aload_n 0, 1) := by decide +kernel
theorem dX3_steadyTicks_82 : decode cX3_steadyTicks 82 = .ok (.getfield 15, 3) := by decide +kernel
theorem dX3_steadyTicks_85 : decode cX3_steadyTicks 85 = .ok (.iload 4, 2) := by decide +kernel
theorem dX3_steadyTicks_87 : decode cX3_steadyTicks 87 = .ok (.iaload, 1) := by decide +kernel
theorem dX3_steadyTicks_88 : decode cX3_steadyTicks 88 = .ok (.isub, 1) := by decide +kernel
theorem dX3_steadyTicks_89 : decode cX3_steadyTicks 89 = .ok (.iconst 1, 1) := by decide +kernel
theorem dX3_steadyTicks_90 : decode cX3_steadyTicks 90 = .ok (.isub, 1) := by decide +kernel
theorem dX3_steadyTicks_91 : decode cX3_steadyTicks 91 = .ok (.i2l, 1) := by decide +kernel
theorem dX3_steadyTicks_92 : decode cX3_steadyTicks 92 = .ok (.iload 6, 2) := by decide +kernel
theorem dX3_steadyTicks_94 : decode cX3_steadyTicks 94 = .ok (.i2l, 1) := by decide +kernel
theorem dX3_steadyTicks_95 : decode cX3_steadyTicks 95 = .ok (.iload_n 3, 1) := by decide +kernel
theorem dX3_steadyTicks_96 : decode cX3_steadyTicks 96 = .ok (.invokestatic 53, 3) := by decide +kernel
theorem dX3_steadyTicks_99 : decode cX3_steadyTicks 99 = .ok (.istore_n 3, 1) := by decide +kernel
theorem dX3_steadyTicks_100 : decode cX3_steadyTicks 100 = .ok (.iinc 4 1, 3) := by decide +kernel
theorem dX3_steadyTicks_103 : decode cX3_steadyTicks 103 = .ok (.goto (-98), 3) := by decide +kernel
theorem dX3_steadyTicks_106 : decode cX3_steadyTicks 106 = .ok (.iload_n 3, 1) := by decide +kernel
theorem dX3_steadyTicks_107 : decode cX3_steadyTicks 107 = .ok (.ireturn, 1) := by decide +kernel
theorem dX4_init_0 : decode cX4_init 0 = .ok (.aload_n 0, 1) := by decide +kernel
theorem dX4_init_1 : decode cX4_init 1 = .ok (.invokespecial 3, 3) := by decide +kernel
theorem dX4_init_4 : decode cX4_init 4 = .ok (.aload_n 0, 1) := by decide +kernel
theorem dX4_init_5 : decode cX4_init 5 = .ok (.bipush 8, 2) := by decide +kernel
theorem dX4_init_7 : decode cX4_init 7 = .ok (.newarray .int, 2) := by decide +kernel
theorem dX4_init_9 : decode cX4_init 9 = .ok (.putfield 9, 3) := by decide +kernel
theorem dX4_init_12 : decode cX4_init 12 = .ok (.aload_n 0, 1) := by decide +kernel
theorem dX4_init_13 : decode cX4_init 13 = .ok (.bipush 8, 2) := by decide +kernel
theorem dX4_init_15 : decode cX4_init 15 = .ok (.newarray .int, 2) := by decide +kernel
theorem dX4_init_17 : decode cX4_init 17 = .ok (.putfield 15, 3) := by decide +kernel
theorem dX4_init_20 : decode cX4_init 20 = .ok (.aload_n 0, 1) := by decide +kernel
theorem dX4_init_21 : decode cX4_init 21 = .ok (.bipush 8, 2) := by decide +kernel
theorem dX4_init_23 : decode cX4_init 23 = .ok (.newarray .int, 2) := by decide +kernel
theorem dX4_init_25 : decode cX4_init 25 = .ok (.putfield 18, 3) := by decide +kernel
theorem dX4_init_28 : decode cX4_init 28 = .ok (.aload_n 0, 1) := by decide +kernel
theorem dX4_init_29 : decode cX4_init 29 = .ok (.bipush 8, 2) := by decide +kernel
theorem dX4_init_31 : decode cX4_init 31 = .ok (.newarray .long, 2) := by decide +kernel
theorem dX4_init_33 : decode cX4_init 33 = .ok (.putfield 21, 3) := by decide +kernel
theorem dX4_init_36 : decode cX4_init 36 = .ok (.aload_n 0, 1) := by decide +kernel
theorem dX4_init_37 : decode cX4_init 37 = .ok (.bipush 8, 2) := by decide +kernel
theorem dX4_init_39 : decode cX4_init 39 = .ok (.newarray .int, 2) := by decide +kernel
theorem dX4_init_41 : decode cX4_init 41 = .ok (.putfield 25, 3) := by decide +kernel
theorem dX4_init_44 : decode cX4_init 44 = .ok (.return_, 1) := by decide +kernel
theorem dX4_append_0 : decode cX4_append 0 = .ok (.aload_n 0, 1) := by decide +kernel
theorem dX4_append_1 : decode cX4_append 1 = .ok (.getfield 28, 3) := by decide +kernel
theorem dX4_append_4 : decode cX4_append 4 = .ok (.istore 4, 2) := by decide +kernel
theorem dX4_append_6 : decode cX4_append 6 = .ok (.aload_n 0, 1) := by decide +kernel
theorem dX4_append_7 : decode cX4_append 7 = .ok (.getfield 9, 3) := by decide +kernel
theorem dX4_append_10 : decode cX4_append 10 = .ok (.iload 4, 2) := by decide +kernel
theorem dX4_append_12 : decode cX4_append 12 = .ok (.iload_n 1, 1) := by decide +kernel
theorem dX4_append_13 : decode cX4_append 13 = .ok (.iastore, 1) := by decide +kernel
theorem dX4_append_14 : decode cX4_append 14 = .ok (.aload_n 0, 1) := by decide +kernel
theorem dX4_append_15 : decode cX4_append 15 = .ok (.getfield 15, 3) := by decide +kernel
theorem dX4_append_18 : decode cX4_append 18 = .ok (.iload 4, 2) := by decide +kernel
theorem dX4_append_20 : decode cX4_append 20 = .ok (.iload_n 2, 1) := by decide +kernel
theorem dX4_append_21 : decode cX4_append 21 = .ok (.iastore, 1) := by decide +kernel
theorem dX4_append_22 : decode cX4_append 22 = .ok (.aload_n 0, 1) := by decide +kernel
theorem dX4_append_23 : decode cX4_append 23 = .ok (.getfield 18, 3) := by decide +kernel
theorem dX4_append_26 : decode cX4_append 26 = .ok (.iload 4, 2) := by decide +kernel
theorem dX4_append_28 : decode cX4_append 28 = .ok (.iload_n 3, 1) := by decide +kernel
theorem dX4_append_29 : decode cX4_append 29 = .ok (.iastore, 1) := by decide +kernel
theorem dX4_append_30 : decode cX4_append 30 = .ok (.aload_n 0, 1) := by decide +kernel
theorem dX4_append_31 : decode cX4_append 31 = .ok (.getfield 21, 3) := by decide +kernel
theorem dX4_append_34 : decode cX4_append 34 = .ok (.iload 4, 2) := by decide +kernel
theorem dX4_append_36 : decode cX4_append 36 = .ok (.lconst 0, 1) := by decide +kernel
theorem dX4_append_37 : decode cX4_append 37 = .ok (.lastore, 1) := by decide +kernel
theorem dX4_append_38 : decode cX4_append 38 = .ok (.aload_n 0, 1) := by decide +kernel
theorem dX4_append_39 : decode cX4_append 39 = .ok (.dup, 1) := by decide +kernel
theorem dX4_append_40 : decode cX4_append 40 = .ok (.getfield 28, 3) := by decide +kernel
theorem dX4_append_43 : decode cX4_append 43 = .ok (.iconst 1, 1) := by decide +kernel
theorem dX4_append_44 : decode cX4_append 44 = .ok (.iadd, 1) := by decide +kernel
theorem dX4_append_45 : decode cX4_append 45 = .ok (.putfield 28, 3) := by decide +kernel
theorem dX4_append_48 : decode cX4_append 48 = .ok (.iload 4, 2) := by decide +kernel
theorem dX4_append_50 : decode cX4_append 50 = .ok (.ireturn, 1) := by decide +kernel
theorem dX4_noteLevels_0 : decode cX4_noteLevels 0 = .ok (.aload_n 0, 1) := by decide +kernel
theorem dX4_noteLevels_1 : decode cX4_noteLevels 1 = .ok (.getfield 15, 3) := by decide +kernel
theorem dX4_noteLevels_4 : decode cX4_noteLevels 4 = .ok (.iconst 0, 1) := by decide +kernel
theorem dX4_noteLevels_5 : decode cX4_noteLevels 5 = .ok (.aload_n 0, 1) := by decide +kernel
theorem dX4_noteLevels_6 : decode cX4_noteLevels 6 = .ok (.getfield 25, 3) := by decide +kernel
theorem dX4_noteLevels_9 : decode cX4_noteLevels 9 = .ok (.iconst 0, 1) := by decide +kernel
theorem dX4_noteLevels_10 : decode cX4_noteLevels 10 = .ok (.bipush 8, 2) := by decide +kernel
theorem dX4_noteLevels_12 : decode cX4_noteLevels 12 = .ok (.invokestatic 32, 3) := by decide +kernel
theorem dX4_noteLevels_15 : decode cX4_noteLevels 15 = .ok (.return_, 1) := by decide +kernel
theorem dX4_leakAndSum_0 : decode cX4_leakAndSum 0 = .ok (.iconst 0, 1) := by decide +kernel
theorem dX4_leakAndSum_1 : decode cX4_leakAndSum 1 = .ok (.istore_n 1, 1) := by decide +kernel
theorem dX4_leakAndSum_2 : decode cX4_leakAndSum 2 = .ok (.iload_n 1, 1) := by decide +kernel
theorem dX4_leakAndSum_3 : decode cX4_leakAndSum 3 = .ok (.aload_n 0, 1) := by decide +kernel
theorem dX4_leakAndSum_4 : decode cX4_leakAndSum 4 = .ok (.getfield 28, 3) := by decide +kernel
theorem dX4_leakAndSum_7 : decode cX4_leakAndSum 7 = .ok (.if_icmp .ge 49, 3) := by decide +kernel
theorem dX4_leakAndSum_10 : decode cX4_leakAndSum 10 = .ok (.aload_n 0, 1) := by decide +kernel
theorem dX4_leakAndSum_11 : decode cX4_leakAndSum 11 = .ok (.getfield 15, 3) := by decide +kernel
theorem dX4_leakAndSum_14 : decode cX4_leakAndSum 14 = .ok (.iload_n 1, 1) := by decide +kernel
theorem dX4_leakAndSum_15 : decode cX4_leakAndSum 15 = .ok (.dup2, 1) := by decide +kernel
theorem dX4_leakAndSum_16 : decode cX4_leakAndSum 16 = .ok (.iaload, 1) := by decide +kernel
theorem dX4_leakAndSum_17 : decode cX4_leakAndSum 17 = .ok (.aload_n 0, 1) := by decide +kernel
theorem dX4_leakAndSum_18 : decode cX4_leakAndSum 18 = .ok (.getfield 18, 3) := by decide +kernel
theorem dX4_leakAndSum_21 : decode cX4_leakAndSum 21 = .ok (.iload_n 1, 1) := by decide +kernel
theorem dX4_leakAndSum_22 : decode cX4_leakAndSum 22 = .ok (.iaload, 1) := by decide +kernel
theorem dX4_leakAndSum_23 : decode cX4_leakAndSum 23 = .ok (.aload_n 0, 1) := by decide +kernel
theorem dX4_leakAndSum_24 : decode cX4_leakAndSum 24 = .ok (.getfield 15, 3) := by decide +kernel
theorem dX4_leakAndSum_27 : decode cX4_leakAndSum 27 = .ok (.iload_n 1, 1) := by decide +kernel
theorem dX4_leakAndSum_28 : decode cX4_leakAndSum 28 = .ok (.iaload, 1) := by decide +kernel
theorem dX4_leakAndSum_29 : decode cX4_leakAndSum 29 = .ok (.invokestatic 38, 3) := by decide +kernel
theorem dX4_leakAndSum_32 : decode cX4_leakAndSum 32 = .ok (.isub, 1) := by decide +kernel
theorem dX4_leakAndSum_33 : decode cX4_leakAndSum 33 = .ok (.iastore, 1) := by decide +kernel
theorem dX4_leakAndSum_34 : decode cX4_leakAndSum 34 = .ok (.aload_n 0, 1) := by decide +kernel
theorem dX4_leakAndSum_35 : decode cX4_leakAndSum 35 = .ok (.getfield 21, 3) := by decide +kernel
theorem dX4_leakAndSum_38 : decode cX4_leakAndSum 38 = .ok (.iload_n 1, 1) := by decide +kernel
theorem dX4_leakAndSum_39 : decode cX4_leakAndSum 39 = .ok (.dup2, 1) := by decide +kernel
theorem dX4_leakAndSum_40 : decode cX4_leakAndSum 40 = .ok (.laload, 1) := by decide +kernel
theorem dX4_leakAndSum_41 : decode cX4_leakAndSum 41 = .ok (.aload_n 0, 1) := by decide +kernel
theorem dX4_leakAndSum_42 : decode cX4_leakAndSum 42 = .ok (.getfield 15, 3) := by decide +kernel
theorem dX4_leakAndSum_45 : decode cX4_leakAndSum 45 = .ok (.iload_n 1, 1) := by decide +kernel
theorem dX4_leakAndSum_46 : decode cX4_leakAndSum 46 = .ok (.iaload, 1) := by decide +kernel
theorem dX4_leakAndSum_47 : decode cX4_leakAndSum 47 = .ok (.i2l, 1) := by decide +kernel
theorem dX4_leakAndSum_48 : decode cX4_leakAndSum 48 = .ok (.ladd, 1) := by decide +kernel
theorem dX4_leakAndSum_49 : decode cX4_leakAndSum 49 = .ok (.lastore, 1) := by decide +kernel
theorem dX4_leakAndSum_50 : decode cX4_leakAndSum 50 = .ok (.iinc 1 1, 3) := by decide +kernel
theorem dX4_leakAndSum_53 : decode cX4_leakAndSum 53 = .ok (.goto (-51), 3) := by decide +kernel
theorem dX4_leakAndSum_56 : decode cX4_leakAndSum 56 = .ok (.return_, 1) := by decide +kernel
theorem dX4_drift_0 : decode cX4_drift 0 = .ok (.aload_n 0, 1) := by decide +kernel
theorem dX4_drift_1 : decode cX4_drift 1 = .ok (.getfield 15, 3) := by decide +kernel
theorem dX4_drift_4 : decode cX4_drift 4 = .ok (.iload_n 1, 1) := by decide +kernel
theorem dX4_drift_5 : decode cX4_drift 5 = .ok (.iaload, 1) := by decide +kernel
theorem dX4_drift_6 : decode cX4_drift 6 = .ok (.aload_n 0, 1) := by decide +kernel
theorem dX4_drift_7 : decode cX4_drift 7 = .ok (.getfield 25, 3) := by decide +kernel
theorem dX4_drift_10 : decode cX4_drift 10 = .ok (.iload_n 1, 1) := by decide +kernel
theorem dX4_drift_11 : decode cX4_drift 11 = .ok (.iaload, 1) := by decide +kernel
theorem dX4_drift_12 : decode cX4_drift 12 = .ok (.isub, 1) := by decide +kernel
theorem dX4_drift_13 : decode cX4_drift 13 = .ok (.ireturn, 1) := by decide +kernel
theorem dX4_steadyTicks_0 : decode cX4_steadyTicks 0 = .ok (.iload_n 1, 1) := by decide +kernel
theorem dX4_steadyTicks_1 : decode cX4_steadyTicks 1 = .ok (.istore_n 2, 1) := by decide +kernel
theorem dX4_steadyTicks_2 : decode cX4_steadyTicks 2 = .ok (.iconst 0, 1) := by decide +kernel
theorem dX4_steadyTicks_3 : decode cX4_steadyTicks 3 = .ok (.istore_n 3, 1) := by decide +kernel
theorem dX4_steadyTicks_4 : decode cX4_steadyTicks 4 = .ok (.iload_n 3, 1) := by decide +kernel
theorem dX4_steadyTicks_5 : decode cX4_steadyTicks 5 = .ok (.aload_n 0, 1) := by decide +kernel
theorem dX4_steadyTicks_6 : decode cX4_steadyTicks 6 = .ok (.getfield 28, 3) := by decide +kernel
theorem dX4_steadyTicks_9 : decode cX4_steadyTicks 9 = .ok (.if_icmp .ge 31, 3) := by decide +kernel
theorem dX4_steadyTicks_12 : decode cX4_steadyTicks 12 = .ok (.iload_n 2, 1) := by decide +kernel
theorem dX4_steadyTicks_13 : decode cX4_steadyTicks 13 = .ok (.ifCond .le 27, 3) := by decide +kernel
theorem dX4_steadyTicks_16 : decode cX4_steadyTicks 16 = .ok (.aload_n 0, 1) := by decide +kernel
theorem dX4_steadyTicks_17 : decode cX4_steadyTicks 17 = .ok (.getfield 15, 3) := by decide +kernel
theorem dX4_steadyTicks_20 : decode cX4_steadyTicks 20 = .ok (.iload_n 3, 1) := by decide +kernel
theorem dX4_steadyTicks_21 : decode cX4_steadyTicks 21 = .ok (.iaload, 1) := by decide +kernel
theorem dX4_steadyTicks_22 : decode cX4_steadyTicks 22 = .ok (.i2l, 1) := by decide +kernel
theorem dX4_steadyTicks_23 : decode cX4_steadyTicks 23 = .ok (.aload_n 0, 1) := by decide +kernel
theorem dX4_steadyTicks_24 : decode cX4_steadyTicks 24 = .ok (.iload_n 3, 1) := by decide +kernel
theorem dX4_steadyTicks_25 : decode cX4_steadyTicks 25 = .ok (.invokevirtual 44, 3) := by decide +kernel
theorem dX4_steadyTicks_28 : decode cX4_steadyTicks 28 = .ok (.i2l, 1) := by decide +kernel
theorem dX4_steadyTicks_29 : decode cX4_steadyTicks 29 = .ok (.iload_n 2, 1) := by decide +kernel
theorem dX4_steadyTicks_30 : decode cX4_steadyTicks 30 = .ok (.invokestatic 48, 3) := by decide +kernel
theorem dX4_steadyTicks_33 : decode cX4_steadyTicks 33 = .ok (.istore_n 2, 1) := by decide +kernel
theorem dX4_steadyTicks_34 : decode cX4_steadyTicks 34 = .ok (.iinc 3 1, 3) := by decide +kernel
theorem dX4_steadyTicks_37 : decode cX4_steadyTicks 37 = .ok (.goto (-33), 3) := by decide +kernel
theorem dX4_steadyTicks_40 : decode cX4_steadyTicks 40 = .ok (.iload_n 2, 1) := by decide +kernel
theorem dX4_steadyTicks_41 : decode cX4_steadyTicks 41 = .ok (.ireturn, 1) := by decide +kernel
theorem dX4_repeat_0 : decode cX4_repeat 0 = .ok (.iload_n 1, 1) := by decide +kernel
theorem dX4_repeat_1 : decode cX4_repeat 1 = .ok (.i2l, 1) := by decide +kernel
theorem dX4_repeat_2 : decode cX4_repeat 2 = .ok (.iload_n 1, 1) := by decide +kernel
theorem dX4_repeat_3 : decode cX4_repeat 3 = .ok (.iconst 1, 1) := by decide +kernel
theorem dX4_repeat_4 : decode cX4_repeat 4 = .ok (.iadd, 1) := by decide +kernel
theorem dX4_repeat_5 : decode cX4_repeat 5 = .ok (.i2l, 1) := by decide +kernel
theorem dX4_repeat_6 : decode cX4_repeat 6 = .ok (.lmul, 1) := by decide +kernel
theorem dX4_repeat_7 : decode cX4_repeat 7 = .ok (.ldc2_w 52, 3) := by decide +kernel
theorem dX4_repeat_10 : decode cX4_repeat 10 = .ok (.ldiv, 1) := by decide +kernel
theorem dX4_repeat_11 : decode cX4_repeat 11 = .ok (.lstore_n 2, 1) := by decide +kernel
theorem dX4_repeat_12 : decode cX4_repeat 12 = .ok (.iconst 0, 1) := by decide +kernel
theorem dX4_repeat_13 : decode cX4_repeat 13 = .ok (.istore 4, 2) := by decide +kernel
theorem dX4_repeat_15 : decode cX4_repeat 15 = .ok (.iload 4, 2) := by decide +kernel
theorem dX4_repeat_17 : decode cX4_repeat 17 = .ok (.aload_n 0, 1) := by decide +kernel
theorem dX4_repeat_18 : decode cX4_repeat 18 = .ok (.getfield 28, 3) := by decide +kernel
theorem dX4_repeat_21 : decode cX4_repeat 21 = .ok (.if_icmp .ge 58, 3) := by decide +kernel
theorem dX4_repeat_24 : decode cX4_repeat 24 = .ok (.aload_n 0, 1) := by decide +kernel
theorem dX4_repeat_25 : decode cX4_repeat 25 = .ok (.iload 4, 2) := by decide +kernel
theorem dX4_repeat_27 : decode cX4_repeat 27 = .ok (.invokevirtual 44, 3) := by decide +kernel
theorem dX4_repeat_30 : decode cX4_repeat 30 = .ok (.istore 5, 2) := by decide +kernel
theorem dX4_repeat_32 : decode cX4_repeat 32 = .ok (.aload_n 0, 1) := by decide +kernel
theorem dX4_repeat_33 : decode cX4_repeat 33 = .ok (.getfield 21, 3) := by decide +kernel
theorem dX4_repeat_36 : decode cX4_repeat 36 = .ok (.iload 4, 2) := by decide +kernel
theorem dX4_repeat_38 : decode cX4_repeat 38 = .ok (.dup2, 1) := by decide +kernel
theorem dX4_repeat_39 : decode cX4_repeat 39 = .ok (.laload, 1) := by decide +kernel
theorem dX4_repeat_40 : decode cX4_repeat 40 = .ok (.aload_n 0, 1) := by decide +kernel
theorem dX4_repeat_41 : decode cX4_repeat 41 = .ok (.getfield 15, 3) := by decide +kernel
theorem dX4_repeat_44 : decode cX4_repeat 44 = .ok (.iload 4, 2) := by decide +kernel
theorem dX4_repeat_46 : decode cX4_repeat 46 = .ok (.iaload, 1) := by decide +kernel
theorem dX4_repeat_47 : decode cX4_repeat 47 = .ok (.i2l, 1) := by decide +kernel
theorem dX4_repeat_48 : decode cX4_repeat 48 = .ok (.iload_n 1, 1) := by decide +kernel
theorem dX4_repeat_49 : decode cX4_repeat 49 = .ok (.i2l, 1) := by decide +kernel
theorem dX4_repeat_50 : decode cX4_repeat 50 = .ok (.lmul, 1) := by decide +kernel
theorem dX4_repeat_51 : decode cX4_repeat 51 = .ok (.iload 5, 2) := by decide +kernel
theorem dX4_repeat_53 : decode cX4_repeat 53 = .ok (.i2l, 1) := by decide +kernel
theorem dX4_repeat_54 : decode cX4_repeat 54 = .ok (.lload_n 2, 1) := by decide +kernel
theorem dX4_repeat_55 : decode cX4_repeat 55 = .ok (.lmul, 1) := by decide +kernel
theorem dX4_repeat_56 : decode cX4_repeat 56 = .ok (.ladd, 1) := by decide +kernel
theorem dX4_repeat_57 : decode cX4_repeat 57 = .ok (.ladd, 1) := by decide +kernel
theorem dX4_repeat_58 : decode cX4_repeat 58 = .ok (.lastore, 1) := by decide +kernel
theorem dX4_repeat_59 : decode cX4_repeat 59 = .ok (.aload_n 0, 1) := by decide +kernel
theorem dX4_repeat_60 : decode cX4_repeat 60 = .ok (.getfield 15, 3) := by decide +kernel
theorem dX4_repeat_63 : decode cX4_repeat 63 = .ok (.iload 4, 2) := by decide +kernel
theorem dX4_repeat_65 : decode cX4_repeat 65 = .ok (.dup2, 1) := by decide +kernel
theorem dX4_repeat_66 : decode cX4_repeat 66 = .ok (.iaload, 1) := by decide +kernel
theorem dX4_repeat_67 : decode cX4_repeat 67 = .ok (.iload 5, 2) := by decide +kernel
theorem dX4_repeat_69 : decode cX4_repeat 69 = .ok (.iload_n 1, 1) := by decide +kernel
theorem dX4_repeat_70 : decode cX4_repeat 70 = .ok (.imul, 1) := by decide +kernel
theorem dX4_repeat_71 : decode cX4_repeat 71 = .ok (.iadd, 1) := by decide +kernel
theorem dX4_repeat_72 : decode cX4_repeat 72 = .ok (.iastore, 1) := by decide +kernel
theorem dX4_repeat_73 : decode cX4_repeat 73 = .ok (.iinc 4 1, 3) := by decide +kernel
theorem dX4_repeat_76 : decode cX4_repeat 76 = .ok (.goto (-61), 3) := by decide +kernel
theorem dX4_repeat_79 : decode cX4_repeat 79 = .ok (.return_, 1) := by decide +kernel
theorem dX5_init_0 : decode cX5_init 0 = .ok (.aload_n 0, 1) := by decide +kernel
theorem dX5_init_1 : decode cX5_init 1 = .ok (.invokespecial 1, 3) := by decide +kernel
theorem dX5_init_4 : decode cX5_init 4 = .ok (.aload_n 0, 1) := by decide +kernel
theorem dX5_init_5 : decode cX5_init 5 = .ok (.new 7, 3) := by decide +kernel
theorem dX5_init_8 : decode cX5_init 8 = .ok (.dup, 1) := by decide +kernel
theorem dX5_init_9 : decode cX5_init 9 = .ok (.invokespecial 9, 3) := by decide +kernel
theorem dX5_init_12 : decode cX5_init 12 = .ok (.putfield 10, 3) := by decide +kernel
theorem dX5_init_15 : decode cX5_init 15 = .ok (.aload_n 0, 1) := by decide +kernel
theorem dX5_init_16 : decode cX5_init 16 = .ok (.new 7, 3) := by decide +kernel
theorem dX5_init_19 : decode cX5_init 19 = .ok (.dup, 1) := by decide +kernel
theorem dX5_init_20 : decode cX5_init 20 = .ok (.invokespecial 9, 3) := by decide +kernel
theorem dX5_init_23 : decode cX5_init 23 = .ok (.putfield 16, 3) := by decide +kernel
theorem dX5_init_26 : decode cX5_init 26 = .ok (.aload_n 0, 1) := by decide +kernel
theorem dX5_init_27 : decode cX5_init 27 = .ok (.iconst 4, 1) := by decide +kernel
theorem dX5_init_28 : decode cX5_init 28 = .ok (.anewarray 7, 3) := by decide +kernel
theorem dX5_init_31 : decode cX5_init 31 = .ok (.putfield 19, 3) := by decide +kernel
theorem dX5_init_34 : decode cX5_init 34 = .ok (.aload_n 0, 1) := by decide +kernel
theorem dX5_init_35 : decode cX5_init 35 = .ok (.iconst 0, 1) := by decide +kernel
theorem dX5_init_36 : decode cX5_init 36 = .ok (.putfield 23, 3) := by decide +kernel
theorem dX5_init_39 : decode cX5_init 39 = .ok (.return_, 1) := by decide +kernel
theorem dX5_addTank_0 : decode cX5_addTank 0 = .ok (.iload_n 1, 1) := by decide +kernel
theorem dX5_addTank_1 : decode cX5_addTank 1 = .ok (.iconst 1, 1) := by decide +kernel
theorem dX5_addTank_2 : decode cX5_addTank 2 = .ok (.ldc 27, 2) := by decide +kernel
theorem dX5_addTank_4 : decode cX5_addTank 4 = .ok (.invokestatic 28, 3) := by decide +kernel
theorem dX5_addTank_7 : decode cX5_addTank 7 = .ok (.ifCond .ne 13, 3) := by decide +kernel
theorem dX5_addTank_10 : decode cX5_addTank 10 = .ok (.new 32, 3) := by decide +kernel
theorem dX5_addTank_13 : decode cX5_addTank 13 = .ok (.dup, 1) := by decide +kernel
theorem dX5_addTank_14 : decode cX5_addTank 14 = .ok (.ldc 34, 2) := by decide +kernel
theorem dX5_addTank_16 : decode cX5_addTank 16 = .ok (.invokespecial 36, 3) := by decide +kernel
theorem dX5_addTank_19 : decode cX5_addTank 19 = .ok (.athrow, 1) := by decide +kernel
theorem dX5_addTank_20 : decode cX5_addTank 20 = .ok (.iload_n 2, 1) := by decide +kernel
theorem dX5_addTank_21 : decode cX5_addTank 21 = .ok (.iload_n 1, 1) := by decide +kernel
theorem dX5_addTank_22 : decode cX5_addTank 22 = .ok (.invokestatic 39, 3) := by decide +kernel
theorem dX5_addTank_25 : decode cX5_addTank 25 = .ok (.iload_n 3, 1) := by decide +kernel
theorem dX5_addTank_26 : decode cX5_addTank 26 = .ok (.invokestatic 43, 3) := by decide +kernel
theorem dX5_addTank_29 : decode cX5_addTank 29 = .ok (.aload_n 0, 1) := by decide +kernel
theorem dX5_addTank_30 : decode cX5_addTank 30 = .ok (.getfield 10, 3) := by decide +kernel
theorem dX5_addTank_33 : decode cX5_addTank 33 = .ok (.getfield 47, 3) := by decide +kernel
theorem dX5_addTank_36 : decode cX5_addTank 36 = .ok (.getfield 51, 3) := by decide +kernel
theorem dX5_addTank_39 : decode cX5_addTank 39 = .ok (.bipush 8, 2) := by decide +kernel
theorem dX5_addTank_41 : decode cX5_addTank 41 = .ok (.if_icmp .lt 13, 3) := by decide +kernel
theorem dX5_addTank_44 : decode cX5_addTank 44 = .ok (.new 56, 3) := by decide +kernel
theorem dX5_addTank_47 : decode cX5_addTank 47 = .ok (.dup, 1) := by decide +kernel
theorem dX5_addTank_48 : decode cX5_addTank 48 = .ok (.ldc 58, 2) := by decide +kernel
theorem dX5_addTank_50 : decode cX5_addTank 50 = .ok (.invokespecial 60, 3) := by decide +kernel
theorem dX5_addTank_53 : decode cX5_addTank 53 = .ok (.athrow, 1) := by decide +kernel
theorem dX5_addTank_54 : decode cX5_addTank 54 = .ok (.aload_n 0, 1) := by decide +kernel
theorem dX5_addTank_55 : decode cX5_addTank 55 = .ok (.getfield 10, 3) := by decide +kernel
theorem dX5_addTank_58 : decode cX5_addTank 58 = .ok (.getfield 47, 3) := by decide +kernel
theorem dX5_addTank_61 : decode cX5_addTank 61 = .ok (.iload_n 1, 1) := by decide +kernel
theorem dX5_addTank_62 : decode cX5_addTank 62 = .ok (.iload_n 2, 1) := by decide +kernel
theorem dX5_addTank_63 : decode cX5_addTank 63 = .ok (.iload_n 3, 1) := by decide +kernel
theorem dX5_addTank_64 : decode cX5_addTank 64 = .ok (.invokevirtual 61, 3) := by decide +kernel
theorem dX5_addTank_67 : decode cX5_addTank 67 = .ok (.ireturn, 1) := by decide +kernel
theorem dX5_addSwitch_0 : decode cX5_addSwitch 0 = .ok (.aload_n 0, 1) := by decide +kernel
theorem dX5_addSwitch_1 : decode cX5_addSwitch 1 = .ok (.iload_n 1, 1) := by decide +kernel
theorem dX5_addSwitch_2 : decode cX5_addSwitch 2 = .ok (.invokevirtual 65, 3) := by decide +kernel
theorem dX5_addSwitch_5 : decode cX5_addSwitch 5 = .ok (.iload_n 2, 1) := by decide +kernel
theorem dX5_addSwitch_6 : decode cX5_addSwitch 6 = .ok (.ifCond .lt 24, 3) := by decide +kernel
theorem dX5_addSwitch_9 : decode cX5_addSwitch 9 = .ok (.iload_n 2, 1) := by decide +kernel
theorem dX5_addSwitch_10 : decode cX5_addSwitch 10 = .ok (.iload_n 3, 1) := by decide +kernel
theorem dX5_addSwitch_11 : decode cX5_addSwitch 11 = .ok (.if_icmp .ge 19, 3) := by decide +kernel
theorem dX5_addSwitch_14 : decode cX5_addSwitch 14 = .ok (.iload_n 3, 1) := by decide +kernel
theorem dX5_addSwitch_15 : decode cX5_addSwitch 15 = .ok (.aload_n 0, 1) := by decide +kernel
theorem dX5_addSwitch_16 : decode cX5_addSwitch 16 = .ok (.getfield 10, 3) := by decide +kernel
theorem dX5_addSwitch_19 : decode cX5_addSwitch 19 = .ok (.getfield 47, 3) := by decide +kernel
theorem dX5_addSwitch_22 : decode cX5_addSwitch 22 = .ok (.getfield 68, 3) := by decide +kernel
theorem dX5_addSwitch_25 : decode cX5_addSwitch 25 = .ok (.iload_n 1, 1) := by decide +kernel
theorem dX5_addSwitch_26 : decode cX5_addSwitch 26 = .ok (.iaload, 1) := by decide +kernel
theorem dX5_addSwitch_27 : decode cX5_addSwitch 27 = .ok (.if_icmp .le 13, 3) := by decide +kernel
theorem dX5_addSwitch_30 : decode cX5_addSwitch 30 = .ok (.new 32, 3) := by decide +kernel
theorem dX5_addSwitch_33 : decode cX5_addSwitch 33 = .ok (.dup, 1) := by decide +kernel
theorem dX5_addSwitch_34 : decode cX5_addSwitch 34 = .ok (.ldc 72, 2) := by decide +kernel
theorem dX5_addSwitch_36 : decode cX5_addSwitch 36 = .ok (.invokespecial 36, 3) := by decide +kernel
theorem dX5_addSwitch_39 : decode cX5_addSwitch 39 = .ok (.athrow, 1) := by decide +kernel
theorem dX5_addSwitch_40 : decode cX5_addSwitch 40 = .ok (.aload_n 0, 1) := by decide +kernel
theorem dX5_addSwitch_41 : decode cX5_addSwitch 41 = .ok (.getfield 10, 3) := by decide +kernel
theorem dX5_addSwitch_44 : decode cX5_addSwitch 44 = .ok (.getfield 74, 3) := by decide +kernel
theorem dX5_addSwitch_47 : decode cX5_addSwitch 47 = .ok (.getfield 78, 3) := by decide +kernel
theorem dX5_addSwitch_50 : decode cX5_addSwitch 50 = .ok (.bipush 10, 2) := by decide +kernel
theorem dX5_addSwitch_52 : decode cX5_addSwitch 52 = .ok (.if_icmp .lt 13, 3) := by decide +kernel
theorem dX5_addSwitch_55 : decode cX5_addSwitch 55 = .ok (.new 56, 3) := by decide +kernel
theorem dX5_addSwitch_58 : decode cX5_addSwitch 58 = .ok (.dup, 1) := by decide +kernel
theorem dX5_addSwitch_59 : decode cX5_addSwitch 59 = .ok (.ldc 81, 2) := by decide +kernel
theorem dX5_addSwitch_61 : decode cX5_addSwitch 61 = .ok (.invokespecial 60, 3) := by decide +kernel
theorem dX5_addSwitch_64 : decode cX5_addSwitch 64 = .ok (.athrow, 1) := by decide +kernel
theorem dX5_addSwitch_65 : decode cX5_addSwitch 65 = .ok (.aload_n 0, 1) := by decide +kernel
theorem dX5_addSwitch_66 : decode cX5_addSwitch 66 = .ok (.getfield 10, 3) := by decide +kernel
theorem dX5_addSwitch_69 : decode cX5_addSwitch 69 = .ok (.getfield 74, 3) := by decide +kernel
theorem dX5_addSwitch_72 : decode cX5_addSwitch 72 = .ok (.iload_n 1, 1) := by decide +kernel
theorem dX5_addSwitch_73 : decode cX5_addSwitch 73 = .ok (.iload_n 2, 1) := by decide +kernel
theorem dX5_addSwitch_74 : decode cX5_addSwitch 74 = .ok (.iload_n 3, 1) := by decide +kernel
theorem dX5_addSwitch_75 : decode cX5_addSwitch 75 = .ok (.invokevirtual 83, 3) := by decide +kernel
theorem dX5_addSwitch_78 : decode cX5_addSwitch 78 = .ok (.ireturn, 1) := by decide +kernel
theorem dX5_addPump_0 : decode cX5_addPump 0 = .ok (.aload_n 0, 1) := by decide +kernel
theorem dX5_addPump_1 : decode cX5_addPump 1 = .ok (.iload_n 1, 1) := by decide +kernel
theorem dX5_addPump_2 : decode cX5_addPump 2 = .ok (.invokevirtual 84, 3) := by decide +kernel
theorem dX5_addPump_5 : decode cX5_addPump 5 = .ok (.aload_n 0, 1) := by decide +kernel
theorem dX5_addPump_6 : decode cX5_addPump 6 = .ok (.iload_n 2, 1) := by decide +kernel
theorem dX5_addPump_7 : decode cX5_addPump 7 = .ok (.invokevirtual 84, 3) := by decide +kernel
theorem dX5_addPump_10 : decode cX5_addPump 10 = .ok (.iload 5, 2) := by decide +kernel
theorem dX5_addPump_12 : decode cX5_addPump 12 = .ok (.iconst (-1), 1) := by decide +kernel
theorem dX5_addPump_13 : decode cX5_addPump 13 = .ok (.if_icmp .eq 9, 3) := by decide +kernel
theorem dX5_addPump_16 : decode cX5_addPump 16 = .ok (.aload_n 0, 1) := by decide +kernel
theorem dX5_addPump_17 : decode cX5_addPump 17 = .ok (.iload 5, 2) := by decide +kernel
theorem dX5_addPump_19 : decode cX5_addPump 19 = .ok (.invokevirtual 87, 3) := by decide +kernel
theorem dX5_addPump_22 : decode cX5_addPump 22 = .ok (.iload_n 1, 1) := by decide +kernel
theorem dX5_addPump_23 : decode cX5_addPump 23 = .ok (.iload_n 2, 1) := by decide +kernel
theorem dX5_addPump_24 : decode cX5_addPump 24 = .ok (.if_icmp .ne 13, 3) := by decide +kernel
theorem dX5_addPump_27 : decode cX5_addPump 27 = .ok (.new 32, 3) := by decide +kernel
theorem dX5_addPump_30 : decode cX5_addPump 30 = .ok (.dup, 1) := by decide +kernel
theorem dX5_addPump_31 : decode cX5_addPump 31 = .ok (.ldc 90, 2) := by decide +kernel
theorem dX5_addPump_33 : decode cX5_addPump 33 = .ok (.invokespecial 36, 3) := by decide +kernel
theorem dX5_addPump_36 : decode cX5_addPump 36 = .ok (.athrow, 1) := by decide +kernel
theorem dX5_addPump_37 : decode cX5_addPump 37 = .ok (.iload_n 3, 1) := by decide +kernel
theorem dX5_addPump_38 : decode cX5_addPump 38 = .ok (.invokestatic 92, 3) := by decide +kernel
theorem dX5_addPump_41 : decode cX5_addPump 41 = .ok (.iload 4, 2) := by decide +kernel
theorem dX5_addPump_43 : decode cX5_addPump 43 = .ok (.iconst 0, 1) := by decide +kernel
theorem dX5_addPump_44 : decode cX5_addPump 44 = .ok (.bipush 100, 2) := by decide +kernel
theorem dX5_addPump_46 : decode cX5_addPump 46 = .ok (.invokestatic 28, 3) := by decide +kernel
theorem dX5_addPump_49 : decode cX5_addPump 49 = .ok (.ifCond .ne 13, 3) := by decide +kernel
theorem dX5_addPump_52 : decode cX5_addPump 52 = .ok (.new 32, 3) := by decide +kernel
theorem dX5_addPump_55 : decode cX5_addPump 55 = .ok (.dup, 1) := by decide +kernel
theorem dX5_addPump_56 : decode cX5_addPump 56 = .ok (.ldc 95, 2) := by decide +kernel
theorem dX5_addPump_58 : decode cX5_addPump 58 = .ok (.invokespecial 36, 3) := by decide +kernel
theorem dX5_addPump_61 : decode cX5_addPump 61 = .ok (.athrow, 1) := by decide +kernel
theorem dX5_addPump_62 : decode cX5_addPump 62 = .ok (.aload_n 0, 1) := by decide +kernel
theorem dX5_addPump_63 : decode cX5_addPump 63 = .ok (.getfield 10, 3) := by decide +kernel
theorem dX5_addPump_66 : decode cX5_addPump 66 = .ok (.getfield 97, 3) := by decide +kernel
theorem dX5_addPump_69 : decode cX5_addPump 69 = .ok (.getfield 101, 3) := by decide +kernel
theorem dX5_addPump_72 : decode cX5_addPump 72 = .ok (.bipush 16, 2) := by decide +kernel
theorem dX5_addPump_74 : decode cX5_addPump 74 = .ok (.if_icmp .lt 13, 3) := by decide +kernel
theorem dX5_addPump_77 : decode cX5_addPump 77 = .ok (.new 56, 3) := by decide +kernel
theorem dX5_addPump_80 : decode cX5_addPump 80 = .ok (.dup, 1) := by decide +kernel
theorem dX5_addPump_81 : decode cX5_addPump 81 = .ok (.ldc 104, 2) := by decide +kernel
theorem dX5_addPump_83 : decode cX5_addPump 83 = .ok (.invokespecial 60, 3) := by decide +kernel
theorem dX5_addPump_86 : decode cX5_addPump 86 = .ok (.athrow, 1) := by decide +kernel
theorem dX5_addPump_87 : decode cX5_addPump 87 = .ok (.aload_n 0, 1) := by decide +kernel
theorem dX5_addPump_88 : decode cX5_addPump 88 = .ok (.getfield 10, 3) := by decide +kernel
theorem dX5_addPump_91 : decode cX5_addPump 91 = .ok (.getfield 97, 3) := by decide +kernel
theorem dX5_addPump_94 : decode cX5_addPump 94 = .ok (.iload_n 1, 1) := by decide +kernel
theorem dX5_addPump_95 : decode cX5_addPump 95 = .ok (.iload_n 2, 1) := by decide +kernel
theorem dX5_addPump_96 : decode cX5_addPump 96 = .ok (.iload_n 3, 1) := by decide +kernel
theorem dX5_addPump_97 : decode cX5_addPump 97 = .ok (.iload 4, 2) := by decide +kernel
theorem dX5_addPump_99 : decode cX5_addPump 99 = .ok (.iload 5, 2) := by decide +kernel
theorem dX5_addPump_101 : decode cX5_addPump 101 = .ok (.iload 6, 2) := by decide +kernel
theorem dX5_addPump_103 : decode cX5_addPump 103 = .ok (.invokevirtual 106, 3) := by decide +kernel
theorem dX5_addPump_106 : decode cX5_addPump 106 = .ok (.ireturn, 1) := by decide +kernel
theorem dX5_run_0 : decode cX5_run 0 = .ok (.iload_n 1, 1) := by decide +kernel
theorem dX5_run_1 : decode cX5_run 1 = .ok (.iconst 0, 1) := by decide +kernel
theorem dX5_run_2 : decode cX5_run 2 = .ok (.invokestatic 121, 3) := by decide +kernel
theorem dX5_run_5 : decode cX5_run 5 = .ok (.aload_n 0, 1) := by decide +kernel
theorem dX5_run_6 : decode cX5_run 6 = .ok (.getfield 10, 3) := by decide +kernel
theorem dX5_run_9 : decode cX5_run 9 = .ok (.iload_n 1, 1) := by decide +kernel
theorem dX5_run_10 : decode cX5_run 10 = .ok (.invokevirtual 124, 3) := by decide +kernel
theorem dX5_run_13 : decode cX5_run 13 = .ok (.ireturn, 1) := by decide +kernel
theorem dX5_time_0 : decode cX5_time 0 = .ok (.aload_n 0, 1) := by decide +kernel
theorem dX5_time_1 : decode cX5_time 1 = .ok (.getfield 10, 3) := by decide +kernel
theorem dX5_time_4 : decode cX5_time 4 = .ok (.getfield 139, 3) := by decide +kernel
theorem dX5_time_7 : decode cX5_time 7 = .ok (.lreturn, 1) := by decide +kernel
theorem dX5_level_0 : decode cX5_level 0 = .ok (.aload_n 0, 1) := by decide +kernel
theorem dX5_level_1 : decode cX5_level 1 = .ok (.iload_n 1, 1) := by decide +kernel
theorem dX5_level_2 : decode cX5_level 2 = .ok (.invokevirtual 65, 3) := by decide +kernel
theorem dX5_level_5 : decode cX5_level 5 = .ok (.aload_n 0, 1) := by decide +kernel
theorem dX5_level_6 : decode cX5_level 6 = .ok (.getfield 10, 3) := by decide +kernel
theorem dX5_level_9 : decode cX5_level 9 = .ok (.getfield 47, 3) := by decide +kernel
theorem dX5_level_12 : decode cX5_level 12 = .ok (.getfield 109, 3) := by decide +kernel
theorem dX5_level_15 : decode cX5_level 15 = .ok (.iload_n 1, 1) := by decide +kernel
theorem dX5_level_16 : decode cX5_level 16 = .ok (.iaload, 1) := by decide +kernel
theorem dX5_level_17 : decode cX5_level 17 = .ok (.ireturn, 1) := by decide +kernel
theorem dX5_levelSum_0 : decode cX5_levelSum 0 = .ok (.aload_n 0, 1) := by decide +kernel
theorem dX5_levelSum_1 : decode cX5_levelSum 1 = .ok (.iload_n 1, 1) := by decide +kernel
theorem dX5_levelSum_2 : decode cX5_levelSum 2 = .ok (.invokevirtual 65, 3) := by decide +kernel
theorem dX5_levelSum_5 : decode cX5_levelSum 5 = .ok (.aload_n 0, 1) := by decide +kernel
theorem dX5_levelSum_6 : decode cX5_levelSum 6 = .ok (.getfield 10, 3) := by decide +kernel
theorem dX5_levelSum_9 : decode cX5_levelSum 9 = .ok (.getfield 47, 3) := by decide +kernel
theorem dX5_levelSum_12 : decode cX5_levelSum 12 = .ok (.getfield 143, 3) := by decide +kernel
theorem dX5_levelSum_15 : decode cX5_levelSum 15 = .ok (.iload_n 1, 1) := by decide +kernel
theorem dX5_levelSum_16 : decode cX5_levelSum 16 = .ok (.laload, 1) := by decide +kernel
theorem dX5_levelSum_17 : decode cX5_levelSum 17 = .ok (.lreturn, 1) := by decide +kernel
theorem dX5_isOn_0 : decode cX5_isOn 0 = .ok (.aload_n 0, 1) := by decide +kernel
theorem dX5_isOn_1 : decode cX5_isOn 1 = .ok (.iload_n 1, 1) := by decide +kernel
theorem dX5_isOn_2 : decode cX5_isOn 2 = .ok (.invokevirtual 87, 3) := by decide +kernel
theorem dX5_isOn_5 : decode cX5_isOn 5 = .ok (.aload_n 0, 1) := by decide +kernel
theorem dX5_isOn_6 : decode cX5_isOn 6 = .ok (.getfield 10, 3) := by decide +kernel
theorem dX5_isOn_9 : decode cX5_isOn 9 = .ok (.getfield 74, 3) := by decide +kernel
theorem dX5_isOn_12 : decode cX5_isOn 12 = .ok (.getfield 147, 3) := by decide +kernel
theorem dX5_isOn_15 : decode cX5_isOn 15 = .ok (.iload_n 1, 1) := by decide +kernel
theorem dX5_isOn_16 : decode cX5_isOn 16 = .ok (.baload, 1) := by decide +kernel
theorem dX5_isOn_17 : decode cX5_isOn 17 = .ok (.ireturn, 1) := by decide +kernel
theorem dX5_total_0 : decode cX5_total 0 = .ok (.aload_n 0, 1) := by decide +kernel
theorem dX5_total_1 : decode cX5_total 1 = .ok (.iload_n 1, 1) := by decide +kernel
theorem dX5_total_2 : decode cX5_total 2 = .ok (.invokevirtual 115, 3) := by decide +kernel
theorem dX5_total_5 : decode cX5_total 5 = .ok (.aload_n 0, 1) := by decide +kernel
theorem dX5_total_6 : decode cX5_total 6 = .ok (.getfield 10, 3) := by decide +kernel
theorem dX5_total_9 : decode cX5_total 9 = .ok (.getfield 97, 3) := by decide +kernel
theorem dX5_total_12 : decode cX5_total 12 = .ok (.getfield 151, 3) := by decide +kernel
theorem dX5_total_15 : decode cX5_total 15 = .ok (.iload_n 1, 1) := by decide +kernel
theorem dX5_total_16 : decode cX5_total 16 = .ok (.laload, 1) := by decide +kernel
theorem dX5_total_17 : decode cX5_total 17 = .ok (.lreturn, 1) := by decide +kernel
theorem dX5_energy_0 : decode cX5_energy 0 = .ok (.aload_n 0, 1) := by decide +kernel
theorem dX5_energy_1 : decode cX5_energy 1 = .ok (.iload_n 1, 1) := by decide +kernel
theorem dX5_energy_2 : decode cX5_energy 2 = .ok (.invokevirtual 115, 3) := by decide +kernel
theorem dX5_energy_5 : decode cX5_energy 5 = .ok (.aload_n 0, 1) := by decide +kernel
theorem dX5_energy_6 : decode cX5_energy 6 = .ok (.getfield 10, 3) := by decide +kernel
theorem dX5_energy_9 : decode cX5_energy 9 = .ok (.getfield 97, 3) := by decide +kernel
theorem dX5_energy_12 : decode cX5_energy 12 = .ok (.getfield 154, 3) := by decide +kernel
theorem dX5_energy_15 : decode cX5_energy 15 = .ok (.iload_n 1, 1) := by decide +kernel
theorem dX5_energy_16 : decode cX5_energy 16 = .ok (.laload, 1) := by decide +kernel
theorem dX5_energy_17 : decode cX5_energy 17 = .ok (.lreturn, 1) := by decide +kernel
theorem dX5_shortTicks_0 : decode cX5_shortTicks 0 = .ok (.aload_n 0, 1) := by decide +kernel
theorem dX5_shortTicks_1 : decode cX5_shortTicks 1 = .ok (.iload_n 1, 1) := by decide +kernel
theorem dX5_shortTicks_2 : decode cX5_shortTicks 2 = .ok (.invokevirtual 115, 3) := by decide +kernel
theorem dX5_shortTicks_5 : decode cX5_shortTicks 5 = .ok (.aload_n 0, 1) := by decide +kernel
theorem dX5_shortTicks_6 : decode cX5_shortTicks 6 = .ok (.getfield 10, 3) := by decide +kernel
theorem dX5_shortTicks_9 : decode cX5_shortTicks 9 = .ok (.getfield 97, 3) := by decide +kernel
theorem dX5_shortTicks_12 : decode cX5_shortTicks 12 = .ok (.getfield 157, 3) := by decide +kernel
theorem dX5_shortTicks_15 : decode cX5_shortTicks 15 = .ok (.iload_n 1, 1) := by decide +kernel
theorem dX5_shortTicks_16 : decode cX5_shortTicks 16 = .ok (.laload, 1) := by decide +kernel
theorem dX5_shortTicks_17 : decode cX5_shortTicks 17 = .ok (.lreturn, 1) := by decide +kernel
theorem dX5_changeCount_0 : decode cX5_changeCount 0 = .ok (.aload_n 0, 1) := by decide +kernel
theorem dX5_changeCount_1 : decode cX5_changeCount 1 = .ok (.getfield 10, 3) := by decide +kernel
theorem dX5_changeCount_4 : decode cX5_changeCount 4 = .ok (.getfield 167, 3) := by decide +kernel
theorem dX5_changeCount_7 : decode cX5_changeCount 7 = .ok (.getfield 171, 3) := by decide +kernel
theorem dX5_changeCount_10 : decode cX5_changeCount 10 = .ok (.lreturn, 1) := by decide +kernel
theorem dX5_needTank_0 : decode cX5_needTank 0 = .ok (.iload_n 1, 1) := by decide +kernel
theorem dX5_needTank_1 : decode cX5_needTank 1 = .ok (.iconst 0, 1) := by decide +kernel
theorem dX5_needTank_2 : decode cX5_needTank 2 = .ok (.aload_n 0, 1) := by decide +kernel
theorem dX5_needTank_3 : decode cX5_needTank 3 = .ok (.getfield 10, 3) := by decide +kernel
theorem dX5_needTank_6 : decode cX5_needTank 6 = .ok (.getfield 47, 3) := by decide +kernel
theorem dX5_needTank_9 : decode cX5_needTank 9 = .ok (.getfield 51, 3) := by decide +kernel
theorem dX5_needTank_12 : decode cX5_needTank 12 = .ok (.iconst 1, 1) := by decide +kernel
theorem dX5_needTank_13 : decode cX5_needTank 13 = .ok (.isub, 1) := by decide +kernel
theorem dX5_needTank_14 : decode cX5_needTank 14 = .ok (.invokestatic 28, 3) := by decide +kernel
theorem dX5_needTank_17 : decode cX5_needTank 17 = .ok (.ifCond .ne 13, 3) := by decide +kernel
theorem dX5_needTank_20 : decode cX5_needTank 20 = .ok (.new 203, 3) := by decide +kernel
theorem dX5_needTank_23 : decode cX5_needTank 23 = .ok (.dup, 1) := by decide +kernel
theorem dX5_needTank_24 : decode cX5_needTank 24 = .ok (.ldc 205, 2) := by decide +kernel
theorem dX5_needTank_26 : decode cX5_needTank 26 = .ok (.invokespecial 207, 3) := by decide +kernel
theorem dX5_needTank_29 : decode cX5_needTank 29 = .ok (.athrow, 1) := by decide +kernel
theorem dX5_needTank_30 : decode cX5_needTank 30 = .ok (.return_, 1) := by decide +kernel
theorem dX5_needTankOrOutside_0 : decode cX5_needTankOrOutside 0 = .ok (.iload_n 1, 1) := by decide +kernel
theorem dX5_needTankOrOutside_1 : decode cX5_needTankOrOutside 1 = .ok (.iconst (-1), 1) := by decide +kernel
theorem dX5_needTankOrOutside_2 : decode cX5_needTankOrOutside 2 = .ok (.if_icmp .eq 8, 3) := by decide +kernel
theorem dX5_needTankOrOutside_5 : decode cX5_needTankOrOutside 5 = .ok (.aload_n 0, 1) := by decide +kernel
theorem dX5_needTankOrOutside_6 : decode cX5_needTankOrOutside 6 = .ok (.iload_n 1, 1) := by decide +kernel
theorem dX5_needTankOrOutside_7 : decode cX5_needTankOrOutside 7 = .ok (.invokevirtual 65, 3) := by decide +kernel
theorem dX5_needTankOrOutside_10 : decode cX5_needTankOrOutside 10 = .ok (.return_, 1) := by decide +kernel
theorem dX5_needSwitch_0 : decode cX5_needSwitch 0 = .ok (.iload_n 1, 1) := by decide +kernel
theorem dX5_needSwitch_1 : decode cX5_needSwitch 1 = .ok (.iconst 0, 1) := by decide +kernel
theorem dX5_needSwitch_2 : decode cX5_needSwitch 2 = .ok (.aload_n 0, 1) := by decide +kernel
theorem dX5_needSwitch_3 : decode cX5_needSwitch 3 = .ok (.getfield 10, 3) := by decide +kernel
theorem dX5_needSwitch_6 : decode cX5_needSwitch 6 = .ok (.getfield 74, 3) := by decide +kernel
theorem dX5_needSwitch_9 : decode cX5_needSwitch 9 = .ok (.getfield 78, 3) := by decide +kernel
theorem dX5_needSwitch_12 : decode cX5_needSwitch 12 = .ok (.iconst 1, 1) := by decide +kernel
theorem dX5_needSwitch_13 : decode cX5_needSwitch 13 = .ok (.isub, 1) := by decide +kernel
theorem dX5_needSwitch_14 : decode cX5_needSwitch 14 = .ok (.invokestatic 28, 3) := by decide +kernel
theorem dX5_needSwitch_17 : decode cX5_needSwitch 17 = .ok (.ifCond .ne 13, 3) := by decide +kernel
theorem dX5_needSwitch_20 : decode cX5_needSwitch 20 = .ok (.new 203, 3) := by decide +kernel
theorem dX5_needSwitch_23 : decode cX5_needSwitch 23 = .ok (.dup, 1) := by decide +kernel
theorem dX5_needSwitch_24 : decode cX5_needSwitch 24 = .ok (.ldc 208, 2) := by decide +kernel
theorem dX5_needSwitch_26 : decode cX5_needSwitch 26 = .ok (.invokespecial 207, 3) := by decide +kernel
theorem dX5_needSwitch_29 : decode cX5_needSwitch 29 = .ok (.athrow, 1) := by decide +kernel
theorem dX5_needSwitch_30 : decode cX5_needSwitch 30 = .ok (.return_, 1) := by decide +kernel
theorem dX5_needPump_0 : decode cX5_needPump 0 = .ok (.iload_n 1, 1) := by decide +kernel
theorem dX5_needPump_1 : decode cX5_needPump 1 = .ok (.iconst 0, 1) := by decide +kernel
theorem dX5_needPump_2 : decode cX5_needPump 2 = .ok (.aload_n 0, 1) := by decide +kernel
theorem dX5_needPump_3 : decode cX5_needPump 3 = .ok (.getfield 10, 3) := by decide +kernel
theorem dX5_needPump_6 : decode cX5_needPump 6 = .ok (.getfield 97, 3) := by decide +kernel
theorem dX5_needPump_9 : decode cX5_needPump 9 = .ok (.getfield 101, 3) := by decide +kernel
theorem dX5_needPump_12 : decode cX5_needPump 12 = .ok (.iconst 1, 1) := by decide +kernel
theorem dX5_needPump_13 : decode cX5_needPump 13 = .ok (.isub, 1) := by decide +kernel
theorem dX5_needPump_14 : decode cX5_needPump 14 = .ok (.invokestatic 28, 3) := by decide +kernel
theorem dX5_needPump_17 : decode cX5_needPump 17 = .ok (.ifCond .ne 13, 3) := by decide +kernel
theorem dX5_needPump_20 : decode cX5_needPump 20 = .ok (.new 203, 3) := by decide +kernel
theorem dX5_needPump_23 : decode cX5_needPump 23 = .ok (.dup, 1) := by decide +kernel
theorem dX5_needPump_24 : decode cX5_needPump 24 = .ok (.ldc 210, 2) := by decide +kernel
theorem dX5_needPump_26 : decode cX5_needPump 26 = .ok (.invokespecial 207, 3) := by decide +kernel
theorem dX5_needPump_29 : decode cX5_needPump 29 = .ok (.athrow, 1) := by decide +kernel
theorem dX5_needPump_30 : decode cX5_needPump 30 = .ok (.return_, 1) := by decide +kernel
theorem dX5_needAmount_0 : decode cX5_needAmount 0 = .ok (.iload_n 0, 1) := by decide +kernel
theorem dX5_needAmount_1 : decode cX5_needAmount 1 = .ok (.iconst 0, 1) := by decide +kernel
theorem dX5_needAmount_2 : decode cX5_needAmount 2 = .ok (.iload_n 1, 1) := by decide +kernel
theorem dX5_needAmount_3 : decode cX5_needAmount 3 = .ok (.invokestatic 28, 3) := by decide +kernel
theorem dX5_needAmount_6 : decode cX5_needAmount 6 = .ok (.ifCond .ne 13, 3) := by decide +kernel
theorem dX5_needAmount_9 : decode cX5_needAmount 9 = .ok (.new 32, 3) := by decide +kernel
theorem dX5_needAmount_12 : decode cX5_needAmount 12 = .ok (.dup, 1) := by decide +kernel
theorem dX5_needAmount_13 : decode cX5_needAmount 13 = .ok (.ldc 218, 2) := by decide +kernel
theorem dX5_needAmount_15 : decode cX5_needAmount 15 = .ok (.invokespecial 36, 3) := by decide +kernel
theorem dX5_needAmount_18 : decode cX5_needAmount 18 = .ok (.athrow, 1) := by decide +kernel
theorem dX5_needAmount_19 : decode cX5_needAmount 19 = .ok (.return_, 1) := by decide +kernel
theorem dX5_needLeak_0 : decode cX5_needLeak 0 = .ok (.iload_n 0, 1) := by decide +kernel
theorem dX5_needLeak_1 : decode cX5_needLeak 1 = .ok (.iconst 0, 1) := by decide +kernel
theorem dX5_needLeak_2 : decode cX5_needLeak 2 = .ok (.ldc 220, 2) := by decide +kernel
theorem dX5_needLeak_4 : decode cX5_needLeak 4 = .ok (.invokestatic 28, 3) := by decide +kernel
theorem dX5_needLeak_7 : decode cX5_needLeak 7 = .ok (.ifCond .ne 13, 3) := by decide +kernel
theorem dX5_needLeak_10 : decode cX5_needLeak 10 = .ok (.new 32, 3) := by decide +kernel
theorem dX5_needLeak_13 : decode cX5_needLeak 13 = .ok (.dup, 1) := by decide +kernel
theorem dX5_needLeak_14 : decode cX5_needLeak 14 = .ok (.ldc 221, 2) := by decide +kernel
theorem dX5_needLeak_16 : decode cX5_needLeak 16 = .ok (.invokespecial 36, 3) := by decide +kernel
theorem dX5_needLeak_19 : decode cX5_needLeak 19 = .ok (.athrow, 1) := by decide +kernel
theorem dX5_needLeak_20 : decode cX5_needLeak 20 = .ok (.return_, 1) := by decide +kernel
theorem dX5_needRate_0 : decode cX5_needRate 0 = .ok (.iload_n 0, 1) := by decide +kernel
theorem dX5_needRate_1 : decode cX5_needRate 1 = .ok (.iconst 1, 1) := by decide +kernel
theorem dX5_needRate_2 : decode cX5_needRate 2 = .ok (.ldc 220, 2) := by decide +kernel
theorem dX5_needRate_4 : decode cX5_needRate 4 = .ok (.invokestatic 28, 3) := by decide +kernel
theorem dX5_needRate_7 : decode cX5_needRate 7 = .ok (.ifCond .ne 13, 3) := by decide +kernel
theorem dX5_needRate_10 : decode cX5_needRate 10 = .ok (.new 32, 3) := by decide +kernel
theorem dX5_needRate_13 : decode cX5_needRate 13 = .ok (.dup, 1) := by decide +kernel
theorem dX5_needRate_14 : decode cX5_needRate 14 = .ok (.ldc 223, 2) := by decide +kernel
theorem dX5_needRate_16 : decode cX5_needRate 16 = .ok (.invokespecial 36, 3) := by decide +kernel
theorem dX5_needRate_19 : decode cX5_needRate 19 = .ok (.athrow, 1) := by decide +kernel
theorem dX5_needRate_20 : decode cX5_needRate 20 = .ok (.return_, 1) := by decide +kernel
theorem dX5_needTicks_0 : decode cX5_needTicks 0 = .ok (.iload_n 0, 1) := by decide +kernel
theorem dX5_needTicks_1 : decode cX5_needTicks 1 = .ok (.iload_n 1, 1) := by decide +kernel
theorem dX5_needTicks_2 : decode cX5_needTicks 2 = .ok (.sipush 5000, 3) := by decide +kernel
theorem dX5_needTicks_5 : decode cX5_needTicks 5 = .ok (.invokestatic 28, 3) := by decide +kernel
theorem dX5_needTicks_8 : decode cX5_needTicks 8 = .ok (.ifCond .ne 13, 3) := by decide +kernel
theorem dX5_needTicks_11 : decode cX5_needTicks 11 = .ok (.new 32, 3) := by decide +kernel
theorem dX5_needTicks_14 : decode cX5_needTicks 14 = .ok (.dup, 1) := by decide +kernel
theorem dX5_needTicks_15 : decode cX5_needTicks 15 = .ok (.ldc 225, 2) := by decide +kernel
theorem dX5_needTicks_17 : decode cX5_needTicks 17 = .ok (.invokespecial 36, 3) := by decide +kernel
theorem dX5_needTicks_20 : decode cX5_needTicks 20 = .ok (.athrow, 1) := by decide +kernel
theorem dX5_needTicks_21 : decode cX5_needTicks 21 = .ok (.return_, 1) := by decide +kernel
theorem dX5_isWithin_0 : decode cX5_isWithin 0 = .ok (.iload_n 0, 1) := by decide +kernel
theorem dX5_isWithin_1 : decode cX5_isWithin 1 = .ok (.iload_n 1, 1) := by decide +kernel
theorem dX5_isWithin_2 : decode cX5_isWithin 2 = .ok (.if_icmp .lt 12, 3) := by decide +kernel
theorem dX5_isWithin_5 : decode cX5_isWithin 5 = .ok (.iload_n 0, 1) := by decide +kernel
theorem dX5_isWithin_6 : decode cX5_isWithin 6 = .ok (.iload_n 2, 1) := by decide +kernel
theorem dX5_isWithin_7 : decode cX5_isWithin 7 = .ok (.if_icmp .gt 7, 3) := by decide +kernel
theorem dX5_isWithin_10 : decode cX5_isWithin 10 = .ok (.iconst 1, 1) := by decide +kernel
theorem dX5_isWithin_11 : decode cX5_isWithin 11 = .ok (.goto 4, 3) := by decide +kernel
theorem dX5_isWithin_14 : decode cX5_isWithin 14 = .ok (.iconst 0, 1) := by decide +kernel
theorem dX5_isWithin_15 : decode cX5_isWithin 15 = .ok (.ireturn, 1) := by decide +kernel
theorem dX5_ticksWhile_0 : decode cX5_ticksWhile 0 = .ok (.lload_n 0, 1) := by decide +kernel
theorem dX5_ticksWhile_1 : decode cX5_ticksWhile 1 = .ok (.lconst 0, 1) := by decide +kernel
theorem dX5_ticksWhile_2 : decode cX5_ticksWhile 2 = .ok (.lcmp, 1) := by decide +kernel
theorem dX5_ticksWhile_3 : decode cX5_ticksWhile 3 = .ok (.ifCond .ge 5, 3) := by decide +kernel
theorem dX5_ticksWhile_6 : decode cX5_ticksWhile 6 = .ok (.iconst 0, 1) := by decide +kernel
theorem dX5_ticksWhile_7 : decode cX5_ticksWhile 7 = .ok (.ireturn, 1) := by decide +kernel
theorem dX5_ticksWhile_8 : decode cX5_ticksWhile 8 = .ok (.lload_n 2, 1) := by decide +kernel
theorem dX5_ticksWhile_9 : decode cX5_ticksWhile 9 = .ok (.lconst 0, 1) := by decide +kernel
theorem dX5_ticksWhile_10 : decode cX5_ticksWhile 10 = .ok (.lcmp, 1) := by decide +kernel
theorem dX5_ticksWhile_11 : decode cX5_ticksWhile 11 = .ok (.ifCond .lt 6, 3) := by decide +kernel
theorem dX5_ticksWhile_14 : decode cX5_ticksWhile 14 = .ok (.iload 4, 2) := by decide +kernel
theorem dX5_ticksWhile_16 : decode cX5_ticksWhile 16 = .ok (.ireturn, 1) := by decide +kernel
theorem dX5_ticksWhile_17 : decode cX5_ticksWhile 17 = .ok (.iload 4, 2) := by decide +kernel
theorem dX5_ticksWhile_19 : decode cX5_ticksWhile 19 = .ok (.i2l, 1) := by decide +kernel
theorem dX5_ticksWhile_20 : decode cX5_ticksWhile 20 = .ok (.lload_n 0, 1) := by decide +kernel
theorem dX5_ticksWhile_21 : decode cX5_ticksWhile 21 = .ok (.lload_n 2, 1) := by decide +kernel
theorem dX5_ticksWhile_22 : decode cX5_ticksWhile 22 = .ok (.lneg, 1) := by decide +kernel
theorem dX5_ticksWhile_23 : decode cX5_ticksWhile 23 = .ok (.ldiv, 1) := by decide +kernel
theorem dX5_ticksWhile_24 : decode cX5_ticksWhile 24 = .ok (.invokestatic 229, 3) := by decide +kernel
theorem dX5_ticksWhile_27 : decode cX5_ticksWhile 27 = .ok (.l2i, 1) := by decide +kernel
theorem dX5_ticksWhile_28 : decode cX5_ticksWhile 28 = .ok (.ireturn, 1) := by decide +kernel
end
section
theorem dJ9_max_7cf53_0 : decode cJ9_max_7cf53 0 = .ok (.iload_n 0, 1) := by decide +kernel
theorem dJ9_max_7cf53_1 : decode cJ9_max_7cf53 1 = .ok (.iload_n 1, 1) := by decide +kernel
theorem dJ9_max_7cf53_2 : decode cJ9_max_7cf53 2 = .ok (.if_icmp .lt 7, 3) := by decide +kernel
theorem dJ9_max_7cf53_5 : decode cJ9_max_7cf53 5 = .ok (.iload_n 0, 1) := by decide +kernel
theorem dJ9_max_7cf53_6 : decode cJ9_max_7cf53 6 = .ok (.goto 4, 3) := by decide +kernel
theorem dJ9_max_7cf53_9 : decode cJ9_max_7cf53 9 = .ok (.iload_n 1, 1) := by decide +kernel
theorem dJ9_max_7cf53_10 : decode cJ9_max_7cf53 10 = .ok (.ireturn, 1) := by decide +kernel
theorem dJ9_min_7cf53_0 : decode cJ9_min_7cf53 0 = .ok (.iload_n 0, 1) := by decide +kernel
theorem dJ9_min_7cf53_1 : decode cJ9_min_7cf53 1 = .ok (.iload_n 1, 1) := by decide +kernel
theorem dJ9_min_7cf53_2 : decode cJ9_min_7cf53 2 = .ok (.if_icmp .gt 7, 3) := by decide +kernel
theorem dJ9_min_7cf53_5 : decode cJ9_min_7cf53 5 = .ok (.iload_n 0, 1) := by decide +kernel
theorem dJ9_min_7cf53_6 : decode cJ9_min_7cf53 6 = .ok (.goto 4, 3) := by decide +kernel
theorem dJ9_min_7cf53_9 : decode cJ9_min_7cf53 9 = .ok (.iload_n 1, 1) := by decide +kernel
theorem dJ9_min_7cf53_10 : decode cJ9_min_7cf53 10 = .ok (.ireturn, 1) := by decide +kernel
theorem dJ9_min_f86c9_0 : decode cJ9_min_f86c9 0 = .ok (.lload_n 0, 1) := by decide +kernel
theorem dJ9_min_f86c9_1 : decode cJ9_min_f86c9 1 = .ok (.lload_n 2, 1) := by decide +kernel
theorem dJ9_min_f86c9_2 : decode cJ9_min_f86c9 2 = .ok (.lcmp, 1) := by decide +kernel
theorem dJ9_min_f86c9_3 : decode cJ9_min_f86c9 3 = .ok (.ifCond .gt 7, 3) := by decide +kernel
theorem dJ9_min_f86c9_6 : decode cJ9_min_f86c9 6 = .ok (.lload_n 0, 1) := by decide +kernel
theorem dJ9_min_f86c9_7 : decode cJ9_min_f86c9 7 = .ok (.goto 4, 3) := by decide +kernel
theorem dJ9_min_f86c9_10 : decode cJ9_min_f86c9 10 = .ok (.lload_n 2, 1) := by decide +kernel
theorem dJ9_min_f86c9_11 : decode cJ9_min_f86c9 11 = .ok (.lreturn, 1) := by decide +kernel
theorem dL_below_0 : decode cL_below 0 = .ok (.iload_n 0, 1) := by decide +kernel
theorem dL_below_1 : decode cL_below 1 = .ok (.ldc 7, 2) := by decide +kernel
theorem dL_below_3 : decode cL_below 3 = .ok (.iand, 1) := by decide +kernel
theorem dL_below_4 : decode cL_below 4 = .ok (.iload_n 1, 1) := by decide +kernel
theorem dL_below_5 : decode cL_below 5 = .ok (.irem, 1) := by decide +kernel
theorem dL_below_6 : decode cL_below 6 = .ok (.ireturn, 1) := by decide +kernel
theorem dL_cell_0 : decode cL_cell 0 = .ok (.iload_n 1, 1) := by decide +kernel
theorem dL_cell_1 : decode cL_cell 1 = .ok (.aload_n 0, 1) := by decide +kernel
theorem dL_cell_2 : decode cL_cell 2 = .ok (.arraylength, 1) := by decide +kernel
theorem dL_cell_3 : decode cL_cell 3 = .ok (.if_icmp .ge 9, 3) := by decide +kernel
theorem dL_cell_6 : decode cL_cell 6 = .ok (.aload_n 0, 1) := by decide +kernel
theorem dL_cell_7 : decode cL_cell 7 = .ok (.iload_n 1, 1) := by decide +kernel
theorem dL_cell_8 : decode cL_cell 8 = .ok (.iaload, 1) := by decide +kernel
theorem dL_cell_9 : decode cL_cell 9 = .ok (.goto 9, 3) := by decide +kernel
theorem dL_cell_12 : decode cL_cell 12 = .ok (.ldc 8, 2) := by decide +kernel
theorem dL_cell_14 : decode cL_cell 14 = .ok (.iload_n 1, 1) := by decide +kernel
theorem dL_cell_15 : decode cL_cell 15 = .ok (.iconst 3, 1) := by decide +kernel
theorem dL_cell_16 : decode cL_cell 16 = .ok (.iadd, 1) := by decide +kernel
theorem dL_cell_17 : decode cL_cell 17 = .ok (.imul, 1) := by decide +kernel
theorem dL_cell_18 : decode cL_cell 18 = .ok (.ireturn, 1) := by decide +kernel
theorem dL_law_0 : decode cL_law 0 = .ok (.new 9, 3) := by decide +kernel
theorem dL_law_3 : decode cL_law 3 = .ok (.dup, 1) := by decide +kernel
theorem dL_law_4 : decode cL_law 4 = .ok (.invokespecial 11, 3) := by decide +kernel
theorem dL_law_7 : decode cL_law 7 = .ok (.astore_n 1, 1) := by decide +kernel
theorem dL_law_8 : decode cL_law 8 = .ok (.iconst 3, 1) := by decide +kernel
theorem dL_law_9 : decode cL_law 9 = .ok (.newarray .int, 2) := by decide +kernel
theorem dL_law_11 : decode cL_law 11 = .ok (.astore_n 2, 1) := by decide +kernel
theorem dL_law_12 : decode cL_law 12 = .ok (.iconst 3, 1) := by decide +kernel
theorem dL_law_13 : decode cL_law 13 = .ok (.newarray .int, 2) := by decide +kernel
theorem dL_law_15 : decode cL_law 15 = .ok (.astore_n 3, 1) := by decide +kernel
theorem dL_law_16 : decode cL_law 16 = .ok (.iconst 3, 1) := by decide +kernel
theorem dL_law_17 : decode cL_law 17 = .ok (.newarray .int, 2) := by decide +kernel
theorem dL_law_19 : decode cL_law 19 = .ok (.astore 4, 2) := by decide +kernel
theorem dL_law_21 : decode cL_law 21 = .ok (.iconst 3, 1) := by decide +kernel
theorem dL_law_22 : decode cL_law 22 = .ok (.newarray .long, 2) := by decide +kernel
theorem dL_law_24 : decode cL_law 24 = .ok (.astore 5, 2) := by decide +kernel
theorem dL_law_26 : decode cL_law 26 = .ok (.iconst 0, 1) := by decide +kernel
theorem dL_law_27 : decode cL_law 27 = .ok (.istore 6, 2) := by decide +kernel
theorem dL_law_29 : decode cL_law 29 = .ok (.iload 6, 2) := by decide +kernel
theorem dL_law_31 : decode cL_law 31 = .ok (.iconst 3, 1) := by decide +kernel
theorem dL_law_32 : decode cL_law 32 = .ok (.if_icmp .ge 88, 3) := by decide +kernel
theorem dL_law_35 : decode cL_law 35 = .ok (.aload_n 0, 1) := by decide +kernel
theorem dL_law_36 : decode cL_law 36 = .ok (.iload 6, 2) := by decide +kernel
theorem dL_law_38 : decode cL_law 38 = .ok (.invokestatic 12, 3) := by decide +kernel
theorem dL_law_41 : decode cL_law 41 = .ok (.istore 7, 2) := by decide +kernel
theorem dL_law_43 : decode cL_law 43 = .ok (.aload_n 2, 1) := by decide +kernel
theorem dL_law_44 : decode cL_law 44 = .ok (.iload 6, 2) := by decide +kernel
theorem dL_law_46 : decode cL_law 46 = .ok (.bipush 10, 2) := by decide +kernel
theorem dL_law_48 : decode cL_law 48 = .ok (.iload 7, 2) := by decide +kernel
theorem dL_law_50 : decode cL_law 50 = .ok (.sipush 500, 3) := by decide +kernel
theorem dL_law_53 : decode cL_law 53 = .ok (.invokestatic 18, 3) := by decide +kernel
theorem dL_law_56 : decode cL_law 56 = .ok (.iadd, 1) := by decide +kernel
theorem dL_law_57 : decode cL_law 57 = .ok (.iastore, 1) := by decide +kernel
theorem dL_law_58 : decode cL_law 58 = .ok (.aload_n 3, 1) := by decide +kernel
theorem dL_law_59 : decode cL_law 59 = .ok (.iload 6, 2) := by decide +kernel
theorem dL_law_61 : decode cL_law 61 = .ok (.iload 7, 2) := by decide +kernel
theorem dL_law_63 : decode cL_law 63 = .ok (.bipush 9, 2) := by decide +kernel
theorem dL_law_65 : decode cL_law 65 = .ok (.ishr, 1) := by decide +kernel
theorem dL_law_66 : decode cL_law 66 = .ok (.aload_n 2, 1) := by decide +kernel
theorem dL_law_67 : decode cL_law 67 = .ok (.iload 6, 2) := by decide +kernel
theorem dL_law_69 : decode cL_law 69 = .ok (.iaload, 1) := by decide +kernel
theorem dL_law_70 : decode cL_law 70 = .ok (.iconst 1, 1) := by decide +kernel
theorem dL_law_71 : decode cL_law 71 = .ok (.iadd, 1) := by decide +kernel
theorem dL_law_72 : decode cL_law 72 = .ok (.invokestatic 18, 3) := by decide +kernel
theorem dL_law_75 : decode cL_law 75 = .ok (.iastore, 1) := by decide +kernel
theorem dL_law_76 : decode cL_law 76 = .ok (.aload 4, 2) := by decide +kernel
theorem dL_law_78 : decode cL_law 78 = .ok (.iload 6, 2) := by decide +kernel
theorem dL_law_80 : decode cL_law 80 = .ok (.iload 7, 2) := by decide +kernel
theorem dL_law_82 : decode cL_law 82 = .ok (.bipush 18, 2) := by decide +kernel
theorem dL_law_84 : decode cL_law 84 = .ok (.ishr, 1) := by decide +kernel
theorem dL_law_85 : decode cL_law 85 = .ok (.iconst 4, 1) := by decide +kernel
theorem dL_law_86 : decode cL_law 86 = .ok (.invokestatic 18, 3) := by decide +kernel
theorem dL_law_89 : decode cL_law 89 = .ok (.iastore, 1) := by decide +kernel
theorem dL_law_90 : decode cL_law 90 = .ok (.aload_n 1, 1) := by decide +kernel
theorem dL_law_91 : decode cL_law 91 = .ok (.aload_n 2, 1) := by decide +kernel
theorem dL_law_92 : decode cL_law 92 = .ok (.iload 6, 2) := by decide +kernel
theorem dL_law_94 : decode cL_law 94 = .ok (.iaload, 1) := by decide +kernel
theorem dL_law_95 : decode cL_law 95 = .ok (.aload_n 3, 1) := by decide +kernel
theorem dL_law_96 : decode cL_law 96 = .ok (.iload 6, 2) := by decide +kernel
theorem dL_law_98 : decode cL_law 98 = .ok (.iaload, 1) := by decide +kernel
theorem dL_law_99 : decode cL_law 99 = .ok (.aload 4, 2) := by decide +kernel
theorem dL_law_101 : decode cL_law 101 = .ok (.iload 6, 2) := by decide +kernel
theorem dL_law_103 : decode cL_law 103 = .ok (.iaload, 1) := by decide +kernel
theorem dL_law_104 : decode cL_law 104 = .ok (.invokevirtual 22, 3) := by decide +kernel
theorem dL_law_107 : decode cL_law 107 = .ok (.iload 6, 2) := by decide +kernel
theorem dL_law_109 : decode cL_law 109 = .ok (.if_icmp .eq 5, 3) := by decide +kernel
theorem dL_law_112 : decode cL_law 112 = .ok (.iconst 0, 1) := by decide +kernel
theorem dL_law_113 : decode cL_law 113 = .ok (.ireturn, 1) := by decide +kernel
theorem dL_law_114 : decode cL_law 114 = .ok (.iinc 6 1, 3) := by decide +kernel
theorem dL_law_117 : decode cL_law 117 = .ok (.goto (-88), 3) := by decide +kernel
theorem dL_law_120 : decode cL_law 120 = .ok (.iconst 2, 1) := by decide +kernel
theorem dL_law_121 : decode cL_law 121 = .ok (.newarray .int, 2) := by decide +kernel
theorem dL_law_123 : decode cL_law 123 = .ok (.astore 6, 2) := by decide +kernel
theorem dL_law_125 : decode cL_law 125 = .ok (.iconst 2, 1) := by decide +kernel
theorem dL_law_126 : decode cL_law 126 = .ok (.newarray .int, 2) := by decide +kernel
theorem dL_law_128 : decode cL_law 128 = .ok (.astore 7, 2) := by decide +kernel
theorem dL_law_130 : decode cL_law 130 = .ok (.iconst 2, 1) := by decide +kernel
theorem dL_law_131 : decode cL_law 131 = .ok (.newarray .int, 2) := by decide +kernel
theorem dL_law_133 : decode cL_law 133 = .ok (.astore 8, 2) := by decide +kernel
theorem dL_law_135 : decode cL_law 135 = .ok (.iconst 2, 1) := by decide +kernel
theorem dL_law_136 : decode cL_law 136 = .ok (.newarray .boolean, 2) := by decide +kernel
theorem dL_law_138 : decode cL_law 138 = .ok (.astore 9, 2) := by decide +kernel
theorem dL_law_140 : decode cL_law 140 = .ok (.iconst 0, 1) := by decide +kernel
theorem dL_law_141 : decode cL_law 141 = .ok (.istore 10, 2) := by decide +kernel
theorem dL_law_143 : decode cL_law 143 = .ok (.iload 10, 2) := by decide +kernel
theorem dL_law_145 : decode cL_law 145 = .ok (.iconst 2, 1) := by decide +kernel
theorem dL_law_146 : decode cL_law 146 = .ok (.if_icmp .ge 103, 3) := by decide +kernel
theorem dL_law_149 : decode cL_law 149 = .ok (.aload_n 0, 1) := by decide +kernel
theorem dL_law_150 : decode cL_law 150 = .ok (.iconst 3, 1) := by decide +kernel
theorem dL_law_151 : decode cL_law 151 = .ok (.iload 10, 2) := by decide +kernel
theorem dL_law_153 : decode cL_law 153 = .ok (.iadd, 1) := by decide +kernel
theorem dL_law_154 : decode cL_law 154 = .ok (.invokestatic 12, 3) := by decide +kernel
theorem dL_law_157 : decode cL_law 157 = .ok (.istore 11, 2) := by decide +kernel
theorem dL_law_159 : decode cL_law 159 = .ok (.aload 6, 2) := by decide +kernel
theorem dL_law_161 : decode cL_law 161 = .ok (.iload 10, 2) := by decide +kernel
theorem dL_law_163 : decode cL_law 163 = .ok (.iload 11, 2) := by decide +kernel
theorem dL_law_165 : decode cL_law 165 = .ok (.iconst 3, 1) := by decide +kernel
theorem dL_law_166 : decode cL_law 166 = .ok (.invokestatic 18, 3) := by decide +kernel
theorem dL_law_169 : decode cL_law 169 = .ok (.iastore, 1) := by decide +kernel
theorem dL_law_170 : decode cL_law 170 = .ok (.aload 7, 2) := by decide +kernel
theorem dL_law_172 : decode cL_law 172 = .ok (.iload 10, 2) := by decide +kernel
theorem dL_law_174 : decode cL_law 174 = .ok (.iload 11, 2) := by decide +kernel
theorem dL_law_176 : decode cL_law 176 = .ok (.iconst 2, 1) := by decide +kernel
theorem dL_law_177 : decode cL_law 177 = .ok (.ishr, 1) := by decide +kernel
theorem dL_law_178 : decode cL_law 178 = .ok (.bipush 6, 2) := by decide +kernel
theorem dL_law_180 : decode cL_law 180 = .ok (.invokestatic 18, 3) := by decide +kernel
theorem dL_law_183 : decode cL_law 183 = .ok (.iastore, 1) := by decide +kernel
theorem dL_law_184 : decode cL_law 184 = .ok (.aload 8, 2) := by decide +kernel
theorem dL_law_186 : decode cL_law 186 = .ok (.iload 10, 2) := by decide +kernel
theorem dL_law_188 : decode cL_law 188 = .ok (.aload 7, 2) := by decide +kernel
theorem dL_law_190 : decode cL_law 190 = .ok (.iload 10, 2) := by decide +kernel
theorem dL_law_192 : decode cL_law 192 = .ok (.iaload, 1) := by decide +kernel
theorem dL_law_193 : decode cL_law 193 = .ok (.iconst 1, 1) := by decide +kernel
theorem dL_law_194 : decode cL_law 194 = .ok (.iadd, 1) := by decide +kernel
theorem dL_law_195 : decode cL_law 195 = .ok (.iload 11, 2) := by decide +kernel
theorem dL_law_197 : decode cL_law 197 = .ok (.iconst 5, 1) := by decide +kernel
theorem dL_law_198 : decode cL_law 198 = .ok (.ishr, 1) := by decide +kernel
theorem dL_law_199 : decode cL_law 199 = .ok (.aload_n 2, 1) := by decide +kernel
theorem dL_law_200 : decode cL_law 200 = .ok (.aload 6, 2) := by decide +kernel
theorem dL_law_202 : decode cL_law 202 = .ok (.iload 10, 2) := by decide +kernel
theorem dL_law_204 : decode cL_law 204 = .ok (.iaload, 1) := by decide +kernel
theorem dL_law_205 : decode cL_law 205 = .ok (.iaload, 1) := by decide +kernel
theorem dL_law_206 : decode cL_law 206 = .ok (.aload 7, 2) := by decide +kernel
theorem dL_law_208 : decode cL_law 208 = .ok (.iload 10, 2) := by decide +kernel
theorem dL_law_210 : decode cL_law 210 = .ok (.iaload, 1) := by decide +kernel
theorem dL_law_211 : decode cL_law 211 = .ok (.isub, 1) := by decide +kernel
theorem dL_law_212 : decode cL_law 212 = .ok (.invokestatic 18, 3) := by decide +kernel
theorem dL_law_215 : decode cL_law 215 = .ok (.iadd, 1) := by decide +kernel
theorem dL_law_216 : decode cL_law 216 = .ok (.iastore, 1) := by decide +kernel
theorem dL_law_217 : decode cL_law 217 = .ok (.aload_n 1, 1) := by decide +kernel
theorem dL_law_218 : decode cL_law 218 = .ok (.aload 6, 2) := by decide +kernel
theorem dL_law_220 : decode cL_law 220 = .ok (.iload 10, 2) := by decide +kernel
theorem dL_law_222 : decode cL_law 222 = .ok (.iaload, 1) := by decide +kernel
theorem dL_law_223 : decode cL_law 223 = .ok (.aload 7, 2) := by decide +kernel
theorem dL_law_225 : decode cL_law 225 = .ok (.iload 10, 2) := by decide +kernel
theorem dL_law_227 : decode cL_law 227 = .ok (.iaload, 1) := by decide +kernel
theorem dL_law_228 : decode cL_law 228 = .ok (.aload 8, 2) := by decide +kernel
theorem dL_law_230 : decode cL_law 230 = .ok (.iload 10, 2) := by decide +kernel
theorem dL_law_232 : decode cL_law 232 = .ok (.iaload, 1) := by decide +kernel
theorem dL_law_233 : decode cL_law 233 = .ok (.invokevirtual 26, 3) := by decide +kernel
theorem dL_law_236 : decode cL_law 236 = .ok (.iload 10, 2) := by decide +kernel
theorem dL_law_238 : decode cL_law 238 = .ok (.if_icmp .eq 5, 3) := by decide +kernel
theorem dL_law_241 : decode cL_law 241 = .ok (.iconst 0, 1) := by decide +kernel
theorem dL_law_242 : decode cL_law 242 = .ok (.ireturn, 1) := by decide +kernel
theorem dL_law_243 : decode cL_law 243 = .ok (.iinc 10 1, 3) := by decide +kernel
theorem dL_law_246 : decode cL_law 246 = .ok (.goto (-103), 3) := by decide +kernel
theorem dL_law_249 : decode cL_law 249 = .ok (.iconst 4, 1) := by decide +kernel
theorem dL_law_250 : decode cL_law 250 = .ok (.newarray .int, 2) := by decide +kernel
theorem dL_law_252 : decode cL_law 252 = .ok (.astore 10, 2) := by decide +kernel
theorem dL_law_254 : decode cL_law 254 = .ok (.iconst 4, 1) := by decide +kernel
theorem dL_law_255 : decode cL_law 255 = .ok (.newarray .int, 2) := by decide +kernel
theorem dL_law_257 : decode cL_law 257 = .ok (.astore 11, 2) := by decide +kernel
theorem dL_law_259 : decode cL_law 259 = .ok (.iconst 4, 1) := by decide +kernel
theorem dL_law_260 : decode cL_law 260 = .ok (.newarray .int, 2) := by decide +kernel
theorem dL_law_262 : decode cL_law 262 = .ok (.astore 12, 2) := by decide +kernel
theorem dL_law_264 : decode cL_law 264 = .ok (.iconst 4, 1) := by decide +kernel
theorem dL_law_265 : decode cL_law 265 = .ok (.newarray .int, 2) := by decide +kernel
theorem dL_law_267 : decode cL_law 267 = .ok (.astore 13, 2) := by decide +kernel
theorem dL_law_269 : decode cL_law 269 = .ok (.iconst 4, 1) := by decide +kernel
theorem dL_law_270 : decode cL_law 270 = .ok (.newarray .boolean, 2) := by decide +kernel
theorem dL_law_272 : decode cL_law 272 = .ok (.astore 14, 2) := by decide +kernel
theorem dL_law_274 : decode cL_law 274 = .ok (.iconst 4, 1) := by decide +kernel
theorem dL_law_275 : decode cL_law 275 = .ok (.newarray .long, 2) := by decide +kernel
theorem dL_law_277 : decode cL_law 277 = .ok (.astore 15, 2) := by decide +kernel
theorem dL_law_279 : decode cL_law 279 = .ok (.iconst 4, 1) := by decide +kernel
theorem dL_law_280 : decode cL_law 280 = .ok (.newarray .long, 2) := by decide +kernel
theorem dL_law_282 : decode cL_law 282 = .ok (.astore 16, 2) := by decide +kernel
theorem dL_law_284 : decode cL_law 284 = .ok (.iconst 0, 1) := by decide +kernel
theorem dL_law_285 : decode cL_law 285 = .ok (.istore 17, 2) := by decide +kernel
theorem dL_law_287 : decode cL_law 287 = .ok (.iload 17, 2) := by decide +kernel
theorem dL_law_289 : decode cL_law 289 = .ok (.iconst 4, 1) := by decide +kernel
theorem dL_law_290 : decode cL_law 290 = .ok (.if_icmp .ge 147, 3) := by decide +kernel
theorem dL_law_293 : decode cL_law 293 = .ok (.aload_n 0, 1) := by decide +kernel
theorem dL_law_294 : decode cL_law 294 = .ok (.iconst 5, 1) := by decide +kernel
theorem dL_law_295 : decode cL_law 295 = .ok (.iload 17, 2) := by decide +kernel
theorem dL_law_297 : decode cL_law 297 = .ok (.iadd, 1) := by decide +kernel
theorem dL_law_298 : decode cL_law 298 = .ok (.invokestatic 12, 3) := by decide +kernel
theorem dL_law_301 : decode cL_law 301 = .ok (.istore 18, 2) := by decide +kernel
theorem dL_law_303 : decode cL_law 303 = .ok (.aload 10, 2) := by decide +kernel
theorem dL_law_305 : decode cL_law 305 = .ok (.iload 17, 2) := by decide +kernel
theorem dL_law_307 : decode cL_law 307 = .ok (.iload 18, 2) := by decide +kernel
theorem dL_law_309 : decode cL_law 309 = .ok (.iconst 4, 1) := by decide +kernel
theorem dL_law_310 : decode cL_law 310 = .ok (.invokestatic 18, 3) := by decide +kernel
theorem dL_law_313 : decode cL_law 313 = .ok (.iconst 1, 1) := by decide +kernel
theorem dL_law_314 : decode cL_law 314 = .ok (.isub, 1) := by decide +kernel
theorem dL_law_315 : decode cL_law 315 = .ok (.iastore, 1) := by decide +kernel
theorem dL_law_316 : decode cL_law 316 = .ok (.aload 11, 2) := by decide +kernel
theorem dL_law_318 : decode cL_law 318 = .ok (.iload 17, 2) := by decide +kernel
theorem dL_law_320 : decode cL_law 320 = .ok (.aload 10, 2) := by decide +kernel
theorem dL_law_322 : decode cL_law 322 = .ok (.iload 17, 2) := by decide +kernel
theorem dL_law_324 : decode cL_law 324 = .ok (.iaload, 1) := by decide +kernel
theorem dL_law_325 : decode cL_law 325 = .ok (.iconst 2, 1) := by decide +kernel
theorem dL_law_326 : decode cL_law 326 = .ok (.iadd, 1) := by decide +kernel
theorem dL_law_327 : decode cL_law 327 = .ok (.iload 18, 2) := by decide +kernel
theorem dL_law_329 : decode cL_law 329 = .ok (.iconst 2, 1) := by decide +kernel
theorem dL_law_330 : decode cL_law 330 = .ok (.ishr, 1) := by decide +kernel
theorem dL_law_331 : decode cL_law 331 = .ok (.iconst 3, 1) := by decide +kernel
theorem dL_law_332 : decode cL_law 332 = .ok (.invokestatic 18, 3) := by decide +kernel
theorem dL_law_335 : decode cL_law 335 = .ok (.iadd, 1) := by decide +kernel
theorem dL_law_336 : decode cL_law 336 = .ok (.iconst 4, 1) := by decide +kernel
theorem dL_law_337 : decode cL_law 337 = .ok (.irem, 1) := by decide +kernel
theorem dL_law_338 : decode cL_law 338 = .ok (.iconst 1, 1) := by decide +kernel
theorem dL_law_339 : decode cL_law 339 = .ok (.isub, 1) := by decide +kernel
theorem dL_law_340 : decode cL_law 340 = .ok (.iastore, 1) := by decide +kernel
theorem dL_law_341 : decode cL_law 341 = .ok (.aload 12, 2) := by decide +kernel
theorem dL_law_343 : decode cL_law 343 = .ok (.iload 17, 2) := by decide +kernel
theorem dL_law_345 : decode cL_law 345 = .ok (.iconst 1, 1) := by decide +kernel
theorem dL_law_346 : decode cL_law 346 = .ok (.iload 18, 2) := by decide +kernel
theorem dL_law_348 : decode cL_law 348 = .ok (.iconst 5, 1) := by decide +kernel
theorem dL_law_349 : decode cL_law 349 = .ok (.ishr, 1) := by decide +kernel
theorem dL_law_350 : decode cL_law 350 = .ok (.bipush 15, 2) := by decide +kernel
theorem dL_law_352 : decode cL_law 352 = .ok (.invokestatic 18, 3) := by decide +kernel
theorem dL_law_355 : decode cL_law 355 = .ok (.iadd, 1) := by decide +kernel
theorem dL_law_356 : decode cL_law 356 = .ok (.iastore, 1) := by decide +kernel
theorem dL_law_357 : decode cL_law 357 = .ok (.aload 13, 2) := by decide +kernel
theorem dL_law_359 : decode cL_law 359 = .ok (.iload 17, 2) := by decide +kernel
theorem dL_law_361 : decode cL_law 361 = .ok (.iload 18, 2) := by decide +kernel
theorem dL_law_363 : decode cL_law 363 = .ok (.bipush 10, 2) := by decide +kernel
theorem dL_law_365 : decode cL_law 365 = .ok (.ishr, 1) := by decide +kernel
theorem dL_law_366 : decode cL_law 366 = .ok (.iconst 3, 1) := by decide +kernel
theorem dL_law_367 : decode cL_law 367 = .ok (.invokestatic 18, 3) := by decide +kernel
theorem dL_law_370 : decode cL_law 370 = .ok (.iconst 1, 1) := by decide +kernel
theorem dL_law_371 : decode cL_law 371 = .ok (.isub, 1) := by decide +kernel
theorem dL_law_372 : decode cL_law 372 = .ok (.iastore, 1) := by decide +kernel
theorem dL_law_373 : decode cL_law 373 = .ok (.aload 14, 2) := by decide +kernel
theorem dL_law_375 : decode cL_law 375 = .ok (.iload 17, 2) := by decide +kernel
theorem dL_law_377 : decode cL_law 377 = .ok (.iload 18, 2) := by decide +kernel
theorem dL_law_379 : decode cL_law 379 = .ok (.bipush 13, 2) := by decide +kernel
theorem dL_law_381 : decode cL_law 381 = .ok (.ishr, 1) := by decide +kernel
theorem dL_law_382 : decode cL_law 382 = .ok (.iconst 1, 1) := by decide +kernel
theorem dL_law_383 : decode cL_law 383 = .ok (.iand, 1) := by decide +kernel
theorem dL_law_384 : decode cL_law 384 = .ok (.iconst 1, 1) := by decide +kernel
theorem dL_law_385 : decode cL_law 385 = .ok (.if_icmp .ne 7, 3) := by decide +kernel
theorem dL_law_388 : decode cL_law 388 = .ok (.iconst 1, 1) := by decide +kernel
theorem dL_law_389 : decode cL_law 389 = .ok (.goto 4, 3) := by decide +kernel
theorem dL_law_392 : decode cL_law 392 = .ok (.iconst 0, 1) := by decide +kernel
theorem dL_law_393 : decode cL_law 393 = .ok (.bastore, 1) := by decide +kernel
theorem dL_law_394 : decode cL_law 394 = .ok (.aload_n 1, 1) := by decide +kernel
theorem dL_law_395 : decode cL_law 395 = .ok (.aload 10, 2) := by decide +kernel
theorem dL_law_397 : decode cL_law 397 = .ok (.iload 17, 2) := by decide +kernel
theorem dL_law_399 : decode cL_law 399 = .ok (.iaload, 1) := by decide +kernel
theorem dL_law_400 : decode cL_law 400 = .ok (.aload 11, 2) := by decide +kernel
theorem dL_law_402 : decode cL_law 402 = .ok (.iload 17, 2) := by decide +kernel
theorem dL_law_404 : decode cL_law 404 = .ok (.iaload, 1) := by decide +kernel
theorem dL_law_405 : decode cL_law 405 = .ok (.aload 12, 2) := by decide +kernel
theorem dL_law_407 : decode cL_law 407 = .ok (.iload 17, 2) := by decide +kernel
theorem dL_law_409 : decode cL_law 409 = .ok (.iaload, 1) := by decide +kernel
theorem dL_law_410 : decode cL_law 410 = .ok (.iconst 2, 1) := by decide +kernel
theorem dL_law_411 : decode cL_law 411 = .ok (.aload 13, 2) := by decide +kernel
theorem dL_law_413 : decode cL_law 413 = .ok (.iload 17, 2) := by decide +kernel
theorem dL_law_415 : decode cL_law 415 = .ok (.iaload, 1) := by decide +kernel
theorem dL_law_416 : decode cL_law 416 = .ok (.aload 14, 2) := by decide +kernel
theorem dL_law_418 : decode cL_law 418 = .ok (.iload 17, 2) := by decide +kernel
theorem dL_law_420 : decode cL_law 420 = .ok (.baload, 1) := by decide +kernel
theorem dL_law_421 : decode cL_law 421 = .ok (.invokevirtual 29, 3) := by decide +kernel
theorem dL_law_424 : decode cL_law 424 = .ok (.iload 17, 2) := by decide +kernel
theorem dL_law_426 : decode cL_law 426 = .ok (.if_icmp .eq 5, 3) := by decide +kernel
theorem dL_law_429 : decode cL_law 429 = .ok (.iconst 0, 1) := by decide +kernel
theorem dL_law_430 : decode cL_law 430 = .ok (.ireturn, 1) := by decide +kernel
theorem dL_law_431 : decode cL_law 431 = .ok (.iinc 17 1, 3) := by decide +kernel
theorem dL_law_434 : decode cL_law 434 = .ok (.goto (-147), 3) := by decide +kernel
theorem dL_law_437 : decode cL_law 437 = .ok (.iconst 0, 1) := by decide +kernel
theorem dL_law_438 : decode cL_law 438 = .ok (.istore 17, 2) := by decide +kernel
theorem dL_law_440 : decode cL_law 440 = .ok (.iconst 0, 1) := by decide +kernel
theorem dL_law_441 : decode cL_law 441 = .ok (.istore 18, 2) := by decide +kernel
theorem dL_law_443 : decode cL_law 443 = .ok (.iload 18, 2) := by decide +kernel
theorem dL_law_445 : decode cL_law 445 = .ok (.iconst 5, 1) := by decide +kernel
theorem dL_law_446 : decode cL_law 446 = .ok (.if_icmp .ge 526, 3) := by decide +kernel
theorem dL_law_449 : decode cL_law 449 = .ok (.aload_n 0, 1) := by decide +kernel
theorem dL_law_450 : decode cL_law 450 = .ok (.bipush 9, 2) := by decide +kernel
theorem dL_law_452 : decode cL_law 452 = .ok (.iload 18, 2) := by decide +kernel
theorem dL_law_454 : decode cL_law 454 = .ok (.iadd, 1) := by decide +kernel
theorem dL_law_455 : decode cL_law 455 = .ok (.invokestatic 12, 3) := by decide +kernel
theorem dL_law_458 : decode cL_law 458 = .ok (.sipush 250, 3) := by decide +kernel
theorem dL_law_461 : decode cL_law 461 = .ok (.invokestatic 18, 3) := by decide +kernel
theorem dL_law_464 : decode cL_law 464 = .ok (.istore 19, 2) := by decide +kernel
theorem dL_law_466 : decode cL_law 466 = .ok (.iconst 0, 1) := by decide +kernel
theorem dL_law_467 : decode cL_law 467 = .ok (.istore 20, 2) := by decide +kernel
theorem dL_law_469 : decode cL_law 469 = .ok (.iconst 0, 1) := by decide +kernel
theorem dL_law_470 : decode cL_law 470 = .ok (.istore 21, 2) := by decide +kernel
theorem dL_law_472 : decode cL_law 472 = .ok (.iload 21, 2) := by decide +kernel
theorem dL_law_474 : decode cL_law 474 = .ok (.iload 19, 2) := by decide +kernel
theorem dL_law_476 : decode cL_law 476 = .ok (.if_icmp .ge 317, 3) := by decide +kernel
theorem dL_law_479 : decode cL_law 479 = .ok (.iconst 0, 1) := by decide +kernel
theorem dL_law_480 : decode cL_law 480 = .ok (.istore 22, 2) := by decide +kernel
theorem dL_law_482 : decode cL_law 482 = .ok (.iload 22, 2) := by decide +kernel
theorem dL_law_484 : decode cL_law 484 = .ok (.iconst 2, 1) := by decide +kernel
theorem dL_law_485 : decode cL_law 485 = .ok (.if_icmp .ge 81, 3) := by decide +kernel
theorem dL_law_488 : decode cL_law 488 = .ok (.aload_n 3, 1) := by decide +kernel
theorem dL_law_489 : decode cL_law 489 = .ok (.aload 6, 2) := by decide +kernel
theorem dL_law_491 : decode cL_law 491 = .ok (.iload 22, 2) := by decide +kernel
theorem dL_law_493 : decode cL_law 493 = .ok (.iaload, 1) := by decide +kernel
theorem dL_law_494 : decode cL_law 494 = .ok (.iaload, 1) := by decide +kernel
theorem dL_law_495 : decode cL_law 495 = .ok (.aload 7, 2) := by decide +kernel
theorem dL_law_497 : decode cL_law 497 = .ok (.iload 22, 2) := by decide +kernel
theorem dL_law_499 : decode cL_law 499 = .ok (.iaload, 1) := by decide +kernel
theorem dL_law_500 : decode cL_law 500 = .ok (.if_icmp .gt 7, 3) := by decide +kernel
theorem dL_law_503 : decode cL_law 503 = .ok (.iconst 1, 1) := by decide +kernel
theorem dL_law_504 : decode cL_law 504 = .ok (.goto 27, 3) := by decide +kernel
theorem dL_law_507 : decode cL_law 507 = .ok (.aload_n 3, 1) := by decide +kernel
theorem dL_law_508 : decode cL_law 508 = .ok (.aload 6, 2) := by decide +kernel
theorem dL_law_510 : decode cL_law 510 = .ok (.iload 22, 2) := by decide +kernel
theorem dL_law_512 : decode cL_law 512 = .ok (.iaload, 1) := by decide +kernel
theorem dL_law_513 : decode cL_law 513 = .ok (.iaload, 1) := by decide +kernel
theorem dL_law_514 : decode cL_law 514 = .ok (.aload 8, 2) := by decide +kernel
theorem dL_law_516 : decode cL_law 516 = .ok (.iload 22, 2) := by decide +kernel
theorem dL_law_518 : decode cL_law 518 = .ok (.iaload, 1) := by decide +kernel
theorem dL_law_519 : decode cL_law 519 = .ok (.if_icmp .lt 7, 3) := by decide +kernel
theorem dL_law_522 : decode cL_law 522 = .ok (.iconst 0, 1) := by decide +kernel
theorem dL_law_523 : decode cL_law 523 = .ok (.goto 8, 3) := by decide +kernel
theorem dL_law_526 : decode cL_law 526 = .ok (.aload 9, 2) := by decide +kernel
theorem dL_law_528 : decode cL_law 528 = .ok (.iload 22, 2) := by decide +kernel
theorem dL_law_530 : decode cL_law 530 = .ok (.baload, 1) := by decide +kernel
theorem dL_law_531 : decode cL_law 531 = .ok (.istore 23, 2) := by decide +kernel
theorem dL_law_533 : decode cL_law 533 = .ok (.iload 20, 2) := by decide +kernel
theorem dL_law_535 : decode cL_law 535 = .ok (.iload 23, 2) := by decide +kernel
theorem dL_law_537 : decode cL_law 537 = .ok (.aload 9, 2) := by decide +kernel
theorem dL_law_539 : decode cL_law 539 = .ok (.iload 22, 2) := by decide +kernel
theorem dL_law_541 : decode cL_law 541 = .ok (.baload, 1) := by decide +kernel
theorem dL_law_542 : decode cL_law 542 = .ok (.if_icmp .ne 7, 3) := by decide +kernel
theorem dL_law_545 : decode cL_law 545 = .ok (.iconst 0, 1) := by decide +kernel
theorem dL_law_546 : decode cL_law 546 = .ok (.goto 4, 3) := by decide +kernel
theorem dL_law_549 : decode cL_law 549 = .ok (.iconst 1, 1) := by decide +kernel
theorem dL_law_550 : decode cL_law 550 = .ok (.iadd, 1) := by decide +kernel
theorem dL_law_551 : decode cL_law 551 = .ok (.istore 20, 2) := by decide +kernel
theorem dL_law_553 : decode cL_law 553 = .ok (.aload 9, 2) := by decide +kernel
theorem dL_law_555 : decode cL_law 555 = .ok (.iload 22, 2) := by decide +kernel
theorem dL_law_557 : decode cL_law 557 = .ok (.iload 23, 2) := by decide +kernel
theorem dL_law_559 : decode cL_law 559 = .ok (.bastore, 1) := by decide +kernel
theorem dL_law_560 : decode cL_law 560 = .ok (.iinc 22 1, 3) := by decide +kernel
theorem dL_law_563 : decode cL_law 563 = .ok (.goto (-81), 3) := by decide +kernel
theorem dL_law_566 : decode cL_law 566 = .ok (.iconst 0, 1) := by decide +kernel
theorem dL_law_567 : decode cL_law 567 = .ok (.istore 22, 2) := by decide +kernel
theorem dL_law_569 : decode cL_law 569 = .ok (.iload 22, 2) := by decide +kernel
theorem dL_law_571 : decode cL_law 571 = .ok (.iconst 4, 1) := by decide +kernel
theorem dL_law_572 : decode cL_law 572 = .ok (.if_icmp .ge 169, 3) := by decide +kernel
theorem dL_law_575 : decode cL_law 575 = .ok (.aload 13, 2) := by decide +kernel
theorem dL_law_577 : decode cL_law 577 = .ok (.iload 22, 2) := by decide +kernel
theorem dL_law_579 : decode cL_law 579 = .ok (.iaload, 1) := by decide +kernel
theorem dL_law_580 : decode cL_law 580 = .ok (.ifCond .lt 22, 3) := by decide +kernel
theorem dL_law_583 : decode cL_law 583 = .ok (.aload 9, 2) := by decide +kernel
theorem dL_law_585 : decode cL_law 585 = .ok (.aload 13, 2) := by decide +kernel
theorem dL_law_587 : decode cL_law 587 = .ok (.iload 22, 2) := by decide +kernel
theorem dL_law_589 : decode cL_law 589 = .ok (.iaload, 1) := by decide +kernel
theorem dL_law_590 : decode cL_law 590 = .ok (.baload, 1) := by decide +kernel
theorem dL_law_591 : decode cL_law 591 = .ok (.aload 14, 2) := by decide +kernel
theorem dL_law_593 : decode cL_law 593 = .ok (.iload 22, 2) := by decide +kernel
theorem dL_law_595 : decode cL_law 595 = .ok (.baload, 1) := by decide +kernel
theorem dL_law_596 : decode cL_law 596 = .ok (.if_icmp .ne 6, 3) := by decide +kernel
theorem dL_law_599 : decode cL_law 599 = .ok (.goto 136, 3) := by decide +kernel
theorem dL_law_602 : decode cL_law 602 = .ok (.aload 12, 2) := by decide +kernel
theorem dL_law_604 : decode cL_law 604 = .ok (.iload 22, 2) := by decide +kernel
theorem dL_law_606 : decode cL_law 606 = .ok (.iaload, 1) := by decide +kernel
theorem dL_law_607 : decode cL_law 607 = .ok (.istore 23, 2) := by decide +kernel
theorem dL_law_609 : decode cL_law 609 = .ok (.aload 10, 2) := by decide +kernel
theorem dL_law_611 : decode cL_law 611 = .ok (.iload 22, 2) := by decide +kernel
theorem dL_law_613 : decode cL_law 613 = .ok (.iaload, 1) := by decide +kernel
theorem dL_law_614 : decode cL_law 614 = .ok (.ifCond .lt 17, 3) := by decide +kernel
theorem dL_law_617 : decode cL_law 617 = .ok (.iload 23, 2) := by decide +kernel
theorem dL_law_619 : decode cL_law 619 = .ok (.aload_n 3, 1) := by decide +kernel
theorem dL_law_620 : decode cL_law 620 = .ok (.aload 10, 2) := by decide +kernel
theorem dL_law_622 : decode cL_law 622 = .ok (.iload 22, 2) := by decide +kernel
theorem dL_law_624 : decode cL_law 624 = .ok (.iaload, 1) := by decide +kernel
theorem dL_law_625 : decode cL_law 625 = .ok (.iaload, 1) := by decide +kernel
theorem dL_law_626 : decode cL_law 626 = .ok (.invokestatic 33, 3) := by decide +kernel
theorem dL_law_629 : decode cL_law 629 = .ok (.istore 23, 2) := by decide +kernel
theorem dL_law_631 : decode cL_law 631 = .ok (.aload 11, 2) := by decide +kernel
theorem dL_law_633 : decode cL_law 633 = .ok (.iload 22, 2) := by decide +kernel
theorem dL_law_635 : decode cL_law 635 = .ok (.iaload, 1) := by decide +kernel
theorem dL_law_636 : decode cL_law 636 = .ok (.ifCond .lt 25, 3) := by decide +kernel
theorem dL_law_639 : decode cL_law 639 = .ok (.iload 23, 2) := by decide +kernel
theorem dL_law_641 : decode cL_law 641 = .ok (.aload_n 2, 1) := by decide +kernel
theorem dL_law_642 : decode cL_law 642 = .ok (.aload 11, 2) := by decide +kernel
theorem dL_law_644 : decode cL_law 644 = .ok (.iload 22, 2) := by decide +kernel
theorem dL_law_646 : decode cL_law 646 = .ok (.iaload, 1) := by decide +kernel
theorem dL_law_647 : decode cL_law 647 = .ok (.iaload, 1) := by decide +kernel
theorem dL_law_648 : decode cL_law 648 = .ok (.aload_n 3, 1) := by decide +kernel
theorem dL_law_649 : decode cL_law 649 = .ok (.aload 11, 2) := by decide +kernel
theorem dL_law_651 : decode cL_law 651 = .ok (.iload 22, 2) := by decide +kernel
theorem dL_law_653 : decode cL_law 653 = .ok (.iaload, 1) := by decide +kernel
theorem dL_law_654 : decode cL_law 654 = .ok (.iaload, 1) := by decide +kernel
theorem dL_law_655 : decode cL_law 655 = .ok (.isub, 1) := by decide +kernel
theorem dL_law_656 : decode cL_law 656 = .ok (.invokestatic 33, 3) := by decide +kernel
theorem dL_law_659 : decode cL_law 659 = .ok (.istore 23, 2) := by decide +kernel
theorem dL_law_661 : decode cL_law 661 = .ok (.aload 10, 2) := by decide +kernel
theorem dL_law_663 : decode cL_law 663 = .ok (.iload 22, 2) := by decide +kernel
theorem dL_law_665 : decode cL_law 665 = .ok (.iaload, 1) := by decide +kernel
theorem dL_law_666 : decode cL_law 666 = .ok (.ifCond .lt 15, 3) := by decide +kernel
theorem dL_law_669 : decode cL_law 669 = .ok (.aload_n 3, 1) := by decide +kernel
theorem dL_law_670 : decode cL_law 670 = .ok (.aload 10, 2) := by decide +kernel
theorem dL_law_672 : decode cL_law 672 = .ok (.iload 22, 2) := by decide +kernel
theorem dL_law_674 : decode cL_law 674 = .ok (.iaload, 1) := by decide +kernel
theorem dL_law_675 : decode cL_law 675 = .ok (.dup2, 1) := by decide +kernel
theorem dL_law_676 : decode cL_law 676 = .ok (.iaload, 1) := by decide +kernel
theorem dL_law_677 : decode cL_law 677 = .ok (.iload 23, 2) := by decide +kernel
theorem dL_law_679 : decode cL_law 679 = .ok (.isub, 1) := by decide +kernel
theorem dL_law_680 : decode cL_law 680 = .ok (.iastore, 1) := by decide +kernel
theorem dL_law_681 : decode cL_law 681 = .ok (.aload 11, 2) := by decide +kernel
theorem dL_law_683 : decode cL_law 683 = .ok (.iload 22, 2) := by decide +kernel
theorem dL_law_685 : decode cL_law 685 = .ok (.iaload, 1) := by decide +kernel
theorem dL_law_686 : decode cL_law 686 = .ok (.ifCond .lt 15, 3) := by decide +kernel
theorem dL_law_689 : decode cL_law 689 = .ok (.aload_n 3, 1) := by decide +kernel
theorem dL_law_690 : decode cL_law 690 = .ok (.aload 11, 2) := by decide +kernel
theorem dL_law_692 : decode cL_law 692 = .ok (.iload 22, 2) := by decide +kernel
theorem dL_law_694 : decode cL_law 694 = .ok (.iaload, 1) := by decide +kernel
theorem dL_law_695 : decode cL_law 695 = .ok (.dup2, 1) := by decide +kernel
theorem dL_law_696 : decode cL_law 696 = .ok (.iaload, 1) := by decide +kernel
theorem dL_law_697 : decode cL_law 697 = .ok (.iload 23, 2) := by decide +kernel
theorem dL_law_699 : decode cL_law 699 = .ok (.iadd, 1) := by decide +kernel
theorem dL_law_700 : decode cL_law 700 = .ok (.iastore, 1) := by decide +kernel
theorem dL_law_701 : decode cL_law 701 = .ok (.aload 15, 2) := by decide +kernel
theorem dL_law_703 : decode cL_law 703 = .ok (.iload 22, 2) := by decide +kernel
theorem dL_law_705 : decode cL_law 705 = .ok (.dup2, 1) := by decide +kernel
theorem dL_law_706 : decode cL_law 706 = .ok (.laload, 1) := by decide +kernel
theorem dL_law_707 : decode cL_law 707 = .ok (.iload 23, 2) := by decide +kernel
theorem dL_law_709 : decode cL_law 709 = .ok (.i2l, 1) := by decide +kernel
theorem dL_law_710 : decode cL_law 710 = .ok (.ladd, 1) := by decide +kernel
theorem dL_law_711 : decode cL_law 711 = .ok (.lastore, 1) := by decide +kernel
theorem dL_law_712 : decode cL_law 712 = .ok (.aload 16, 2) := by decide +kernel
theorem dL_law_714 : decode cL_law 714 = .ok (.iload 22, 2) := by decide +kernel
theorem dL_law_716 : decode cL_law 716 = .ok (.dup2, 1) := by decide +kernel
theorem dL_law_717 : decode cL_law 717 = .ok (.laload, 1) := by decide +kernel
theorem dL_law_718 : decode cL_law 718 = .ok (.iload 23, 2) := by decide +kernel
theorem dL_law_720 : decode cL_law 720 = .ok (.aload 12, 2) := by decide +kernel
theorem dL_law_722 : decode cL_law 722 = .ok (.iload 22, 2) := by decide +kernel
theorem dL_law_724 : decode cL_law 724 = .ok (.iaload, 1) := by decide +kernel
theorem dL_law_725 : decode cL_law 725 = .ok (.if_icmp .ge 7, 3) := by decide +kernel
theorem dL_law_728 : decode cL_law 728 = .ok (.lconst 1, 1) := by decide +kernel
theorem dL_law_729 : decode cL_law 729 = .ok (.goto 4, 3) := by decide +kernel
theorem dL_law_732 : decode cL_law 732 = .ok (.lconst 0, 1) := by decide +kernel
theorem dL_law_733 : decode cL_law 733 = .ok (.ladd, 1) := by decide +kernel
theorem dL_law_734 : decode cL_law 734 = .ok (.lastore, 1) := by decide +kernel
theorem dL_law_735 : decode cL_law 735 = .ok (.iinc 22 1, 3) := by decide +kernel
theorem dL_law_738 : decode cL_law 738 = .ok (.goto (-169), 3) := by decide +kernel
theorem dL_law_741 : decode cL_law 741 = .ok (.iconst 0, 1) := by decide +kernel
theorem dL_law_742 : decode cL_law 742 = .ok (.istore 22, 2) := by decide +kernel
theorem dL_law_744 : decode cL_law 744 = .ok (.iload 22, 2) := by decide +kernel
theorem dL_law_746 : decode cL_law 746 = .ok (.iconst 3, 1) := by decide +kernel
theorem dL_law_747 : decode cL_law 747 = .ok (.if_icmp .ge 40, 3) := by decide +kernel
theorem dL_law_750 : decode cL_law 750 = .ok (.aload_n 3, 1) := by decide +kernel
theorem dL_law_751 : decode cL_law 751 = .ok (.iload 22, 2) := by decide +kernel
theorem dL_law_753 : decode cL_law 753 = .ok (.aload_n 3, 1) := by decide +kernel
theorem dL_law_754 : decode cL_law 754 = .ok (.iload 22, 2) := by decide +kernel
theorem dL_law_756 : decode cL_law 756 = .ok (.iaload, 1) := by decide +kernel
theorem dL_law_757 : decode cL_law 757 = .ok (.aload 4, 2) := by decide +kernel
theorem dL_law_759 : decode cL_law 759 = .ok (.iload 22, 2) := by decide +kernel
theorem dL_law_761 : decode cL_law 761 = .ok (.iaload, 1) := by decide +kernel
theorem dL_law_762 : decode cL_law 762 = .ok (.isub, 1) := by decide +kernel
theorem dL_law_763 : decode cL_law 763 = .ok (.iconst 0, 1) := by decide +kernel
theorem dL_law_764 : decode cL_law 764 = .ok (.invokestatic 38, 3) := by decide +kernel
theorem dL_law_767 : decode cL_law 767 = .ok (.iastore, 1) := by decide +kernel
theorem dL_law_768 : decode cL_law 768 = .ok (.aload 5, 2) := by decide +kernel
theorem dL_law_770 : decode cL_law 770 = .ok (.iload 22, 2) := by decide +kernel
theorem dL_law_772 : decode cL_law 772 = .ok (.dup2, 1) := by decide +kernel
theorem dL_law_773 : decode cL_law 773 = .ok (.laload, 1) := by decide +kernel
theorem dL_law_774 : decode cL_law 774 = .ok (.aload_n 3, 1) := by decide +kernel
theorem dL_law_775 : decode cL_law 775 = .ok (.iload 22, 2) := by decide +kernel
theorem dL_law_777 : decode cL_law 777 = .ok (.iaload, 1) := by decide +kernel
theorem dL_law_778 : decode cL_law 778 = .ok (.i2l, 1) := by decide +kernel
theorem dL_law_779 : decode cL_law 779 = .ok (.ladd, 1) := by decide +kernel
theorem dL_law_780 : decode cL_law 780 = .ok (.lastore, 1) := by decide +kernel
theorem dL_law_781 : decode cL_law 781 = .ok (.iinc 22 1, 3) := by decide +kernel
theorem dL_law_784 : decode cL_law 784 = .ok (.goto (-40), 3) := by decide +kernel
theorem dL_law_787 : decode cL_law 787 = .ok (.iinc 21 1, 3) := by decide +kernel
theorem dL_law_790 : decode cL_law 790 = .ok (.goto (-318), 3) := by decide +kernel
theorem dL_law_793 : decode cL_law 793 = .ok (.iload 17, 2) := by decide +kernel
theorem dL_law_795 : decode cL_law 795 = .ok (.iload 20, 2) := by decide +kernel
theorem dL_law_797 : decode cL_law 797 = .ok (.iadd, 1) := by decide +kernel
theorem dL_law_798 : decode cL_law 798 = .ok (.istore 17, 2) := by decide +kernel
theorem dL_law_800 : decode cL_law 800 = .ok (.aload_n 1, 1) := by decide +kernel
theorem dL_law_801 : decode cL_law 801 = .ok (.iload 19, 2) := by decide +kernel
theorem dL_law_803 : decode cL_law 803 = .ok (.invokevirtual 41, 3) := by decide +kernel
theorem dL_law_806 : decode cL_law 806 = .ok (.iload 20, 2) := by decide +kernel
theorem dL_law_808 : decode cL_law 808 = .ok (.if_icmp .ne 14, 3) := by decide +kernel
theorem dL_law_811 : decode cL_law 811 = .ok (.aload_n 1, 1) := by decide +kernel
theorem dL_law_812 : decode cL_law 812 = .ok (.invokevirtual 45, 3) := by decide +kernel
theorem dL_law_815 : decode cL_law 815 = .ok (.iload 17, 2) := by decide +kernel
theorem dL_law_817 : decode cL_law 817 = .ok (.i2l, 1) := by decide +kernel
theorem dL_law_818 : decode cL_law 818 = .ok (.lcmp, 1) := by decide +kernel
theorem dL_law_819 : decode cL_law 819 = .ok (.ifCond .eq 5, 3) := by decide +kernel
theorem dL_law_822 : decode cL_law 822 = .ok (.iconst 0, 1) := by decide +kernel
theorem dL_law_823 : decode cL_law 823 = .ok (.ireturn, 1) := by decide +kernel
theorem dL_law_824 : decode cL_law 824 = .ok (.iconst 0, 1) := by decide +kernel
theorem dL_law_825 : decode cL_law 825 = .ok (.istore 21, 2) := by decide +kernel
theorem dL_law_827 : decode cL_law 827 = .ok (.iload 21, 2) := by decide +kernel
theorem dL_law_829 : decode cL_law 829 = .ok (.iconst 3, 1) := by decide +kernel
theorem dL_law_830 : decode cL_law 830 = .ok (.if_icmp .ge 39, 3) := by decide +kernel
theorem dL_law_833 : decode cL_law 833 = .ok (.aload_n 1, 1) := by decide +kernel
theorem dL_law_834 : decode cL_law 834 = .ok (.iload 21, 2) := by decide +kernel
theorem dL_law_836 : decode cL_law 836 = .ok (.invokevirtual 49, 3) := by decide +kernel
theorem dL_law_839 : decode cL_law 839 = .ok (.aload_n 3, 1) := by decide +kernel
theorem dL_law_840 : decode cL_law 840 = .ok (.iload 21, 2) := by decide +kernel
theorem dL_law_842 : decode cL_law 842 = .ok (.iaload, 1) := by decide +kernel
theorem dL_law_843 : decode cL_law 843 = .ok (.if_icmp .ne 18, 3) := by decide +kernel
theorem dL_law_846 : decode cL_law 846 = .ok (.aload_n 1, 1) := by decide +kernel
theorem dL_law_847 : decode cL_law 847 = .ok (.iload 21, 2) := by decide +kernel
theorem dL_law_849 : decode cL_law 849 = .ok (.invokevirtual 52, 3) := by decide +kernel
theorem dL_law_852 : decode cL_law 852 = .ok (.aload 5, 2) := by decide +kernel
theorem dL_law_854 : decode cL_law 854 = .ok (.iload 21, 2) := by decide +kernel
theorem dL_law_856 : decode cL_law 856 = .ok (.laload, 1) := by decide +kernel
theorem dL_law_857 : decode cL_law 857 = .ok (.lcmp, 1) := by decide +kernel
theorem dL_law_858 : decode cL_law 858 = .ok (.ifCond .eq 5, 3) := by decide +kernel
theorem dL_law_861 : decode cL_law 861 = .ok (.iconst 0, 1) := by decide +kernel
theorem dL_law_862 : decode cL_law 862 = .ok (.ireturn, 1) := by decide +kernel
theorem dL_law_863 : decode cL_law 863 = .ok (.iinc 21 1, 3) := by decide +kernel
theorem dL_law_866 : decode cL_law 866 = .ok (.goto (-39), 3) := by decide +kernel
theorem dL_law_869 : decode cL_law 869 = .ok (.iconst 0, 1) := by decide +kernel
theorem dL_law_870 : decode cL_law 870 = .ok (.istore 21, 2) := by decide +kernel
theorem dL_law_872 : decode cL_law 872 = .ok (.iload 21, 2) := by decide +kernel
theorem dL_law_874 : decode cL_law 874 = .ok (.iconst 2, 1) := by decide +kernel
theorem dL_law_875 : decode cL_law 875 = .ok (.if_icmp .ge 25, 3) := by decide +kernel
theorem dL_law_878 : decode cL_law 878 = .ok (.aload_n 1, 1) := by decide +kernel
theorem dL_law_879 : decode cL_law 879 = .ok (.iload 21, 2) := by decide +kernel
theorem dL_law_881 : decode cL_law 881 = .ok (.invokevirtual 56, 3) := by decide +kernel
theorem dL_law_884 : decode cL_law 884 = .ok (.aload 9, 2) := by decide +kernel
theorem dL_law_886 : decode cL_law 886 = .ok (.iload 21, 2) := by decide +kernel
theorem dL_law_888 : decode cL_law 888 = .ok (.baload, 1) := by decide +kernel
theorem dL_law_889 : decode cL_law 889 = .ok (.if_icmp .eq 5, 3) := by decide +kernel
theorem dL_law_892 : decode cL_law 892 = .ok (.iconst 0, 1) := by decide +kernel
theorem dL_law_893 : decode cL_law 893 = .ok (.ireturn, 1) := by decide +kernel
theorem dL_law_894 : decode cL_law 894 = .ok (.iinc 21 1, 3) := by decide +kernel
theorem dL_law_897 : decode cL_law 897 = .ok (.goto (-25), 3) := by decide +kernel
theorem dL_law_900 : decode cL_law 900 = .ok (.iconst 0, 1) := by decide +kernel
theorem dL_law_901 : decode cL_law 901 = .ok (.istore 21, 2) := by decide +kernel
theorem dL_law_903 : decode cL_law 903 = .ok (.iload 21, 2) := by decide +kernel
theorem dL_law_905 : decode cL_law 905 = .ok (.iconst 4, 1) := by decide +kernel
theorem dL_law_906 : decode cL_law 906 = .ok (.if_icmp .ge 60, 3) := by decide +kernel
theorem dL_law_909 : decode cL_law 909 = .ok (.aload_n 1, 1) := by decide +kernel
theorem dL_law_910 : decode cL_law 910 = .ok (.iload 21, 2) := by decide +kernel
theorem dL_law_912 : decode cL_law 912 = .ok (.invokevirtual 60, 3) := by decide +kernel
theorem dL_law_915 : decode cL_law 915 = .ok (.aload 15, 2) := by decide +kernel
theorem dL_law_917 : decode cL_law 917 = .ok (.iload 21, 2) := by decide +kernel
theorem dL_law_919 : decode cL_law 919 = .ok (.laload, 1) := by decide +kernel
theorem dL_law_920 : decode cL_law 920 = .ok (.lcmp, 1) := by decide +kernel
theorem dL_law_921 : decode cL_law 921 = .ok (.ifCond .ne 37, 3) := by decide +kernel
theorem dL_law_924 : decode cL_law 924 = .ok (.aload_n 1, 1) := by decide +kernel
theorem dL_law_925 : decode cL_law 925 = .ok (.iload 21, 2) := by decide +kernel
theorem dL_law_927 : decode cL_law 927 = .ok (.invokevirtual 63, 3) := by decide +kernel
theorem dL_law_930 : decode cL_law 930 = .ok (.ldc2_w 66, 3) := by decide +kernel
theorem dL_law_933 : decode cL_law 933 = .ok (.aload 15, 2) := by decide +kernel
theorem dL_law_935 : decode cL_law 935 = .ok (.iload 21, 2) := by decide +kernel
theorem dL_law_937 : decode cL_law 937 = .ok (.laload, 1) := by decide +kernel
theorem dL_law_938 : decode cL_law 938 = .ok (.lmul, 1) := by decide +kernel
theorem dL_law_939 : decode cL_law 939 = .ok (.lcmp, 1) := by decide +kernel
theorem dL_law_940 : decode cL_law 940 = .ok (.ifCond .ne 18, 3) := by decide +kernel
theorem dL_law_943 : decode cL_law 943 = .ok (.aload_n 1, 1) := by decide +kernel
theorem dL_law_944 : decode cL_law 944 = .ok (.iload 21, 2) := by decide +kernel
theorem dL_law_946 : decode cL_law 946 = .ok (.invokevirtual 68, 3) := by decide +kernel
theorem dL_law_949 : decode cL_law 949 = .ok (.aload 16, 2) := by decide +kernel
theorem dL_law_951 : decode cL_law 951 = .ok (.iload 21, 2) := by decide +kernel
theorem dL_law_953 : decode cL_law 953 = .ok (.laload, 1) := by decide +kernel
theorem dL_law_954 : decode cL_law 954 = .ok (.lcmp, 1) := by decide +kernel
theorem dL_law_955 : decode cL_law 955 = .ok (.ifCond .eq 5, 3) := by decide +kernel
theorem dL_law_958 : decode cL_law 958 = .ok (.iconst 0, 1) := by decide +kernel
theorem dL_law_959 : decode cL_law 959 = .ok (.ireturn, 1) := by decide +kernel
theorem dL_law_960 : decode cL_law 960 = .ok (.iinc 21 1, 3) := by decide +kernel
theorem dL_law_963 : decode cL_law 963 = .ok (.goto (-60), 3) := by decide +kernel
theorem dL_law_966 : decode cL_law 966 = .ok (.iinc 18 1, 3) := by decide +kernel
theorem dL_law_969 : decode cL_law 969 = .ok (.goto (-526), 3) := by decide +kernel
theorem dL_law_972 : decode cL_law 972 = .ok (.aload_n 1, 1) := by decide +kernel
theorem dL_law_973 : decode cL_law 973 = .ok (.invokevirtual 71, 3) := by decide +kernel
theorem dL_law_976 : decode cL_law 976 = .ok (.lconst 0, 1) := by decide +kernel
theorem dL_law_977 : decode cL_law 977 = .ok (.lcmp, 1) := by decide +kernel
theorem dL_law_978 : decode cL_law 978 = .ok (.ifCond .lt 7, 3) := by decide +kernel
theorem dL_law_981 : decode cL_law 981 = .ok (.iconst 1, 1) := by decide +kernel
theorem dL_law_982 : decode cL_law 982 = .ok (.goto 4, 3) := by decide +kernel
theorem dL_law_985 : decode cL_law 985 = .ok (.iconst 0, 1) := by decide +kernel
theorem dL_law_986 : decode cL_law 986 = .ok (.ireturn, 1) := by decide +kernel
end
section
/-! ===== BEGIN words of one list among another's, by their places ===== -/
theorem goodIn_r {big : List Cond} (ws : List Cond) (ps : List Nat) (hp : ws = ps.filterMap (fun i => big[i]?)) (h : ws.all goodWord = true) : GoodIn big ws := by
  intro w hw
  have h1 := List.all_eq_true.mp h w hw
  rw [hp] at hw
  obtain ⟨i, -, hi⟩ := List.mem_filterMap.mp hw
  have hm : w ∈ big := by first | exact List.mem_of_getElem? hi | exact List.getElem?_mem hi
  exact ⟨hm, good_of_word h1⟩
theorem goodIn_app {big a b : List Cond} (ha : GoodIn big a) (hb : GoodIn big b) : GoodIn big (a ++ b) := fun w h => (List.mem_append.mp h).elim (ha w) (hb w)
theorem goodIn_ca {big a b : List Cond} {c : Cond} (ha : GoodIn big (c :: a)) (hb : GoodIn big b) : GoodIn big (c :: (a ++ b)) := fun w h => (List.mem_cons.mp h).elim (fun e => ha w (List.mem_cons.mpr (Or.inl e))) (fun h => (List.mem_append.mp h).elim (fun h => ha w (List.mem_cons.mpr (Or.inr h))) (hb w))
theorem goodIn_sub {big ws : List Cond} (hm : ∀ w ∈ ws, w ∈ big) (h : ws.all goodWord = true) : GoodIn big ws := fun w hw => ⟨hm w hw, good_of_word (List.all_eq_true.mp h w hw)⟩
/-! ===== END ===== -/
/-! ===== BEGIN exceptions that leave a method, and their catching by the caller (launches without stack traces) ===== -/
section VXA
/-! The laws vx_back, vx_callV, vx_callS, vx_callSW, vx_throw0, vx_throwS follow proofs of the library, with one case more: JvmDerived/Free/Laws.lean (Back.of_free), Shelf42/LK1.lean (callV, callS), Shelf/KitTraced.lean (throwNew0V, throwNewS). -/
/-- where a method has thrown q: the class by its name, the cell, what was written, the world -/
def vx_T (XC : String → State → State → Prop) (st : State) (q : Addr) (t : State) (mc ms : Nat) (free : Addr → Prop) : Prop :=
  ∃ (E : String) (ce : Cell) (L : List Loc), XC E st t ∧ t.heap[q]? = some ce ∧ ce.vm = .none ∧ st.vm.findClass E = some ce.cls ∧ st.WarmedH t.vm ∧ st.sameButNew ({ t with vm := st.vm } : State) L mc ms ∧ ∀ z ∈ L, free z.base
def vx_Q (Qc : Array Value → State → Outcome → State → Prop) (XC : String → State → State → Prop) (mc ms : Nat) (free : Addr → Prop) : Array Value → State → Outcome → State → Prop := fun a st o t =>
  (Qc a st o t ∧ ∃ L, FrameEnd st o t L mc ms ∧ ∀ q ∈ L, free q.base) ∨ ∃ q, o = .threw q ∧ vx_T XC st q t mc ms free
/-- a callee that returns or throws -/
def vx_Met (l : Launch) (y : MethodName) (ws : List Cond) (rm : Room) (Pc : Array Value → State → Prop) (Qc : Array Value → State → Outcome → State → Prop) (XC : String → State → State → Prop) (mc ms : Nat) (free : Addr → Prop) : Prop :=
  MetFree l y (headSpec ws rm) Pc (fun _ _ _ _ _ => True) (vx_Q Qc XC mc ms free)
def vx_Post (XC : String → State → State → Prop) (mc ms : Nat) (free : Addr → Prop) : Pt → Array Value → Addr → Pt → Prop := fun A a q B =>
  ∃ (g : JFrame) (mk : MethodId) (t : State) (L : List Loc) (E : String) (ce : Cell), B.U.heap = t.heap ∧ B.U.vm = t.vm ∧ XC E (A.U.calling g mk a) t ∧ t.heap[q]? = some ce ∧ ce.vm = .none ∧ A.U.vm.findClass E = some ce.cls ∧ B.locs = A.locs ++ L ∧ (∀ z ∈ L, free z.base) ∧ B.cells = A.cells + mc ∧ B.slots = A.slots + ms
def vx_Back (l : Launch) (R : Room) (p : Program) (e : Env) (below : List Frame) (s : State) (sargs : Array Value) (y : MethodName) (len W9 : Nat)
    (Pre : Pt → Array Value → Prop) (Post : Pt → Array Value → Option Value → Pt → Prop) (PostX : Pt → Array Value → Addr → Pt → Prop) : Prop :=
  ∀ (m : MethodId) (meth : Method) (c : Code) (A : Pt) (g : JFrame) (ig : Instr) (mk : MethodId) (a : Array Value),
    Stand p l e R s m sargs below meth c A.U A.locs A.cells A.slots → g.method = m → g.locals.size = c.maxLocals → decode c.code g.pc = .ok (ig, len) →
    2 * g.monitorRoom + (g.stack.map fun v => v.category).sum ≤ W9 → A.U.methodNamed? y = some mk → Pre A a →
    (∃ (v : Option Value) (B : Pt), Stand p l e R s m sargs below meth c B.U B.locs B.cells B.slots ∧ Post A a v B ∧
      Steps p.tables e below (doInvoke e (A.U.setTop g) [] mk a).1 (B.U.setTop { g with pc := g.pc + len, stack := v.toList ++ g.stack })) ∨
    (∃ (q : Addr) (B : Pt), Stand p l e R s m sargs below meth c B.U B.locs B.cells B.slots ∧ PostX A a q B ∧
      Steps p.tables e below (doInvoke e (A.U.setTop g) [] mk a).1 ((B.U.setTop g).pushFrame (.throwing q)))
section Payer
variable {l : Launch} {R : Room} {p : Program} {e : Env} {below : List Frame} {s : State} {sargs : Array Value} {y : MethodName} {len W9 : Nat}
theorem vx_back {ws : List Cond} {rm : Room} {Pc : Array Value → State → Prop} {Qc : Array Value → State → Outcome → State → Prop} {XC : String → State → State → Prop} {mc ms : Nat} {free : Addr → Prop} {bytes : ByteArray} {maxL : Nat} {ret : Option FieldType}
    (hM : vx_Met l y ws rm Pc Qc XC mc ms free) (hblind : FrameBlind Pc) (hrc : rm.cells = mc) (hrs : rm.slots = ms)
    (hframes : rm.frames + 1 ≤ R.frames) (hlocals : W9 + (maxL + 11) + rm.locals ≤ R.locals)
    (hws : ∀ w ∈ ws, ∀ a' U, s.WarmedH U.vm → w.before a' U = true) (hcode : Cond.code y bytes maxL ret ∈ ws) (hinit : ∀ a' U, s.WarmedH U.vm → (Cond.initialized y.cls).before a' U = true) :
    vx_Back l R p e below s sargs y len W9 (PreOf R mc ms Pc) (PostOf Qc mc ms free) (vx_Post XC mc ms free) := by
  intro m meth c A g ig mk a X hg hsize hdg hW hn hp
  have h1 : (headSpec ws rm).pre.before a A.U = true := atoms_intro fun w hw => hws w hw _ _ X.warmed
  have h2 : (Cond.code y bytes maxL ret).before a A.U = true := hws _ hcode _ _ X.warmed
  have h3 : (Cond.initialized y.cls).before a A.U = true := hinit _ _ X.warmed
  have h4 : A.cells + (headSpec ws rm).room.cells ≤ R.cells := by rw [show (headSpec ws rm).room.cells = mc from hrc]; exact hp.1
  have h5 : A.slots + (headSpec ws rm).room.slots ≤ R.slots := by rw [show (headSpec ws rm).room.slots = ms from hrs]; exact hp.2.1
  have hPc : Pc a (A.U.calling g mk a) := hblind _ _ _ _ hp.2.2
  obtain ⟨U, Ls, c0, s0⟩ := A
  dsimp only [Pt.U, Pt.locs, Pt.cells, Pt.slots] at h1 h2 h3 h4 h5 X hn hPc ⊢
  obtain ⟨methY, cY, hmY, hcY, -, hlY, -, -, -, -⟩ := Cond.code_spec hn h2
  obtain ⟨kY, hkY, -⟩ := className_of_methodNamed hn
  have hinitY : kY.init = .initialized := Cond.initialized_spec (findClass_of_methodNamed hn) hkY h3
  have h : At U g.method c below := by rw [hg]; exact X.here
  have hlocals9 : W9 + (maxL + 11) + (headSpec ws rm).room.locals ≤ R.locals := hlocals
  have happ : (headSpec ws rm).appliesLoose y e.platform (U.calling g mk a) = true :=
    Spec.appliesLoose_calling (g := g) h hdg hn hkY hinitY
      (X.room_calling (g := g) (R' := (headSpec ws rm).room) hsize hmY hcY hframes (by rw [hlY]; omega) h4 h5) h1
  obtain ⟨mid, hmid⟩ := h.above
  have hfr : (U.setTop g).frames = (.java g :: mid) ++ below := by rw [State.frames_setTop' g h.top, hmid]; rfl
  obtain ⟨o, s₂, hsteps, -, hend, hq⟩ := Steps.callFree hM p X.admits X.cas X.clock (acts := []) hfr happ hPc trivial
  have hq' : vx_Q Qc XC mc ms free a (U.calling g mk a) o s₂ := hq
  rw [State.frames_setTop' g h.top] at hend
  obtain ⟨g₀, hg0⟩ := Option.isSome_iff_exists.mp h.top
  obtain ⟨r, hr⟩ := State.topJava?_eq_some.mp hg0
  have hr' : (({ U with heap := s₂.heap, slotsUsed := s₂.slotsUsed } : State).setVm s₂.vm).frames = .java g₀ :: r := hr
  rcases hq' with ⟨hqc, L, hfe, hL⟩ | ⟨q, rfl, E, ce, L, hx, hce, hcv, hcl, hW₂, hsm, hL⟩
  · obtain ⟨⟨v, rfl⟩, hW₂, e2, q2, q3, q4, q5, q6⟩ := id hfe
    have e3 : s₂ = ({ (U.calling g mk a).setFrames s₂.frames with heap := s₂.heap, slotsUsed := s₂.slotsUsed } : State).setVm s₂.vm := by
      have : s₂ = ({ s₂ with vm := (U.calling g mk a).vm } : State).setVm s₂.vm := rfl
      rw [e2] at this
      exact this
    obtain ⟨c₂, i₂, len₂, hc₂, hd₂, hf₂⟩ := hend
    have hW' : U.WarmedH s₂.vm := hW₂
    have hcc : c₂ = c := by
      have h1 : s₂.code? g.method = U.code? g.method := by
        rw [State.code?_eq, State.code?_eq, hW'.alike.method?]
      exact Option.some.inj (hc₂.symm.trans (h1.trans h.code))
    subst hcc
    have hlen : len₂ = len := by rw [hdg] at hd₂; cases hd₂; rfl
    subst hlen
    have hs₂ : s₂ = (({ U with heap := s₂.heap, slotsUsed := s₂.slotsUsed } : State).setVm s₂.vm).setTop { g with pc := g.pc + len₂, stack := v.toList ++ g.stack } := by
      refine e3.trans ?_
      rw [hf₂, State.calling_eq h.top, State.setFrames_setFrames, State.setTop_of_frames _ hr', hr]
      rfl
    have hsame : U.sameButNew ({ U with heap := s₂.heap, slotsUsed := s₂.slotsUsed } : State) L mc ms := by
      refine ⟨?_, q2, q3, q4, q5, q6⟩
      obtain ⟨t, ht, -⟩ := State.frames_cons hr
      show ({ U with heap := s₂.heap, slotsUsed := s₂.slotsUsed } : State) = { U.setFrames U.frames with heap := s₂.heap, slotsUsed := s₂.slotsUsed }
      rw [State.setFrames_self ht]
    subst hg
    refine Or.inl ⟨v, ⟨(({ U with heap := s₂.heap, slotsUsed := s₂.slotsUsed } : State).setVm s₂.vm), Ls ++ L, c0 + mc, s0 + ms⟩,
      ⟨X.admits, X.cas, X.clock, X.frames, X.room, X.hears, X.method, X.code, (X.here.setHeapUsed s₂.heap s₂.slotsUsed).setVm hW'.alike, X.tail, State.WarmedH.trans X.warmed hW', X.limits, X.bytes, X.same.trans (hsame.setVm s.vm)⟩,
      ⟨g, mk, s₂, L, rfl, rfl, hqc, rfl, hL, rfl, rfl⟩, ?_⟩
    show Steps p.tables e below _ ((({ U with heap := s₂.heap, slotsUsed := s₂.slotsUsed } : State).setVm s₂.vm).setTop { g with pc := g.pc + len₂, stack := v.toList ++ g.stack })
    rw [← hs₂]
    exact hsteps
  · obtain ⟨e2, q2, q3, q4, q5, q6⟩ := id hsm
    have e3 : s₂ = ({ (U.calling g mk a).setFrames s₂.frames with heap := s₂.heap, slotsUsed := s₂.slotsUsed } : State).setVm s₂.vm := by
      have : s₂ = ({ s₂ with vm := (U.calling g mk a).vm } : State).setVm s₂.vm := rfl
      rw [e2] at this
      exact this
    have hf₂ : s₂.frames = .throwing q :: .java g :: U.frames.tail := hend
    have hW' : U.WarmedH s₂.vm := hW₂
    have hs₂ : s₂ = ((({ U with heap := s₂.heap, slotsUsed := s₂.slotsUsed } : State).setVm s₂.vm).setTop g).pushFrame (.throwing q) := by
      refine e3.trans ?_
      rw [hf₂, State.calling_eq h.top, State.setFrames_setFrames, State.pushFrame, State.frames_setTop _ hr', State.setTop_of_frames _ hr', State.setFrames_setFrames, hr]
      rfl
    have hsame : U.sameButNew ({ U with heap := s₂.heap, slotsUsed := s₂.slotsUsed } : State) L mc ms := by
      refine ⟨?_, q2, q3, q4, q5, q6⟩
      obtain ⟨t, ht, -⟩ := State.frames_cons hr
      show ({ U with heap := s₂.heap, slotsUsed := s₂.slotsUsed } : State) = { U.setFrames U.frames with heap := s₂.heap, slotsUsed := s₂.slotsUsed }
      rw [State.setFrames_self ht]
    subst hg
    refine Or.inr ⟨q, ⟨(({ U with heap := s₂.heap, slotsUsed := s₂.slotsUsed } : State).setVm s₂.vm), Ls ++ L, c0 + mc, s0 + ms⟩,
      ⟨X.admits, X.cas, X.clock, X.frames, X.room, X.hears, X.method, X.code, (X.here.setHeapUsed s₂.heap s₂.slotsUsed).setVm hW'.alike, X.tail, State.WarmedH.trans X.warmed hW', X.limits, X.bytes, X.same.trans (hsame.setVm s.vm)⟩,
      ⟨g, mk, s₂, L, E, ce, rfl, rfl, hx, hce, hcv, hcl, rfl, hL, rfl, rfl⟩, ?_⟩
    show Steps p.tables e below _ (((({ U with heap := s₂.heap, slotsUsed := s₂.slotsUsed } : State).setVm s₂.vm).setTop g).pushFrame (.throwing q))
    rw [← hs₂]
    exact hsteps
end Payer
section Calls
variable {p : Program} {l : Launch} {e : Env} {R : Room} {s : State} {m : MethodId} {args : Array Value} {below : List Frame} {meth : Method} {c : Code} {T : State} {locs : List Loc} {cells slots : Nat}
theorem vx_callV (X : Stand p l e R s m args below meth c T locs cells slots) (hexec : p.tables.exec = Jvm.exec) {own C : String} {index : Nat} {y : MethodName} {bytes : ByteArray} {maxL : Nat} {ret : Option FieldType}
    (hown : s.vm.findClass own = some m.cls) (hlink : (Cond.methodLink own index y).before args s = true) (hinst : (Cond.instanceMethod y).before args s = true) (hsel : (Cond.selects C y y).before args s = true)
    (hcode : (Cond.code y bytes maxL ret).before args s = true) (hy : y.cls ≠ "java/lang/invoke/MethodHandle" ∧ y.cls ≠ "java/lang/invoke/VarHandle")
    {W9 : Nat} {Pre : Pt → Array Value → Prop} {Post : Pt → Array Value → Option Value → Pt → Prop} {PostX : Pt → Array Value → Addr → Pt → Prop} (hK : vx_Back l R p e below s args y 3 W9 Pre Post PostX)
    {b : Addr} {cellB : Cell} (hcell : T.heap[b]? = some cellB) (hobj : cellB.vm.isStatics = false) (hcls : s.vm.findClass C = some cellB.cls)
    {g : JFrame} (hg : g.method = m) (hsize : g.locals.size = c.maxLocals) {argsL rest : List Value} (hlen : ∀ sig, parseMethodDescriptor y.desc = some sig → argsL.length = sig.parameters.length)
    (hstack : g.stack = argsL.reverse ++ .ref b :: rest) (hW : 2 * g.monitorRoom + (rest.map fun v => v.category).sum ≤ W9) (hdg : decode c.code g.pc = .ok (.invokevirtual index, 3))
    (hpre : ∀ vm₁, s.WarmedH vm₁ → Pre ⟨T.setVm vm₁, locs, cells, slots⟩ (Value.ref b :: argsL).toArray) :
    (∃ (v : Option Value) (vm₁ : Vm) (B : Pt), s.WarmedH vm₁ ∧ Stand p l e R s m args below meth c B.U B.locs B.cells B.slots ∧ Post ⟨T.setVm vm₁, locs, cells, slots⟩ (Value.ref b :: argsL).toArray v B ∧
      ∀ target, Steps p.tables e below (B.U.setTop { g with pc := g.pc + 3, stack := v.toList ++ rest }) target → Steps p.tables e below (T.setTop g) target) ∨
    (∃ (q : Addr) (vm₁ : Vm) (B : Pt), s.WarmedH vm₁ ∧ Stand p l e R s m args below meth c B.U B.locs B.cells B.slots ∧ PostX ⟨T.setVm vm₁, locs, cells, slots⟩ (Value.ref b :: argsL).toArray q B ∧
      Steps p.tables e below (T.setTop g) ((B.U.setTop { g with stack := rest }).pushFrame (.throwing q))) := by
  obtain ⟨mk, methM, hnamed, hmethM, hstM, habM⟩ := Cond.instanceMethod_spec hinst
  obtain ⟨methM', cM, hmethM', -, -, -, -, -, -, hsigM⟩ := Cond.code_spec hnamed hcode
  cases hmethM.symm.trans hmethM'
  obtain ⟨c2, r2, m2, q1, q2, q3, q4, kP, hkP, hkPi⟩ := Cond.selects_spec hsel
  cases hcls.symm.trans q1
  cases (State.methodFound?_of_named hnamed hy).symm.trans q2
  cases hnamed.symm.trans q3
  have hselP : selectMethod e.platform s.vm cellB.cls mk = .method mk := by rw [Launch.admits_selectMethod X.admits]; exact q4
  obtain ⟨vm₁, X₁, hstep₁⟩ := X.invokevirtual hexec hown hlink hnamed hmethM hstM hkP hkPi hy (a := b) (cell := cellB) hcell
    (fun z h => by rw [h] at hobj; cases hobj) hselP hmethM habM hkP hkPi (g := g) hg (argsL := argsL) (rest := rest) (hlen _ hsigM) hstack hdg
  rcases hK m meth c ⟨T.setVm vm₁, locs, cells, slots⟩ { g with stack := rest } (.invokevirtual index) mk (Value.ref b :: argsL).toArray X₁ hg hsize hdg hW (X₁.named hnamed) (hpre vm₁ X₁.warmed) with ⟨v, B, X', hpost, hsteps⟩ | ⟨q, B, X', hpost, hsteps⟩
  · exact Or.inl ⟨v, vm₁, B, X₁.warmed, X', hpost, fun target h => hstep₁ _ fun acts => by rw [doInvoke_state]; exact hsteps.trans h⟩
  · exact Or.inr ⟨q, vm₁, B, X₁.warmed, X', hpost, hstep₁ _ fun acts => by rw [doInvoke_state]; exact hsteps⟩
theorem vx_callS (X : Stand p l e R s m args below meth c T locs cells slots) (hexec : p.tables.exec = Jvm.exec) {own : String} {index : Nat} {y : MethodName} {bytes : ByteArray} {maxL : Nat} {ret : Option FieldType}
    (hown : s.vm.findClass own = some m.cls) (hlink : (Cond.methodLink own index y).before args s = true) (hstat : (Cond.static y).before args s = true) (hinit : (Cond.initialized y.cls).before args s = true)
    (hcode : (Cond.code y bytes maxL ret).before args s = true) (hy : y.cls ≠ "java/lang/invoke/MethodHandle" ∧ y.cls ≠ "java/lang/invoke/VarHandle")
    {W9 : Nat} {Pre : Pt → Array Value → Prop} {Post : Pt → Array Value → Option Value → Pt → Prop} {PostX : Pt → Array Value → Addr → Pt → Prop} (hK : vx_Back l R p e below s args y 3 W9 Pre Post PostX)
    {g : JFrame} (hg : g.method = m) (hsize : g.locals.size = c.maxLocals) {argsL rest : List Value} (hlen : ∀ sig, parseMethodDescriptor y.desc = some sig → argsL.length = sig.parameters.length)
    (hstack : g.stack = argsL.reverse ++ rest) (hW : 2 * g.monitorRoom + (rest.map fun v => v.category).sum ≤ W9) (hdg : decode c.code g.pc = .ok (.invokestatic index, 3))
    (hpre : ∀ vm₁, s.WarmedH vm₁ → Pre ⟨T.setVm vm₁, locs, cells, slots⟩ argsL.toArray) :
    (∃ (v : Option Value) (vm₁ : Vm) (B : Pt), s.WarmedH vm₁ ∧ Stand p l e R s m args below meth c B.U B.locs B.cells B.slots ∧ Post ⟨T.setVm vm₁, locs, cells, slots⟩ argsL.toArray v B ∧
      ∀ target, Steps p.tables e below (B.U.setTop { g with pc := g.pc + 3, stack := v.toList ++ rest }) target → Steps p.tables e below (T.setTop g) target) ∨
    (∃ (q : Addr) (vm₁ : Vm) (B : Pt), s.WarmedH vm₁ ∧ Stand p l e R s m args below meth c B.U B.locs B.cells B.slots ∧ PostX ⟨T.setVm vm₁, locs, cells, slots⟩ argsL.toArray q B ∧
      Steps p.tables e below (T.setTop g) ((B.U.setTop { g with stack := rest }).pushFrame (.throwing q))) := by
  obtain ⟨mk, hnamed⟩ := Cond.code_named hcode
  obtain ⟨methM, cM, hmethM, -, -, -, -, -, -, hsigM⟩ := Cond.code_spec hnamed hcode
  have hstatic : methM.isStatic = true := Cond.static_spec hnamed hmethM hstat
  obtain ⟨kP, hkP, -⟩ := className_of_methodNamed hnamed
  have hinitP : kP.init = .initialized := Cond.initialized_spec (findClass_of_methodNamed hnamed) hkP hinit
  obtain ⟨vm₁, X₁, hstep₁⟩ := X.invokestatic hexec hown hlink hnamed hmethM hstatic hkP hinitP hy (g := g) hg (argsL := argsL) (rest := rest) (hlen _ hsigM) hstack hdg
  rcases hK m meth c ⟨T.setVm vm₁, locs, cells, slots⟩ { g with stack := rest } (.invokestatic index) mk argsL.toArray X₁ hg hsize hdg hW (X₁.named hnamed) (hpre vm₁ X₁.warmed) with ⟨v, B, X', hpost, hsteps⟩ | ⟨q, B, X', hpost, hsteps⟩
  · exact Or.inl ⟨v, vm₁, B, X₁.warmed, X', hpost, fun target h => hstep₁ _ fun acts => by rw [doInvoke_state]; exact hsteps.trans h⟩
  · exact Or.inr ⟨q, vm₁, B, X₁.warmed, X', hpost, hstep₁ _ fun acts => by rw [doInvoke_state]; exact hsteps⟩
end Calls
theorem vx_cls {s : State} {T : State} {vm₁ : Vm} {E : String} {k : ClassId} (hW : s.WarmedH vm₁) (h : (T.setVm vm₁).vm.findClass E = some k) : s.vm.findClass E = some k := by
  have h1 : vm₁.findClass E = some k := h
  rw [hW.alike.findClass] at h1
  exact h1
/-- the method's frame g, with q thrown over it -/
def vx_W (p : Program) (l : Launch) (e : Env) (R : Room) (s : State) (m : MethodId) (args : Array Value) (below : List Frame) (meth : Method) (c : Code) (H : Heap) (locs : List Loc) (cells slots : Nat) (Q : State → Prop) (g : JFrame) (q : Addr) : Prop :=
  ∀ T : State, T.heap = H → Stand p l e R s m args below meth c T locs cells slots → ∃ t, Steps p.tables e below ((T.setTop g).pushFrame (.throwing q)) t ∧ Q t
def vx_Run (p : Program) (l : Launch) (e : Env) (R : Room) (s : State) (m : MethodId) (args : Array Value) (below : List Frame) (meth : Method) (c : Code) (H : Heap) (locs : List Loc) (cells slots mc ms : Nat) (g : JFrame) (rest : List Value) (Qa : State → Outcome → State → Prop) (XC : String → State → State → Prop) (free : Addr → Prop) : Prop :=
  ∀ T : State, T.heap = H → Stand p l e R s m args below meth c T locs cells slots →
    (∃ (v : Option Value) (st₀ t T' : State) (L : List Loc), st₀.heap = H ∧ Stand p l e R s m args below meth c T' (locs ++ L) (cells + mc) (slots + ms) ∧ (∀ q ∈ L, free q.base) ∧ T'.heap = t.heap ∧ T'.vm = t.vm ∧ Qa st₀ (.returned v) t ∧
      Goes p e below T g T' { g with pc := g.pc + 3, stack := v.toList ++ rest }) ∨
    (∃ (q : Addr) (st₀ t T' : State) (L : List Loc) (E : String) (ce : Cell), st₀.heap = H ∧ Stand p l e R s m args below meth c T' (locs ++ L) (cells + mc) (slots + ms) ∧ (∀ z ∈ L, free z.base) ∧ T'.heap = t.heap ∧ T'.vm = t.vm ∧ XC E st₀ t ∧ t.heap[q]? = some ce ∧ ce.vm = .none ∧ s.vm.findClass E = some ce.cls ∧
      Steps p.tables e below (T.setTop g) ((T'.setTop { g with stack := rest }).pushFrame (.throwing q)))
def vx_X {S : Type} (px : S → Prop) (B : String → S → State → Prop) (A : Nat → Prop) : String → State → State → Prop := fun E st t => ∃ u : S, px u ∧ B E u t ∧ va_F A st t
section Runs
variable {p : Program} {l : Launch} {e : Env} {R : Room} {s : State} {m : MethodId} {args : Array Value} {below : List Frame} {meth : Method} {c : Code} {H : Heap} {locs : List Loc} {cells slots : Nat}
variable {y : MethodName} {bytes cc : ByteArray} {maxL nL mc ms n index : Nat} {ret : Option FieldType} {ws : List Cond} {rm : Room} {Pc : Array Value → State → Prop} {Qc : Array Value → State → Outcome → State → Prop} {XC : String → State → State → Prop} {free : Addr → Prop} {Ts : List Cond} {own C : String} {b : Addr} {As rest : List Value} {g : JFrame}
theorem vx_callBack (cb : CallB R s args own index y bytes maxL ret ws rm mc ms n) (hM : vx_Met l y ws rm Pc Qc XC mc ms free) (hbl : FrameBlind Pc) : vx_Back l R p e below s args y 3 8 (PreOf R mc ms Pc) (PostOf Qc mc ms free) (vx_Post XC mc ms free) := by
  obtain ⟨hrc, hrs, hfr, hlo, hws, hcw, -, hini, -⟩ := cb
  exact vx_back (bytes := bytes) (maxL := maxL) (ret := ret) hM hbl hrc hrs hfr hlo hws hcw (fun a' U hW => word_at hW (Or.inl (by first | rfl | simp [Cond.onTables, Cond.keeps, Cond.steady])) hini)
theorem vx_runV (S : CallFix p m c cc nL s args Ts own) (hM : vx_Met l y ws rm Pc Qc XC mc ms free) (cw : CallW R s args own C index y bytes maxL ret ws rm mc ms n) (hp : PreV s H C b Pc As)
    (hg : g.method = m) (hn : As.length = n) (hsize : g.locals.size = nL) (hstack : g.stack = As.reverse ++ .ref b :: rest) (hW : 2 * g.monitorRoom + (rest.map fun v => v.category).sum ≤ 8) (hdg : decode cc g.pc = .ok (.invokevirtual index, 3)) (hf : cells + mc ≤ R.cells ∧ slots + ms ≤ R.slots) :
    vx_Run p l e R s m args below meth c H locs cells slots mc ms g rest (Qc (Value.ref b :: As).toArray) XC free := by
  have hK : vx_Back l R p e below s args y 3 8 (PreOf R mc ms Pc) (PostOf Qc mc ms free) (vx_Post XC mc ms free) := vx_callBack cw.1 hM hp.1
  obtain ⟨⟨-, -, -, -, -, -, hcode, -, hy, hlen, hl⟩, hin, hse⟩ := cw
  obtain ⟨hx, hb, hml, ho, -⟩ := S
  obtain ⟨-, ⟨cellB, hcB, hoB, hclB⟩, hPc⟩ := hp
  intro T hT X
  rcases vx_callV X hx (C := C) (bytes := bytes) (maxL := maxL) (ret := ret) ho hl hin hse hcode hy hK (by rw [hT]; exact hcB) hoB hclB hg (hsize.trans hml.symm) (argsL := As) (rest := rest) (fun sig h => hn.trans (hlen sig h)) hstack hW (by rw [hb]; exact hdg)
    (fun vm₁ hW₁ => ⟨hf.1, hf.2, hPc (T.setVm vm₁) hT hW₁⟩) with ⟨v, vm₁, ⟨U', l2, c2, s2⟩, hW₁, X', ⟨g', mk, t, L, e1, e2, hq, h1, hL, h2, h3⟩, st⟩ | ⟨q, vm₁, ⟨U', l2, c2, s2⟩, hW₁, X', ⟨g', mk, t, L, E, ce, e1, e2, hq, hce, hcv, hcl, h1, hL, h2, h3⟩, st⟩
  · dsimp only [Pt.U, Pt.locs, Pt.cells, Pt.slots] at X' e1 e2 h1 h2 h3 st
    subst h1; subst h2; subst h3
    exact Or.inl ⟨v, (T.setVm vm₁).calling g' mk (Value.ref b :: As).toArray, t, U', L, hT, X', hL, e1, e2, hq, st⟩
  · dsimp only [Pt.U, Pt.locs, Pt.cells, Pt.slots] at X' e1 e2 h1 h2 h3 st hcl
    subst h1; subst h2; subst h3
    exact Or.inr ⟨q, (T.setVm vm₁).calling g' mk (Value.ref b :: As).toArray, t, U', L, E, ce, hT, X', hL, e1, e2, hq, hce, hcv, vx_cls hW₁ hcl, st⟩
theorem vx_runS (S : CallFix p m c cc nL s args Ts own) (hM : vx_Met l y ws rm Pc Qc XC mc ms free) (cw : CallB R s args own index y bytes maxL ret ws rm mc ms n ∧ (Cond.static y).before args s = true) (hp : PreS s H Pc As)
    (hg : g.method = m) (hn : As.length = n) (hsize : g.locals.size = nL) (hstack : g.stack = As.reverse ++ rest) (hW : 2 * g.monitorRoom + (rest.map fun v => v.category).sum ≤ 8) (hdg : decode cc g.pc = .ok (.invokestatic index, 3)) (hf : cells + mc ≤ R.cells ∧ slots + ms ≤ R.slots) :
    vx_Run p l e R s m args below meth c H locs cells slots mc ms g rest (Qc As.toArray) XC free := by
  have hK : vx_Back l R p e below s args y 3 8 (PreOf R mc ms Pc) (PostOf Qc mc ms free) (vx_Post XC mc ms free) := vx_callBack cw.1 hM hp.1
  obtain ⟨⟨-, -, -, -, -, -, hcode, hini, hy, hlen, hl⟩, hstt⟩ := cw
  obtain ⟨hx, hb, hml, ho, -⟩ := S
  intro T hT X
  rcases vx_callS X hx (bytes := bytes) (maxL := maxL) (ret := ret) ho hl hstt hini hcode hy hK hg (hsize.trans hml.symm) (argsL := As) (rest := rest) (fun sig h => hn.trans (hlen sig h)) hstack hW (by rw [hb]; exact hdg)
    (fun vm₁ hW₁ => ⟨hf.1, hf.2, hp.2 (T.setVm vm₁) hT hW₁⟩) with ⟨v, vm₁, ⟨U', l2, c2, s2⟩, hW₁, X', ⟨g', mk, t, L, e1, e2, hq, h1, hL, h2, h3⟩, st⟩ | ⟨q, vm₁, ⟨U', l2, c2, s2⟩, hW₁, X', ⟨g', mk, t, L, E, ce, e1, e2, hq, hce, hcv, hcl, h1, hL, h2, h3⟩, st⟩
  · dsimp only [Pt.U, Pt.locs, Pt.cells, Pt.slots] at X' e1 e2 h1 h2 h3 st
    subst h1; subst h2; subst h3
    exact Or.inl ⟨v, (T.setVm vm₁).calling g' mk As.toArray, t, U', L, hT, X', hL, e1, e2, hq, st⟩
  · dsimp only [Pt.U, Pt.locs, Pt.cells, Pt.slots] at X' e1 e2 h1 h2 h3 st hcl
    subst h1; subst h2; subst h3
    exact Or.inr ⟨q, (T.setVm vm₁).calling g' mk As.toArray, t, U', L, E, ce, hT, X', hL, e1, e2, hq, hce, hcv, vx_cls hW₁ hcl, st⟩
end Runs
section Rows
variable {p : Program} {l : Launch} {e : Env} {R : Room} {s : State} {m : MethodId} {args : Array Value} {below : List Frame} {meth : Method} {c : Code} {H : Heap} {locs : List Loc} {cells slots : Nat} {Q : State → Prop}
variable {mc ms : Nat} {free : Addr → Prop} {A0 A1 : Nat → Prop} {H0 : Heap} {a : Array Value} {pc : Nat} {ls : Array Slot} {st0 rest : List Value}
theorem vx_keep {st₀ t T' : State} {L : List Loc} (h0 : st₀.heap = H) (e1 : T'.heap = t.heap) (hS : va_S A0 H0 H locs) (hA : ∀ q, q < H.size → A1 q → A0 q) (hf : ∀ q, free q → A0 q) (hL : ∀ q ∈ L, free q.base) (hF : va_F A1 st₀ t) :
    H.size ≤ T'.heap.size ∧ (∀ q : Nat, q < H.size → ¬ A1 q → T'.heap[q]? = H[q]?) ∧ va_S A0 H0 T'.heap (locs ++ L) := by
  obtain ⟨hz, hk⟩ := hF
  rw [h0] at hz hk
  exact ⟨by rw [e1]; exact hz, fun q h1 h2 => by rw [e1]; exact hk q h1 h2,
    ⟨Nat.le_trans hS.1 (by rw [e1]; exact hz), fun q h1 h2 => by rw [e1, hk q (Nat.lt_of_lt_of_le h1 hS.1) (fun z => h2 (hA q (Nat.lt_of_lt_of_le h1 hS.1) z))]; exact hS.2.1 q h1 h2, fun q hq => by
      rcases List.mem_append.mp hq with h | h
      · exact hS.2.2 q h
      · exact hf _ (hL q h)⟩⟩
theorem vx_calli {S SX : Type} {post : Int32 → S → Prop} {px : SX → Prop} {B : S → State → Prop} {BX : String → SX → State → Prop} {AX : Nat → Prop} (hr : vx_Run p l e R s m args below meth c H locs cells slots mc ms (F0 m pc ls st0) rest (va_Qi post B A1 a) (vx_X px BX AX) free) (hS : va_S A0 H0 H locs) (hA : ∀ q, q < H.size → A1 q → A0 q) (hf : ∀ q, free q → A0 q) (hAX : ∀ q, q < H.size → AX q → A0 q)
    (kx : ∀ (E : String) (ce : Cell) (q9 : Addr) (u : SX) (t : State) (H1 : Heap) (locs1 : List Loc), t.heap = H1 → s.vm.Alike t.vm → px u → BX E u t → H.size ≤ H1.size → (∀ q : Nat, q < H.size → ¬ AX q → H1[q]? = H[q]?) → va_S A0 H0 H1 locs1 → H1[q9]? = some ce → ce.vm = .none → s.vm.findClass E = some ce.cls → vx_W p l e R s m args below meth c H1 locs1 (cells + mc) (slots + ms) Q (F0 m pc ls rest) q9)
    (kk : ∀ (r : Int32) (u : S) (t : State) (H1 : Heap) (locs1 : List Loc), t.heap = H1 → s.vm.Alike t.vm → post r u → B u t → H.size ≤ H1.size → (∀ q : Nat, q < H.size → ¬ A1 q → H1[q]? = H[q]?) → va_S A0 H0 H1 locs1 → W p l e R s m args below meth c H1 locs1 (cells + mc) (slots + ms) Q (F0 m (pc + 3) ls (.int r :: rest))) : W p l e R s m args below meth c H locs cells slots Q (F0 m pc ls st0) := by
  intro T hT X
  rcases hr T hT X with ⟨v, st₀, t, T', L, h0, X', hL, e1, e2, ⟨⟨r, u, hv, hp, hb⟩, hF⟩, st⟩ | ⟨q, st₀, t, T', L, E, ce, h0, X', hL, e1, e2, ⟨u, hp, hb, hF⟩, hce, hcv, hcl, st⟩
  · cases hv
    obtain ⟨k1, k2, k3⟩ := vx_keep h0 e1 hS hA hf hL hF
    obtain ⟨t2, a1, b1⟩ := kk r u t T'.heap (locs ++ L) e1.symm (by rw [← e2]; exact X'.warmed.alike) hp hb k1 k2 k3 T' rfl X'
    exact ⟨t2, st t2 a1, b1⟩
  · obtain ⟨k1, k2, k3⟩ := vx_keep h0 e1 hS hAX hf hL hF
    obtain ⟨t2, a1, b1⟩ := kx E ce q u t T'.heap (locs ++ L) e1.symm (by rw [← e2]; exact X'.warmed.alike) hp hb k1 k2 k3 (by rw [e1]; exact hce) hcv hcl T' rfl X'
    exact ⟨t2, st.trans a1, b1⟩
theorem vx_calll {S SX : Type} {post : Int64 → S → Prop} {px : SX → Prop} {B : S → State → Prop} {BX : String → SX → State → Prop} {AX : Nat → Prop} (hr : vx_Run p l e R s m args below meth c H locs cells slots mc ms (F0 m pc ls st0) rest (va_Ql post B A1 a) (vx_X px BX AX) free) (hS : va_S A0 H0 H locs) (hA : ∀ q, q < H.size → A1 q → A0 q) (hf : ∀ q, free q → A0 q) (hAX : ∀ q, q < H.size → AX q → A0 q)
    (kx : ∀ (E : String) (ce : Cell) (q9 : Addr) (u : SX) (t : State) (H1 : Heap) (locs1 : List Loc), t.heap = H1 → s.vm.Alike t.vm → px u → BX E u t → H.size ≤ H1.size → (∀ q : Nat, q < H.size → ¬ AX q → H1[q]? = H[q]?) → va_S A0 H0 H1 locs1 → H1[q9]? = some ce → ce.vm = .none → s.vm.findClass E = some ce.cls → vx_W p l e R s m args below meth c H1 locs1 (cells + mc) (slots + ms) Q (F0 m pc ls rest) q9)
    (kk : ∀ (r : Int64) (u : S) (t : State) (H1 : Heap) (locs1 : List Loc), t.heap = H1 → s.vm.Alike t.vm → post r u → B u t → H.size ≤ H1.size → (∀ q : Nat, q < H.size → ¬ A1 q → H1[q]? = H[q]?) → va_S A0 H0 H1 locs1 → W p l e R s m args below meth c H1 locs1 (cells + mc) (slots + ms) Q (F0 m (pc + 3) ls (.long r :: rest))) : W p l e R s m args below meth c H locs cells slots Q (F0 m pc ls st0) := by
  intro T hT X
  rcases hr T hT X with ⟨v, st₀, t, T', L, h0, X', hL, e1, e2, ⟨⟨r, u, hv, hp, hb⟩, hF⟩, st⟩ | ⟨q, st₀, t, T', L, E, ce, h0, X', hL, e1, e2, ⟨u, hp, hb, hF⟩, hce, hcv, hcl, st⟩
  · cases hv
    obtain ⟨k1, k2, k3⟩ := vx_keep h0 e1 hS hA hf hL hF
    obtain ⟨t2, a1, b1⟩ := kk r u t T'.heap (locs ++ L) e1.symm (by rw [← e2]; exact X'.warmed.alike) hp hb k1 k2 k3 T' rfl X'
    exact ⟨t2, st t2 a1, b1⟩
  · obtain ⟨k1, k2, k3⟩ := vx_keep h0 e1 hS hAX hf hL hF
    obtain ⟨t2, a1, b1⟩ := kx E ce q u t T'.heap (locs ++ L) e1.symm (by rw [← e2]; exact X'.warmed.alike) hp hb k1 k2 k3 (by rw [e1]; exact hce) hcv hcl T' rfl X'
    exact ⟨t2, st.trans a1, b1⟩
theorem vx_callf {S SX : Type} {post : UInt32 → S → Prop} {px : SX → Prop} {B : S → State → Prop} {BX : String → SX → State → Prop} {AX : Nat → Prop} (hr : vx_Run p l e R s m args below meth c H locs cells slots mc ms (F0 m pc ls st0) rest (va_Qf post B A1 a) (vx_X px BX AX) free) (hS : va_S A0 H0 H locs) (hA : ∀ q, q < H.size → A1 q → A0 q) (hf : ∀ q, free q → A0 q) (hAX : ∀ q, q < H.size → AX q → A0 q)
    (kx : ∀ (E : String) (ce : Cell) (q9 : Addr) (u : SX) (t : State) (H1 : Heap) (locs1 : List Loc), t.heap = H1 → s.vm.Alike t.vm → px u → BX E u t → H.size ≤ H1.size → (∀ q : Nat, q < H.size → ¬ AX q → H1[q]? = H[q]?) → va_S A0 H0 H1 locs1 → H1[q9]? = some ce → ce.vm = .none → s.vm.findClass E = some ce.cls → vx_W p l e R s m args below meth c H1 locs1 (cells + mc) (slots + ms) Q (F0 m pc ls rest) q9)
    (kk : ∀ (r : UInt32) (u : S) (t : State) (H1 : Heap) (locs1 : List Loc), t.heap = H1 → s.vm.Alike t.vm → post r u → B u t → H.size ≤ H1.size → (∀ q : Nat, q < H.size → ¬ A1 q → H1[q]? = H[q]?) → va_S A0 H0 H1 locs1 → W p l e R s m args below meth c H1 locs1 (cells + mc) (slots + ms) Q (F0 m (pc + 3) ls (.float r :: rest))) : W p l e R s m args below meth c H locs cells slots Q (F0 m pc ls st0) := by
  intro T hT X
  rcases hr T hT X with ⟨v, st₀, t, T', L, h0, X', hL, e1, e2, ⟨⟨r, u, hv, hp, hb⟩, hF⟩, st⟩ | ⟨q, st₀, t, T', L, E, ce, h0, X', hL, e1, e2, ⟨u, hp, hb, hF⟩, hce, hcv, hcl, st⟩
  · cases hv
    obtain ⟨k1, k2, k3⟩ := vx_keep h0 e1 hS hA hf hL hF
    obtain ⟨t2, a1, b1⟩ := kk r u t T'.heap (locs ++ L) e1.symm (by rw [← e2]; exact X'.warmed.alike) hp hb k1 k2 k3 T' rfl X'
    exact ⟨t2, st t2 a1, b1⟩
  · obtain ⟨k1, k2, k3⟩ := vx_keep h0 e1 hS hAX hf hL hF
    obtain ⟨t2, a1, b1⟩ := kx E ce q u t T'.heap (locs ++ L) e1.symm (by rw [← e2]; exact X'.warmed.alike) hp hb k1 k2 k3 (by rw [e1]; exact hce) hcv hcl T' rfl X'
    exact ⟨t2, st.trans a1, b1⟩
theorem vx_calld {S SX : Type} {post : UInt64 → S → Prop} {px : SX → Prop} {B : S → State → Prop} {BX : String → SX → State → Prop} {AX : Nat → Prop} (hr : vx_Run p l e R s m args below meth c H locs cells slots mc ms (F0 m pc ls st0) rest (va_Qd post B A1 a) (vx_X px BX AX) free) (hS : va_S A0 H0 H locs) (hA : ∀ q, q < H.size → A1 q → A0 q) (hf : ∀ q, free q → A0 q) (hAX : ∀ q, q < H.size → AX q → A0 q)
    (kx : ∀ (E : String) (ce : Cell) (q9 : Addr) (u : SX) (t : State) (H1 : Heap) (locs1 : List Loc), t.heap = H1 → s.vm.Alike t.vm → px u → BX E u t → H.size ≤ H1.size → (∀ q : Nat, q < H.size → ¬ AX q → H1[q]? = H[q]?) → va_S A0 H0 H1 locs1 → H1[q9]? = some ce → ce.vm = .none → s.vm.findClass E = some ce.cls → vx_W p l e R s m args below meth c H1 locs1 (cells + mc) (slots + ms) Q (F0 m pc ls rest) q9)
    (kk : ∀ (r : UInt64) (u : S) (t : State) (H1 : Heap) (locs1 : List Loc), t.heap = H1 → s.vm.Alike t.vm → post r u → B u t → H.size ≤ H1.size → (∀ q : Nat, q < H.size → ¬ A1 q → H1[q]? = H[q]?) → va_S A0 H0 H1 locs1 → W p l e R s m args below meth c H1 locs1 (cells + mc) (slots + ms) Q (F0 m (pc + 3) ls (.double r :: rest))) : W p l e R s m args below meth c H locs cells slots Q (F0 m pc ls st0) := by
  intro T hT X
  rcases hr T hT X with ⟨v, st₀, t, T', L, h0, X', hL, e1, e2, ⟨⟨r, u, hv, hp, hb⟩, hF⟩, st⟩ | ⟨q, st₀, t, T', L, E, ce, h0, X', hL, e1, e2, ⟨u, hp, hb, hF⟩, hce, hcv, hcl, st⟩
  · cases hv
    obtain ⟨k1, k2, k3⟩ := vx_keep h0 e1 hS hA hf hL hF
    obtain ⟨t2, a1, b1⟩ := kk r u t T'.heap (locs ++ L) e1.symm (by rw [← e2]; exact X'.warmed.alike) hp hb k1 k2 k3 T' rfl X'
    exact ⟨t2, st t2 a1, b1⟩
  · obtain ⟨k1, k2, k3⟩ := vx_keep h0 e1 hS hAX hf hL hF
    obtain ⟨t2, a1, b1⟩ := kx E ce q u t T'.heap (locs ++ L) e1.symm (by rw [← e2]; exact X'.warmed.alike) hp hb k1 k2 k3 (by rw [e1]; exact hce) hcv hcl T' rfl X'
    exact ⟨t2, st.trans a1, b1⟩
theorem vx_callv {S SX : Type} {post : S → Prop} {px : SX → Prop} {B : S → State → Prop} {BX : String → SX → State → Prop} {AX : Nat → Prop} (hr : vx_Run p l e R s m args below meth c H locs cells slots mc ms (F0 m pc ls st0) rest (va_Qv post B A1 a) (vx_X px BX AX) free) (hS : va_S A0 H0 H locs) (hA : ∀ q, q < H.size → A1 q → A0 q) (hf : ∀ q, free q → A0 q) (hAX : ∀ q, q < H.size → AX q → A0 q)
    (kx : ∀ (E : String) (ce : Cell) (q9 : Addr) (u : SX) (t : State) (H1 : Heap) (locs1 : List Loc), t.heap = H1 → s.vm.Alike t.vm → px u → BX E u t → H.size ≤ H1.size → (∀ q : Nat, q < H.size → ¬ AX q → H1[q]? = H[q]?) → va_S A0 H0 H1 locs1 → H1[q9]? = some ce → ce.vm = .none → s.vm.findClass E = some ce.cls → vx_W p l e R s m args below meth c H1 locs1 (cells + mc) (slots + ms) Q (F0 m pc ls rest) q9)
    (kk : ∀ (u : S) (t : State) (H1 : Heap) (locs1 : List Loc), t.heap = H1 → s.vm.Alike t.vm → post u → B u t → H.size ≤ H1.size → (∀ q : Nat, q < H.size → ¬ A1 q → H1[q]? = H[q]?) → va_S A0 H0 H1 locs1 → W p l e R s m args below meth c H1 locs1 (cells + mc) (slots + ms) Q (F0 m (pc + 3) ls (rest))) : W p l e R s m args below meth c H locs cells slots Q (F0 m pc ls st0) := by
  intro T hT X
  rcases hr T hT X with ⟨v, st₀, t, T', L, h0, X', hL, e1, e2, ⟨⟨u, hv, hp, hb⟩, hF⟩, st⟩ | ⟨q, st₀, t, T', L, E, ce, h0, X', hL, e1, e2, ⟨u, hp, hb, hF⟩, hce, hcv, hcl, st⟩
  · cases hv
    obtain ⟨k1, k2, k3⟩ := vx_keep h0 e1 hS hA hf hL hF
    obtain ⟨t2, a1, b1⟩ := kk u t T'.heap (locs ++ L) e1.symm (by rw [← e2]; exact X'.warmed.alike) hp hb k1 k2 k3 T' rfl X'
    exact ⟨t2, st t2 a1, b1⟩
  · obtain ⟨k1, k2, k3⟩ := vx_keep h0 e1 hS hAX hf hL hF
    obtain ⟨t2, a1, b1⟩ := kx E ce q u t T'.heap (locs ++ L) e1.symm (by rw [← e2]; exact X'.warmed.alike) hp hb k1 k2 k3 (by rw [e1]; exact hce) hcv hcl T' rfl X'
    exact ⟨t2, st.trans a1, b1⟩
/-- caught by the row x of this method's table; the rows ahead don't take it -/
theorem vx_catch {own name : String} {E : String} {ce : Cell} {q : Addr} (hown : s.vm.findClass own = some m.cls) (pre : List ExceptionTableEntry) (x : ExceptionTableEntry) (suf : List ExceptionTableEntry) (hsplit : c.exceptionTable.toList = pre ++ x :: suf)
    (hpass : ∀ z ∈ pre, covers z pc = false ∨ (z.catchType ≠ 0 ∧ ∃ nm : String, (Cond.classLink own z.catchType nm).before args s = true ∧ va_Nc E nm s)) (hx : covers x pc = true) (h0 : x.catchType ≠ 0)
    (hlink : (Cond.classLink own x.catchType name).before args s = true) (hcast : (Cond.castable E name).before args s = true) (hcell : H[q]? = some ce) (hv : ce.vm = .none) (hcl : s.vm.findClass E = some ce.cls)
    (kk : W p l e R s m args below meth c H locs cells slots Q (F0 m x.handlerPc ls [.ref q])) : vx_W p l e R s m args below meth c H locs cells slots Q (F0 m pc ls rest) q := by
  intro T hT X
  have hpl : e.platform.magicAccessors = ({} : Platform).magicAccessors := by rw [X.admits.platform]
  obtain ⟨c3, c4, hc3, hc4, hasg⟩ := Cond.castable_spec hcast
  cases Option.some.inj (hc3.symm.trans hcl)
  obtain ⟨c5, hc5, hcl5⟩ := Cond.classLink_spec hown hlink e.platform hpl
  cases Option.some.inj (hc4.symm.trans hc5)
  obtain ⟨vm', X', st⟩ := X.thenCaughtThrough q (g := F0 m pc ls rest) rfl (Steps.refl _) (by rw [hT]; exact hcell) (by rw [hv]; rfl) (by obtain ⟨k9, h9, -⟩ := Vm.findClass_spec hcl; exact ⟨k9, h9⟩) pre x suf hsplit
    (fun z hz => by
      rcases hpass z hz with h | ⟨hz0, nm, hl1, hn1⟩
      · exact Or.inl h
      · obtain ⟨c6, hc6, hcl6⟩ := Cond.classLink_spec hown hl1 e.platform hpl
        obtain ⟨a8, b8, h1, h2, h3⟩ := hn1
        cases Option.some.inj (h1.symm.trans hcl)
        cases Option.some.inj (h2.symm.trans hc6)
        exact Or.inr ⟨hz0, _, hcl6, h3⟩) hx (Or.inr ⟨h0, c4, hcl5, hasg⟩)
  obtain ⟨t, a1, b1⟩ := kk (T.setVm vm') hT X'
  exact ⟨t, st.trans a1, b1⟩
end Rows
section Ends
variable {p : Program} {l : Launch} {e : Env} {R : Room} {s : State} {m : MethodId} {args : Array Value} {below : List Frame} {meth : Method} {c : Code} {H : Heap} {locs : List Loc} {cells slots : Nat} {Q : State → Prop}
variable {mc ms : Nat} {free : Addr → Prop} {A0 A1 : Nat → Prop} {H0 : Heap} {a : Array Value} {ls : Array Slot} {st0 rest : List Value}
variable {Qc : Array Value → State → Outcome → State → Prop} {XC : String → State → State → Prop}
/-- what a body that may throw owes at its end -/
def vx_MQ (below : List Frame) (Qc : Array Value → State → Outcome → State → Prop) (XC : String → State → State → Prop) (a : Array Value) (s : State) (mc ms : Nat) (free : Addr → Prop) : State → Prop := fun t =>
  ∃ o, t.status = .running ∧ Ended t below o ∧ vx_Q Qc XC mc ms free a s o t
theorem vx_ret {g : JFrame} {mc ms : Nat} (k : W p l e R s m args below meth c H locs cells slots (MQ below Qc args s mc ms free) g) : W p l e R s m args below meth c H locs cells slots (vx_MQ below Qc XC args s mc ms free) g := by
  intro T hT X
  obtain ⟨t, a1, o, b1, b2, b3, b4⟩ := k T hT X
  exact ⟨t, a1, o, b1, b2, Or.inl ⟨b3, b4⟩⟩
/-- not caught here: it goes on to the caller -/
theorem vx_widen {g : JFrame} {q : Addr} {k n : Nat} (h1 : cells ≤ k) (h2 : slots ≤ n) (kk : vx_W p l e R s m args below meth c H locs k n Q g q) : vx_W p l e R s m args below meth c H locs cells slots Q g q := fun T hT X => kk T hT (stand_widen X h1 h2)
theorem vx_out {pc : Nat} {E : String} {ce : Cell} {q : Addr} {mc ms : Nat} (hout : ∀ x ∈ c.exceptionTable.toList, covers x pc = false) (hlocks : meth.locks = false) (hcell : H[q]? = some ce) (hv : ce.vm = .none) (hcl : s.vm.findClass E = some ce.cls)
    (hx : ∀ t : State, t.heap = H → s.vm.Alike t.vm → XC E s t) (hf : ∀ z ∈ locs, free z.base) (hc : cells ≤ mc) (hs : slots ≤ ms) :
    vx_W p l e R s m args below meth c H locs cells slots (vx_MQ below Qc XC args s mc ms free) (F0 m pc ls rest) q := by
  intro T hT X
  obtain ⟨st1, hrun, hend, hW, hsm⟩ := X.leaveThrown q (g := F0 m pc ls rest) rfl rfl rfl hout hlocks
  have hcell9 : (T.setFrames (.throwing q :: below)).heap[q]? = some ce := by
    show T.heap[q]? = some ce
    rw [hT]; exact hcell
  exact ⟨_, st1, .threw q, hrun, hend, Or.inr ⟨q, rfl, E, ce, locs, hx _ hT hW.alike, hcell9, hv, hcl, hW, hsm.mono hc hs, hf⟩⟩
theorem vx_frame {U : State} {k n : Nat} (h : s.sameButNew ({ U with vm := s.vm } : State) locs k n) : s.heap.size ≤ U.heap.size ∧ ∀ q : Nat, q < s.heap.size → (∀ z ∈ locs, z.base ≠ q) → U.heap[q]? = s.heap[q]? := by
  obtain ⟨-, h2, -, -, -, h6⟩ := h
  refine ⟨h2, fun q hq hz => ?_⟩
  obtain ⟨c9, e1, e2, e3, e4⟩ := h6 q _ (Array.getElem?_eq_getElem hq)
  have hs : c9.slots = (s.heap[q]).slots := Array.ext_getElem? fun i => e4 i fun hm => hz _ hm rfl
  have h9 : c9 = s.heap[q] := by
    rw [hs] at e2
    exact e2
  have e5 : U.heap[q]? = some c9 := e1
  rw [e5, h9, Array.getElem?_eq_getElem hq]
/-- the words of a throw but the four that speak of the heap -/
def vx_no (w : Cond) : Bool := decide (w ≠ .isRef (.static Bundle.tN "UNASSIGNED_STACK" Bundle.steD)) && decide (w ≠ .isRef (.static Bundle.tN "SUPPRESSED_SENTINEL" Bundle.listD)) && decide (w ≠ .laysStatic Bundle.tN "UNASSIGNED_STACK" Bundle.steD) && decide (w ≠ .laysStatic Bundle.tN "SUPPRESSED_SENTINEL" Bundle.listD)
def vx_at0 (own : String) (ic : Nat) (X : String) (names : List String) : List Cond := (Bundle.ownAtoms0 own ic X names).filter vx_no
def vx_atS (own : String) (ic : Nat) (X : String) (names : List String) : List Cond := (Bundle.ownAtoms own ic X names).filter vx_no
/-- a word that the tables alone decide, or a good one -/
def vx_ot (w : Cond) : Bool := w.onTables || goodWord w
theorem vx_ot_at {args a' : Array Value} {s U : State} {w : Cond} (hW : s.WarmedH U.vm) (hvm : s.vm = U.vm) (hg : vx_ot w = true) (h : w.before args s = true) : w.before a' U = true := by
  simp only [vx_ot, Bool.or_eq_true] at hg
  rcases hg with hg | hg
  · exact va_tabs hg hvm h
  · exact word_at hW (good_of_word hg) h
/-- a list's words: the good ones out of the method's own list, the others by premises of their own -/
theorem vx_hat {args : Array Value} {s : State} {L B : List Cond} (h1 : ∀ w ∈ L.filter goodWord, w.before args s = true) (h2 : ∀ w ∈ L.filter (fun w => !goodWord w), w ∈ B) (h3 : ∀ w ∈ B, w.before args s = true) : ∀ w ∈ L, w.before args s = true := by
  intro w hw
  by_cases g : goodWord w = true
  · exact h1 w (List.mem_filter.mpr ⟨hw, g⟩)
  · refine h3 w (h2 w (List.mem_filter.mpr ⟨hw, ?_⟩))
    show (!goodWord w) = true
    cases hgw : goodWord w
    · rfl
    · exact absurd hgw g
theorem vx_c {args : Array Value} {s : State} {w : Cond} {B : List Cond} (h : w.before args s = true) (t : ∀ w ∈ B, w.before args s = true) : ∀ w' ∈ w :: B, w'.before args s = true := fun w' h' => (List.mem_cons.mp h').elim (fun e => by rw [e]; exact h) (t w')
theorem vx_n {args : Array Value} {s : State} : ∀ w ∈ ([] : List Cond), w.before args s = true := fun _ h => nomatch h
theorem vx_own {args : Array Value} {s : State} {L : List Cond} (h1 : ∀ w ∈ L.filter vx_no, w.before args s = true)
    (hU : (Cond.isRef (.static Bundle.tN "UNASSIGNED_STACK" Bundle.steD)).before args s = true) (hN : (Cond.isRef (.static Bundle.tN "SUPPRESSED_SENTINEL" Bundle.listD)).before args s = true)
    (lU : (Cond.laysStatic Bundle.tN "UNASSIGNED_STACK" Bundle.steD).before args s = true) (lN : (Cond.laysStatic Bundle.tN "SUPPRESSED_SENTINEL" Bundle.listD).before args s = true) : ∀ w ∈ L, w.before args s = true := by
  intro w hw
  by_cases e1 : w = .isRef (.static Bundle.tN "UNASSIGNED_STACK" Bundle.steD)
  · rw [e1]; exact hU
  · by_cases e2 : w = .isRef (.static Bundle.tN "SUPPRESSED_SENTINEL" Bundle.listD)
    · rw [e2]; exact hN
    · by_cases e3 : w = .laysStatic Bundle.tN "UNASSIGNED_STACK" Bundle.steD
      · rw [e3]; exact lU
      · by_cases e4 : w = .laysStatic Bundle.tN "SUPPRESSED_SENTINEL" Bundle.listD
        · rw [e4]; exact lN
        · exact h1 w (List.mem_filter.mpr ⟨hw, by unfold vx_no; rw [decide_eq_true e1, decide_eq_true e2, decide_eq_true e3, decide_eq_true e4]; rfl⟩)
/-- where a static field lies, its class's statics cell in H -/
def vx_L (C n d : String) (A : Nat → Prop) (U : State) (H : Heap) : Prop := ∃ (c : ClassId) (k : Class) (i : Nat) (f : Field) (a : Nat) (cell : Cell), U.vm.findClass C = some c ∧ U.fieldFound? C n d = some (c, k, i, f) ∧ f.isStatic = true ∧ k.statics = some a ∧ H[a]? = some cell ∧ cell.vm.isStatics = true ∧ cell.cls = c ∧ f.slot < cell.slots.size ∧ k.staticTypes[f.slot]? = some f.type ∧ ¬ A a
theorem vx_L.moved {C n d : String} {A : Nat → Prop} {u U : State} {H : Heap} (hvm : u.vm.Alike U.vm) (h : vx_L C n d A u H) : vx_L C n d A U H := by
  obtain ⟨c, k, i, f, a, cell, h1, h2, h3, h4, h5, h6, h7, h8, h9, h10⟩ := h
  obtain ⟨k', hi', he⟩ := State.fieldFound?_setVm hvm h2
  exact ⟨c, k', i, f, a, cell, by rw [hvm.findClass]; exact h1, hi', h3, by rw [he]; exact h4, h5, h6, h7, h8, by rw [he]; exact h9, h10⟩
theorem vx_L.kept {C n d : String} {A : Nat → Prop} {U : State} {H H1 : Heap} (h : vx_L C n d A U H) (hq : ∀ a : Nat, a < H.size → ¬ A a → H1[a]? = H[a]?) : vx_L C n d A U H1 := by
  obtain ⟨c, k, i, f, a, cell, h1, h2, h3, h4, h5, h6, h7, h8, h9, h10⟩ := h
  exact ⟨c, k, i, f, a, cell, h1, h2, h3, h4, by rw [hq a (Array.getElem?_eq_some_iff.mp h5).1 h10]; exact h5, h6, h7, h8, h9, h10⟩
theorem vx_L.narrow {C n d : String} {A B : Nat → Prop} {U : State} {H : Heap} (h : vx_L C n d A U H) (hAB : ∀ q, B q → A q) : vx_L C n d B U H := by
  obtain ⟨c, k, i, f, a, cell, h1, h2, h3, h4, h5, h6, h7, h8, h9, h10⟩ := h
  exact ⟨c, k, i, f, a, cell, h1, h2, h3, h4, h5, h6, h7, h8, h9, fun z => h10 (hAB _ z)⟩
theorem vx_L.word {C n d : String} {A : Nat → Prop} {s : State} {args : Array Value} (h : vx_L C n d A s s.heap) : (Cond.laysStatic C n d).before args s = true := by
  obtain ⟨c, k, i, f, a, cell, h1, h2, h3, h4, h5, h6, h7, h8, h9, -⟩ := h
  show (Cond.laysStatic C n d).holds args s none s [] = true
  exact Cond.laysStatic_of h1 h2 h3 h4 h5 h6 h7 h8 h9
/-- .. and what it holds: null or some reference -/
def vx_Zq (C n d : String) (A : Nat → Prop) (U : State) (H : Heap) : Prop := va_Zq C n d A U H ∧ vx_L C n d A U H
theorem vx_Zq.moved {C n d : String} {A : Nat → Prop} {u U : State} {H : Heap} (hvm : u.vm.Alike U.vm) (h : vx_Zq C n d A u H) : vx_Zq C n d A U H := ⟨va_Zq.moved hvm h.1, vx_L.moved hvm h.2⟩
theorem vx_Zq.kept {C n d : String} {A : Nat → Prop} {U : State} {H H1 : Heap} (h : vx_Zq C n d A U H) (hq : ∀ a : Nat, a < H.size → ¬ A a → H1[a]? = H[a]?) : vx_Zq C n d A U H1 := ⟨va_Zq.kept h.1 hq, vx_L.kept h.2 hq⟩
theorem vx_Zq.narrow {C n d : String} {A B : Nat → Prop} {U : State} {H : Heap} (h : vx_Zq C n d A U H) (hAB : ∀ q, B q → A q) : vx_Zq C n d B U H := ⟨va_Zq.narrow h.1 hAB, vx_L.narrow h.2 hAB⟩
theorem vx_Zqof {args : Array Value} {s : State} {C n d : String} {A : Nat → Prop} (hl : (Cond.laysStatic C n d).before args s = true) (hini : (Cond.initialized C).before args s = true) (h : (Cond.isRef (.static C n d)).before args s = true) (hA : ∀ a : Nat, a < s.heap.size → ¬ A a) : vx_Zq C n d A s s.heap := by
  refine ⟨va_Zqof hl hini h hA, ?_⟩
  obtain ⟨c, k, i, f, a, cell, h1, h2, h3, h4, h5, h6, h7, h8, h9⟩ := Cond.laysStatic_spec hl
  exact ⟨c, k, i, f, a, cell, h1, h2, h3, h4, h5, h6, h7, h8, h9, hA a (Array.getElem?_eq_some_iff.mp h5).1⟩
theorem vx_isRef {C n d : String} {v : Value} {A : Nat → Prop} {s : State} {args : Array Value} (h : va_Z C n d v A s s.heap) (hv : v.isRef = true) : (Cond.isRef (.static C n d)).before args s = true := by
  obtain ⟨cf, kf, fi, f, a, cell, h1, h2, h3, h4, h5, h6, h7, -⟩ := h
  have he : (Term.static C n d).eval args s none [] s = some v := by
    simp [Term.eval, State.fieldNamed?, h1, h2, h4, h5, h6, h7]
  simp only [Cond.before, Cond.holds, Cond.value, he]
  cases v <;> simp_all [Value.isRef]
theorem vx_isRefq {C n d : String} {A : Nat → Prop} {s : State} {args : Array Value} (h : va_Zq C n d A s s.heap) : (Cond.isRef (.static C n d)).before args s = true := by
  rcases h with h | ⟨t, h⟩
  · exact vx_isRef h rfl
  · exact vx_isRef h rfl
/-- the same frame, seen from here: as if the method were called anew in this heap -/
theorem vx_rebase {T : State} (X : Stand p l e R s m args below meth c T locs cells slots) {R' : Room} (hf : R'.frames ≤ R.frames) (hl : R'.locals ≤ R.locals) (hc : cells + R'.cells ≤ R.cells) (hs : slots + R'.slots ≤ R.slots) :
    Stand p l e R' ((T.setVm s.vm).setFrames (.invoking m args :: below)) m args below meth c T [] 0 0 := by
  have htop : (T.setVm s.vm).topJava?.isSome := X.here.top
  have hF : ((T.setVm s.vm).setFrames (.invoking m args :: below)).frames = .invoking m args :: below := State.frames_setFrames _ (State.cur_lt_of_top htop)
  obtain ⟨g₀, hg0⟩ := Option.isSome_iff_exists.mp htop
  obtain ⟨r, hr⟩ := State.topJava?_eq_some.mp hg0
  have hl9 : e.platform.stackLimits (T.setVm s.vm).me = e.platform.stackLimits s.me := X.limits
  have hb9 : (T.setVm s.vm).me.stackBytes = s.me.stackBytes := X.bytes
  refine ⟨X.admits, X.cas, X.clock, hF, ?_, X.hears, X.method, X.code, X.here, X.tail, X.warmed, ?_, ?_, ?_⟩
  · have h := X.room
    have hU : ((T.setVm s.vm).setFrames (.invoking m args :: below)).localsInUse = s.localsInUse := by
      rw [State.localsInUse_invoking hF (meth := meth) (c := c) X.method X.code, State.localsInUse_invoking X.frames X.method X.code]
    simp only [State.hasRoom, Bool.and_eq_true, decide_eq_true_eq] at h ⊢
    obtain ⟨⟨⟨⟨h1, h2, h3, h4, h5, h6⟩, h7⟩, h8⟩, h9⟩ := h
    rw [X.frames, List.length_cons] at h2 h3
    have q1 := X.heapSize
    have q2 := X.used
    simp only [hF, hU, List.length_cons, State.stackLimits_setFrames, State.stackBytes_setFrames, hl9, hb9]
    refine ⟨⟨⟨⟨by omega, by omega, by omega, by omega, by omega, h6⟩, ?_⟩, ?_⟩, X.book⟩
    · show T.heap.size + R'.cells ≤ e.platform.maxCells
      omega
    · show T.slotsUsed + R'.slots ≤ e.platform.maxSlots
      omega
  · rw [State.stackLimits_setFrames]; rfl
  · rw [State.stackBytes_setFrames]; rfl
  · refine ⟨?_, Nat.le_refl _, Nat.le_refl _, ?_, ?_, fun a c9 h9 => ⟨c9, h9, rfl, rfl, fun _ _ => rfl⟩⟩
    · obtain ⟨t, ht, -⟩ := State.frames_cons hr
      show T.setVm s.vm = { ((T.setVm s.vm).setFrames (.invoking m args :: below)).setFrames (T.setVm s.vm).frames with heap := T.heap, slotsUsed := T.slotsUsed }
      rw [State.setFrames_setFrames, State.setFrames_self ht]
      rfl
    · show T.slotsUsed = T.slotsUsed + ((T.heap.toList.drop T.heap.size).map (·.slots.size)).sum
      rw [List.drop_eq_nil_of_le (Nat.le_of_eq Array.length_toList)]
      rfl
    · show ((T.heap.toList.drop T.heap.size).map (·.slots.size)).sum ≤ 0
      rw [List.drop_eq_nil_of_le (Nat.le_of_eq Array.length_toList)]
      exact Nat.le_refl _
/-- 'throw new E()': new; dup; invokespecial; athrow -/
theorem vx_throw0 {cc : ByteArray} {pc : Nat} (hexec : p.tables.exec = Jvm.exec) (hb : c.code = cc) (hl : l.stackTraces = false) {own cls : String} {names : List String} {ik ic mc ms : Nat} {A : Nat → Prop}
    (hown : s.vm.findClass own = some m.cls) (hcls : Bundle.fit cls = true) (hnames : ∀ n ∈ names, Bundle.fit n = true)
    (hk : (Cond.classLink own ik cls).before args s = true) (hini : (Cond.initialized cls).before args s = true) (hat : ∀ w ∈ vx_at0 own ic cls names, w.before args s = true)
    (hgood : ∀ w ∈ Cond.classLink own ik cls :: Cond.initialized cls :: vx_at0 own ic cls names, vx_ot w = true)
    (hU : vx_Zq Bundle.tN "UNASSIGNED_STACK" Bundle.steD A s s.heap) (hN : vx_Zq Bundle.tN "SUPPRESSED_SENTINEL" Bundle.listD A s s.heap) (hS : va_S A s.heap H locs) (hsize : ls.size = c.maxLocals)
    (d0 : decode cc pc = .ok (.new ik, 3)) (d3 : decode cc (pc + 3) = .ok (.dup, 1)) (d4 : decode cc (pc + 4) = .ok (.invokespecial ic, 3)) (d7 : decode cc (pc + 7) = .ok (.athrow, 1))
    (hout : ∀ x ∈ c.exceptionTable.toList, covers x (pc + 7) = false)
    (hRframes : names.length + 3 < R.frames) (hRlocals : (rest.map fun v => v.category).sum + (13 * (names.length + 1) + 42) ≤ R.locals) (hRcells : cells + 1 ≤ R.cells) (hRslots : slots + 6 ≤ R.slots) (hlocks : meth.locks = false)
    (hx : ∀ t : State, s.vm.Alike t.vm → H.size ≤ t.heap.size → (∀ q : Nat, q < H.size → t.heap[q]? = H[q]?) → XC cls s t)
    (hf : ∀ z ∈ locs, free z.base) (hc : cells + 1 ≤ mc) (hs : slots + 6 ≤ ms) :
    W p l e R s m args below meth c H locs cells slots (vx_MQ below Qc XC args s mc ms free) (F0 m pc ls rest) := by
  intro T hT X
  have htr : e.platform.stackTraces = false := (show e.platform.stackTraces = l.stackTraces by rw [X.admits.platform]).trans hl
  have Y := vx_rebase X (R' := { frames := R.frames, locals := R.locals, cells := 1, slots := 6 }) (Nat.le_refl _) (Nat.le_refl _) hRcells hRslots
  obtain ⟨s', hA⟩ : ∃ z, z = (T.setVm s.vm).setFrames (.invoking m args :: below) := ⟨_, rfl⟩
  rw [← hA] at Y
  have hvm : s'.vm = s.vm := by rw [hA]; rfl
  have hhp : s'.heap = H := by rw [hA]; exact hT
  have hW0 : s.WarmedH s'.vm := by rw [hvm]; exact State.WarmedH.refl s
  have hat' : ∀ w ∈ vx_at0 own ic cls names, w.before args s' = true := fun w hw => vx_ot_at hW0 hvm.symm (hgood w (List.mem_cons_of_mem _ (List.mem_cons_of_mem _ hw))) (hat w hw)
  have hk' : (Cond.classLink own ik cls).before args s' = true := vx_ot_at hW0 hvm.symm (hgood _ List.mem_cons_self) hk
  have hini' : (Cond.initialized cls).before args s' = true := vx_ot_at hW0 hvm.symm (hgood _ (List.mem_cons_of_mem _ List.mem_cons_self)) hini
  have hU' : vx_Zq Bundle.tN "UNASSIGNED_STACK" Bundle.steD A s' s'.heap := by rw [hhp]; exact vx_Zq.moved hW0.alike (hU.kept hS.2.1)
  have hN' : vx_Zq Bundle.tN "SUPPRESSED_SENTINEL" Bundle.listD A s' s'.heap := by rw [hhp]; exact vx_Zq.moved hW0.alike (hN.kept hS.2.1)
  have h : ∀ w ∈ Bundle.ownAtoms0 own ic cls names, w.before args s' = true := vx_own hat' (vx_isRefq hU'.1) (vx_isRefq hN'.1) hU'.2.word hN'.2.word
  have hown' : s'.vm.findClass own = some m.cls := by rw [hvm]; exact hown
  have hins : (Cond.instantiable cls 6).before args s' = true := h _ (by simp [Bundle.ownAtoms0])
  obtain ⟨vm₁, cX, kX, hfX, hkX, -, -, X₁, st1⟩ := Y.newCold hexec (own := own) (C := cls) (index := ik) (n := 6) hown' hk' hins hini'
    (g := F0 m pc ls rest) rfl (by rw [hb]; exact d0) (Nat.le_refl _) (Nat.le_refl _)
  generalize hT1 : (T.setVm vm₁).pushCell { cls := cX, slots := kX.instanceTypes.map defaultValue, vm := .none } = T1 at X₁ st1
  have hcat : (Value.ref T.heap.size).category = 1 := rfl
  have hcellA : T1.heap[T.heap.size]? = some (freshCell cX kX) := by rw [← hT1]; exact State.heap_pushCell_size _ _
  have d3' : decode c.code (pc + 3) = .ok (.dup, 1) := by rw [hb]; exact d3
  obtain ⟨U, hsteps, hrun, hend, hW, hsame, ce, hce, hO⟩ := X₁.ctorThrow0 hexec htr (own := own) (cls := cls) (names := names) (ic := ic) hown' hcls hnames h (fun x hx => nomatch hx) hfX hkX hcellA (by rw [hhp, hT]; exact Nat.le_refl _)
    (g := { method := m, pc := pc + 4, locals := ls, stack := .ref T.heap.size :: .ref T.heap.size :: rest, locked := none }) rfl hsize rfl rfl (rest := rest) rfl
    (by rw [hb]; exact d4) (by rw [hb]; exact d7) hout hRframes (by simp only [List.map_cons, List.sum_cons, hcat]; omega) hlocks
  obtain ⟨f1, f2⟩ := vx_frame hsame
  rw [hhp] at f1 f2
  have hWs : s.WarmedH U.vm := State.WarmedH.trans hW0 hW
  have hcl : s.vm.findClass cls = some ce.cls := by
    have h9 := hO.cls
    rw [hvm] at h9
    exact h9
  have hall : s.sameButNew ({ U with vm := s.vm } : State) locs mc ms := by
    subst hA
    obtain ⟨e1, e2⟩ := hsame
    rw [State.setFrames_setFrames] at e1
    have h2 : (T.setVm s.vm).sameButNew ({ U with vm := s.vm } : State) [] (0 + 1) (0 + 6) := ⟨e1, e2⟩
    have h3 := X.same.trans h2
    rw [List.append_nil] at h3
    exact h3.mono hc hs
  refine ⟨U, ?_, .threw T.heap.size, hrun, hend, Or.inr ⟨T.heap.size, rfl, cls, ce, locs, hx U hWs.alike f1 (fun q hq => f2 q hq (fun z hz => nomatch hz)), hce, hO.vm, hcl, hWs, hall, hf⟩⟩
  refine st1 _ ?_
  show Steps p.tables e below (T1.setTop { method := m, pc := pc + 3, locals := ls, stack := .ref T.heap.size :: rest, locked := none }) _
  jvm_step X₁.here [X₁.here.top, hexec, d3', Value.category]
  exact hsteps
/-- 'throw new E("text")': new; dup; ldc; invokespecial; athrow -/
theorem vx_throwS {cc : ByteArray} {pc : Nat} (hexec : p.tables.exec = Jvm.exec) (hb : c.code = cc) (hl : l.stackTraces = false) {own cls text : String} {names : List String} {ik is ic mc ms sa : Nat} {A : Nat → Prop}
    (hown : s.vm.findClass own = some m.cls) (hcls : Bundle.fit cls = true) (hnames : ∀ n ∈ names, Bundle.fit n = true)
    (hk : (Cond.classLink own ik cls).before args s = true) (hini : (Cond.initialized cls).before args s = true) (hstr : vk_R own is text sa s) (hat : ∀ w ∈ vx_atS own ic cls names, w.before args s = true)
    (hgood : ∀ w ∈ Cond.classLink own ik cls :: Cond.initialized cls :: vx_atS own ic cls names, vx_ot w = true)
    (hU : vx_Zq Bundle.tN "UNASSIGNED_STACK" Bundle.steD A s s.heap) (hN : vx_Zq Bundle.tN "SUPPRESSED_SENTINEL" Bundle.listD A s s.heap) (hS : va_S A s.heap H locs) (hsize : ls.size = c.maxLocals)
    (d0 : decode cc pc = .ok (.new ik, 3)) (d3 : decode cc (pc + 3) = .ok (.dup, 1)) (d4 : decode cc (pc + 4) = .ok (.ldc is, 2)) (d6 : decode cc (pc + 6) = .ok (.invokespecial ic, 3)) (d9 : decode cc (pc + 9) = .ok (.athrow, 1))
    (hout : ∀ x ∈ c.exceptionTable.toList, covers x (pc + 9) = false)
    (hRframes : names.length + 3 < R.frames) (hRlocals : (rest.map fun v => v.category).sum + (13 * (names.length + 1) + 43) ≤ R.locals) (hRcells : cells + 1 ≤ R.cells) (hRslots : slots + 6 ≤ R.slots) (hlocks : meth.locks = false)
    (hx : ∀ t : State, s.vm.Alike t.vm → H.size ≤ t.heap.size → (∀ q : Nat, q < H.size → t.heap[q]? = H[q]?) → XC cls s t)
    (hf : ∀ z ∈ locs, free z.base) (hc : cells + 1 ≤ mc) (hs : slots + 6 ≤ ms) :
    W p l e R s m args below meth c H locs cells slots (vx_MQ below Qc XC args s mc ms free) (F0 m pc ls rest) := by
  intro T hT X
  have htr : e.platform.stackTraces = false := (show e.platform.stackTraces = l.stackTraces by rw [X.admits.platform]).trans hl
  have Y := vx_rebase X (R' := { frames := R.frames, locals := R.locals, cells := 1, slots := 6 }) (Nat.le_refl _) (Nat.le_refl _) hRcells hRslots
  obtain ⟨s', hA⟩ : ∃ z, z = (T.setVm s.vm).setFrames (.invoking m args :: below) := ⟨_, rfl⟩
  rw [← hA] at Y
  have hvm : s'.vm = s.vm := by rw [hA]; rfl
  have hhp : s'.heap = H := by rw [hA]; exact hT
  have hW0 : s.WarmedH s'.vm := by rw [hvm]; exact State.WarmedH.refl s
  have hat' : ∀ w ∈ vx_atS own ic cls names, w.before args s' = true := fun w hw => vx_ot_at hW0 hvm.symm (hgood w (List.mem_cons_of_mem _ (List.mem_cons_of_mem _ hw))) (hat w hw)
  have hk' : (Cond.classLink own ik cls).before args s' = true := vx_ot_at hW0 hvm.symm (hgood _ List.mem_cons_self) hk
  have hini' : (Cond.initialized cls).before args s' = true := vx_ot_at hW0 hvm.symm (hgood _ (List.mem_cons_of_mem _ List.mem_cons_self)) hini
  have hU' : vx_Zq Bundle.tN "UNASSIGNED_STACK" Bundle.steD A s' s'.heap := by rw [hhp]; exact vx_Zq.moved hW0.alike (hU.kept hS.2.1)
  have hN' : vx_Zq Bundle.tN "SUPPRESSED_SENTINEL" Bundle.listD A s' s'.heap := by rw [hhp]; exact vx_Zq.moved hW0.alike (hN.kept hS.2.1)
  have h : ∀ w ∈ Bundle.ownAtoms own ic cls names, w.before args s' = true := vx_own hat' (vx_isRefq hU'.1) (vx_isRefq hN'.1) hU'.2.word hN'.2.word
  have hown' : s'.vm.findClass own = some m.cls := by rw [hvm]; exact hown
  have hins : (Cond.instantiable cls 6).before args s' = true := h _ (by simp [Bundle.ownAtoms])
  obtain ⟨vm₁, cX, kX, hfX, hkX, -, -, X₁, st1⟩ := Y.newCold hexec (own := own) (C := cls) (index := ik) (n := 6) hown' hk' hins hini'
    (g := F0 m pc ls rest) rfl (by rw [hb]; exact d0) (Nat.le_refl _) (Nat.le_refl _)
  generalize hT1 : (T.setVm vm₁).pushCell { cls := cX, slots := kX.instanceTypes.map defaultValue, vm := .none } = T1 at X₁ st1
  have hcat : (Value.ref T.heap.size).category = 1 := rfl
  have hcellA : T1.heap[T.heap.size]? = some (freshCell cX kX) := by rw [← hT1]; exact State.heap_pushCell_size _ _
  have d3' : decode c.code (pc + 3) = .ok (.dup, 1) := by rw [hb]; exact d3
  have d4' : decode c.code (pc + 4) = .ok (.ldc is, 2) := by rw [hb]; exact d4
  have hstr' : vk_R own is text sa s' := vk_R.warm hW0 hstr
  obtain ⟨U, hsteps, hrun, hend, hW, hsame, ce, hce, hO⟩ := X₁.ctorThrowS hexec htr (own := own) (cls := cls) (names := names) (ic := ic) hown' hcls hnames h (fun x hx => nomatch hx) hfX hkX hcellA (by rw [hhp, hT]; exact Nat.le_refl _) (msg := .ref sa) rfl
    (g := { method := m, pc := pc + 6, locals := ls, stack := .ref sa :: .ref T.heap.size :: .ref T.heap.size :: rest, locked := none }) rfl hsize rfl rfl (rest := rest) rfl
    (by rw [hb]; exact d6) (by rw [hb]; exact d9) hout hRframes (by simp only [List.map_cons, List.sum_cons, hcat]; omega) hlocks
  obtain ⟨f1, f2⟩ := vx_frame hsame
  rw [hhp] at f1 f2
  have hWs : s.WarmedH U.vm := State.WarmedH.trans hW0 hW
  have hcl : s.vm.findClass cls = some ce.cls := by
    have h9 := hO.cls
    rw [hvm] at h9
    exact h9
  have hall : s.sameButNew ({ U with vm := s.vm } : State) locs mc ms := by
    subst hA
    obtain ⟨e1, e2⟩ := hsame
    rw [State.setFrames_setFrames] at e1
    have h2 : (T.setVm s.vm).sameButNew ({ U with vm := s.vm } : State) [] (0 + 1) (0 + 6) := ⟨e1, e2⟩
    have h3 := X.same.trans h2
    rw [List.append_nil] at h3
    exact h3.mono hc hs
  refine ⟨U, ?_, .threw T.heap.size, hrun, hend, Or.inr ⟨T.heap.size, rfl, cls, ce, locs, hx U hWs.alike f1 (fun q hq => f2 q hq (fun z hz => nomatch hz)), hce, hO.vm, hcl, hWs, hall, hf⟩⟩
  refine st1 _ ?_
  show Steps p.tables e below (T1.setTop { method := m, pc := pc + 3, locals := ls, stack := .ref T.heap.size :: rest, locked := none }) _
  jvm_step X₁.here [X₁.here.top, hexec, d3', Value.category]
  exact X₁.ldcString hexec (own := own) (text := text) (index := is) (a := sa) hown' hstr'.1 hstr'.2
    (g := { method := m, pc := pc + 4, locals := ls, stack := .ref T.heap.size :: .ref T.heap.size :: rest, locked := none }) rfl d4' _ hsteps
/-- 'throw new E("text")', the text by a wide index -/
theorem vx_throwSW {cc : ByteArray} {pc : Nat} (hexec : p.tables.exec = Jvm.exec) (hb : c.code = cc) (hl : l.stackTraces = false) {own cls text : String} {names : List String} {ik is ic mc ms sa : Nat} {A : Nat → Prop}
    (hown : s.vm.findClass own = some m.cls) (hcls : Bundle.fit cls = true) (hnames : ∀ n ∈ names, Bundle.fit n = true)
    (hk : (Cond.classLink own ik cls).before args s = true) (hini : (Cond.initialized cls).before args s = true) (hstr : vk_R own is text sa s) (hat : ∀ w ∈ vx_atS own ic cls names, w.before args s = true)
    (hgood : ∀ w ∈ Cond.classLink own ik cls :: Cond.initialized cls :: vx_atS own ic cls names, vx_ot w = true)
    (hU : vx_Zq Bundle.tN "UNASSIGNED_STACK" Bundle.steD A s s.heap) (hN : vx_Zq Bundle.tN "SUPPRESSED_SENTINEL" Bundle.listD A s s.heap) (hS : va_S A s.heap H locs) (hsize : ls.size = c.maxLocals)
    (d0 : decode cc pc = .ok (.new ik, 3)) (d3 : decode cc (pc + 3) = .ok (.dup, 1)) (d4 : decode cc (pc + 4) = .ok (.ldc_w is, 3)) (d7 : decode cc (pc + 7) = .ok (.invokespecial ic, 3)) (d10 : decode cc (pc + 10) = .ok (.athrow, 1))
    (hout : ∀ x ∈ c.exceptionTable.toList, covers x (pc + 10) = false)
    (hRframes : names.length + 3 < R.frames) (hRlocals : (rest.map fun v => v.category).sum + (13 * (names.length + 1) + 43) ≤ R.locals) (hRcells : cells + 1 ≤ R.cells) (hRslots : slots + 6 ≤ R.slots) (hlocks : meth.locks = false)
    (hx : ∀ t : State, s.vm.Alike t.vm → H.size ≤ t.heap.size → (∀ q : Nat, q < H.size → t.heap[q]? = H[q]?) → XC cls s t)
    (hf : ∀ z ∈ locs, free z.base) (hc : cells + 1 ≤ mc) (hs : slots + 6 ≤ ms) :
    W p l e R s m args below meth c H locs cells slots (vx_MQ below Qc XC args s mc ms free) (F0 m pc ls rest) := by
  intro T hT X
  have htr : e.platform.stackTraces = false := (show e.platform.stackTraces = l.stackTraces by rw [X.admits.platform]).trans hl
  have Y := vx_rebase X (R' := { frames := R.frames, locals := R.locals, cells := 1, slots := 6 }) (Nat.le_refl _) (Nat.le_refl _) hRcells hRslots
  obtain ⟨s', hA⟩ : ∃ z, z = (T.setVm s.vm).setFrames (.invoking m args :: below) := ⟨_, rfl⟩
  rw [← hA] at Y
  have hvm : s'.vm = s.vm := by rw [hA]; rfl
  have hhp : s'.heap = H := by rw [hA]; exact hT
  have hW0 : s.WarmedH s'.vm := by rw [hvm]; exact State.WarmedH.refl s
  have hat' : ∀ w ∈ vx_atS own ic cls names, w.before args s' = true := fun w hw => vx_ot_at hW0 hvm.symm (hgood w (List.mem_cons_of_mem _ (List.mem_cons_of_mem _ hw))) (hat w hw)
  have hk' : (Cond.classLink own ik cls).before args s' = true := vx_ot_at hW0 hvm.symm (hgood _ List.mem_cons_self) hk
  have hini' : (Cond.initialized cls).before args s' = true := vx_ot_at hW0 hvm.symm (hgood _ (List.mem_cons_of_mem _ List.mem_cons_self)) hini
  have hU' : vx_Zq Bundle.tN "UNASSIGNED_STACK" Bundle.steD A s' s'.heap := by rw [hhp]; exact vx_Zq.moved hW0.alike (hU.kept hS.2.1)
  have hN' : vx_Zq Bundle.tN "SUPPRESSED_SENTINEL" Bundle.listD A s' s'.heap := by rw [hhp]; exact vx_Zq.moved hW0.alike (hN.kept hS.2.1)
  have h : ∀ w ∈ Bundle.ownAtoms own ic cls names, w.before args s' = true := vx_own hat' (vx_isRefq hU'.1) (vx_isRefq hN'.1) hU'.2.word hN'.2.word
  have hown' : s'.vm.findClass own = some m.cls := by rw [hvm]; exact hown
  have hins : (Cond.instantiable cls 6).before args s' = true := h _ (by simp [Bundle.ownAtoms])
  obtain ⟨vm₁, cX, kX, hfX, hkX, -, -, X₁, st1⟩ := Y.newCold hexec (own := own) (C := cls) (index := ik) (n := 6) hown' hk' hins hini'
    (g := F0 m pc ls rest) rfl (by rw [hb]; exact d0) (Nat.le_refl _) (Nat.le_refl _)
  generalize hT1 : (T.setVm vm₁).pushCell { cls := cX, slots := kX.instanceTypes.map defaultValue, vm := .none } = T1 at X₁ st1
  have hcat : (Value.ref T.heap.size).category = 1 := rfl
  have hcellA : T1.heap[T.heap.size]? = some (freshCell cX kX) := by rw [← hT1]; exact State.heap_pushCell_size _ _
  have d3' : decode c.code (pc + 3) = .ok (.dup, 1) := by rw [hb]; exact d3
  have d4' : decode c.code (pc + 4) = .ok (.ldc_w is, 3) := by rw [hb]; exact d4
  have hstr' : vk_R own is text sa s' := vk_R.warm hW0 hstr
  obtain ⟨U, hsteps, hrun, hend, hW, hsame, ce, hce, hO⟩ := X₁.ctorThrowS hexec htr (own := own) (cls := cls) (names := names) (ic := ic) hown' hcls hnames h (fun x hx => nomatch hx) hfX hkX hcellA (by rw [hhp, hT]; exact Nat.le_refl _) (msg := .ref sa) rfl
    (g := { method := m, pc := pc + 7, locals := ls, stack := .ref sa :: .ref T.heap.size :: .ref T.heap.size :: rest, locked := none }) rfl hsize rfl rfl (rest := rest) rfl
    (by rw [hb]; exact d7) (by rw [hb]; exact d10) hout hRframes (by simp only [List.map_cons, List.sum_cons, hcat]; omega) hlocks
  obtain ⟨f1, f2⟩ := vx_frame hsame
  rw [hhp] at f1 f2
  have hWs : s.WarmedH U.vm := State.WarmedH.trans hW0 hW
  have hcl : s.vm.findClass cls = some ce.cls := by
    have h9 := hO.cls
    rw [hvm] at h9
    exact h9
  have hall : s.sameButNew ({ U with vm := s.vm } : State) locs mc ms := by
    subst hA
    obtain ⟨e1, e2⟩ := hsame
    rw [State.setFrames_setFrames] at e1
    have h2 : (T.setVm s.vm).sameButNew ({ U with vm := s.vm } : State) [] (0 + 1) (0 + 6) := ⟨e1, e2⟩
    have h3 := X.same.trans h2
    rw [List.append_nil] at h3
    exact h3.mono hc hs
  refine ⟨U, ?_, .threw T.heap.size, hrun, hend, Or.inr ⟨T.heap.size, rfl, cls, ce, locs, hx U hWs.alike f1 (fun q hq => f2 q hq (fun z hz => nomatch hz)), hce, hO.vm, hcl, hWs, hall, hf⟩⟩
  refine st1 _ ?_
  show Steps p.tables e below (T1.setTop { method := m, pc := pc + 3, locals := ls, stack := .ref T.heap.size :: rest, locked := none }) _
  jvm_step X₁.here [X₁.here.top, hexec, d3', Value.category]
  exact X₁.ldcStringW hexec (own := own) (text := text) (index := is) (a := sa) hown' hstr'.1 hstr'.2
    (g := { method := m, pc := pc + 4, locals := ls, stack := .ref T.heap.size :: .ref T.heap.size :: rest, locked := none }) rfl d4' _ hsteps
end Ends
section Bodies
variable {l : Launch}
theorem vx_ofW {y : MethodName} {ws ws' : List Cond} {rm : Room} {Pc : Array Value → State → Prop} {Qc : Array Value → State → Outcome → State → Prop} {XC : String → State → State → Prop} {mc ms : Nat} {free : Addr → Prop} {cc : ByteArray} {maxL : Nat} {ret : Option FieldType}
    (hy : plainName y.cls = true) (hw : ws = Cond.code y cc maxL ret :: ws')
    (body : ∀ p e s m args below meth c s₁, BodyLoose p l y (headSpec ws rm) cc maxL ret e s m args below meth c s₁ → c.maxLocals = maxL → (∀ x ∈ c.exceptionTable.toList, False) → Pc args s →
      W p l e (headSpec ws rm).room s m args below meth c s.heap [] 0 0 (vx_MQ below Qc XC args s mc ms free) (entryFrame m args maxL)) : vx_Met l y ws rm Pc Qc XC mc ms free := by
  refine MetFree.of_bodyS (code := cc) (maxLocals := maxL) (ret := ret) hy ?_ ?_
  · intro args s m h hn
    obtain ⟨meth, c, h1, h2, h3, h4, h5, h6, -, -⟩ := Cond.code_spec hn (atoms_spec (ws := ws) h _ (by rw [hw]; exact List.mem_cons_self))
    exact ⟨meth, c, h1, h2, h3, h4, h5, h6⟩
  · intro p e s m args below meth c s₁ B hml hP _
    have hh0 : s₁.heap = s.heap := by rw [B.state]; rfl
    have ht : ∀ x ∈ c.exceptionTable.toList, False := by
      obtain ⟨meth9, c9, h1, h2, -, -, -, -, h7, -⟩ := Cond.code_spec B.named (atoms_spec (ws := ws) B.pre _ (by rw [hw]; exact List.mem_cons_self))
      cases Option.some.inj (h1.symm.trans B.method)
      cases Option.some.inj (h2.symm.trans (Stand.of_body B).code)
      intro x hx
      rw [Array.isEmpty_iff.mp h7] at hx
      cases hx
    obtain ⟨t, a1, o, b1, b2, b3⟩ := body p e s m args below meth c s₁ B hml ht hP s₁ hh0 (Stand.of_body B)
    exact ⟨t, o, a1, b1, b2, b3⟩
/-- the table of a body with handlers -/
theorem vx_table {p : Program} {x y : MethodName} {S : Spec} {cc bytes : ByteArray} {maxL maxL' : Nat} {ret ret' : Option FieldType} {e : Env} {s s₁ : State} {m : MethodId} {args : Array Value} {below : List Frame} {meth : Method} {c : Code} {hh : List (Nat × Nat × Nat × Nat)}
    (B : BodyLoose p l y S cc maxL ret e s m args below meth c s₁) (h : (Cond.codeWith y bytes maxL' ret' hh).before args s = true) : c.exceptionTable.toList = tableOf hh := by
  obtain ⟨m9, meth9, c9, hn9, h1, h2, -, -, h6, -⟩ := Cond.codeWith_spec h
  cases Option.some.inj (hn9.symm.trans B.named)
  cases Option.some.inj (h1.symm.trans B.method)
  cases Option.some.inj (h2.symm.trans (Stand.of_body B).code)
  rw [← h6, table_eq]
end Bodies
end VXA
/-! ===== END ===== -/
/-! ===== BEGIN a static call of a method with an exception table ===== -/
section VXS
variable {p : Program} {l : Launch} {e : Env} {R : Room} {s : State} {m : MethodId} {args : Array Value} {below : List Frame} {meth : Method} {c : Code} {T : State} {H : Heap} {locs : List Loc} {cells slots : Nat}
abbrev vx_CSW (R : Room) (s : State) (args : Array Value) (own : String) (index : Nat) (y : MethodName) (bytes : ByteArray) (maxL : Nat) (ret : Option FieldType) (hh : List (Nat × Nat × Nat × Nat)) (ws : List Cond) (rm : Room) (mc ms n : Nat) : Prop :=
  (rm.cells = mc ∧ rm.slots = ms ∧ rm.frames + 1 ≤ R.frames ∧ 8 + (maxL + 11) + rm.locals ≤ R.locals ∧ (∀ w ∈ ws, ∀ (a' : Array Value) (U : State), s.WarmedH U.vm → w.before a' U = true) ∧ Cond.codeWith y bytes maxL ret hh ∈ ws) ∧
  (Cond.codeWith y bytes maxL ret hh).before args s = true ∧ (Cond.initialized y.cls).before args s = true ∧ (y.cls ≠ "java/lang/invoke/MethodHandle" ∧ y.cls ≠ "java/lang/invoke/VarHandle") ∧
  (∀ sig, parseMethodDescriptor y.desc = some sig → n = sig.parameters.length) ∧ (Cond.methodLink own index y).before args s = true ∧ (Cond.static y).before args s = true
theorem vx_cwSW {own : String} {index maxL mc ms : Nat} {y : MethodName} {bytes : ByteArray} {ret : Option FieldType} {hh : List (Nat × Nat × Nat × Nat)} {Ts ws ws' : List Cond} {rm : Room} (n : Nat) (ht : ∀ w ∈ Ts, w.before args s = true) (hT : GoodIn Ts (va_wsS own index y ws)) (hw : ws = Cond.codeWith y bytes maxL ret hh :: ws') (hrc : rm.cells = mc) (hrs : rm.slots = ms)
    (hd : y.cls ≠ "java/lang/invoke/MethodHandle" ∧ y.cls ≠ "java/lang/invoke/VarHandle" ∧ (parseMethodDescriptor y.desc).map (fun d => d.parameters.length) = some n) (hR : rm.frames + 1 ≤ R.frames ∧ 8 + (maxL + 11) + rm.locals ≤ R.locals) :
    vx_CSW R s args own index y bytes maxL ret hh ws rm mc ms n := by
  have ok : ∀ w ∈ va_wsS own index y ws, w.before args s = true := fun w h => ht w (hT w h).1
  have hG : GoodIn Ts ws := fun w h => hT w (by unfold va_wsS; exact List.mem_append_right _ h)
  have hc : Cond.codeWith y bytes maxL ret hh ∈ ws := by rw [hw]; exact List.mem_cons_self
  refine ⟨⟨hrc, hrs, hR.1, hR.2, pay_in ht hG, hc⟩, ht _ (hG _ hc).1, ok _ (by simp [va_wsS]), ⟨hd.1, hd.2.1⟩, fun sig h => ?_, ok _ (by simp [va_wsS]), ok _ (by simp [va_wsS])⟩
  have h2 := hd.2.2
  rw [h] at h2
  exact (Option.some.inj h2).symm
theorem vx_callSW (X : Stand p l e R s m args below meth c T locs cells slots) (hexec : p.tables.exec = Jvm.exec) {own : String} {index : Nat} {y : MethodName} {bytes : ByteArray} {maxL : Nat} {ret : Option FieldType} {hh : List (Nat × Nat × Nat × Nat)}
    (hown : s.vm.findClass own = some m.cls) (hlink : (Cond.methodLink own index y).before args s = true) (hstat : (Cond.static y).before args s = true) (hinit : (Cond.initialized y.cls).before args s = true)
    (hcode : (Cond.codeWith y bytes maxL ret hh).before args s = true) (hy : y.cls ≠ "java/lang/invoke/MethodHandle" ∧ y.cls ≠ "java/lang/invoke/VarHandle")
    {W9 : Nat} {Pre : Pt → Array Value → Prop} {Post : Pt → Array Value → Option Value → Pt → Prop} (hK : Back l R p e below s args y 3 W9 Pre Post)
    {g : JFrame} (hg : g.method = m) (hsize : g.locals.size = c.maxLocals) {argsL rest : List Value} (hlen : ∀ sig, parseMethodDescriptor y.desc = some sig → argsL.length = sig.parameters.length)
    (hstack : g.stack = argsL.reverse ++ rest) (hW : 2 * g.monitorRoom + (rest.map fun v => v.category).sum ≤ W9) (hdg : decode c.code g.pc = .ok (.invokestatic index, 3))
    (hpre : ∀ vm₁, s.WarmedH vm₁ → Pre ⟨T.setVm vm₁, locs, cells, slots⟩ argsL.toArray) :
    ∃ (v : Option Value) (vm₁ : Vm) (B : Pt), s.WarmedH vm₁ ∧ Stand p l e R s m args below meth c B.U B.locs B.cells B.slots ∧ Post ⟨T.setVm vm₁, locs, cells, slots⟩ argsL.toArray v B ∧
      ∀ target, Steps p.tables e below (B.U.setTop { g with pc := g.pc + 3, stack := v.toList ++ rest }) target → Steps p.tables e below (T.setTop g) target := by
  obtain ⟨mk, methM, cM, hnamed, hmethM, -, -, -, -, -, -, hsigM⟩ := Cond.codeWith_spec hcode
  have hstatic : methM.isStatic = true := Cond.static_spec hnamed hmethM hstat
  obtain ⟨kP, hkP, -⟩ := className_of_methodNamed hnamed
  have hinitP : kP.init = .initialized := Cond.initialized_spec (findClass_of_methodNamed hnamed) hkP hinit
  obtain ⟨vm₁, X₁, hstep₁⟩ := X.invokestatic hexec hown hlink hnamed hmethM hstatic hkP hinitP hy (g := g) hg (argsL := argsL) (rest := rest) (hlen _ hsigM) hstack hdg
  obtain ⟨v, B, X', hpost, hsteps⟩ := hK m meth c ⟨T.setVm vm₁, locs, cells, slots⟩ { g with stack := rest } (.invokestatic index) mk argsL.toArray X₁ hg hsize hdg hW (X₁.named hnamed) (hpre vm₁ X₁.warmed)
  exact ⟨v, vm₁, B, X₁.warmed, X', hpost, fun target h => hstep₁ _ fun acts => by rw [doInvoke_state]; exact hsteps.trans h⟩
theorem vx_runSW {y : MethodName} {bytes cc : ByteArray} {maxL nL mc ms n index : Nat} {ret : Option FieldType} {hh : List (Nat × Nat × Nat × Nat)} {ws : List Cond} {rm : Room} {Pc : Array Value → State → Prop} {Qc : Array Value → State → Outcome → State → Prop} {free : Addr → Prop} {Ts : List Cond} {own : String} {As rest : List Value} {g : JFrame}
    (S : CallFix p m c cc nL s args Ts own) (hM : Met l y ws rm Pc Qc mc ms free) (cw : vx_CSW R s args own index y bytes maxL ret hh ws rm mc ms n) (hp : PreS s H Pc As)
    (hg : g.method = m) (hn : As.length = n) (hsize : g.locals.size = nL) (hstack : g.stack = As.reverse ++ rest) (hW : 2 * g.monitorRoom + (rest.map fun v => v.category).sum ≤ 8) (hdg : decode cc g.pc = .ok (.invokestatic index, 3)) (hf : cells + mc ≤ R.cells ∧ slots + ms ≤ R.slots) :
    va_Run p l e R s m args below meth c H locs cells slots mc ms g rest (Qc As.toArray) (free) := by
  obtain ⟨⟨hrc, hrs, hfr, hlo, hws, hcw⟩, hcode, hini, hy, hlen, hl, hstt⟩ := cw
  have hK : Back l R p e below s args y 3 8 (PreOf R mc ms Pc) (PostOf Qc mc ms free) := va_backW (hh := hh) (bytes := bytes) (maxL := maxL) (ret := ret) hM hp.1 hrc hrs hfr hlo hws hcw (fun a' U hW => word_at hW (Or.inl (by first | rfl | simp [Cond.onTables, Cond.keeps, Cond.steady])) hini)
  obtain ⟨hx, hb, hml, ho, -⟩ := S
  intro T hT X
  obtain ⟨v, vm₁, ⟨U', l2, c2, s2⟩, hW₁, X', ⟨g', mk, t, L, e1, e2, hq, h1, hL, h2, h3⟩, st⟩ := vx_callSW X hx (hh := hh) (bytes := bytes) (maxL := maxL) (ret := ret) ho hl hstt hini hcode hy hK hg (hsize.trans hml.symm) (argsL := As) (rest := rest) (fun sig h => hn.trans (hlen sig h)) hstack hW (by rw [hb]; exact hdg)
    (fun vm₁ hW₁ => ⟨hf.1, hf.2, hp.2 (T.setVm vm₁) hT hW₁⟩)
  dsimp only [Pt.U, Pt.locs, Pt.cells, Pt.slots] at X' e1 e2 h1 h2 h3 st
  subst h1; subst h2; subst h3
  exact ⟨v, (T.setVm vm₁).calling g' mk As.toArray, t, U', L, hT, X', hL, e1, e2, hq, st⟩
/-- not caught here, past rows that name other classes: it goes on to the caller -/
theorem vx_outP {p : Program} {l : Launch} {e : Env} {R : Room} {s : State} {m : MethodId} {args : Array Value} {below : List Frame} {meth : Method} {c : Code} {H : Heap} {locs : List Loc} {cells slots : Nat} {free : Addr → Prop} {ls : Array Slot} {rest : List Value} {Qc : Array Value → State → Outcome → State → Prop} {XC : String → State → State → Prop}
    {pc : Nat} {own E : String} {ce : Cell} {q : Addr} {mc ms : Nat} (hown : s.vm.findClass own = some m.cls) (hlocks : meth.locks = false)
    (hpass : ∀ z ∈ c.exceptionTable.toList, covers z pc = false ∨ (z.catchType ≠ 0 ∧ ∃ nm : String, (Cond.classLink own z.catchType nm).before args s = true ∧ va_Nc E nm s)) (hcell : H[q]? = some ce) (hv : ce.vm = .none) (hcl : s.vm.findClass E = some ce.cls)
    (hx : ∀ t : State, t.heap = H → s.vm.Alike t.vm → XC E s t) (hf : ∀ z ∈ locs, free z.base) (hc : cells ≤ mc) (hs : slots ≤ ms) :
    vx_W p l e R s m args below meth c H locs cells slots (vx_MQ below Qc XC args s mc ms free) (F0 m pc ls rest) q := by
  intro T hT X
  have hpl : e.platform.magicAccessors = ({} : Platform).magicAccessors := by rw [X.admits.platform]
  obtain ⟨vm', hW', X', st⟩ := X.outThrough hlocks q (g := F0 m pc ls rest) rfl rfl rfl (cell := ce) (by rw [hT]; exact hcell) (by rw [hv]; rfl)
    (by obtain ⟨k9, h9, -⟩ := Vm.findClass_spec hcl; exact ⟨k9, h9⟩) (fun z hz => by
      rcases hpass z hz with h | ⟨hz0, nm, hl1, hn1⟩
      · exact Or.inl h
      · obtain ⟨c6, hc6, hcl6⟩ := Cond.classLink_spec hown hl1 e.platform hpl
        obtain ⟨a8, b8, h1, h2, h3⟩ := hn1
        cases Option.some.inj (h1.symm.trans hcl)
        cases Option.some.inj (h2.symm.trans hc6)
        exact Or.inr ⟨hz0, _, hcl6, h3⟩)
  obtain ⟨g₀, hfr⟩ := X'.frames_eq
  have hcell9 : ((T.setVm vm').setFrames (.throwing q :: below)).heap[q]? = some ce := by
    show T.heap[q]? = some ce
    rw [hT]; exact hcell
  have hend : Ended ((T.setVm vm').setFrames (.throwing q :: below)) below (.threw q) := State.frames_setFrames _ (State.cur_lt_of_frames hfr)
  refine ⟨(T.setVm vm').setFrames (.throwing q :: below), ?_, .threw q, X'.here.running, hend, Or.inr ⟨q, rfl, E, ce, locs, hx _ hT (X'.ends _).1.alike, hcell9, hv, hcl, (X'.ends _).1, (X'.ends _).2.mono hc hs, hf⟩⟩
  rw [X.pushThrowing_eq]
  exact st
/-- a thing of a world lies in the heap -/
theorem vx_lt {D : va_G} {cl : List vw_C} {ws : va_W} {H1 : Heap} (h : va_P D cl ws H1) {k : Nat} {q : Nat × va_E} (hk : ws[k]? = some q) : q.1 < H1.size := (h k q hk).lt
end VXS
/-! ===== END ===== -/
/-! ===== BEGIN methods with a table of their own: called by a name, returning or throwing ===== -/
section VXH
/-! vx_backW, vx_callVX, vx_callSX, vx_callVW, vx_runVW, vx_runVX, vx_runSX, vx_ofWH follow the same proofs as their sisters above (Free/Laws.lean, Shelf42/LK1.lean); vx_outP calls Shelf42/NT130.lean (outThrough). -/
section
variable {l : Launch} {R : Room} {p : Program} {e : Env} {below : List Frame} {s : State} {sargs : Array Value} {y : MethodName} {len W9 : Nat}
theorem vx_backW {ws : List Cond} {rm : Room} {Pc : Array Value → State → Prop} {Qc : Array Value → State → Outcome → State → Prop} {XC : String → State → State → Prop} {mc ms : Nat} {free : Addr → Prop} {bytes : ByteArray} {maxL : Nat} {ret : Option FieldType} {hh : List (Nat × Nat × Nat × Nat)}
    (hM : vx_Met l y ws rm Pc Qc XC mc ms free) (hblind : FrameBlind Pc) (hrc : rm.cells = mc) (hrs : rm.slots = ms)
    (hframes : rm.frames + 1 ≤ R.frames) (hlocals : W9 + (maxL + 11) + rm.locals ≤ R.locals)
    (hws : ∀ w ∈ ws, ∀ a' U, s.WarmedH U.vm → w.before a' U = true) (hcode : Cond.codeWith y bytes maxL ret hh ∈ ws) (hinit : ∀ a' U, s.WarmedH U.vm → (Cond.initialized y.cls).before a' U = true) :
    vx_Back l R p e below s sargs y len W9 (PreOf R mc ms Pc) (PostOf Qc mc ms free) (vx_Post XC mc ms free) := by
  intro m meth c A g ig mk a X hg hsize hdg hW hn hp
  have h1 : (headSpec ws rm).pre.before a A.U = true := atoms_intro fun w hw => hws w hw _ _ X.warmed
  have h2 : (Cond.codeWith y bytes maxL ret hh).before a A.U = true := hws _ hcode _ _ X.warmed
  have h3 : (Cond.initialized y.cls).before a A.U = true := hinit _ _ X.warmed
  have h4 : A.cells + (headSpec ws rm).room.cells ≤ R.cells := by rw [show (headSpec ws rm).room.cells = mc from hrc]; exact hp.1
  have h5 : A.slots + (headSpec ws rm).room.slots ≤ R.slots := by rw [show (headSpec ws rm).room.slots = ms from hrs]; exact hp.2.1
  have hPc : Pc a (A.U.calling g mk a) := hblind _ _ _ _ hp.2.2
  obtain ⟨U, Ls, c0, s0⟩ := A
  dsimp only [Pt.U, Pt.locs, Pt.cells, Pt.slots] at h1 h2 h3 h4 h5 X hn hPc ⊢
  obtain ⟨m9, methY, cY, hn9, hmY, hcY, -, hlY, -⟩ := Cond.codeWith_spec h2
  cases Option.some.inj (hn9.symm.trans hn)
  obtain ⟨kY, hkY, -⟩ := className_of_methodNamed hn
  have hinitY : kY.init = .initialized := Cond.initialized_spec (findClass_of_methodNamed hn) hkY h3
  have h : At U g.method c below := by rw [hg]; exact X.here
  have hlocals9 : W9 + (maxL + 11) + (headSpec ws rm).room.locals ≤ R.locals := hlocals
  have happ : (headSpec ws rm).appliesLoose y e.platform (U.calling g mk a) = true :=
    Spec.appliesLoose_calling (g := g) h hdg hn hkY hinitY
      (X.room_calling (g := g) (R' := (headSpec ws rm).room) hsize hmY hcY hframes (by rw [hlY]; omega) h4 h5) h1
  obtain ⟨mid, hmid⟩ := h.above
  have hfr : (U.setTop g).frames = (.java g :: mid) ++ below := by rw [State.frames_setTop' g h.top, hmid]; rfl
  obtain ⟨o, s₂, hsteps, -, hend, hq⟩ := Steps.callFree hM p X.admits X.cas X.clock (acts := []) hfr happ hPc trivial
  have hq' : vx_Q Qc XC mc ms free a (U.calling g mk a) o s₂ := hq
  rw [State.frames_setTop' g h.top] at hend
  obtain ⟨g₀, hg0⟩ := Option.isSome_iff_exists.mp h.top
  obtain ⟨r, hr⟩ := State.topJava?_eq_some.mp hg0
  have hr' : (({ U with heap := s₂.heap, slotsUsed := s₂.slotsUsed } : State).setVm s₂.vm).frames = .java g₀ :: r := hr
  rcases hq' with ⟨hqc, L, hfe, hL⟩ | ⟨q, rfl, E, ce, L, hx, hce, hcv, hcl, hW₂, hsm, hL⟩
  · obtain ⟨⟨v, rfl⟩, hW₂, e2, q2, q3, q4, q5, q6⟩ := id hfe
    have e3 : s₂ = ({ (U.calling g mk a).setFrames s₂.frames with heap := s₂.heap, slotsUsed := s₂.slotsUsed } : State).setVm s₂.vm := by
      have : s₂ = ({ s₂ with vm := (U.calling g mk a).vm } : State).setVm s₂.vm := rfl
      rw [e2] at this
      exact this
    obtain ⟨c₂, i₂, len₂, hc₂, hd₂, hf₂⟩ := hend
    have hW' : U.WarmedH s₂.vm := hW₂
    have hcc : c₂ = c := by
      have h1 : s₂.code? g.method = U.code? g.method := by
        rw [State.code?_eq, State.code?_eq, hW'.alike.method?]
      exact Option.some.inj (hc₂.symm.trans (h1.trans h.code))
    subst hcc
    have hlen : len₂ = len := by rw [hdg] at hd₂; cases hd₂; rfl
    subst hlen
    have hs₂ : s₂ = (({ U with heap := s₂.heap, slotsUsed := s₂.slotsUsed } : State).setVm s₂.vm).setTop { g with pc := g.pc + len₂, stack := v.toList ++ g.stack } := by
      refine e3.trans ?_
      rw [hf₂, State.calling_eq h.top, State.setFrames_setFrames, State.setTop_of_frames _ hr', hr]
      rfl
    have hsame : U.sameButNew ({ U with heap := s₂.heap, slotsUsed := s₂.slotsUsed } : State) L mc ms := by
      refine ⟨?_, q2, q3, q4, q5, q6⟩
      obtain ⟨t, ht, -⟩ := State.frames_cons hr
      show ({ U with heap := s₂.heap, slotsUsed := s₂.slotsUsed } : State) = { U.setFrames U.frames with heap := s₂.heap, slotsUsed := s₂.slotsUsed }
      rw [State.setFrames_self ht]
    subst hg
    refine Or.inl ⟨v, ⟨(({ U with heap := s₂.heap, slotsUsed := s₂.slotsUsed } : State).setVm s₂.vm), Ls ++ L, c0 + mc, s0 + ms⟩,
      ⟨X.admits, X.cas, X.clock, X.frames, X.room, X.hears, X.method, X.code, (X.here.setHeapUsed s₂.heap s₂.slotsUsed).setVm hW'.alike, X.tail, State.WarmedH.trans X.warmed hW', X.limits, X.bytes, X.same.trans (hsame.setVm s.vm)⟩,
      ⟨g, mk, s₂, L, rfl, rfl, hqc, rfl, hL, rfl, rfl⟩, ?_⟩
    show Steps p.tables e below _ ((({ U with heap := s₂.heap, slotsUsed := s₂.slotsUsed } : State).setVm s₂.vm).setTop { g with pc := g.pc + len₂, stack := v.toList ++ g.stack })
    rw [← hs₂]
    exact hsteps
  · obtain ⟨e2, q2, q3, q4, q5, q6⟩ := id hsm
    have e3 : s₂ = ({ (U.calling g mk a).setFrames s₂.frames with heap := s₂.heap, slotsUsed := s₂.slotsUsed } : State).setVm s₂.vm := by
      have : s₂ = ({ s₂ with vm := (U.calling g mk a).vm } : State).setVm s₂.vm := rfl
      rw [e2] at this
      exact this
    have hf₂ : s₂.frames = .throwing q :: .java g :: U.frames.tail := hend
    have hW' : U.WarmedH s₂.vm := hW₂
    have hs₂ : s₂ = ((({ U with heap := s₂.heap, slotsUsed := s₂.slotsUsed } : State).setVm s₂.vm).setTop g).pushFrame (.throwing q) := by
      refine e3.trans ?_
      rw [hf₂, State.calling_eq h.top, State.setFrames_setFrames, State.pushFrame, State.frames_setTop _ hr', State.setTop_of_frames _ hr', State.setFrames_setFrames, hr]
      rfl
    have hsame : U.sameButNew ({ U with heap := s₂.heap, slotsUsed := s₂.slotsUsed } : State) L mc ms := by
      refine ⟨?_, q2, q3, q4, q5, q6⟩
      obtain ⟨t, ht, -⟩ := State.frames_cons hr
      show ({ U with heap := s₂.heap, slotsUsed := s₂.slotsUsed } : State) = { U.setFrames U.frames with heap := s₂.heap, slotsUsed := s₂.slotsUsed }
      rw [State.setFrames_self ht]
    subst hg
    refine Or.inr ⟨q, ⟨(({ U with heap := s₂.heap, slotsUsed := s₂.slotsUsed } : State).setVm s₂.vm), Ls ++ L, c0 + mc, s0 + ms⟩,
      ⟨X.admits, X.cas, X.clock, X.frames, X.room, X.hears, X.method, X.code, (X.here.setHeapUsed s₂.heap s₂.slotsUsed).setVm hW'.alike, X.tail, State.WarmedH.trans X.warmed hW', X.limits, X.bytes, X.same.trans (hsame.setVm s.vm)⟩,
      ⟨g, mk, s₂, L, E, ce, rfl, rfl, hx, hce, hcv, hcl, rfl, hL, rfl, rfl⟩, ?_⟩
    show Steps p.tables e below _ (((({ U with heap := s₂.heap, slotsUsed := s₂.slotsUsed } : State).setVm s₂.vm).setTop g).pushFrame (.throwing q))
    rw [← hs₂]
    exact hsteps
end
variable {p : Program} {l : Launch} {e : Env} {R : Room} {s : State} {m : MethodId} {args : Array Value} {below : List Frame} {meth : Method} {c : Code} {T : State} {H : Heap} {locs : List Loc} {cells slots : Nat}
theorem vx_callVX (X : Stand p l e R s m args below meth c T locs cells slots) (hexec : p.tables.exec = Jvm.exec) {own C : String} {index : Nat} {y : MethodName} {bytes : ByteArray} {maxL : Nat} {ret : Option FieldType} {hh : List (Nat × Nat × Nat × Nat)}
    (hown : s.vm.findClass own = some m.cls) (hlink : (Cond.methodLink own index y).before args s = true) (hinst : (Cond.instanceMethod y).before args s = true) (hsel : (Cond.selects C y y).before args s = true)
    (hcode : (Cond.codeWith y bytes maxL ret hh).before args s = true) (hy : y.cls ≠ "java/lang/invoke/MethodHandle" ∧ y.cls ≠ "java/lang/invoke/VarHandle")
    {W9 : Nat} {Pre : Pt → Array Value → Prop} {Post : Pt → Array Value → Option Value → Pt → Prop} {PostX : Pt → Array Value → Addr → Pt → Prop} (hK : vx_Back l R p e below s args y 3 W9 Pre Post PostX)
    {b : Addr} {cellB : Cell} (hcell : T.heap[b]? = some cellB) (hobj : cellB.vm.isStatics = false) (hcls : s.vm.findClass C = some cellB.cls)
    {g : JFrame} (hg : g.method = m) (hsize : g.locals.size = c.maxLocals) {argsL rest : List Value} (hlen : ∀ sig, parseMethodDescriptor y.desc = some sig → argsL.length = sig.parameters.length)
    (hstack : g.stack = argsL.reverse ++ .ref b :: rest) (hW : 2 * g.monitorRoom + (rest.map fun v => v.category).sum ≤ W9) (hdg : decode c.code g.pc = .ok (.invokevirtual index, 3))
    (hpre : ∀ vm₁, s.WarmedH vm₁ → Pre ⟨T.setVm vm₁, locs, cells, slots⟩ (Value.ref b :: argsL).toArray) :
    (∃ (v : Option Value) (vm₁ : Vm) (B : Pt), s.WarmedH vm₁ ∧ Stand p l e R s m args below meth c B.U B.locs B.cells B.slots ∧ Post ⟨T.setVm vm₁, locs, cells, slots⟩ (Value.ref b :: argsL).toArray v B ∧
      ∀ target, Steps p.tables e below (B.U.setTop { g with pc := g.pc + 3, stack := v.toList ++ rest }) target → Steps p.tables e below (T.setTop g) target) ∨
    (∃ (q : Addr) (vm₁ : Vm) (B : Pt), s.WarmedH vm₁ ∧ Stand p l e R s m args below meth c B.U B.locs B.cells B.slots ∧ PostX ⟨T.setVm vm₁, locs, cells, slots⟩ (Value.ref b :: argsL).toArray q B ∧
      Steps p.tables e below (T.setTop g) ((B.U.setTop { g with stack := rest }).pushFrame (.throwing q))) := by
  obtain ⟨mk, methM, hnamed, hmethM, hstM, habM⟩ := Cond.instanceMethod_spec hinst
  obtain ⟨m8, methM', cM, hn8, hmethM', -, -, -, -, -, -, hsigM⟩ := Cond.codeWith_spec hcode
  cases Option.some.inj (hn8.symm.trans hnamed)
  cases hmethM.symm.trans hmethM'
  obtain ⟨c2, r2, m2, q1, q2, q3, q4, kP, hkP, hkPi⟩ := Cond.selects_spec hsel
  cases hcls.symm.trans q1
  cases (State.methodFound?_of_named hnamed hy).symm.trans q2
  cases hnamed.symm.trans q3
  have hselP : selectMethod e.platform s.vm cellB.cls mk = .method mk := by rw [Launch.admits_selectMethod X.admits]; exact q4
  obtain ⟨vm₁, X₁, hstep₁⟩ := X.invokevirtual hexec hown hlink hnamed hmethM hstM hkP hkPi hy (a := b) (cell := cellB) hcell
    (fun z h => by rw [h] at hobj; cases hobj) hselP hmethM habM hkP hkPi (g := g) hg (argsL := argsL) (rest := rest) (hlen _ hsigM) hstack hdg
  rcases hK m meth c ⟨T.setVm vm₁, locs, cells, slots⟩ { g with stack := rest } (.invokevirtual index) mk (Value.ref b :: argsL).toArray X₁ hg hsize hdg hW (X₁.named hnamed) (hpre vm₁ X₁.warmed) with ⟨v, B, X', hpost, hsteps⟩ | ⟨q, B, X', hpost, hsteps⟩
  · exact Or.inl ⟨v, vm₁, B, X₁.warmed, X', hpost, fun target h => hstep₁ _ fun acts => by rw [doInvoke_state]; exact hsteps.trans h⟩
  · exact Or.inr ⟨q, vm₁, B, X₁.warmed, X', hpost, hstep₁ _ fun acts => by rw [doInvoke_state]; exact hsteps⟩
theorem vx_callSX (X : Stand p l e R s m args below meth c T locs cells slots) (hexec : p.tables.exec = Jvm.exec) {own : String} {index : Nat} {y : MethodName} {bytes : ByteArray} {maxL : Nat} {ret : Option FieldType} {hh : List (Nat × Nat × Nat × Nat)}
    (hown : s.vm.findClass own = some m.cls) (hlink : (Cond.methodLink own index y).before args s = true) (hstat : (Cond.static y).before args s = true) (hinit : (Cond.initialized y.cls).before args s = true)
    (hcode : (Cond.codeWith y bytes maxL ret hh).before args s = true) (hy : y.cls ≠ "java/lang/invoke/MethodHandle" ∧ y.cls ≠ "java/lang/invoke/VarHandle")
    {W9 : Nat} {Pre : Pt → Array Value → Prop} {Post : Pt → Array Value → Option Value → Pt → Prop} {PostX : Pt → Array Value → Addr → Pt → Prop} (hK : vx_Back l R p e below s args y 3 W9 Pre Post PostX)
    {g : JFrame} (hg : g.method = m) (hsize : g.locals.size = c.maxLocals) {argsL rest : List Value} (hlen : ∀ sig, parseMethodDescriptor y.desc = some sig → argsL.length = sig.parameters.length)
    (hstack : g.stack = argsL.reverse ++ rest) (hW : 2 * g.monitorRoom + (rest.map fun v => v.category).sum ≤ W9) (hdg : decode c.code g.pc = .ok (.invokestatic index, 3))
    (hpre : ∀ vm₁, s.WarmedH vm₁ → Pre ⟨T.setVm vm₁, locs, cells, slots⟩ argsL.toArray) :
    (∃ (v : Option Value) (vm₁ : Vm) (B : Pt), s.WarmedH vm₁ ∧ Stand p l e R s m args below meth c B.U B.locs B.cells B.slots ∧ Post ⟨T.setVm vm₁, locs, cells, slots⟩ argsL.toArray v B ∧
      ∀ target, Steps p.tables e below (B.U.setTop { g with pc := g.pc + 3, stack := v.toList ++ rest }) target → Steps p.tables e below (T.setTop g) target) ∨
    (∃ (q : Addr) (vm₁ : Vm) (B : Pt), s.WarmedH vm₁ ∧ Stand p l e R s m args below meth c B.U B.locs B.cells B.slots ∧ PostX ⟨T.setVm vm₁, locs, cells, slots⟩ argsL.toArray q B ∧
      Steps p.tables e below (T.setTop g) ((B.U.setTop { g with stack := rest }).pushFrame (.throwing q))) := by
  obtain ⟨mk, methM, cM, hnamed, hmethM, -, -, -, -, -, -, hsigM⟩ := Cond.codeWith_spec hcode
  have hstatic : methM.isStatic = true := Cond.static_spec hnamed hmethM hstat
  obtain ⟨kP, hkP, -⟩ := className_of_methodNamed hnamed
  have hinitP : kP.init = .initialized := Cond.initialized_spec (findClass_of_methodNamed hnamed) hkP hinit
  obtain ⟨vm₁, X₁, hstep₁⟩ := X.invokestatic hexec hown hlink hnamed hmethM hstatic hkP hinitP hy (g := g) hg (argsL := argsL) (rest := rest) (hlen _ hsigM) hstack hdg
  rcases hK m meth c ⟨T.setVm vm₁, locs, cells, slots⟩ { g with stack := rest } (.invokestatic index) mk argsL.toArray X₁ hg hsize hdg hW (X₁.named hnamed) (hpre vm₁ X₁.warmed) with ⟨v, B, X', hpost, hsteps⟩ | ⟨q, B, X', hpost, hsteps⟩
  · exact Or.inl ⟨v, vm₁, B, X₁.warmed, X', hpost, fun target h => hstep₁ _ fun acts => by rw [doInvoke_state]; exact hsteps.trans h⟩
  · exact Or.inr ⟨q, vm₁, B, X₁.warmed, X', hpost, hstep₁ _ fun acts => by rw [doInvoke_state]; exact hsteps⟩
theorem vx_callVW (X : Stand p l e R s m args below meth c T locs cells slots) (hexec : p.tables.exec = Jvm.exec) {own C : String} {index : Nat} {y : MethodName} {bytes : ByteArray} {maxL : Nat} {ret : Option FieldType} {hh : List (Nat × Nat × Nat × Nat)}
    (hown : s.vm.findClass own = some m.cls) (hlink : (Cond.methodLink own index y).before args s = true) (hinst : (Cond.instanceMethod y).before args s = true) (hsel : (Cond.selects C y y).before args s = true)
    (hcode : (Cond.codeWith y bytes maxL ret hh).before args s = true) (hy : y.cls ≠ "java/lang/invoke/MethodHandle" ∧ y.cls ≠ "java/lang/invoke/VarHandle")
    {W9 : Nat} {Pre : Pt → Array Value → Prop} {Post : Pt → Array Value → Option Value → Pt → Prop} (hK : Back l R p e below s args y 3 W9 Pre Post)
    {b : Addr} {cellB : Cell} (hcell : T.heap[b]? = some cellB) (hobj : cellB.vm.isStatics = false) (hcls : s.vm.findClass C = some cellB.cls)
    {g : JFrame} (hg : g.method = m) (hsize : g.locals.size = c.maxLocals) {argsL rest : List Value} (hlen : ∀ sig, parseMethodDescriptor y.desc = some sig → argsL.length = sig.parameters.length)
    (hstack : g.stack = argsL.reverse ++ .ref b :: rest) (hW : 2 * g.monitorRoom + (rest.map fun v => v.category).sum ≤ W9) (hdg : decode c.code g.pc = .ok (.invokevirtual index, 3))
    (hpre : ∀ vm₁, s.WarmedH vm₁ → Pre ⟨T.setVm vm₁, locs, cells, slots⟩ (Value.ref b :: argsL).toArray) :
    ∃ (v : Option Value) (vm₁ : Vm) (B : Pt), s.WarmedH vm₁ ∧ Stand p l e R s m args below meth c B.U B.locs B.cells B.slots ∧ Post ⟨T.setVm vm₁, locs, cells, slots⟩ (Value.ref b :: argsL).toArray v B ∧
      ∀ target, Steps p.tables e below (B.U.setTop { g with pc := g.pc + 3, stack := v.toList ++ rest }) target → Steps p.tables e below (T.setTop g) target := by
  obtain ⟨mk, methM, hnamed, hmethM, hstM, habM⟩ := Cond.instanceMethod_spec hinst
  obtain ⟨m8, methM', cM, hn8, hmethM', -, -, -, -, -, -, hsigM⟩ := Cond.codeWith_spec hcode
  cases Option.some.inj (hn8.symm.trans hnamed)
  cases hmethM.symm.trans hmethM'
  obtain ⟨c2, r2, m2, q1, q2, q3, q4, kP, hkP, hkPi⟩ := Cond.selects_spec hsel
  cases hcls.symm.trans q1
  cases (State.methodFound?_of_named hnamed hy).symm.trans q2
  cases hnamed.symm.trans q3
  have hselP : selectMethod e.platform s.vm cellB.cls mk = .method mk := by rw [Launch.admits_selectMethod X.admits]; exact q4
  obtain ⟨vm₁, X₁, hstep₁⟩ := X.invokevirtual hexec hown hlink hnamed hmethM hstM hkP hkPi hy (a := b) (cell := cellB) hcell
    (fun z h => by rw [h] at hobj; cases hobj) hselP hmethM habM hkP hkPi (g := g) hg (argsL := argsL) (rest := rest) (hlen _ hsigM) hstack hdg
  obtain ⟨v, B, X', hpost, hsteps⟩ := hK m meth c ⟨T.setVm vm₁, locs, cells, slots⟩ { g with stack := rest } (.invokevirtual index) mk (Value.ref b :: argsL).toArray X₁ hg hsize hdg hW (X₁.named hnamed) (hpre vm₁ X₁.warmed)
  exact ⟨v, vm₁, B, X₁.warmed, X', hpost, fun target h => hstep₁ _ fun acts => by rw [doInvoke_state]; exact hsteps.trans h⟩
abbrev vx_CVW (R : Room) (s : State) (args : Array Value) (own C : String) (index : Nat) (y : MethodName) (bytes : ByteArray) (maxL : Nat) (ret : Option FieldType) (hh : List (Nat × Nat × Nat × Nat)) (ws : List Cond) (rm : Room) (mc ms n : Nat) : Prop :=
  (rm.cells = mc ∧ rm.slots = ms ∧ rm.frames + 1 ≤ R.frames ∧ 8 + (maxL + 11) + rm.locals ≤ R.locals ∧ (∀ w ∈ ws, ∀ (a' : Array Value) (U : State), s.WarmedH U.vm → w.before a' U = true) ∧ Cond.codeWith y bytes maxL ret hh ∈ ws) ∧
  (Cond.codeWith y bytes maxL ret hh).before args s = true ∧ (Cond.initialized y.cls).before args s = true ∧ (y.cls ≠ "java/lang/invoke/MethodHandle" ∧ y.cls ≠ "java/lang/invoke/VarHandle") ∧
  (∀ sig, parseMethodDescriptor y.desc = some sig → n = sig.parameters.length) ∧ (Cond.methodLink own index y).before args s = true ∧ (Cond.instanceMethod y).before args s = true ∧ (Cond.selects C y y).before args s = true
theorem vx_cwVW {own C : String} {index maxL mc ms : Nat} {y : MethodName} {bytes : ByteArray} {ret : Option FieldType} {hh : List (Nat × Nat × Nat × Nat)} {Ts ws ws' : List Cond} {rm : Room} (n : Nat) (ht : ∀ w ∈ Ts, w.before args s = true) (hT : GoodIn Ts (wsV own index C y ws)) (hw : ws = Cond.codeWith y bytes maxL ret hh :: ws') (hrc : rm.cells = mc) (hrs : rm.slots = ms)
    (hd : y.cls = C ∧ y.cls ≠ "java/lang/invoke/MethodHandle" ∧ y.cls ≠ "java/lang/invoke/VarHandle" ∧ (parseMethodDescriptor y.desc).map (fun d => d.parameters.length) = some n) (hR : rm.frames + 1 ≤ R.frames ∧ 8 + (maxL + 11) + rm.locals ≤ R.locals) :
    vx_CVW R s args own C index y bytes maxL ret hh ws rm mc ms n := by
  obtain ⟨hC, hd⟩ := hd
  subst hC
  have ok : ∀ w ∈ wsV own index y.cls y ws, w.before args s = true := fun w h => ht w (hT w h).1
  have hG : GoodIn Ts ws := fun w h => hT w (by unfold wsV; exact List.mem_append_right _ h)
  have hc : Cond.codeWith y bytes maxL ret hh ∈ ws := by rw [hw]; exact List.mem_cons_self
  refine ⟨⟨hrc, hrs, hR.1, hR.2, pay_in ht hG, hc⟩, ht _ (hG _ hc).1, ok _ (by simp [wsV]), ⟨hd.1, hd.2.1⟩, fun sig h => ?_, ok _ (by simp [wsV]), ok _ (by simp [wsV]), ok _ (by simp [wsV])⟩
  have h2 := hd.2.2
  rw [h] at h2
  exact (Option.some.inj h2).symm
theorem vx_runVW {y : MethodName} {bytes cc : ByteArray} {maxL nL mc ms n index : Nat} {ret : Option FieldType} {hh : List (Nat × Nat × Nat × Nat)} {ws : List Cond} {rm : Room} {Pc : Array Value → State → Prop} {Qc : Array Value → State → Outcome → State → Prop} {free : Addr → Prop} {Ts : List Cond} {own C : String} {b : Addr} {As rest : List Value} {g : JFrame}
    (S : CallFix p m c cc nL s args Ts own) (hM : Met l y ws rm Pc Qc mc ms free) (cw : vx_CVW R s args own C index y bytes maxL ret hh ws rm mc ms n) (hp : PreV s H C b Pc As)
    (hg : g.method = m) (hn : As.length = n) (hsize : g.locals.size = nL) (hstack : g.stack = As.reverse ++ .ref b :: rest) (hW : 2 * g.monitorRoom + (rest.map fun v => v.category).sum ≤ 8) (hdg : decode cc g.pc = .ok (.invokevirtual index, 3)) (hf : cells + mc ≤ R.cells ∧ slots + ms ≤ R.slots) :
    va_Run p l e R s m args below meth c H locs cells slots mc ms g rest (Qc (Value.ref b :: As).toArray) free := by
  obtain ⟨⟨hrc, hrs, hfr, hlo, hws, hcw⟩, hcode, hini, hy, hlen, hl, hin, hse⟩ := cw
  have hK : Back l R p e below s args y 3 8 (PreOf R mc ms Pc) (PostOf Qc mc ms free) := va_backW (hh := hh) (bytes := bytes) (maxL := maxL) (ret := ret) hM hp.1 hrc hrs hfr hlo hws hcw (fun a' U hW => word_at hW (Or.inl (by first | rfl | simp [Cond.onTables, Cond.keeps, Cond.steady])) hini)
  obtain ⟨hx, hb, hml, ho, -⟩ := S
  obtain ⟨-, ⟨cellB, hcB, hoB, hclB⟩, hPc⟩ := hp
  intro T hT X
  obtain ⟨v, vm₁, ⟨U', l2, c2, s2⟩, hW₁, X', ⟨g', mk, t, L, e1, e2, hq, h1, hL, h2, h3⟩, st⟩ := vx_callVW X hx (C := C) (hh := hh) (bytes := bytes) (maxL := maxL) (ret := ret) ho hl hin hse hcode hy hK (by rw [hT]; exact hcB) hoB hclB hg (hsize.trans hml.symm) (argsL := As) (rest := rest) (fun sig h => hn.trans (hlen sig h)) hstack hW (by rw [hb]; exact hdg)
    (fun vm₁ hW₁ => ⟨hf.1, hf.2, hPc (T.setVm vm₁) hT hW₁⟩)
  dsimp only [Pt.U, Pt.locs, Pt.cells, Pt.slots] at X' e1 e2 h1 h2 h3 st
  subst h1; subst h2; subst h3
  exact ⟨v, (T.setVm vm₁).calling g' mk (Value.ref b :: As).toArray, t, U', L, hT, X', hL, e1, e2, hq, st⟩
section
variable {y : MethodName} {bytes cc : ByteArray} {maxL nL mc ms n index : Nat} {ret : Option FieldType} {ws : List Cond} {rm : Room} {Pc : Array Value → State → Prop} {Qc : Array Value → State → Outcome → State → Prop} {XC : String → State → State → Prop} {free : Addr → Prop} {Ts : List Cond} {own C : String} {b : Addr} {As rest : List Value} {g : JFrame}
theorem vx_runVX {hh : List (Nat × Nat × Nat × Nat)} (S : CallFix p m c cc nL s args Ts own) (hM : vx_Met l y ws rm Pc Qc XC mc ms free) (cw : vx_CVW R s args own C index y bytes maxL ret hh ws rm mc ms n) (hp : PreV s H C b Pc As)
    (hg : g.method = m) (hn : As.length = n) (hsize : g.locals.size = nL) (hstack : g.stack = As.reverse ++ .ref b :: rest) (hW : 2 * g.monitorRoom + (rest.map fun v => v.category).sum ≤ 8) (hdg : decode cc g.pc = .ok (.invokevirtual index, 3)) (hf : cells + mc ≤ R.cells ∧ slots + ms ≤ R.slots) :
    vx_Run p l e R s m args below meth c H locs cells slots mc ms g rest (Qc (Value.ref b :: As).toArray) XC free := by
  obtain ⟨⟨hrc, hrs, hfr, hlo, hws, hcw⟩, hcode, hini, hy, hlen, hl, hin, hse⟩ := cw
  have hK : vx_Back l R p e below s args y 3 8 (PreOf R mc ms Pc) (PostOf Qc mc ms free) (vx_Post XC mc ms free) := vx_backW (hh := hh) (bytes := bytes) (maxL := maxL) (ret := ret) hM hp.1 hrc hrs hfr hlo hws hcw (fun a' U hW => word_at hW (Or.inl (by first | rfl | simp [Cond.onTables, Cond.keeps, Cond.steady])) hini)
  obtain ⟨hx, hb, hml, ho, -⟩ := S
  obtain ⟨-, ⟨cellB, hcB, hoB, hclB⟩, hPc⟩ := hp
  intro T hT X
  rcases vx_callVX X hx (C := C) (hh := hh) (bytes := bytes) (maxL := maxL) (ret := ret) ho hl hin hse hcode hy hK (by rw [hT]; exact hcB) hoB hclB hg (hsize.trans hml.symm) (argsL := As) (rest := rest) (fun sig h => hn.trans (hlen sig h)) hstack hW (by rw [hb]; exact hdg)
    (fun vm₁ hW₁ => ⟨hf.1, hf.2, hPc (T.setVm vm₁) hT hW₁⟩) with ⟨v, vm₁, ⟨U', l2, c2, s2⟩, hW₁, X', ⟨g', mk, t, L, e1, e2, hq, h1, hL, h2, h3⟩, st⟩ | ⟨q, vm₁, ⟨U', l2, c2, s2⟩, hW₁, X', ⟨g', mk, t, L, E, ce, e1, e2, hq, hce, hcv, hcl, h1, hL, h2, h3⟩, st⟩
  · dsimp only [Pt.U, Pt.locs, Pt.cells, Pt.slots] at X' e1 e2 h1 h2 h3 st
    subst h1; subst h2; subst h3
    exact Or.inl ⟨v, (T.setVm vm₁).calling g' mk (Value.ref b :: As).toArray, t, U', L, hT, X', hL, e1, e2, hq, st⟩
  · dsimp only [Pt.U, Pt.locs, Pt.cells, Pt.slots] at X' e1 e2 h1 h2 h3 st hcl
    subst h1; subst h2; subst h3
    exact Or.inr ⟨q, (T.setVm vm₁).calling g' mk (Value.ref b :: As).toArray, t, U', L, E, ce, hT, X', hL, e1, e2, hq, hce, hcv, vx_cls hW₁ hcl, st⟩
theorem vx_runSX {hh : List (Nat × Nat × Nat × Nat)} (S : CallFix p m c cc nL s args Ts own) (hM : vx_Met l y ws rm Pc Qc XC mc ms free) (cw : vx_CSW R s args own index y bytes maxL ret hh ws rm mc ms n) (hp : PreS s H Pc As)
    (hg : g.method = m) (hn : As.length = n) (hsize : g.locals.size = nL) (hstack : g.stack = As.reverse ++ rest) (hW : 2 * g.monitorRoom + (rest.map fun v => v.category).sum ≤ 8) (hdg : decode cc g.pc = .ok (.invokestatic index, 3)) (hf : cells + mc ≤ R.cells ∧ slots + ms ≤ R.slots) :
    vx_Run p l e R s m args below meth c H locs cells slots mc ms g rest (Qc As.toArray) XC free := by
  obtain ⟨⟨hrc, hrs, hfr, hlo, hws, hcw⟩, hcode, hini, hy, hlen, hl, hstt⟩ := cw
  have hK : vx_Back l R p e below s args y 3 8 (PreOf R mc ms Pc) (PostOf Qc mc ms free) (vx_Post XC mc ms free) := vx_backW (hh := hh) (bytes := bytes) (maxL := maxL) (ret := ret) hM hp.1 hrc hrs hfr hlo hws hcw (fun a' U hW => word_at hW (Or.inl (by first | rfl | simp [Cond.onTables, Cond.keeps, Cond.steady])) hini)
  obtain ⟨hx, hb, hml, ho, -⟩ := S
  intro T hT X
  rcases vx_callSX X hx (hh := hh) (bytes := bytes) (maxL := maxL) (ret := ret) ho hl hstt hini hcode hy hK hg (hsize.trans hml.symm) (argsL := As) (rest := rest) (fun sig h => hn.trans (hlen sig h)) hstack hW (by rw [hb]; exact hdg)
    (fun vm₁ hW₁ => ⟨hf.1, hf.2, hp.2 (T.setVm vm₁) hT hW₁⟩) with ⟨v, vm₁, ⟨U', l2, c2, s2⟩, hW₁, X', ⟨g', mk, t, L, e1, e2, hq, h1, hL, h2, h3⟩, st⟩ | ⟨q, vm₁, ⟨U', l2, c2, s2⟩, hW₁, X', ⟨g', mk, t, L, E, ce, e1, e2, hq, hce, hcv, hcl, h1, hL, h2, h3⟩, st⟩
  · dsimp only [Pt.U, Pt.locs, Pt.cells, Pt.slots] at X' e1 e2 h1 h2 h3 st
    subst h1; subst h2; subst h3
    exact Or.inl ⟨v, (T.setVm vm₁).calling g' mk As.toArray, t, U', L, hT, X', hL, e1, e2, hq, st⟩
  · dsimp only [Pt.U, Pt.locs, Pt.cells, Pt.slots] at X' e1 e2 h1 h2 h3 st hcl
    subst h1; subst h2; subst h3
    exact Or.inr ⟨q, (T.setVm vm₁).calling g' mk As.toArray, t, U', L, E, ce, hT, X', hL, e1, e2, hq, hce, hcv, vx_cls hW₁ hcl, st⟩
end
end VXH
theorem vx_ofWH {l : Launch} {y : MethodName} {ws ws' : List Cond} {rm : Room} {Pc : Array Value → State → Prop} {Qc : Array Value → State → Outcome → State → Prop} {XC : String → State → State → Prop} {mc ms : Nat} {free : Addr → Prop} {cc : ByteArray} {maxL : Nat} {ret : Option FieldType} {hh : List (Nat × Nat × Nat × Nat)}
    (hy : plainName y.cls = true) (hw : ws = Cond.codeWith y cc maxL ret hh :: ws')
    (body : ∀ p e s m args below meth c s₁, BodyLoose p l y (headSpec ws rm) cc maxL ret e s m args below meth c s₁ → c.maxLocals = maxL → Pc args s →
      W p l e (headSpec ws rm).room s m args below meth c s.heap [] 0 0 (vx_MQ below Qc XC args s mc ms free) (entryFrame m args maxL)) : vx_Met l y ws rm Pc Qc XC mc ms free := by
  refine MetFree.of_bodyS (code := cc) (maxLocals := maxL) (ret := ret) hy ?_ ?_
  · intro args s m h hn
    obtain ⟨m9, meth, c, hn9, h1, h2, h3, h4, -, h5, h6, -⟩ := Cond.codeWith_spec (atoms_spec (ws := ws) h _ (by rw [hw]; exact List.mem_cons_self))
    cases hn.symm.trans hn9
    exact ⟨meth, c, h1, h2, h3, h4, h5, h6⟩
  · intro p e s m args below meth c s₁ B hml hP _
    have hh0 : s₁.heap = s.heap := by rw [B.state]; rfl
    obtain ⟨t, a1, o, b1, b2, b3⟩ := body p e s m args below meth c s₁ B hml hP s₁ hh0 (Stand.of_body B)
    exact ⟨t, o, a1, b1, b2, b3⟩
/-! ===== END ===== -/
/-! ===== BEGIN a constructor that throws (launches without stack traces) ===== -/
section VXIA
variable {p : Program} {l : Launch} {e : Env} {R : Room} {s : State} {m : MethodId} {args : Array Value} {below : List Frame} {meth : Method} {c : Code} {T : State} {locs : List Loc} {cells slots : Nat}
theorem vx_callI (X : Stand p l e R s m args below meth c T locs cells slots) (hexec : p.tables.exec = Jvm.exec) {own : String} {index : Nat} {y : MethodName} {bytes : ByteArray} {maxL : Nat}
    (hown : s.vm.findClass own = some m.cls) (hy1 : y.name = "<init>") (hlink : (Cond.methodLink own index y).before args s = true) (hinst : (Cond.instanceMethod y).before args s = true)
    (hcode : (Cond.code y bytes maxL none).before args s = true) (hy : y.cls ≠ "java/lang/invoke/MethodHandle" ∧ y.cls ≠ "java/lang/invoke/VarHandle")
    {W9 : Nat} {Pre : Pt → Array Value → Prop} {Post : Pt → Array Value → Option Value → Pt → Prop} {PostX : Pt → Array Value → Addr → Pt → Prop} (hK : vx_Back l R p e below s args y 3 W9 Pre Post PostX)
    {g : JFrame} (hg : g.method = m) (hsize : g.locals.size = c.maxLocals) {a : Addr} {argsL rest : List Value} (hlen : ∀ sig, parseMethodDescriptor y.desc = some sig → argsL.length = sig.parameters.length)
    (hstack : g.stack = argsL.reverse ++ .ref a :: rest) (hW : 2 * g.monitorRoom + (rest.map fun v => v.category).sum ≤ W9) (hdg : decode c.code g.pc = .ok (.invokespecial index, 3))
    (hpre : ∀ vm₁, s.WarmedH vm₁ → Pre ⟨T.setVm vm₁, locs, cells, slots⟩ (Value.ref a :: argsL).toArray) :
    (∃ (v : Option Value) (vm₁ : Vm) (B : Pt), s.WarmedH vm₁ ∧ Stand p l e R s m args below meth c B.U B.locs B.cells B.slots ∧ Post ⟨T.setVm vm₁, locs, cells, slots⟩ (Value.ref a :: argsL).toArray v B ∧
      ∀ target, Steps p.tables e below (B.U.setTop { g with pc := g.pc + 3, stack := v.toList ++ rest }) target → Steps p.tables e below (T.setTop g) target) ∨
    (∃ (q : Addr) (vm₁ : Vm) (B : Pt), s.WarmedH vm₁ ∧ Stand p l e R s m args below meth c B.U B.locs B.cells B.slots ∧ PostX ⟨T.setVm vm₁, locs, cells, slots⟩ (Value.ref a :: argsL).toArray q B ∧
      Steps p.tables e below (T.setTop g) ((B.U.setTop { g with stack := rest }).pushFrame (.throwing q))) := by
  subst hg
  have hpl : e.platform.magicAccessors = ({} : Platform).magicAccessors := by rw [X.admits.platform]
  obtain ⟨mk, methM, cM, kP, vm₁, hnamed, hmethM, hcodeM, -, hlocalsM, -, hkP, -, hW₁, hstep₁⟩ := Steps.initColdArgs (e := e) X.here hexec X.warmed hpl hown hy1 hy hlink hinst hcode (f := g) rfl hlen hstack hdg
  have X₁ := X.noted hW₁
  rcases hK g.method meth c ⟨T.setVm vm₁, locs, cells, slots⟩ { g with stack := rest } (.invokespecial index) mk (Value.ref a :: argsL).toArray X₁ rfl hsize hdg hW (X₁.named hnamed) (hpre vm₁ X₁.warmed) with ⟨v, B, X', hpost, hsteps⟩ | ⟨q, B, X', hpost, hsteps⟩
  · exact Or.inl ⟨v, vm₁, B, X₁.warmed, X', hpost, fun target h => hstep₁ _ fun acts => by rw [doInvoke_state]; exact hsteps.trans h⟩
  · exact Or.inr ⟨q, vm₁, B, X₁.warmed, X', hpost, hstep₁ _ fun acts => by rw [doInvoke_state]; exact hsteps⟩
end VXIA
section VXIB
variable {p : Program} {l : Launch} {e : Env} {R : Room} {s : State} {m : MethodId} {args : Array Value} {below : List Frame} {meth : Method} {c : Code} {H : Heap} {locs : List Loc} {cells slots : Nat}
variable {y : MethodName} {bytes cc : ByteArray} {maxL nL mc ms n index : Nat} {ret : Option FieldType} {ws : List Cond} {rm : Room} {Pc : Array Value → State → Prop} {Qc : Array Value → State → Outcome → State → Prop} {XC : String → State → State → Prop} {free : Addr → Prop} {Ts : List Cond} {own C : String} {b : Addr} {As rest : List Value} {g : JFrame}
theorem vx_runI (S : CallFix p m c cc nL s args Ts own) (hM : vx_Met l y ws rm Pc Qc XC mc ms free) (cw : CallB R s args own index y bytes maxL none ws rm mc ms n ∧ y.name = "<init>" ∧ (Cond.instanceMethod y).before args s = true) (hp : PreS s H Pc (.ref b :: As))
    (hg : g.method = m) (hn : As.length = n) (hsize : g.locals.size = nL) (hstack : g.stack = As.reverse ++ .ref b :: rest) (hW : 2 * g.monitorRoom + (rest.map fun v => v.category).sum ≤ 8) (hdg : decode cc g.pc = .ok (.invokespecial index, 3)) (hf : cells + mc ≤ R.cells ∧ slots + ms ≤ R.slots) :
    vx_Run p l e R s m args below meth c H locs cells slots mc ms g rest (Qc (Value.ref b :: As).toArray) XC free := by
  have hK : vx_Back l R p e below s args y 3 8 (PreOf R mc ms Pc) (PostOf Qc mc ms free) (vx_Post XC mc ms free) := vx_callBack cw.1 hM hp.1
  obtain ⟨⟨-, -, -, -, -, -, hcode, -, hy, hlen, hl⟩, hy1, hin⟩ := cw
  obtain ⟨hx, hb, hml, ho, -⟩ := S
  have hPc := hp.2
  intro T hT X
  rcases vx_callI X hx (bytes := bytes) (maxL := maxL) ho hy1 hl hin hcode hy hK hg (hsize.trans hml.symm) (a := b) (argsL := As) (rest := rest) (fun sig h => hn.trans (hlen sig h)) hstack hW (by rw [hb]; exact hdg)
    (fun vm₁ hW₁ => ⟨hf.1, hf.2, hPc (T.setVm vm₁) hT hW₁⟩) with ⟨v, vm₁, ⟨U', l2, c2, s2⟩, hW₁, X', ⟨g', mk, t, L, e1, e2, hq, h1, hL, h2, h3⟩, st⟩ | ⟨q, vm₁, ⟨U', l2, c2, s2⟩, hW₁, X', ⟨g', mk, t, L, E, ce, e1, e2, hq, hce, hcv, hcl, h1, hL, h2, h3⟩, st⟩
  · dsimp only [Pt.U, Pt.locs, Pt.cells, Pt.slots] at X' e1 e2 h1 h2 h3 st
    subst h1; subst h2; subst h3
    exact Or.inl ⟨v, (T.setVm vm₁).calling g' mk (Value.ref b :: As).toArray, t, U', L, hT, X', hL, e1, e2, hq, st⟩
  · dsimp only [Pt.U, Pt.locs, Pt.cells, Pt.slots] at X' e1 e2 h1 h2 h3 st hcl
    subst h1; subst h2; subst h3
    exact Or.inr ⟨q, (T.setVm vm₁).calling g' mk (Value.ref b :: As).toArray, t, U', L, E, ce, hT, X', hL, e1, e2, hq, hce, hcv, vx_cls hW₁ hcl, st⟩
end VXIB
/-! ===== END ===== -/
/-! ===== BEGIN a private constructor of a nest mate that throws ===== -/
section VXIC
variable {p : Program} {l : Launch} {e : Env} {R : Room} {s : State} {m : MethodId} {args : Array Value} {below : List Frame} {meth : Method} {c : Code} {T : State} {locs : List Loc} {cells slots : Nat}
theorem vx_callIN (X : Stand p l e R s m args below meth c T locs cells slots) (hexec : p.tables.exec = Jvm.exec) {own : String} {index : Nat} {host : String} {y : MethodName} {bytes : ByteArray} {maxL : Nat}
    (hown : s.vm.findClass own = some m.cls) (hy1 : y.name = "<init>") (hlink : (Cond.methodLinkNest own index y host).before args s = true) (hinst : (Cond.instanceMethod y).before args s = true)
    (hcode : (Cond.code y bytes maxL none).before args s = true) (hy : y.cls ≠ "java/lang/invoke/MethodHandle" ∧ y.cls ≠ "java/lang/invoke/VarHandle")
    {W9 : Nat} {Pre : Pt → Array Value → Prop} {Post : Pt → Array Value → Option Value → Pt → Prop} {PostX : Pt → Array Value → Addr → Pt → Prop} (hK : vx_Back l R p e below s args y 3 W9 Pre Post PostX)
    {g : JFrame} (hg : g.method = m) (hsize : g.locals.size = c.maxLocals) {a : Addr} {argsL rest : List Value} (hlen : ∀ sig, parseMethodDescriptor y.desc = some sig → argsL.length = sig.parameters.length)
    (hstack : g.stack = argsL.reverse ++ .ref a :: rest) (hW : 2 * g.monitorRoom + (rest.map fun v => v.category).sum ≤ W9) (hdg : decode c.code g.pc = .ok (.invokespecial index, 3))
    (hpre : ∀ vm₁, s.WarmedH vm₁ → Pre ⟨T.setVm vm₁, locs, cells, slots⟩ (Value.ref a :: argsL).toArray) :
    (∃ (v : Option Value) (vm₁ : Vm) (B : Pt), s.WarmedH vm₁ ∧ Stand p l e R s m args below meth c B.U B.locs B.cells B.slots ∧ Post ⟨T.setVm vm₁, locs, cells, slots⟩ (Value.ref a :: argsL).toArray v B ∧
      ∀ target, Steps p.tables e below (B.U.setTop { g with pc := g.pc + 3, stack := v.toList ++ rest }) target → Steps p.tables e below (T.setTop g) target) ∨
    (∃ (q : Addr) (vm₁ : Vm) (B : Pt), s.WarmedH vm₁ ∧ Stand p l e R s m args below meth c B.U B.locs B.cells B.slots ∧ PostX ⟨T.setVm vm₁, locs, cells, slots⟩ (Value.ref a :: argsL).toArray q B ∧
      Steps p.tables e below (T.setTop g) ((B.U.setTop { g with stack := rest }).pushFrame (.throwing q))) := by
  subst hg
  have hpl : e.platform.magicAccessors = ({} : Platform).magicAccessors := by rw [X.admits.platform]
  obtain ⟨mk, methM, cM, kP, vm₁, hnamed, hmethM, hcodeM, -, hlocalsM, -, hkP, -, hW₁, hstep₁⟩ := Steps.initColdArgsNest (e := e) X.here hexec X.warmed hpl hown hy1 hy hlink hinst hcode (f := g) rfl hlen hstack hdg
  have X₁ := X.noted hW₁
  rcases hK g.method meth c ⟨T.setVm vm₁, locs, cells, slots⟩ { g with stack := rest } (.invokespecial index) mk (Value.ref a :: argsL).toArray X₁ rfl hsize hdg hW (X₁.named hnamed) (hpre vm₁ X₁.warmed) with ⟨v, B, X', hpost, hsteps⟩ | ⟨q, B, X', hpost, hsteps⟩
  · exact Or.inl ⟨v, vm₁, B, X₁.warmed, X', hpost, fun target h => hstep₁ _ fun acts => by rw [doInvoke_state]; exact hsteps.trans h⟩
  · exact Or.inr ⟨q, vm₁, B, X₁.warmed, X', hpost, hstep₁ _ fun acts => by rw [doInvoke_state]; exact hsteps⟩
end VXIC
section VXID
variable {p : Program} {l : Launch} {e : Env} {R : Room} {s : State} {m : MethodId} {args : Array Value} {below : List Frame} {meth : Method} {c : Code} {H : Heap} {locs : List Loc} {cells slots : Nat}
theorem vx_runIN {y : MethodName} {bytes cc : ByteArray} {maxL nL mc ms n index : Nat} {ws : List Cond} {rm : Room} {Pc : Array Value → State → Prop} {Qc : Array Value → State → Outcome → State → Prop} {XC : String → State → State → Prop} {free : Addr → Prop} {Ts : List Cond} {own host : String} {b : Addr} {As rest : List Value} {g : JFrame}
    (S : CallFix p m c cc nL s args Ts own) (hM : vx_Met l y ws rm Pc Qc XC mc ms free) (cw : va_CN R s args own index y host bytes maxL none ws rm mc ms n ∧ y.name = "<init>" ∧ (Cond.instanceMethod y).before args s = true) (hp : PreS s H Pc (.ref b :: As))
    (hg : g.method = m) (hn : As.length = n) (hsize : g.locals.size = nL) (hstack : g.stack = As.reverse ++ .ref b :: rest) (hW : 2 * g.monitorRoom + (rest.map fun v => v.category).sum ≤ 8) (hdg : decode cc g.pc = .ok (.invokespecial index, 3)) (hf : cells + mc ≤ R.cells ∧ slots + ms ≤ R.slots) :
    vx_Run p l e R s m args below meth c H locs cells slots mc ms g rest (Qc (Value.ref b :: As).toArray) XC free := by
  obtain ⟨⟨⟨hrc, hrs, hfr, hlo, hws, hcw⟩, hcode, hini, hy, hlen, hl⟩, hx1, hx2⟩ := cw
  have hK : vx_Back l R p e below s args y 3 8 (PreOf R mc ms Pc) (PostOf Qc mc ms free) (vx_Post XC mc ms free) := vx_back (bytes := bytes) (maxL := maxL) (ret := none) hM hp.1 hrc hrs hfr hlo hws hcw (fun a' U hW => word_at hW (Or.inl (by first | rfl | simp [Cond.onTables, Cond.keeps, Cond.steady])) hini)
  obtain ⟨hx, hb, hml, ho, -⟩ := S
  have hPc := hp.2
  intro T hT X
  rcases vx_callIN X hx (bytes := bytes) (maxL := maxL) ho hx1 hl hx2 hcode hy hK hg (hsize.trans hml.symm) (a := b) (argsL := As) (rest := rest) (fun sig h => hn.trans (hlen sig h)) hstack hW (by rw [hb]; exact hdg)
    (fun vm₁ hW₁ => ⟨hf.1, hf.2, hPc (T.setVm vm₁) hT hW₁⟩) with ⟨v, vm₁, ⟨U', l2, c2, s2⟩, hW₁, X', ⟨g', mk, t, L, e1, e2, hq, h1, hL, h2, h3⟩, st⟩ | ⟨q, vm₁, ⟨U', l2, c2, s2⟩, hW₁, X', ⟨g', mk, t, L, E, ce, e1, e2, hq, hce, hcv, hcl, h1, hL, h2, h3⟩, st⟩
  · dsimp only [Pt.U, Pt.locs, Pt.cells, Pt.slots] at X' e1 e2 h1 h2 h3 st
    subst h1; subst h2; subst h3
    exact Or.inl ⟨v, (T.setVm vm₁).calling g' mk (Value.ref b :: As).toArray, t, U', L, hT, X', hL, e1, e2, hq, st⟩
  · dsimp only [Pt.U, Pt.locs, Pt.cells, Pt.slots] at X' e1 e2 h1 h2 h3 st hcl
    subst h1; subst h2; subst h3
    exact Or.inr ⟨q, (T.setVm vm₁).calling g' mk (Value.ref b :: As).toArray, t, U', L, E, ce, hT, X', hL, e1, e2, hq, hce, hcv, vx_cls hW₁ hcl, st⟩
end VXID
/-! ===== END ===== -/
/-! ===== BEGIN a private method of a nest mate that may throw (follows va_callVN, va_callSN, va_runVN, va_runSN) ===== -/
section
variable {p : Program} {l : Launch} {e : Env} {R : Room} {s : State} {m : MethodId} {args : Array Value} {below : List Frame} {meth : Method} {c : Code} {H : Heap} {locs : List Loc} {cells slots : Nat}
variable {T : State}
theorem vx_callVN (X : Stand p l e R s m args below meth c T locs cells slots) (hexec : p.tables.exec = Jvm.exec) {own C : String} {index : Nat} {host : String} {y : MethodName} {bytes : ByteArray} {maxL : Nat} {ret : Option FieldType}
    (hown : s.vm.findClass own = some m.cls) (hlink : (Cond.methodLinkNest own index y host).before args s = true) (hinst : (Cond.instanceMethod y).before args s = true) (hsel : (Cond.selects C y y).before args s = true)
    (hcode : (Cond.code y bytes maxL ret).before args s = true) (hy : y.cls ≠ "java/lang/invoke/MethodHandle" ∧ y.cls ≠ "java/lang/invoke/VarHandle")
    {W : Nat} {Pre : Pt → Array Value → Prop} {Post : Pt → Array Value → Option Value → Pt → Prop} {PostX : Pt → Array Value → Addr → Pt → Prop} (hK : vx_Back l R p e below s args y 3 W Pre Post PostX)
    {b : Addr} {cellB : Cell} (hcell : T.heap[b]? = some cellB) (hobj : cellB.vm.isStatics = false) (hcls : s.vm.findClass C = some cellB.cls)
    {g : JFrame} (hg : g.method = m) (hsize : g.locals.size = c.maxLocals) {argsL rest : List Value} (hlen : ∀ sig, parseMethodDescriptor y.desc = some sig → argsL.length = sig.parameters.length)
    (hstack : g.stack = argsL.reverse ++ .ref b :: rest) (hW : 2 * g.monitorRoom + (rest.map fun v => v.category).sum ≤ W) (hdg : decode c.code g.pc = .ok (.invokevirtual index, 3))
    (hpre : ∀ vm₁, s.WarmedH vm₁ → Pre ⟨T.setVm vm₁, locs, cells, slots⟩ (Value.ref b :: argsL).toArray) :
    (∃ (v : Option Value) (vm₁ : Vm) (B : Pt), s.WarmedH vm₁ ∧ Stand p l e R s m args below meth c B.U B.locs B.cells B.slots ∧ Post ⟨T.setVm vm₁, locs, cells, slots⟩ (Value.ref b :: argsL).toArray v B ∧
      ∀ target, Steps p.tables e below (B.U.setTop { g with pc := g.pc + 3, stack := v.toList ++ rest }) target → Steps p.tables e below (T.setTop g) target) ∨
    (∃ (q : Addr) (vm₁ : Vm) (B : Pt), s.WarmedH vm₁ ∧ Stand p l e R s m args below meth c B.U B.locs B.cells B.slots ∧ PostX ⟨T.setVm vm₁, locs, cells, slots⟩ (Value.ref b :: argsL).toArray q B ∧
      Steps p.tables e below (T.setTop g) ((B.U.setTop { g with stack := rest }).pushFrame (.throwing q))) := by
  obtain ⟨mk, methM, hnamed, hmethM, hstM, habM⟩ := Cond.instanceMethod_spec hinst
  obtain ⟨methM', cM, hmethM', -, -, -, -, -, -, hsigM⟩ := Cond.code_spec hnamed hcode
  cases hmethM.symm.trans hmethM'
  obtain ⟨c2, r2, m2, q1, q2, q3, q4, kP, hkP, hkPi⟩ := Cond.selects_spec hsel
  cases hcls.symm.trans q1
  cases (State.methodFound?_of_named hnamed hy).symm.trans q2
  cases hnamed.symm.trans q3
  have hselP : selectMethod e.platform s.vm cellB.cls mk = .method mk := by rw [Launch.admits_selectMethod X.admits]; exact q4
  obtain ⟨vm₁, X₁, hstep₁⟩ := X.invokevirtualNest hexec hown hlink hnamed hmethM hstM hkP hkPi hy (a := b) (cell := cellB) hcell
    (fun z h => by rw [h] at hobj; cases hobj) hselP hmethM habM hkP hkPi (g := g) hg (argsL := argsL) (rest := rest) (hlen _ hsigM) hstack hdg
  rcases hK m meth c ⟨T.setVm vm₁, locs, cells, slots⟩ { g with stack := rest } (.invokevirtual index) mk (Value.ref b :: argsL).toArray X₁ hg hsize hdg hW (X₁.named hnamed) (hpre vm₁ X₁.warmed) with ⟨v, B, X', hpost, hsteps⟩ | ⟨q, B, X', hpost, hsteps⟩
  · exact Or.inl ⟨v, vm₁, B, X₁.warmed, X', hpost, fun target h => hstep₁ _ fun acts => by rw [doInvoke_state]; exact hsteps.trans h⟩
  · exact Or.inr ⟨q, vm₁, B, X₁.warmed, X', hpost, hstep₁ _ fun acts => by rw [doInvoke_state]; exact hsteps⟩
theorem vx_callSN (X : Stand p l e R s m args below meth c T locs cells slots) (hexec : p.tables.exec = Jvm.exec) {own : String} {index : Nat} {host : String} {y : MethodName} {bytes : ByteArray} {maxL : Nat} {ret : Option FieldType}
    (hown : s.vm.findClass own = some m.cls) (hlink : (Cond.methodLinkNest own index y host).before args s = true) (hstat : (Cond.static y).before args s = true) (hinit : (Cond.initialized y.cls).before args s = true)
    (hcode : (Cond.code y bytes maxL ret).before args s = true) (hy : y.cls ≠ "java/lang/invoke/MethodHandle" ∧ y.cls ≠ "java/lang/invoke/VarHandle")
    {W : Nat} {Pre : Pt → Array Value → Prop} {Post : Pt → Array Value → Option Value → Pt → Prop} {PostX : Pt → Array Value → Addr → Pt → Prop} (hK : vx_Back l R p e below s args y 3 W Pre Post PostX)
    {g : JFrame} (hg : g.method = m) (hsize : g.locals.size = c.maxLocals) {argsL rest : List Value} (hlen : ∀ sig, parseMethodDescriptor y.desc = some sig → argsL.length = sig.parameters.length)
    (hstack : g.stack = argsL.reverse ++ rest) (hW : 2 * g.monitorRoom + (rest.map fun v => v.category).sum ≤ W) (hdg : decode c.code g.pc = .ok (.invokestatic index, 3))
    (hpre : ∀ vm₁, s.WarmedH vm₁ → Pre ⟨T.setVm vm₁, locs, cells, slots⟩ argsL.toArray) :
    (∃ (v : Option Value) (vm₁ : Vm) (B : Pt), s.WarmedH vm₁ ∧ Stand p l e R s m args below meth c B.U B.locs B.cells B.slots ∧ Post ⟨T.setVm vm₁, locs, cells, slots⟩ argsL.toArray v B ∧
      ∀ target, Steps p.tables e below (B.U.setTop { g with pc := g.pc + 3, stack := v.toList ++ rest }) target → Steps p.tables e below (T.setTop g) target) ∨
    (∃ (q : Addr) (vm₁ : Vm) (B : Pt), s.WarmedH vm₁ ∧ Stand p l e R s m args below meth c B.U B.locs B.cells B.slots ∧ PostX ⟨T.setVm vm₁, locs, cells, slots⟩ argsL.toArray q B ∧
      Steps p.tables e below (T.setTop g) ((B.U.setTop { g with stack := rest }).pushFrame (.throwing q))) := by
  obtain ⟨mk, hnamed⟩ := Cond.code_named hcode
  obtain ⟨methM, cM, hmethM, -, -, -, -, -, -, hsigM⟩ := Cond.code_spec hnamed hcode
  have hstatic : methM.isStatic = true := Cond.static_spec hnamed hmethM hstat
  obtain ⟨kP, hkP, -⟩ := className_of_methodNamed hnamed
  have hinitP : kP.init = .initialized := Cond.initialized_spec (findClass_of_methodNamed hnamed) hkP hinit
  obtain ⟨vm₁, X₁, hstep₁⟩ := X.invokestaticNest hexec hown hlink hnamed hmethM hstatic hkP hinitP hy (g := g) hg (argsL := argsL) (rest := rest) (hlen _ hsigM) hstack hdg
  rcases hK m meth c ⟨T.setVm vm₁, locs, cells, slots⟩ { g with stack := rest } (.invokestatic index) mk argsL.toArray X₁ hg hsize hdg hW (X₁.named hnamed) (hpre vm₁ X₁.warmed) with ⟨v, B, X', hpost, hsteps⟩ | ⟨q, B, X', hpost, hsteps⟩
  · exact Or.inl ⟨v, vm₁, B, X₁.warmed, X', hpost, fun target h => hstep₁ _ fun acts => by rw [doInvoke_state]; exact hsteps.trans h⟩
  · exact Or.inr ⟨q, vm₁, B, X₁.warmed, X', hpost, hstep₁ _ fun acts => by rw [doInvoke_state]; exact hsteps⟩
theorem vx_runVN {y : MethodName} {bytes cc : ByteArray} {maxL nL mc ms n index : Nat} {ret : Option FieldType} {ws : List Cond} {rm : Room} {Pc : Array Value → State → Prop} {Qc : Array Value → State → Outcome → State → Prop} {XC : String → State → State → Prop} {free : Addr → Prop} {Ts : List Cond} {own C host : String} {b : Addr} {As rest : List Value} {g : JFrame}
    (S : CallFix p m c cc nL s args Ts own) (hM : vx_Met l y ws rm Pc Qc XC mc ms free) (cw : va_CN R s args own index y host bytes maxL ret ws rm mc ms n ∧ (Cond.instanceMethod y).before args s = true ∧ (Cond.selects C y y).before args s = true) (hp : PreV s H C b Pc As)
    (hg : g.method = m) (hn : As.length = n) (hsize : g.locals.size = nL) (hstack : g.stack = As.reverse ++ .ref b :: rest) (hW : 2 * g.monitorRoom + (rest.map fun v => v.category).sum ≤ 8) (hdg : decode cc g.pc = .ok (.invokevirtual index, 3)) (hf : cells + mc ≤ R.cells ∧ slots + ms ≤ R.slots) :
    vx_Run p l e R s m args below meth c H locs cells slots mc ms g rest (Qc (Value.ref b :: As).toArray) XC free := by
  obtain ⟨⟨⟨hrc, hrs, hfr, hlo, hws, hcw⟩, hcode, hini, hy, hlen, hl⟩, hx1, hx2⟩ := cw
  have hK : vx_Back l R p e below s args y 3 8 (PreOf R mc ms Pc) (PostOf Qc mc ms free) (vx_Post XC mc ms free) := vx_back (bytes := bytes) (maxL := maxL) (ret := ret) hM hp.1 hrc hrs hfr hlo hws hcw (fun a' U hW => word_at hW (Or.inl (by first | rfl | simp [Cond.onTables, Cond.keeps, Cond.steady])) hini)
  obtain ⟨hx, hb, hml, ho, -⟩ := S
  obtain ⟨-, ⟨cellB, hcB, hoB, hclB⟩, hPc⟩ := hp
  intro T hT X
  rcases vx_callVN X hx (C := C) (bytes := bytes) (maxL := maxL) (ret := ret) ho hl hx1 hx2 hcode hy hK (by rw [hT]; exact hcB) hoB hclB hg (hsize.trans hml.symm) (argsL := As) (rest := rest) (fun sig h => hn.trans (hlen sig h)) hstack hW (by rw [hb]; exact hdg)
    (fun vm₁ hW₁ => ⟨hf.1, hf.2, hPc (T.setVm vm₁) hT hW₁⟩) with ⟨v, vm₁, ⟨U', l2, c2, s2⟩, hW₁, X', ⟨g', mk, t, L, e1, e2, hq, h1, hL, h2, h3⟩, st⟩ | ⟨q, vm₁, ⟨U', l2, c2, s2⟩, hW₁, X', ⟨g', mk, t, L, E, ce, e1, e2, hq, hce, hcv, hcl, h1, hL, h2, h3⟩, st⟩
  · dsimp only [Pt.U, Pt.locs, Pt.cells, Pt.slots] at X' e1 e2 h1 h2 h3 st
    subst h1; subst h2; subst h3
    exact Or.inl ⟨v, (T.setVm vm₁).calling g' mk (Value.ref b :: As).toArray, t, U', L, hT, X', hL, e1, e2, hq, st⟩
  · dsimp only [Pt.U, Pt.locs, Pt.cells, Pt.slots] at X' e1 e2 h1 h2 h3 st hcl
    subst h1; subst h2; subst h3
    exact Or.inr ⟨q, (T.setVm vm₁).calling g' mk (Value.ref b :: As).toArray, t, U', L, E, ce, hT, X', hL, e1, e2, hq, hce, hcv, vx_cls hW₁ hcl, st⟩
theorem vx_runSN {y : MethodName} {bytes cc : ByteArray} {maxL nL mc ms n index : Nat} {ret : Option FieldType} {ws : List Cond} {rm : Room} {Pc : Array Value → State → Prop} {Qc : Array Value → State → Outcome → State → Prop} {XC : String → State → State → Prop} {free : Addr → Prop} {Ts : List Cond} {own host : String} {As rest : List Value} {g : JFrame}
    (S : CallFix p m c cc nL s args Ts own) (hM : vx_Met l y ws rm Pc Qc XC mc ms free) (cw : va_CN R s args own index y host bytes maxL ret ws rm mc ms n ∧ (Cond.static y).before args s = true ∧ True) (hp : PreS s H Pc As)
    (hg : g.method = m) (hn : As.length = n) (hsize : g.locals.size = nL) (hstack : g.stack = As.reverse ++ rest) (hW : 2 * g.monitorRoom + (rest.map fun v => v.category).sum ≤ 8) (hdg : decode cc g.pc = .ok (.invokestatic index, 3)) (hf : cells + mc ≤ R.cells ∧ slots + ms ≤ R.slots) :
    vx_Run p l e R s m args below meth c H locs cells slots mc ms g rest (Qc As.toArray) XC free := by
  obtain ⟨⟨⟨hrc, hrs, hfr, hlo, hws, hcw⟩, hcode, hini, hy, hlen, hl⟩, hx1, hx2⟩ := cw
  have hK : vx_Back l R p e below s args y 3 8 (PreOf R mc ms Pc) (PostOf Qc mc ms free) (vx_Post XC mc ms free) := vx_back (bytes := bytes) (maxL := maxL) (ret := ret) hM hp.1 hrc hrs hfr hlo hws hcw (fun a' U hW => word_at hW (Or.inl (by first | rfl | simp [Cond.onTables, Cond.keeps, Cond.steady])) hini)
  obtain ⟨hx, hb, hml, ho, -⟩ := S
  have hPc := hp.2
  intro T hT X
  rcases vx_callSN X hx (bytes := bytes) (maxL := maxL) (ret := ret) ho hl hx1 hini hcode hy hK hg (hsize.trans hml.symm) (argsL := As) (rest := rest) (fun sig h => hn.trans (hlen sig h)) hstack hW (by rw [hb]; exact hdg)
    (fun vm₁ hW₁ => ⟨hf.1, hf.2, hPc (T.setVm vm₁) hT hW₁⟩) with ⟨v, vm₁, ⟨U', l2, c2, s2⟩, hW₁, X', ⟨g', mk, t, L, e1, e2, hq, h1, hL, h2, h3⟩, st⟩ | ⟨q, vm₁, ⟨U', l2, c2, s2⟩, hW₁, X', ⟨g', mk, t, L, E, ce, e1, e2, hq, hce, hcv, hcl, h1, hL, h2, h3⟩, st⟩
  · dsimp only [Pt.U, Pt.locs, Pt.cells, Pt.slots] at X' e1 e2 h1 h2 h3 st
    subst h1; subst h2; subst h3
    exact Or.inl ⟨v, (T.setVm vm₁).calling g' mk As.toArray, t, U', L, hT, X', hL, e1, e2, hq, st⟩
  · dsimp only [Pt.U, Pt.locs, Pt.cells, Pt.slots] at X' e1 e2 h1 h2 h3 st hcl
    subst h1; subst h2; subst h3
    exact Or.inr ⟨q, (T.setVm vm₁).calling g' mk As.toArray, t, U', L, E, ce, hT, X', hL, e1, e2, hq, hce, hcv, vx_cls hW₁ hcl, st⟩
end
/-! ===== END ===== -/
end
section
/-! ===== the layer G: one memory of numbered cells, contracts that tell the answer and the memory behind it ===== -/
/-- a word that rides from a method's start to its callees' -/
def tkRide (w : Cond) : Bool := (match w with | .arrayClass _ => true | .methodLinkNest .. => true | _ => false) || (w.onTables && w.keepsFace)
def tkAll : List Cond := lw_tbl.filter tkRide
theorem tk_ride {s U : State} {args a' : Array Value} {w : Cond} (hW : s.WarmedH U.vm) (hw : tkRide w = true) (h : w.before args s = true) : w.before a' U = true := by
  simp only [tkRide, Bool.or_eq_true, Bool.and_eq_true] at hw
  rcases hw with hw | ⟨h1, h2⟩
  · cases w <;> first | exact word_at hW (Or.inr ⟨_, rfl⟩) h | exact (va_Nw.warmM hW (va_Nw.of rfl h)).use rfl | (exact (Bool.false_ne_true hw).elim)
  · have h3 : w.before args (s.setVm U.vm) = true := Cond.before_shiftedFace (State.Shifted.of_warmed hW) _ h2 h
    exact va_tabs h1 (rfl : (s.setVm U.vm).vm = U.vm) h3
theorem tk_rides {s U : State} {args a' : Array Value} (hW : s.WarmedH U.vm) (h : ∀ w ∈ tkAll, w.before args s = true) : ∀ w ∈ tkAll, w.before a' U = true :=
  fun w hw => tk_ride hW (List.mem_filter.mp hw).2 (h w hw)
theorem tk_in {w : Cond} (h1 : w ∈ lw_tbl) (h2 : tkRide w = true) : w ∈ tkAll := List.mem_filter.mpr ⟨h1, h2⟩
theorem tk_at {w : Cond} (i : Nat) (h1 : lw_tbl[i]? = some w) (h2 : tkRide w = true) : w ∈ tkAll := tk_in (List.mem_of_getElem? h1) h2
/-! memory: its size, the shape of each cell (kind, length), the references in it; ints and longs stand apart -/
abbrev tkM : Type := Nat × (Nat → Nat × Nat) × (Nat → Nat → Option Nat)
abbrev tkI : Type := Nat → Nat → Int32
abbrev tkL : Type := Nat → Nat → Int64
def tk2 {α : Type} (f : Nat → Nat → α) (a i : Nat) (x : α) : Nat → Nat → α := fun b j => if b = a ∧ j = i then x else f b j
def tk1 {α : Type} (f : Nat → α) (a : Nat) (x : α) : Nat → α := fun b => if b = a then x else f b
def tkTy (k : Nat) : Nat → FieldType := match k with | 0 => tyX0 | 1 => tyX1 | 2 => tyX2 | 3 => tyX3 | 4 => tyX4 | 5 => tyX5 | _ => tyX6
def tkVal (t : FieldType) (x : Int32) (y : Int64) (r : Option Nat) : Value := match t with
  | .long => .long y
  | .object _ => va_rf r
  | .array _ => va_rf r
  | _ => .int x
def tkObj (D : va_G) (H : Heap) (a k : Nat) (f : Nat → Int32) (g : Nat → Int64) (r : Nat → Option Nat) : Prop :=
  ∃ q : vw_C, vwCl[k]? = some q ∧ t_OB a (D.1 k) q.2.2 (D.2 k) H (fun j => tkVal (tkTy k j) (f j) (g j) (r j))
def tkCell (D : va_G) (H : Heap) (a : Nat) (sh : Nat × Nat) (f : Nat → Int32) (g : Nat → Int64) (r : Nat → Option Nat) : Prop :=
  (sh.1 < 7 → tkObj D H a sh.1 f g r) ∧
  (sh.1 = 10 → H[a]? = some (arrV (D.1 10) sh.2 (fun j => .int (f j)))) ∧
  (sh.1 = 11 → H[a]? = some (arrV (D.1 11) sh.2 (fun j => .long (g j)))) ∧
  (sh.1 = 12 → H[a]? = some (arrV (D.1 12) sh.2 (fun j => .int (f j))) ∧ ∀ j, j < sh.2 → fits .boolean (.int (f j)) = true) ∧
  (sh.1 = 13 → H[a]? = some (arrV (D.1 13) sh.2 (fun j => .double (g j).toUInt64))) ∧
  (sh.1 = 14 → H[a]? = some (arrV (D.1 14) sh.2 (fun j => va_rf (r j))))
/-- 99: a cell of which nothing is known -/
def tkRel (D : va_G) (base : Nat) (σ : tkM) (I : tkI) (L : tkL) (H : Heap) : Prop :=
  H.size = σ.1 ∧ base ≤ σ.1 ∧ (∀ a, (a < base ∨ σ.1 ≤ a) → (σ.2.1 a).1 = 99) ∧ ∀ a, base ≤ a → a < σ.1 → tkCell D H a (σ.2.1 a) (I a) (L a) (σ.2.2 a)
theorem tkCell.kept {D : va_G} {H H1 : Heap} {a : Nat} {sh : Nat × Nat} {f : Nat → Int32} {g : Nat → Int64} {r : Nat → Option Nat} (h : tkCell D H a sh f g r) (hq : H1[a]? = H[a]?) : tkCell D H1 a sh f g r := by
  obtain ⟨h1, h2, h3, h4, h5, h6⟩ := h
  refine ⟨fun q => ?_, fun q => ?_, fun q => ?_, fun q => ?_, fun q => ?_, fun q => ?_⟩
  · obtain ⟨c, c1, c2⟩ := h1 q
    exact ⟨c, c1, c2.kept hq⟩
  · rw [hq]; exact h2 q
  · rw [hq]; exact h3 q
  · rw [hq]; exact h4 q
  · rw [hq]; exact h5 q
  · rw [hq]; exact h6 q
theorem tkCell.hole (D : va_G) (H : Heap) (a n : Nat) (f : Nat → Int32) (g : Nat → Int64) (r : Nat → Option Nat) : tkCell D H a (99, n) f g r :=
  ⟨fun q => absurd (show 99 < 7 from q) (by decide), fun q => absurd (show 99 = 10 from q) (by decide), fun q => absurd (show 99 = 11 from q) (by decide), fun q => absurd (show 99 = 12 from q) (by decide), fun q => absurd (show 99 = 13 from q) (by decide), fun q => absurd (show 99 = 14 from q) (by decide)⟩
theorem tkRel.at {D : va_G} {base : Nat} {σ : tkM} {I : tkI} {L : tkL} {H : Heap} (h : tkRel D base σ I L H) {a k n : Nat} (hs : σ.2.1 a = (k, n)) (hk : k ≠ 99) :
    base ≤ a ∧ a < σ.1 ∧ a < H.size ∧ tkCell D H a (k, n) (I a) (L a) (σ.2.2 a) := by
  obtain ⟨h1, h2, h3, h4⟩ := h
  have hb : base ≤ a := by
    rcases Nat.lt_or_ge a base with q | q
    · have := h3 a (Or.inl q); rw [hs] at this; exact absurd this hk
    · exact q
  have hl : a < σ.1 := by
    rcases Nat.lt_or_ge a σ.1 with q | q
    · exact q
    · have := h3 a (Or.inr q); rw [hs] at this; exact absurd this hk
  exact ⟨hb, hl, by rw [h1]; exact hl, by rw [← hs]; exact h4 a hb hl⟩
/-- one cell has changed -/
theorem tkRel.put {D : va_G} {base : Nat} {σ σ1 : tkM} {I I1 : tkI} {L L1 : tkL} {H H1 : Heap} (h : tkRel D base σ I L H) {a : Nat} (ha : base ≤ a) (hz : H1.size = H.size) (oq : ∀ q, q ≠ a → H1[q]? = H[q]?)
    (hn : σ1.1 = σ.1) (hs : σ1.2.1 = σ.2.1) (hI : ∀ b, b ≠ a → I1 b = I b) (hL : ∀ b, b ≠ a → L1 b = L b) (hR : ∀ b, b ≠ a → σ1.2.2 b = σ.2.2 b)
    (hc : a < σ.1 → tkCell D H1 a (σ.2.1 a) (I1 a) (L1 a) (σ1.2.2 a)) : tkRel D base σ1 I1 L1 H1 := by
  obtain ⟨h1, h2, h3, h4⟩ := h
  refine ⟨by rw [hz, h1, hn], by rw [hn]; exact h2, fun b hb => by rw [hs]; exact h3 b (by rw [hn] at hb; exact hb), fun b hb hl => ?_⟩
  rw [hn] at hl
  rw [hs]
  by_cases e : b = a
  · subst e; exact hc hl
  · rw [hI b e, hL b e, hR b e]
    exact (h4 b hb hl).kept (oq b e)
/-- a new cell -/
theorem tkRel.push {D : va_G} {base : Nat} {σ : tkM} {I I1 : tkI} {L L1 : tkL} {H H1 : Heap} (h : tkRel D base σ I L H) {sh : Nat × Nat} {r : Nat → Option Nat} (hz : H1.size = H.size + 1) (oq : ∀ q, q < H.size → H1[q]? = H[q]?)
    (hI : ∀ b, b ≠ σ.1 → I1 b = I b) (hL : ∀ b, b ≠ σ.1 → L1 b = L b) (hc : tkCell D H1 σ.1 sh (I1 σ.1) (L1 σ.1) r) : tkRel D base (σ.1 + 1, tk1 σ.2.1 σ.1 sh, tk1 σ.2.2 σ.1 r) I1 L1 H1 := by
  obtain ⟨h1, h2, h3, h4⟩ := h
  refine ⟨by rw [hz, h1], by omega, fun b hb => ?_, fun b hb hl => ?_⟩
  · have hb' : b < base ∨ σ.1 + 1 ≤ b := hb
    have e : b ≠ σ.1 := by omega
    show (tk1 σ.2.1 σ.1 sh b).1 = 99
    rw [tk1, if_neg e]
    exact h3 b (by omega)
  · have hl' : b < σ.1 + 1 := hl
    show tkCell D H1 b (tk1 σ.2.1 σ.1 sh b) (I1 b) (L1 b) (tk1 σ.2.2 σ.1 r b)
    by_cases e : b = σ.1
    · subst e
      rw [tk1, if_pos rfl, tk1, if_pos rfl]
      exact hc
    · rw [tk1, if_neg e, tk1, if_neg e, hI b e, hL b e]
      exact (h4 b hb (by omega)).kept (oq b (by omega))
theorem tkRel.grow {D : va_G} {base n : Nat} {σ : tkM} {I : tkI} {L : tkL} {H H1 : Heap} (h : tkRel D base σ I L H) (hz : H1.size = n) (hn : σ.1 ≤ n) (oq : ∀ q, q < H.size → H1[q]? = H[q]?) : tkRel D base (n, σ.2) I L H1 := by
  obtain ⟨h1, h2, h3, h4⟩ := h
  refine ⟨hz, Nat.le_trans h2 hn, fun b hb => h3 b (hb.elim Or.inl (fun q => Or.inr (Nat.le_trans hn q))), fun b hb hl => ?_⟩
  rcases Nat.lt_or_ge b σ.1 with q | q
  · exact (h4 b hb q).kept (oq b (by omega))
  · have e : (σ.2.1 b) = (99, (σ.2.1 b).2) := Prod.ext (h3 b (Or.inr q)) rfl
    show tkCell D H1 b (σ.2.1 b) _ _ _
    rw [e]
    exact tkCell.hole _ _ _ _ _ _ _
/-! locals by their places -/
def tkGet : List (Option Value) → Nat → Option Value
  | [], _ => none
  | o :: _, 0 => o
  | _ :: r, n + 1 => tkGet r n
def tkPut (v : Option Value) : List (Option Value) → Nat → List (Option Value)
  | [], _ => []
  | _ :: r, 0 => v :: r
  | o :: r, n + 1 => o :: tkPut v r n
def tkWide : Option Value → Bool
  | some (.long _) => true
  | some (.double _) => true
  | _ => false
def tkKill (lv : List (Option Value)) (i : Nat) : List (Option Value) := match i with
  | 0 => lv
  | j + 1 => match tkWide (tkGet lv j) with
    | true => tkPut none lv j
    | false => lv
def tkSt1 (lv : List (Option Value)) (i : Nat) (v : Value) : List (Option Value) := tkPut (some v) (tkKill lv i) i
def tkSt2 (lv : List (Option Value)) (i : Nat) (v : Value) : List (Option Value) := tkPut none (tkPut (some v) (tkKill lv i) i) (i + 1)
theorem tkGet_put (v : Option Value) : ∀ (lv : List (Option Value)) (i j : Nat) (w : Value), tkGet (tkPut v lv i) j = some w → (j = i ∧ v = some w) ∨ (j ≠ i ∧ tkGet lv j = some w)
  | [], i, j, w, h => by simp [tkPut, tkGet] at h
  | o :: r, 0, 0, w, h => Or.inl ⟨rfl, h⟩
  | o :: r, 0, j + 1, w, h => Or.inr ⟨by omega, h⟩
  | o :: r, i + 1, 0, w, h => Or.inr ⟨by omega, h⟩
  | o :: r, i + 1, j + 1, w, h => by
    rcases tkGet_put v r i j w h with ⟨e, q⟩ | ⟨e, q⟩
    · exact Or.inl ⟨by omega, q⟩
    · exact Or.inr ⟨by omega, q⟩
theorem tkWide_cat (v : Value) : (tkWide (some v) = true ↔ v.category = 2) := by
  cases v <;> simp [tkWide, Value.category]
theorem tkGet_kill {lv : List (Option Value)} {i j : Nat} {w : Value} (h : tkGet (tkKill lv i) j = some w) : tkGet lv j = some w ∧ ¬ (j + 1 = i ∧ w.category = 2) := by
  cases i with
  | zero => exact ⟨h, fun q => by omega⟩
  | succ k =>
    simp only [tkKill] at h
    cases hw : tkWide (tkGet lv k) with
    | true =>
      rw [hw] at h
      rcases tkGet_put none lv k j w h with ⟨e, q⟩ | ⟨e, q⟩
      · cases q
      · exact ⟨q, fun z => e (by omega)⟩
    | false =>
      rw [hw] at h
      refine ⟨h, fun z => ?_⟩
      have e : j = k := by omega
      subst e
      have h5 : tkGet lv j = some w := h
      rw [h5, (tkWide_cat w).mpr z.2] at hw
      cases hw
def tkAl (lv : List (Option Value)) : List (Nat × Value) := (List.range lv.length).filterMap fun j => (tkGet lv j).map fun v => (j, v)
theorem tkGet_lt : ∀ {lv : List (Option Value)} {j : Nat} {v : Value}, tkGet lv j = some v → j < lv.length
  | [], j, v, h => by simp [tkGet] at h
  | o :: r, 0, v, _ => Nat.succ_pos _
  | o :: r, j + 1, v, h => Nat.succ_lt_succ (tkGet_lt (lv := r) h)
theorem tkAl_mem {lv : List (Option Value)} {j : Nat} {v : Value} : (j, v) ∈ tkAl lv ↔ tkGet lv j = some v := by
  simp only [tkAl, List.mem_filterMap, List.mem_range, Option.map_eq_some_iff, Prod.mk.injEq]
  constructor
  · rintro ⟨k, -, w, hw, rfl, rfl⟩
    exact hw
  · intro h
    exact ⟨j, tkGet_lt h, v, h, rfl, rfl⟩
def tkLv (ls : Array Slot) (nL : Nat) (lv : List (Option Value)) : Prop := lv_has ls nL (tkAl lv)
theorem tkLv.get {ls : Array Slot} {nL : Nat} {lv : List (Option Value)} (h : tkLv ls nL lv) {i : Nat} {v : Value} (hv : tkGet lv i = some v) : ls[i]? = some (.val v) := h.2.2 (i, v) (tkAl_mem.mpr hv)
theorem tkLv.of {ls : Array Slot} {nL : Nat} {lv : List (Option Value)} {l : List (Nat × Value)} (h : lv_has ls nL l) (hv : ∀ j v, tkGet lv j = some v → (j, v) ∈ l) : tkLv ls nL lv := ⟨h.1, h.2.1, fun q hq => h.2.2 q (hv q.1 q.2 (tkAl_mem.mp hq))⟩
theorem tkLv.st1 {ls : Array Slot} {nL : Nat} {lv : List (Option Value)} {i : Nat} {v : Value} (h : lv_has ls nL ((i, v) :: (tkAl lv).filter (fun q => !(q.1 == i) && !(q.1 + 1 == i && q.2.category == 2)))) : tkLv ls nL (tkSt1 lv i v) := by
  refine tkLv.of h fun j w hj => ?_
  rcases tkGet_put _ _ _ _ _ hj with ⟨e, q⟩ | ⟨e, q⟩
  · cases q; subst e; exact List.mem_cons_self
  · obtain ⟨q1, q2⟩ := tkGet_kill q
    refine List.mem_cons_of_mem _ (List.mem_filter.mpr ⟨tkAl_mem.mpr q1, ?_⟩)
    simp only [Bool.and_eq_true, Bool.not_eq_true', beq_eq_false_iff_ne, ne_eq, Bool.and_eq_false_iff]
    refine ⟨e, ?_⟩
    by_cases e2 : j + 1 = i
    · exact Or.inr fun z => q2 ⟨e2, z⟩
    · exact Or.inl e2
theorem tkLv.st2 {ls : Array Slot} {nL : Nat} {lv : List (Option Value)} {i : Nat} {v : Value} (h : lv_has ls nL ((i, v) :: (tkAl lv).filter (fun q => !(q.1 == i) && (!(q.1 == i + 1) && !(q.1 + 1 == i && q.2.category == 2))))) : tkLv ls nL (tkSt2 lv i v) := by
  refine tkLv.of h fun j w hj => ?_
  rcases tkGet_put _ _ _ _ _ hj with ⟨e, q⟩ | ⟨e, q⟩
  · cases q
  rcases tkGet_put _ _ _ _ _ q with ⟨e2, q⟩ | ⟨e2, q⟩
  · cases q; subst e2; exact List.mem_cons_self
  · obtain ⟨q1, q2⟩ := tkGet_kill q
    refine List.mem_cons_of_mem _ (List.mem_filter.mpr ⟨tkAl_mem.mpr q1, ?_⟩)
    simp only [Bool.and_eq_true, Bool.not_eq_true', beq_eq_false_iff_ne, ne_eq, Bool.and_eq_false_iff]
    refine ⟨e2, e, ?_⟩
    by_cases e3 : j + 1 = i
    · exact Or.inr fun z => q2 ⟨e3, z⟩
    · exact Or.inl e3
def tkEnt : List Value → List (Option Value)
  | [] => []
  | v :: vs => match tkWide (some v) with
    | true => some v :: none :: tkEnt vs
    | false => some v :: tkEnt vs
theorem tkEnt_mem : ∀ (vs : List Value) (k n j : Nat) (w : Value), tkGet (tkEnt vs ++ List.replicate n none) j = some w → (k + j, w) ∈ lv_args k vs
  | [], k, n, j, w, h => by
    exfalso
    have h1 : tkGet (List.replicate n none) j = some w := h
    clear h
    induction n generalizing j with
    | zero => simp [tkGet] at h1
    | succ n ih =>
      rw [List.replicate_succ] at h1
      cases j with
      | zero => cases h1
      | succ j => exact ih j h1
  | v :: vs, k, n, j, w, h => by
    have hc := tkWide_cat v
    cases hw : tkWide (some v) with
    | true =>
      have c2 : v.category = 2 := hc.mp hw
      simp only [tkEnt, hw] at h
      cases j with
      | zero =>
        cases h
        exact List.mem_cons_self
      | succ j =>
        cases j with
        | zero => cases h
        | succ j =>
          have h2 := tkEnt_mem vs (k + 2) n j w h
          refine List.mem_cons_of_mem _ ?_
          show (k + (j + 1 + 1), w) ∈ lv_args (if v.category = 2 then k + 2 else k + 1) vs
          rw [if_pos c2, show k + (j + 1 + 1) = k + 2 + j by omega]
          exact h2
    | false =>
      have c2 : ¬ v.category = 2 := fun z => by rw [hc.mpr z] at hw; cases hw
      simp only [tkEnt, hw] at h
      cases j with
      | zero =>
        cases h
        exact List.mem_cons_self
      | succ j =>
        have h2 := tkEnt_mem vs (k + 1) n j w h
        refine List.mem_cons_of_mem _ ?_
        show (k + (j + 1), w) ∈ lv_args (if v.category = 2 then k + 2 else k + 1) vs
        rw [if_neg c2, show k + (j + 1) = k + 1 + j by omega]
        exact h2
/-! what the tables say, at any method's start -/
def tkStr : List (Nat × String) := [(34, "capacity is not 1 to 1000000000"), (58, "there are 8 tanks"), (72, "not 0 <= low < high <= capacity"), (81, "there are 10 switches"), (90, "from and to are the same"), (95, "lift is not 0 to 100"), (104, "there are 16 pumps"), (205, "there is no such tank"), (208, "there is no such switch"), (210, "there is no such pump"), (218, "level is not 0 to the capacity"), (221, "leak is not 0 to 1000000"), (223, "rate is not 1 to 1000000"), (225, "the number of ticks is out of its range")]
def tkNc : List (String × String) := ([] : List (String × String))
def tkTys (D : va_G) : List (ClassId × FieldType) := [(D.1 10, .int), (D.1 11, .long), (D.1 12, .boolean), (D.1 14, .object RX1)]
def tkK (D : va_G) (U : State) : Prop := va_K D vwCl (tkTys D) U ∧ va_AO RX1 U ∧ (∀ q ∈ tkStr, ∃ sa, vk_R RX5 q.1 q.2 sa U) ∧ ∀ q ∈ tkNc, va_Nc q.1 q.2 U
theorem tkK.warm {D : va_G} {s U : State} (hW : s.WarmedH U.vm) (h : tkK D s) : tkK D U :=
  ⟨va_K.moved hW.alike h.1, va_AO.moved hW.alike h.2.1, fun q hq => (h.2.2.1 q hq).imp fun _ z => vk_R.warm hW z, fun q hq => va_Nc.moved hW.alike (h.2.2.2 q hq)⟩
def tkE (base : Nat) (U : State) (H : Heap) : Prop := vx_Zq Bundle.tN "UNASSIGNED_STACK" Bundle.steD (fun q => base ≤ q) U H ∧ vx_Zq Bundle.tN "SUPPRESSED_SENTINEL" Bundle.listD (fun q => base ≤ q) U H
theorem tkE.warm {base : Nat} {s U : State} {H : Heap} (hW : s.WarmedH U.vm) (h : tkE base s H) : tkE base U H := ⟨vx_Zq.moved hW.alike h.1, vx_Zq.moved hW.alike h.2⟩
theorem tkE.kept {base : Nat} {s : State} {H H1 : Heap} (h : tkE base s H) (hq : ∀ a : Nat, a < H.size → ¬ base ≤ a → H1[a]? = H[a]?) : tkE base s H1 := ⟨h.1.kept hq, h.2.kept hq⟩
/-! the contract of a method: it answers 'out' (a value, none, or an exception's class) and leaves the memory as told -/
abbrev tkOut : Type := Option Value ⊕ String
def tkRm (d mc ms : Nat) : Room := { frames := d, cells := mc, slots := ms, locals := 37 * d }
def tkPc (base : Nat) (D : va_G) (a : List Value) (σ : tkM) (I : tkI) (L : tkL) : Array Value → State → Prop := fun v U => v = a.toArray ∧ tkK D U ∧ tkE base U U.heap ∧ tkRel D base σ I L U.heap
def tkQc (lo : Bool) (base : Nat) (D : va_G) (out : tkOut) (σ : tkM) (I : tkI) (L : tkL) : Array Value → State → Outcome → State → Prop := fun _ st o t =>
  (∃ v, out = .inl v ∧ o = .returned v) ∧ (∃ n, σ.1 ≤ n ∧ (lo = false → n = σ.1) ∧ tkRel D base (n, σ.2) I L t.heap) ∧ va_F (fun q => base ≤ q) st t
def tkXC (base : Nat) (D : va_G) (out : tkOut) (σ : tkM) (I : tkI) (L : tkL) : String → State → State → Prop := fun E st t =>
  out = .inr E ∧ (∃ n, σ.1 ≤ n ∧ tkRel D base (n, σ.2) I L t.heap) ∧ va_F (fun q => base ≤ q) st t
def tkCon (lo : Bool) (w : Cond) (y : MethodName) (d : Nat) (a : List Value) (σ : tkM) (I : tkI) (L : tkL) (mc ms : Nat) (out : tkOut) (σ' : tkM) (I' : tkI) (L' : tkL) : Prop :=
  ∀ (l : Launch), l.stackTraces = false → ∀ (base : Nat) (D : va_G), vx_Met l y (w :: tkAll) (tkRm d mc ms) (tkPc base D a σ I L) (tkQc lo base D out σ' I' L') (tkXC base D out σ' I' L') mc ms (fun q => base ≤ q)
abbrev tkX : Type := Program × Launch × Env × Room × State × MethodId × Array Value × List Frame × Method × Code × Nat × va_G
def tkG (X : tkX) (Q : State → Prop) (cells slots pc : Nat) (lv : List (Option Value)) (stk : List Value) (σ : tkM) (I : tkI) (L : tkL) : Prop :=
  match X with
  | (p, l, e, R, s, m, args, below, meth, c, base, D) => ∀ (H : Heap) (locs : List Loc) (ls : Array Slot), va_S (fun q => base ≤ q) s.heap H locs → tkRel D base σ I L H → tkLv ls c.maxLocals lv →
    W p l e R s m args below meth c H locs cells slots Q (F0 m pc ls stk)
/-- the same with q thrown over the frame -/
def tkT (X : tkX) (Q : State → Prop) (cells slots pc : Nat) (lv : List (Option Value)) (stk : List Value) (σ : tkM) (I : tkI) (L : tkL) (E : String) : Prop :=
  match X with
  | (p, l, e, R, s, m, args, below, meth, c, base, D) => ∀ (H : Heap) (locs : List Loc) (ls : Array Slot) (q : Addr) (ce : Cell), va_S (fun q => base ≤ q) s.heap H locs → tkRel D base σ I L H → tkLv ls c.maxLocals lv → H[q]? = some ce → ce.vm = .none → s.vm.findClass E = some ce.cls →
    vx_W p l e R s m args below meth c H locs cells slots Q (F0 m pc ls stk) q
def tkC (X : tkX) (cc : ByteArray) (own nm : String) (nL : Nat) (ret : Option FieldType) (hh : List (Nat × Nat × Nat × Nat)) (d MC MS : Nat) : Prop :=
  match X with
  | (p, l, e, R, s, m, args, below, meth, c, base, D) => p.tables.exec = Jvm.exec ∧ c.code = cc ∧ c.maxLocals = nL ∧ s.vm.findClass own = some m.cls ∧ (∀ w ∈ tkAll, w.before args s = true) ∧ tkK D s ∧ tkE base s s.heap ∧ meth.locks = false ∧ meth.sig.returnType = ret ∧ meth.name = nm ∧
    c.exceptionTable.toList = tableOf hh ∧ d ≤ R.frames ∧ 37 * d ≤ R.locals ∧ R.cells = MC ∧ R.slots = MS ∧ l.stackTraces = false
def tkQ (lo : Bool) (X : tkX) (mc ms : Nat) (out : tkOut) (σ' : tkM) (I' : tkI) (L' : tkL) : State → Prop :=
  match X with
  | (p, l, e, R, s, m, args, below, meth, c, base, D) => vx_MQ below (tkQc lo base D out σ' I' L') (tkXC base D out σ' I' L') args s mc ms (fun q => base ≤ q)
theorem tkG.entry {X : tkX} {Q : State → Prop} {p : Program} {l : Launch} {e : Env} {R : Room} {s : State} {m : MethodId} {below : List Frame} {meth : Method} {c : Code} {base : Nat} {D : va_G} {a : List Value} {nL : Nat} {σ : tkM} {I : tkI} {L : tkL}
    (hX : X = (p, l, e, R, s, m, a.toArray, below, meth, c, base, D)) (hml : c.maxLocals = nL) (hn : (lg_sl a).length ≤ nL) (hr : tkRel D base σ I L s.heap)
    (h : tkG X Q 0 0 0 (tkEnt a ++ List.replicate (nL - (lg_sl a).length) none) [] σ I L) : W p l e R s m a.toArray below meth c s.heap [] 0 0 Q (entryFrame m a.toArray nL) := by
  subst hX
  rw [lg_entry_eq]
  refine h s.heap [] _ va_S.rf hr ?_
  rw [hml]
  refine tkLv.of (lv_entry a hn) fun j v hj => ?_
  have := tkEnt_mem a 0 _ j v hj
  rwa [Nat.zero_add] at this
theorem tkCon.of {lo : Bool} {y : MethodName} {cc : ByteArray} {nL d mc ms : Nat} {ret : Option FieldType} {a : List Value} {σ σ' : tkM} {I I' : tkI} {L L' : tkL} {out : tkOut} (hy : plainName y.cls = true) (hn : (lg_sl a).length ≤ nL)
    (body : ∀ X : tkX, tkC X cc y.cls y.name nL ret [] d mc ms → tkG X (tkQ lo X mc ms out σ' I' L') 0 0 0 (tkEnt a ++ List.replicate (nL - (lg_sl a).length) none) [] σ I L) :
    tkCon lo (.code y cc nL ret) y d a σ I L mc ms out σ' I' L' := by
  intro l hl base D
  refine vx_ofW (cc := cc) (maxL := nL) (ret := ret) hy rfl ?_
  intro p e s m args below meth c s₁ B hml ht hv
  obtain ⟨rfl, hK, hE, hR⟩ := hv
  have hts0 := atoms_spec (ws := Cond.code y cc nL ret :: tkAll) B.pre
  have C : tkC (p, l, e, tkRm d mc ms, s, m, a.toArray, below, meth, c, base, D) cc y.cls y.name nL ret [] d mc ms :=
    ⟨B.exec, B.bytes, hml, findClass_of_methodNamed B.named, fun w hw => hts0 w (List.mem_cons_of_mem _ hw), hK, hE, B.notSynchronized, B.returns, (name_of_methodNamed B.named B.method).1, List.eq_nil_iff_forall_not_mem.mpr ht, Nat.le_refl _, Nat.le_refl _, rfl, rfl, hl⟩
  exact tkG.entry rfl hml hn hR (body _ C)
theorem tkCon.ofH {lo : Bool} {y : MethodName} {cc : ByteArray} {nL d mc ms : Nat} {ret : Option FieldType} {hh : List (Nat × Nat × Nat × Nat)} {a : List Value} {σ σ' : tkM} {I I' : tkI} {L L' : tkL} {out : tkOut} (hy : plainName y.cls = true) (hn : (lg_sl a).length ≤ nL)
    (body : ∀ X : tkX, tkC X cc y.cls y.name nL ret hh d mc ms → tkG X (tkQ lo X mc ms out σ' I' L') 0 0 0 (tkEnt a ++ List.replicate (nL - (lg_sl a).length) none) [] σ I L) :
    tkCon lo (.codeWith y cc nL ret hh) y d a σ I L mc ms out σ' I' L' := by
  intro l hl base D
  refine vx_ofWH (cc := cc) (maxL := nL) (ret := ret) (hh := hh) hy rfl ?_
  intro p e s m args below meth c s₁ B hml hv
  obtain ⟨rfl, hK, hE, hR⟩ := hv
  have hts0 := atoms_spec (ws := Cond.codeWith y cc nL ret hh :: tkAll) B.pre
  have C : tkC (p, l, e, tkRm d mc ms, s, m, a.toArray, below, meth, c, base, D) cc y.cls y.name nL ret hh d mc ms :=
    ⟨B.exec, B.bytes, hml, findClass_of_methodNamed B.named, fun w hw => hts0 w (List.mem_cons_of_mem _ hw), hK, hE, B.notSynchronized, B.returns, (name_of_methodNamed B.named B.method).1, vx_table (x := y) B (hts0 _ List.mem_cons_self), Nat.le_refl _, Nat.le_refl _, rfl, rfl, hl⟩
  exact tkG.entry rfl hml hn hR (body _ C)
end
section
section TKR
variable {X : tkX} {Q : State → Prop} {cc : ByteArray} {own nm : String} {nL d MC MS cs ss pc : Nat} {ret : Option FieldType} {hh : List (Nat × Nat × Nat × Nat)} {lv : List (Option Value)} {stk : List Value} {σ : tkM} {I : tkI} {L : tkL}
theorem g_iconst (C : tkC X cc own nm nL ret hh d MC MS) {n : Int} (v : Int32) (hd : decode cc pc = .ok (.iconst n, 1)) (hv : Int32.ofInt n = v) (k : tkG X Q cs ss (pc + 1) lv (.int v :: stk) σ I L) : tkG X Q cs ss pc lv stk σ I L := by
  obtain ⟨p, l, e, R, s, m, args, below, meth, c, base, D⟩ := X
  obtain ⟨hx, hb, hml, hown, hts, hK, hE, hlocks, hr, hnm, hhh, hfr, hlo, hRc, hRs, hst⟩ := C
  intro H locs ls hS hR hl
  exact lv_iconst hx hb hd hv (k H locs ls hS hR hl)
theorem g_bipush (C : tkC X cc own nm nL ret hh d MC MS) {n : Int} (v : Int32) (hd : decode cc pc = .ok (.bipush n, 2)) (hv : (Int8.ofInt n).toInt32 = v) (k : tkG X Q cs ss (pc + 2) lv (.int v :: stk) σ I L) : tkG X Q cs ss pc lv stk σ I L := by
  obtain ⟨p, l, e, R, s, m, args, below, meth, c, base, D⟩ := X
  obtain ⟨hx, hb, hml, hown, hts, hK, hE, hlocks, hr, hnm, hhh, hfr, hlo, hRc, hRs, hst⟩ := C
  intro H locs ls hS hR hl
  exact lv_bipush hx hb hd hv (k H locs ls hS hR hl)
theorem g_sipush (C : tkC X cc own nm nL ret hh d MC MS) {n : Int} (v : Int32) (hd : decode cc pc = .ok (.sipush n, 3)) (hv : (Int16.ofInt n).toInt32 = v) (k : tkG X Q cs ss (pc + 3) lv (.int v :: stk) σ I L) : tkG X Q cs ss pc lv stk σ I L := by
  obtain ⟨p, l, e, R, s, m, args, below, meth, c, base, D⟩ := X
  obtain ⟨hx, hb, hml, hown, hts, hK, hE, hlocks, hr, hnm, hhh, hfr, hlo, hRc, hRs, hst⟩ := C
  intro H locs ls hS hR hl
  exact lv_sipush hx hb hd hv (k H locs ls hS hR hl)
theorem g_lconst (C : tkC X cc own nm nL ret hh d MC MS) {n : Fin 2} (v : Int64) (hd : decode cc pc = .ok (.lconst n, 1)) (hv : Int64.ofNat (n : Nat) = v) (k : tkG X Q cs ss (pc + 1) lv (.long v :: stk) σ I L) : tkG X Q cs ss pc lv stk σ I L := by
  obtain ⟨p, l, e, R, s, m, args, below, meth, c, base, D⟩ := X
  obtain ⟨hx, hb, hml, hown, hts, hK, hE, hlocks, hr, hnm, hhh, hfr, hlo, hRc, hRs, hst⟩ := C
  intro H locs ls hS hR hl
  exact lv_lconst hx hb hd hv (k H locs ls hS hR hl)
theorem g_ldc (C : tkC X cc own nm nL ret hh d MC MS) {i : Nat} (v : Int32) (hd : decode cc pc = .ok (.ldc i, 2)) (hw : Cond.constant own i v ∈ tkAll) (k : tkG X Q cs ss (pc + 2) lv (.int v :: stk) σ I L) : tkG X Q cs ss pc lv stk σ I L := by
  obtain ⟨p, l, e, R, s, m, args, below, meth, c, base, D⟩ := X
  obtain ⟨hx, hb, hml, hown, hts, hK, hE, hlocks, hr, hnm, hhh, hfr, hlo, hRc, hRs, hst⟩ := C
  intro H locs ls hS hR hl
  exact lv_ldc hx hb hown (hts _ hw) hd (k H locs ls hS hR hl)
theorem g_ldc2 (C : tkC X cc own nm nL ret hh d MC MS) {i : Nat} (v : Int64) (hd : decode cc pc = .ok (.ldc2_w i, 3)) (hw : Cond.constantLong own i v ∈ tkAll) (k : tkG X Q cs ss (pc + 3) lv (.long v :: stk) σ I L) : tkG X Q cs ss pc lv stk σ I L := by
  obtain ⟨p, l, e, R, s, m, args, below, meth, c, base, D⟩ := X
  obtain ⟨hx, hb, hml, hown, hts, hK, hE, hlocks, hr, hnm, hhh, hfr, hlo, hRc, hRs, hst⟩ := C
  intro H locs ls hS hR hl
  exact lv_ldc2 hx hb hown (hts _ hw) hd (k H locs ls hS hR hl)
theorem g_iload_n (C : tkC X cc own nm nL ret hh d MC MS) {k0 : Fin 4} {i : Nat} {x : Int32} (hd : decode cc pc = .ok (.iload_n k0, 1)) (hi : (k0 : Nat) = i) (hg : tkGet lv i = some (.int x)) (k : tkG X Q cs ss (pc + 1) lv (.int x :: stk) σ I L) : tkG X Q cs ss pc lv stk σ I L := by
  obtain ⟨p, l, e, R, s, m, args, below, meth, c, base, D⟩ := X
  obtain ⟨hx, hb, hml, hown, hts, hK, hE, hlocks, hr, hnm, hhh, hfr, hlo, hRc, hRs, hst⟩ := C
  intro H locs ls hS hR hl
  exact lv_iload_n hx hb hd hi (hl.get hg) (k H locs ls hS hR hl)
theorem g_iload (C : tkC X cc own nm nL ret hh d MC MS) {i : Nat} {x : Int32} (hd : decode cc pc = .ok (.iload i, 2)) (hg : tkGet lv i = some (.int x)) (k : tkG X Q cs ss (pc + 2) lv (.int x :: stk) σ I L) : tkG X Q cs ss pc lv stk σ I L := by
  obtain ⟨p, l, e, R, s, m, args, below, meth, c, base, D⟩ := X
  obtain ⟨hx, hb, hml, hown, hts, hK, hE, hlocks, hr, hnm, hhh, hfr, hlo, hRc, hRs, hst⟩ := C
  intro H locs ls hS hR hl
  exact lv_iload hx hb hd (hl.get hg) (k H locs ls hS hR hl)
theorem g_lload_n (C : tkC X cc own nm nL ret hh d MC MS) {k0 : Fin 4} {i : Nat} {x : Int64} (hd : decode cc pc = .ok (.lload_n k0, 1)) (hi : (k0 : Nat) = i) (hg : tkGet lv i = some (.long x)) (k : tkG X Q cs ss (pc + 1) lv (.long x :: stk) σ I L) : tkG X Q cs ss pc lv stk σ I L := by
  obtain ⟨p, l, e, R, s, m, args, below, meth, c, base, D⟩ := X
  obtain ⟨hx, hb, hml, hown, hts, hK, hE, hlocks, hr, hnm, hhh, hfr, hlo, hRc, hRs, hst⟩ := C
  intro H locs ls hS hR hl
  exact lv_lload_n hx hb hd hi (hl.get hg) (k H locs ls hS hR hl)
theorem g_lload (C : tkC X cc own nm nL ret hh d MC MS) {i : Nat} {x : Int64} (hd : decode cc pc = .ok (.lload i, 2)) (hg : tkGet lv i = some (.long x)) (k : tkG X Q cs ss (pc + 2) lv (.long x :: stk) σ I L) : tkG X Q cs ss pc lv stk σ I L := by
  obtain ⟨p, l, e, R, s, m, args, below, meth, c, base, D⟩ := X
  obtain ⟨hx, hb, hml, hown, hts, hK, hE, hlocks, hr, hnm, hhh, hfr, hlo, hRc, hRs, hst⟩ := C
  intro H locs ls hS hR hl
  exact lv_lload hx hb hd (hl.get hg) (k H locs ls hS hR hl)
theorem g_aload_n (C : tkC X cc own nm nL ret hh d MC MS) {k0 : Fin 4} {i : Nat} {x : Nat} (hd : decode cc pc = .ok (.aload_n k0, 1)) (hi : (k0 : Nat) = i) (hg : tkGet lv i = some (.ref x)) (k : tkG X Q cs ss (pc + 1) lv (.ref x :: stk) σ I L) : tkG X Q cs ss pc lv stk σ I L := by
  obtain ⟨p, l, e, R, s, m, args, below, meth, c, base, D⟩ := X
  obtain ⟨hx, hb, hml, hown, hts, hK, hE, hlocks, hr, hnm, hhh, hfr, hlo, hRc, hRs, hst⟩ := C
  intro H locs ls hS hR hl
  exact lv_aload_n hx hb hd hi (hl.get hg) (k H locs ls hS hR hl)
theorem g_aload (C : tkC X cc own nm nL ret hh d MC MS) {i : Nat} {x : Nat} (hd : decode cc pc = .ok (.aload i, 2)) (hg : tkGet lv i = some (.ref x)) (k : tkG X Q cs ss (pc + 2) lv (.ref x :: stk) σ I L) : tkG X Q cs ss pc lv stk σ I L := by
  obtain ⟨p, l, e, R, s, m, args, below, meth, c, base, D⟩ := X
  obtain ⟨hx, hb, hml, hown, hts, hK, hE, hlocks, hr, hnm, hhh, hfr, hlo, hRc, hRs, hst⟩ := C
  intro H locs ls hS hR hl
  exact lv_aload hx hb hd (hl.get hg) (k H locs ls hS hR hl)
theorem g_dload_n (C : tkC X cc own nm nL ret hh d MC MS) {k0 : Fin 4} {i : Nat} {x : UInt64} (hd : decode cc pc = .ok (.dload_n k0, 1)) (hi : (k0 : Nat) = i) (hg : tkGet lv i = some (.double x)) (k : tkG X Q cs ss (pc + 1) lv (.double x :: stk) σ I L) : tkG X Q cs ss pc lv stk σ I L := by
  obtain ⟨p, l, e, R, s, m, args, below, meth, c, base, D⟩ := X
  obtain ⟨hx, hb, hml, hown, hts, hK, hE, hlocks, hr, hnm, hhh, hfr, hlo, hRc, hRs, hst⟩ := C
  intro H locs ls hS hR hl
  exact lv_dload_n hx hb hd hi (hl.get hg) (k H locs ls hS hR hl)
theorem g_dload (C : tkC X cc own nm nL ret hh d MC MS) {i : Nat} {x : UInt64} (hd : decode cc pc = .ok (.dload i, 2)) (hg : tkGet lv i = some (.double x)) (k : tkG X Q cs ss (pc + 2) lv (.double x :: stk) σ I L) : tkG X Q cs ss pc lv stk σ I L := by
  obtain ⟨p, l, e, R, s, m, args, below, meth, c, base, D⟩ := X
  obtain ⟨hx, hb, hml, hown, hts, hK, hE, hlocks, hr, hnm, hhh, hfr, hlo, hRc, hRs, hst⟩ := C
  intro H locs ls hS hR hl
  exact lv_dload hx hb hd (hl.get hg) (k H locs ls hS hR hl)
theorem g_istore_n (C : tkC X cc own nm nL ret hh d MC MS) {k0 : Fin 4} {i : Nat} {x : Int32} (hd : decode cc pc = .ok (.istore_n k0, 1)) (hi : (k0 : Nat) = i) (hn : i < nL) (k : tkG X Q cs ss (pc + 1) (tkSt1 lv i (.int x)) stk σ I L) : tkG X Q cs ss pc lv (.int x :: stk) σ I L := by
  obtain ⟨p, l, e, R, s, m, args, below, meth, c, base, D⟩ := X
  obtain ⟨hx, hb, hml, hown, hts, hK, hE, hlocks, hr, hnm, hhh, hfr, hlo, hRc, hRs, hst⟩ := C
  intro H locs ls hS hR hl
  exact lv_istore_n (nL := c.maxLocals) hx hb hd hi hl (by rw [hml]; exact hn) rfl (fun ls' h' => k H locs ls' hS hR (tkLv.st1 h'))
theorem g_istore (C : tkC X cc own nm nL ret hh d MC MS) {i : Nat} {x : Int32} (hd : decode cc pc = .ok (.istore i, 2)) (hn : i < nL) (k : tkG X Q cs ss (pc + 2) (tkSt1 lv i (.int x)) stk σ I L) : tkG X Q cs ss pc lv (.int x :: stk) σ I L := by
  obtain ⟨p, l, e, R, s, m, args, below, meth, c, base, D⟩ := X
  obtain ⟨hx, hb, hml, hown, hts, hK, hE, hlocks, hr, hnm, hhh, hfr, hlo, hRc, hRs, hst⟩ := C
  intro H locs ls hS hR hl
  exact lv_istore (nL := c.maxLocals) hx hb hd hl (by rw [hml]; exact hn) rfl (fun ls' h' => k H locs ls' hS hR (tkLv.st1 h'))
theorem g_lstore_n (C : tkC X cc own nm nL ret hh d MC MS) {k0 : Fin 4} {i : Nat} {x : Int64} (hd : decode cc pc = .ok (.lstore_n k0, 1)) (hi : (k0 : Nat) = i) (hn : i + 1 < nL) (k : tkG X Q cs ss (pc + 1) (tkSt2 lv i (.long x)) stk σ I L) : tkG X Q cs ss pc lv (.long x :: stk) σ I L := by
  obtain ⟨p, l, e, R, s, m, args, below, meth, c, base, D⟩ := X
  obtain ⟨hx, hb, hml, hown, hts, hK, hE, hlocks, hr, hnm, hhh, hfr, hlo, hRc, hRs, hst⟩ := C
  intro H locs ls hS hR hl
  exact lv_lstore_n (nL := c.maxLocals) hx hb hd hi hl (by rw [hml]; exact hn) rfl (fun ls' h' => k H locs ls' hS hR (tkLv.st2 h'))
theorem g_lstore (C : tkC X cc own nm nL ret hh d MC MS) {i : Nat} {x : Int64} (hd : decode cc pc = .ok (.lstore i, 2)) (hn : i + 1 < nL) (k : tkG X Q cs ss (pc + 2) (tkSt2 lv i (.long x)) stk σ I L) : tkG X Q cs ss pc lv (.long x :: stk) σ I L := by
  obtain ⟨p, l, e, R, s, m, args, below, meth, c, base, D⟩ := X
  obtain ⟨hx, hb, hml, hown, hts, hK, hE, hlocks, hr, hnm, hhh, hfr, hlo, hRc, hRs, hst⟩ := C
  intro H locs ls hS hR hl
  exact lv_lstore (nL := c.maxLocals) hx hb hd hl (by rw [hml]; exact hn) rfl (fun ls' h' => k H locs ls' hS hR (tkLv.st2 h'))
theorem g_astore_n (C : tkC X cc own nm nL ret hh d MC MS) {k0 : Fin 4} {i : Nat} {x : Nat} (hd : decode cc pc = .ok (.astore_n k0, 1)) (hi : (k0 : Nat) = i) (hn : i < nL) (k : tkG X Q cs ss (pc + 1) (tkSt1 lv i (.ref x)) stk σ I L) : tkG X Q cs ss pc lv (.ref x :: stk) σ I L := by
  obtain ⟨p, l, e, R, s, m, args, below, meth, c, base, D⟩ := X
  obtain ⟨hx, hb, hml, hown, hts, hK, hE, hlocks, hr, hnm, hhh, hfr, hlo, hRc, hRs, hst⟩ := C
  intro H locs ls hS hR hl
  exact lv_astore_n (nL := c.maxLocals) hx hb hd hi hl (by rw [hml]; exact hn) rfl (fun ls' h' => k H locs ls' hS hR (tkLv.st1 h'))
theorem g_astore (C : tkC X cc own nm nL ret hh d MC MS) {i : Nat} {x : Nat} (hd : decode cc pc = .ok (.astore i, 2)) (hn : i < nL) (k : tkG X Q cs ss (pc + 2) (tkSt1 lv i (.ref x)) stk σ I L) : tkG X Q cs ss pc lv (.ref x :: stk) σ I L := by
  obtain ⟨p, l, e, R, s, m, args, below, meth, c, base, D⟩ := X
  obtain ⟨hx, hb, hml, hown, hts, hK, hE, hlocks, hr, hnm, hhh, hfr, hlo, hRc, hRs, hst⟩ := C
  intro H locs ls hS hR hl
  exact lv_astore (nL := c.maxLocals) hx hb hd hl (by rw [hml]; exact hn) rfl (fun ls' h' => k H locs ls' hS hR (tkLv.st1 h'))
theorem g_dstore_n (C : tkC X cc own nm nL ret hh d MC MS) {k0 : Fin 4} {i : Nat} {x : UInt64} (hd : decode cc pc = .ok (.dstore_n k0, 1)) (hi : (k0 : Nat) = i) (hn : i + 1 < nL) (k : tkG X Q cs ss (pc + 1) (tkSt2 lv i (.double x)) stk σ I L) : tkG X Q cs ss pc lv (.double x :: stk) σ I L := by
  obtain ⟨p, l, e, R, s, m, args, below, meth, c, base, D⟩ := X
  obtain ⟨hx, hb, hml, hown, hts, hK, hE, hlocks, hr, hnm, hhh, hfr, hlo, hRc, hRs, hst⟩ := C
  intro H locs ls hS hR hl
  exact lv_dstore_n (nL := c.maxLocals) hx hb hd hi hl (by rw [hml]; exact hn) rfl (fun ls' h' => k H locs ls' hS hR (tkLv.st2 h'))
theorem g_dstore (C : tkC X cc own nm nL ret hh d MC MS) {i : Nat} {x : UInt64} (hd : decode cc pc = .ok (.dstore i, 2)) (hn : i + 1 < nL) (k : tkG X Q cs ss (pc + 2) (tkSt2 lv i (.double x)) stk σ I L) : tkG X Q cs ss pc lv (.double x :: stk) σ I L := by
  obtain ⟨p, l, e, R, s, m, args, below, meth, c, base, D⟩ := X
  obtain ⟨hx, hb, hml, hown, hts, hK, hE, hlocks, hr, hnm, hhh, hfr, hlo, hRc, hRs, hst⟩ := C
  intro H locs ls hS hR hl
  exact lv_dstore (nL := c.maxLocals) hx hb hd hl (by rw [hml]; exact hn) rfl (fun ls' h' => k H locs ls' hS hR (tkLv.st2 h'))
theorem g_iinc (C : tkC X cc own nm nL ret hh d MC MS) {i : Nat} {n : Int} {x : Int32} (v : Int32) (hd : decode cc pc = .ok (.iinc i n, 3)) (hg : tkGet lv i = some (.int x)) (hv : x + Int32.ofInt n = v) (hn : i < nL) (k : tkG X Q cs ss (pc + 3) (tkSt1 lv i (.int v)) stk σ I L) : tkG X Q cs ss pc lv stk σ I L := by
  obtain ⟨p, l, e, R, s, m, args, below, meth, c, base, D⟩ := X
  obtain ⟨hx, hb, hml, hown, hts, hK, hE, hlocks, hr, hnm, hhh, hfr, hlo, hRc, hRs, hst⟩ := C
  intro H locs ls hS hR hl
  obtain ⟨k1, hk1⟩ := List.getElem?_of_mem (tkAl_mem.mpr hg)
  exact lv_iinc (nL := c.maxLocals) hx hb hd hl hk1 hv (by rw [hml]; exact hn) rfl (fun ls' h' => k H locs ls' hS hR (tkLv.st1 h'))
theorem g_iadd (C : tkC X cc own nm nL ret hh d MC MS) {x y : Int32} (hd : decode cc pc = .ok (.iadd, 1)) (k : tkG X Q cs ss (pc + 1) lv (.int (x + y) :: stk) σ I L) : tkG X Q cs ss pc lv (.int y :: .int x :: stk) σ I L := by
  obtain ⟨p, l, e, R, s, m, args, below, meth, c, base, D⟩ := X
  obtain ⟨hx, hb, hml, hown, hts, hK, hE, hlocks, hr, hnm, hhh, hfr, hlo, hRc, hRs, hst⟩ := C
  intro H locs ls hS hR hl
  exact lv_iadd hx hb hd (k H locs ls hS hR hl)
theorem g_isub (C : tkC X cc own nm nL ret hh d MC MS) {x y : Int32} (hd : decode cc pc = .ok (.isub, 1)) (k : tkG X Q cs ss (pc + 1) lv (.int (x - y) :: stk) σ I L) : tkG X Q cs ss pc lv (.int y :: .int x :: stk) σ I L := by
  obtain ⟨p, l, e, R, s, m, args, below, meth, c, base, D⟩ := X
  obtain ⟨hx, hb, hml, hown, hts, hK, hE, hlocks, hr, hnm, hhh, hfr, hlo, hRc, hRs, hst⟩ := C
  intro H locs ls hS hR hl
  exact lv_isub hx hb hd (k H locs ls hS hR hl)
theorem g_imul (C : tkC X cc own nm nL ret hh d MC MS) {x y : Int32} (hd : decode cc pc = .ok (.imul, 1)) (k : tkG X Q cs ss (pc + 1) lv (.int (x * y) :: stk) σ I L) : tkG X Q cs ss pc lv (.int y :: .int x :: stk) σ I L := by
  obtain ⟨p, l, e, R, s, m, args, below, meth, c, base, D⟩ := X
  obtain ⟨hx, hb, hml, hown, hts, hK, hE, hlocks, hr, hnm, hhh, hfr, hlo, hRc, hRs, hst⟩ := C
  intro H locs ls hS hR hl
  exact lv_imul hx hb hd (k H locs ls hS hR hl)
theorem g_iand (C : tkC X cc own nm nL ret hh d MC MS) {x y : Int32} (hd : decode cc pc = .ok (.iand, 1)) (k : tkG X Q cs ss (pc + 1) lv (.int (x &&& y) :: stk) σ I L) : tkG X Q cs ss pc lv (.int y :: .int x :: stk) σ I L := by
  obtain ⟨p, l, e, R, s, m, args, below, meth, c, base, D⟩ := X
  obtain ⟨hx, hb, hml, hown, hts, hK, hE, hlocks, hr, hnm, hhh, hfr, hlo, hRc, hRs, hst⟩ := C
  intro H locs ls hS hR hl
  exact lv_iand hx hb hd (k H locs ls hS hR hl)
theorem g_ladd (C : tkC X cc own nm nL ret hh d MC MS) {x y : Int64} (hd : decode cc pc = .ok (.ladd, 1)) (k : tkG X Q cs ss (pc + 1) lv (.long (x + y) :: stk) σ I L) : tkG X Q cs ss pc lv (.long y :: .long x :: stk) σ I L := by
  obtain ⟨p, l, e, R, s, m, args, below, meth, c, base, D⟩ := X
  obtain ⟨hx, hb, hml, hown, hts, hK, hE, hlocks, hr, hnm, hhh, hfr, hlo, hRc, hRs, hst⟩ := C
  intro H locs ls hS hR hl
  exact lv_ladd hx hb hd (k H locs ls hS hR hl)
theorem g_lsub (C : tkC X cc own nm nL ret hh d MC MS) {x y : Int64} (hd : decode cc pc = .ok (.lsub, 1)) (k : tkG X Q cs ss (pc + 1) lv (.long (x - y) :: stk) σ I L) : tkG X Q cs ss pc lv (.long y :: .long x :: stk) σ I L := by
  obtain ⟨p, l, e, R, s, m, args, below, meth, c, base, D⟩ := X
  obtain ⟨hx, hb, hml, hown, hts, hK, hE, hlocks, hr, hnm, hhh, hfr, hlo, hRc, hRs, hst⟩ := C
  intro H locs ls hS hR hl
  exact lv_lsub hx hb hd (k H locs ls hS hR hl)
theorem g_lmul (C : tkC X cc own nm nL ret hh d MC MS) {x y : Int64} (hd : decode cc pc = .ok (.lmul, 1)) (k : tkG X Q cs ss (pc + 1) lv (.long (x * y) :: stk) σ I L) : tkG X Q cs ss pc lv (.long y :: .long x :: stk) σ I L := by
  obtain ⟨p, l, e, R, s, m, args, below, meth, c, base, D⟩ := X
  obtain ⟨hx, hb, hml, hown, hts, hK, hE, hlocks, hr, hnm, hhh, hfr, hlo, hRc, hRs, hst⟩ := C
  intro H locs ls hS hR hl
  exact lv_lmul hx hb hd (k H locs ls hS hR hl)
theorem g_ldiv (C : tkC X cc own nm nL ret hh d MC MS) {x y : Int64} (hd : decode cc pc = .ok (.ldiv, 1)) (hne : ¬ y = 0) (k : tkG X Q cs ss (pc + 1) lv (.long (x / y) :: stk) σ I L) : tkG X Q cs ss pc lv (.long y :: .long x :: stk) σ I L := by
  obtain ⟨p, l, e, R, s, m, args, below, meth, c, base, D⟩ := X
  obtain ⟨hx, hb, hml, hown, hts, hK, hE, hlocks, hr, hnm, hhh, hfr, hlo, hRc, hRs, hst⟩ := C
  intro H locs ls hS hR hl
  exact lv_ldiv hx hb hd hne (k H locs ls hS hR hl)
theorem g_lrem (C : tkC X cc own nm nL ret hh d MC MS) {x y : Int64} (hd : decode cc pc = .ok (.lrem, 1)) (hne : ¬ y = 0) (k : tkG X Q cs ss (pc + 1) lv (.long (x - x / y * y) :: stk) σ I L) : tkG X Q cs ss pc lv (.long y :: .long x :: stk) σ I L := by
  obtain ⟨p, l, e, R, s, m, args, below, meth, c, base, D⟩ := X
  obtain ⟨hx, hb, hml, hown, hts, hK, hE, hlocks, hr, hnm, hhh, hfr, hlo, hRc, hRs, hst⟩ := C
  intro H locs ls hS hR hl
  exact lv_lrem hx hb hd hne (k H locs ls hS hR hl)
theorem g_ineg (C : tkC X cc own nm nL ret hh d MC MS) {x : Int32} (hd : decode cc pc = .ok (.ineg, 1)) (k : tkG X Q cs ss (pc + 1) lv (.int (-x) :: stk) σ I L) : tkG X Q cs ss pc lv (.int x :: stk) σ I L := by
  obtain ⟨p, l, e, R, s, m, args, below, meth, c, base, D⟩ := X
  obtain ⟨hx, hb, hml, hown, hts, hK, hE, hlocks, hr, hnm, hhh, hfr, hlo, hRc, hRs, hst⟩ := C
  intro H locs ls hS hR hl
  exact lv_ineg hx hb hd (k H locs ls hS hR hl)
theorem g_lneg (C : tkC X cc own nm nL ret hh d MC MS) {x : Int64} (hd : decode cc pc = .ok (.lneg, 1)) (k : tkG X Q cs ss (pc + 1) lv (.long (-x) :: stk) σ I L) : tkG X Q cs ss pc lv (.long x :: stk) σ I L := by
  obtain ⟨p, l, e, R, s, m, args, below, meth, c, base, D⟩ := X
  obtain ⟨hx, hb, hml, hown, hts, hK, hE, hlocks, hr, hnm, hhh, hfr, hlo, hRc, hRs, hst⟩ := C
  intro H locs ls hS hR hl
  exact lv_lneg hx hb hd (k H locs ls hS hR hl)
theorem g_i2l (C : tkC X cc own nm nL ret hh d MC MS) {x : Int32} (hd : decode cc pc = .ok (.i2l, 1)) (k : tkG X Q cs ss (pc + 1) lv (.long x.toInt64 :: stk) σ I L) : tkG X Q cs ss pc lv (.int x :: stk) σ I L := by
  obtain ⟨p, l, e, R, s, m, args, below, meth, c, base, D⟩ := X
  obtain ⟨hx, hb, hml, hown, hts, hK, hE, hlocks, hr, hnm, hhh, hfr, hlo, hRc, hRs, hst⟩ := C
  intro H locs ls hS hR hl
  exact lv_i2l hx hb hd rfl (k H locs ls hS hR hl)
theorem g_l2i (C : tkC X cc own nm nL ret hh d MC MS) {x : Int64} (hd : decode cc pc = .ok (.l2i, 1)) (k : tkG X Q cs ss (pc + 1) lv (.int x.toInt32 :: stk) σ I L) : tkG X Q cs ss pc lv (.long x :: stk) σ I L := by
  obtain ⟨p, l, e, R, s, m, args, below, meth, c, base, D⟩ := X
  obtain ⟨hx, hb, hml, hown, hts, hK, hE, hlocks, hr, hnm, hhh, hfr, hlo, hRc, hRs, hst⟩ := C
  intro H locs ls hS hR hl
  exact lv_l2i hx hb hd rfl (k H locs ls hS hR hl)
theorem g_i2d (C : tkC X cc own nm nL ret hh d MC MS) {x : Int32} (hd : decode cc pc = .ok (.i2d, 1)) (k : tkG X Q cs ss (pc + 1) lv (.double (FP.i2d x) :: stk) σ I L) : tkG X Q cs ss pc lv (.int x :: stk) σ I L := by
  obtain ⟨p, l, e, R, s, m, args, below, meth, c, base, D⟩ := X
  obtain ⟨hx, hb, hml, hown, hts, hK, hE, hlocks, hr, hnm, hhh, hfr, hlo, hRc, hRs, hst⟩ := C
  intro H locs ls hS hR hl
  exact lv_i2d hx hb hd (k H locs ls hS hR hl)
theorem g_l2d (C : tkC X cc own nm nL ret hh d MC MS) {x : Int64} (hd : decode cc pc = .ok (.l2d, 1)) (k : tkG X Q cs ss (pc + 1) lv (.double (FP.l2d x) :: stk) σ I L) : tkG X Q cs ss pc lv (.long x :: stk) σ I L := by
  obtain ⟨p, l, e, R, s, m, args, below, meth, c, base, D⟩ := X
  obtain ⟨hx, hb, hml, hown, hts, hK, hE, hlocks, hr, hnm, hhh, hfr, hlo, hRc, hRs, hst⟩ := C
  intro H locs ls hS hR hl
  exact lv_l2d hx hb hd (k H locs ls hS hR hl)
theorem g_ddiv (C : tkC X cc own nm nL ret hh d MC MS) {x y : UInt64} (hd : decode cc pc = .ok (.ddiv, 1)) (hne : vf_n64 (FP.ddiv x y)) (k : tkG X Q cs ss (pc + 1) lv (.double (FP.ddiv x y) :: stk) σ I L) : tkG X Q cs ss pc lv (.double y :: .double x :: stk) σ I L := by
  obtain ⟨p, l, e, R, s, m, args, below, meth, c, base, D⟩ := X
  obtain ⟨hx, hb, hml, hown, hts, hK, hE, hlocks, hr, hnm, hhh, hfr, hlo, hRc, hRs, hst⟩ := C
  intro H locs ls hS hR hl
  exact lv_ddiv hx hb hd hne (k H locs ls hS hR hl)
theorem g_lcmp (C : tkC X cc own nm nL ret hh d MC MS) {x y : Int64} (hd : decode cc pc = .ok (.lcmp, 1)) (k : tkG X Q cs ss (pc + 1) lv (.int (lg_cmp x y) :: stk) σ I L) : tkG X Q cs ss pc lv (.long y :: .long x :: stk) σ I L := by
  obtain ⟨p, l, e, R, s, m, args, below, meth, c, base, D⟩ := X
  obtain ⟨hx, hb, hml, hown, hts, hK, hE, hlocks, hr, hnm, hhh, hfr, hlo, hRc, hRs, hst⟩ := C
  intro H locs ls hS hR hl
  exact W.lcmp hx hb hd (k H locs ls hS hR hl)
theorem g_dcmp (C : tkC X cc own nm nL ret hh d MC MS) {x y : UInt64} {op : CmpOp} (hd : decode cc pc = .ok (.dcmp op, 1)) (k : tkG X Q cs ss (pc + 1) lv (.int (Op.cmpValue (FP.dcmp x y) op) :: stk) σ I L) : tkG X Q cs ss pc lv (.double y :: .double x :: stk) σ I L := by
  obtain ⟨p, l, e, R, s, m, args, below, meth, c, base, D⟩ := X
  obtain ⟨hx, hb, hml, hown, hts, hK, hE, hlocks, hr, hnm, hhh, hfr, hlo, hRc, hRs, hst⟩ := C
  intro H locs ls hS hR hl
  exact lv_dcmp hx hb hd (k H locs ls hS hR hl)
theorem g_dup (C : tkC X cc own nm nL ret hh d MC MS) {va : Value} (hd : decode cc pc = .ok (.dup, 1)) (hva : va.category = 1) (k : tkG X Q cs ss (pc + 1) lv (va :: va :: stk) σ I L) : tkG X Q cs ss pc lv (va :: stk) σ I L := by
  obtain ⟨p, l, e, R, s, m, args, below, meth, c, base, D⟩ := X
  obtain ⟨hx, hb, hml, hown, hts, hK, hE, hlocks, hr, hnm, hhh, hfr, hlo, hRc, hRs, hst⟩ := C
  intro H locs ls hS hR hl
  exact lv_dup hx hb hd hva (k H locs ls hS hR hl)
theorem g_pop (C : tkC X cc own nm nL ret hh d MC MS) {va : Value} (hd : decode cc pc = .ok (.pop, 1)) (hva : va.category = 1) (k : tkG X Q cs ss (pc + 1) lv stk σ I L) : tkG X Q cs ss pc lv (va :: stk) σ I L := by
  obtain ⟨p, l, e, R, s, m, args, below, meth, c, base, D⟩ := X
  obtain ⟨hx, hb, hml, hown, hts, hK, hE, hlocks, hr, hnm, hhh, hfr, hlo, hRc, hRs, hst⟩ := C
  intro H locs ls hS hR hl
  exact lv_pop hx hb hd hva (k H locs ls hS hR hl)
theorem g_dup2 (C : tkC X cc own nm nL ret hh d MC MS) {va vb : Value} (hd : decode cc pc = .ok (.dup2, 1)) (hva : va.category = 1) (hvb : vb.category = 1) (k : tkG X Q cs ss (pc + 1) lv (va :: vb :: va :: vb :: stk) σ I L) : tkG X Q cs ss pc lv (va :: vb :: stk) σ I L := by
  obtain ⟨p, l, e, R, s, m, args, below, meth, c, base, D⟩ := X
  obtain ⟨hx, hb, hml, hown, hts, hK, hE, hlocks, hr, hnm, hhh, hfr, hlo, hRc, hRs, hst⟩ := C
  intro H locs ls hS hR hl
  exact lv_dup2_11 hx hb hd hva hvb (k H locs ls hS hR hl)
theorem g_if_eq (C : tkC X cc own nm nL ret hh d MC MS) {x : Int32} {off : Int} (tgt : Nat) (hd : decode cc pc = .ok (.ifCond .eq off, 3)) (ht : (pc : Int) + off = (tgt : Int)) (kt : x = 0 → tkG X Q cs ss tgt lv stk σ I L) (kf : ¬ x = 0 → tkG X Q cs ss (pc + 3) lv stk σ I L) : tkG X Q cs ss pc lv (.int x :: stk) σ I L := by
  obtain ⟨p, l, e, R, s, m, args, below, meth, c, base, D⟩ := X
  obtain ⟨hx, hb, hml, hown, hts, hK, hE, hlocks, hr, hnm, hhh, hfr, hlo, hRc, hRs, hst⟩ := C
  intro H locs ls hS hR hl
  exact lv_if_eq hx hb hd ht (fun z => kt z H locs ls hS hR hl) (fun z => kf z H locs ls hS hR hl)
theorem g_icmp_eq (C : tkC X cc own nm nL ret hh d MC MS) {x y : Int32} {off : Int} (tgt : Nat) (hd : decode cc pc = .ok (.if_icmp .eq off, 3)) (ht : (pc : Int) + off = (tgt : Int)) (kt : x = y → tkG X Q cs ss tgt lv stk σ I L) (kf : ¬ x = y → tkG X Q cs ss (pc + 3) lv stk σ I L) : tkG X Q cs ss pc lv (.int y :: .int x :: stk) σ I L := by
  obtain ⟨p, l, e, R, s, m, args, below, meth, c, base, D⟩ := X
  obtain ⟨hx, hb, hml, hown, hts, hK, hE, hlocks, hr, hnm, hhh, hfr, hlo, hRc, hRs, hst⟩ := C
  intro H locs ls hS hR hl
  exact lv_icmp_eq hx hb hd ht (fun z => kt z H locs ls hS hR hl) (fun z => kf z H locs ls hS hR hl)
theorem g_if_ne (C : tkC X cc own nm nL ret hh d MC MS) {x : Int32} {off : Int} (tgt : Nat) (hd : decode cc pc = .ok (.ifCond .ne off, 3)) (ht : (pc : Int) + off = (tgt : Int)) (kt : ¬ x = 0 → tkG X Q cs ss tgt lv stk σ I L) (kf : x = 0 → tkG X Q cs ss (pc + 3) lv stk σ I L) : tkG X Q cs ss pc lv (.int x :: stk) σ I L := by
  obtain ⟨p, l, e, R, s, m, args, below, meth, c, base, D⟩ := X
  obtain ⟨hx, hb, hml, hown, hts, hK, hE, hlocks, hr, hnm, hhh, hfr, hlo, hRc, hRs, hst⟩ := C
  intro H locs ls hS hR hl
  exact lv_if_ne hx hb hd ht (fun z => kt z H locs ls hS hR hl) (fun z => kf z H locs ls hS hR hl)
theorem g_icmp_ne (C : tkC X cc own nm nL ret hh d MC MS) {x y : Int32} {off : Int} (tgt : Nat) (hd : decode cc pc = .ok (.if_icmp .ne off, 3)) (ht : (pc : Int) + off = (tgt : Int)) (kt : ¬ x = y → tkG X Q cs ss tgt lv stk σ I L) (kf : x = y → tkG X Q cs ss (pc + 3) lv stk σ I L) : tkG X Q cs ss pc lv (.int y :: .int x :: stk) σ I L := by
  obtain ⟨p, l, e, R, s, m, args, below, meth, c, base, D⟩ := X
  obtain ⟨hx, hb, hml, hown, hts, hK, hE, hlocks, hr, hnm, hhh, hfr, hlo, hRc, hRs, hst⟩ := C
  intro H locs ls hS hR hl
  exact lv_icmp_ne hx hb hd ht (fun z => kt z H locs ls hS hR hl) (fun z => kf z H locs ls hS hR hl)
theorem g_if_lt (C : tkC X cc own nm nL ret hh d MC MS) {x : Int32} {off : Int} (tgt : Nat) (hd : decode cc pc = .ok (.ifCond .lt off, 3)) (ht : (pc : Int) + off = (tgt : Int)) (kt : x < 0 → tkG X Q cs ss tgt lv stk σ I L) (kf : ¬ x < 0 → tkG X Q cs ss (pc + 3) lv stk σ I L) : tkG X Q cs ss pc lv (.int x :: stk) σ I L := by
  obtain ⟨p, l, e, R, s, m, args, below, meth, c, base, D⟩ := X
  obtain ⟨hx, hb, hml, hown, hts, hK, hE, hlocks, hr, hnm, hhh, hfr, hlo, hRc, hRs, hst⟩ := C
  intro H locs ls hS hR hl
  exact lv_if_lt hx hb hd ht (fun z => kt z H locs ls hS hR hl) (fun z => kf z H locs ls hS hR hl)
theorem g_icmp_lt (C : tkC X cc own nm nL ret hh d MC MS) {x y : Int32} {off : Int} (tgt : Nat) (hd : decode cc pc = .ok (.if_icmp .lt off, 3)) (ht : (pc : Int) + off = (tgt : Int)) (kt : x < y → tkG X Q cs ss tgt lv stk σ I L) (kf : ¬ x < y → tkG X Q cs ss (pc + 3) lv stk σ I L) : tkG X Q cs ss pc lv (.int y :: .int x :: stk) σ I L := by
  obtain ⟨p, l, e, R, s, m, args, below, meth, c, base, D⟩ := X
  obtain ⟨hx, hb, hml, hown, hts, hK, hE, hlocks, hr, hnm, hhh, hfr, hlo, hRc, hRs, hst⟩ := C
  intro H locs ls hS hR hl
  exact lv_icmp_lt hx hb hd ht (fun z => kt z H locs ls hS hR hl) (fun z => kf z H locs ls hS hR hl)
theorem g_if_ge (C : tkC X cc own nm nL ret hh d MC MS) {x : Int32} {off : Int} (tgt : Nat) (hd : decode cc pc = .ok (.ifCond .ge off, 3)) (ht : (pc : Int) + off = (tgt : Int)) (kt : 0 ≤ x → tkG X Q cs ss tgt lv stk σ I L) (kf : ¬ 0 ≤ x → tkG X Q cs ss (pc + 3) lv stk σ I L) : tkG X Q cs ss pc lv (.int x :: stk) σ I L := by
  obtain ⟨p, l, e, R, s, m, args, below, meth, c, base, D⟩ := X
  obtain ⟨hx, hb, hml, hown, hts, hK, hE, hlocks, hr, hnm, hhh, hfr, hlo, hRc, hRs, hst⟩ := C
  intro H locs ls hS hR hl
  exact lv_if_ge hx hb hd ht (fun z => kt z H locs ls hS hR hl) (fun z => kf z H locs ls hS hR hl)
theorem g_icmp_ge (C : tkC X cc own nm nL ret hh d MC MS) {x y : Int32} {off : Int} (tgt : Nat) (hd : decode cc pc = .ok (.if_icmp .ge off, 3)) (ht : (pc : Int) + off = (tgt : Int)) (kt : y ≤ x → tkG X Q cs ss tgt lv stk σ I L) (kf : ¬ y ≤ x → tkG X Q cs ss (pc + 3) lv stk σ I L) : tkG X Q cs ss pc lv (.int y :: .int x :: stk) σ I L := by
  obtain ⟨p, l, e, R, s, m, args, below, meth, c, base, D⟩ := X
  obtain ⟨hx, hb, hml, hown, hts, hK, hE, hlocks, hr, hnm, hhh, hfr, hlo, hRc, hRs, hst⟩ := C
  intro H locs ls hS hR hl
  exact lv_icmp_ge hx hb hd ht (fun z => kt z H locs ls hS hR hl) (fun z => kf z H locs ls hS hR hl)
theorem g_if_gt (C : tkC X cc own nm nL ret hh d MC MS) {x : Int32} {off : Int} (tgt : Nat) (hd : decode cc pc = .ok (.ifCond .gt off, 3)) (ht : (pc : Int) + off = (tgt : Int)) (kt : 0 < x → tkG X Q cs ss tgt lv stk σ I L) (kf : ¬ 0 < x → tkG X Q cs ss (pc + 3) lv stk σ I L) : tkG X Q cs ss pc lv (.int x :: stk) σ I L := by
  obtain ⟨p, l, e, R, s, m, args, below, meth, c, base, D⟩ := X
  obtain ⟨hx, hb, hml, hown, hts, hK, hE, hlocks, hr, hnm, hhh, hfr, hlo, hRc, hRs, hst⟩ := C
  intro H locs ls hS hR hl
  exact lv_if_gt hx hb hd ht (fun z => kt z H locs ls hS hR hl) (fun z => kf z H locs ls hS hR hl)
theorem g_icmp_gt (C : tkC X cc own nm nL ret hh d MC MS) {x y : Int32} {off : Int} (tgt : Nat) (hd : decode cc pc = .ok (.if_icmp .gt off, 3)) (ht : (pc : Int) + off = (tgt : Int)) (kt : y < x → tkG X Q cs ss tgt lv stk σ I L) (kf : ¬ y < x → tkG X Q cs ss (pc + 3) lv stk σ I L) : tkG X Q cs ss pc lv (.int y :: .int x :: stk) σ I L := by
  obtain ⟨p, l, e, R, s, m, args, below, meth, c, base, D⟩ := X
  obtain ⟨hx, hb, hml, hown, hts, hK, hE, hlocks, hr, hnm, hhh, hfr, hlo, hRc, hRs, hst⟩ := C
  intro H locs ls hS hR hl
  exact lv_icmp_gt hx hb hd ht (fun z => kt z H locs ls hS hR hl) (fun z => kf z H locs ls hS hR hl)
theorem g_if_le (C : tkC X cc own nm nL ret hh d MC MS) {x : Int32} {off : Int} (tgt : Nat) (hd : decode cc pc = .ok (.ifCond .le off, 3)) (ht : (pc : Int) + off = (tgt : Int)) (kt : x ≤ 0 → tkG X Q cs ss tgt lv stk σ I L) (kf : ¬ x ≤ 0 → tkG X Q cs ss (pc + 3) lv stk σ I L) : tkG X Q cs ss pc lv (.int x :: stk) σ I L := by
  obtain ⟨p, l, e, R, s, m, args, below, meth, c, base, D⟩ := X
  obtain ⟨hx, hb, hml, hown, hts, hK, hE, hlocks, hr, hnm, hhh, hfr, hlo, hRc, hRs, hst⟩ := C
  intro H locs ls hS hR hl
  exact lv_if_le hx hb hd ht (fun z => kt z H locs ls hS hR hl) (fun z => kf z H locs ls hS hR hl)
theorem g_icmp_le (C : tkC X cc own nm nL ret hh d MC MS) {x y : Int32} {off : Int} (tgt : Nat) (hd : decode cc pc = .ok (.if_icmp .le off, 3)) (ht : (pc : Int) + off = (tgt : Int)) (kt : x ≤ y → tkG X Q cs ss tgt lv stk σ I L) (kf : ¬ x ≤ y → tkG X Q cs ss (pc + 3) lv stk σ I L) : tkG X Q cs ss pc lv (.int y :: .int x :: stk) σ I L := by
  obtain ⟨p, l, e, R, s, m, args, below, meth, c, base, D⟩ := X
  obtain ⟨hx, hb, hml, hown, hts, hK, hE, hlocks, hr, hnm, hhh, hfr, hlo, hRc, hRs, hst⟩ := C
  intro H locs ls hS hR hl
  exact lv_icmp_le hx hb hd ht (fun z => kt z H locs ls hS hR hl) (fun z => kf z H locs ls hS hR hl)
theorem g_goto (C : tkC X cc own nm nL ret hh d MC MS) {off : Int} (tgt : Nat) (hd : decode cc pc = .ok (.goto off, 3)) (ht : (pc : Int) + off = (tgt : Int)) (k : tkG X Q cs ss tgt lv stk σ I L) : tkG X Q cs ss pc lv stk σ I L := by
  obtain ⟨p, l, e, R, s, m, args, below, meth, c, base, D⟩ := X
  obtain ⟨hx, hb, hml, hown, hts, hK, hE, hlocks, hr, hnm, hhh, hfr, hlo, hRc, hRs, hst⟩ := C
  intro H locs ls hS hR hl
  exact lv_goto hx hb hd ht (k H locs ls hS hR hl)
theorem g_ifnonnull (C : tkC X cc own nm nL ret hh d MC MS) {x : Nat} {off : Int} (tgt : Nat) (hd : decode cc pc = .ok (.ifnonnull off, 3)) (ht : (pc : Int) + off = (tgt : Int)) (k : tkG X Q cs ss tgt lv stk σ I L) : tkG X Q cs ss pc lv (.ref x :: stk) σ I L := by
  obtain ⟨p, l, e, R, s, m, args, below, meth, c, base, D⟩ := X
  obtain ⟨hx, hb, hml, hown, hts, hK, hE, hlocks, hr, hnm, hhh, hfr, hlo, hRc, hRs, hst⟩ := C
  intro H locs ls hS hR hl
  exact lv_ifnonnull hx hb hd ht (k H locs ls hS hR hl)
theorem g_ifnonnullN (C : tkC X cc own nm nL ret hh d MC MS) {off : Int} (hd : decode cc pc = .ok (.ifnonnull off, 3)) (k : tkG X Q cs ss (pc + 3) lv stk σ I L) : tkG X Q cs ss pc lv (.null :: stk) σ I L := by
  obtain ⟨p, l, e, R, s, m, args, below, meth, c, base, D⟩ := X
  obtain ⟨hx, hb, hml, hown, hts, hK, hE, hlocks, hr, hnm, hhh, hfr, hlo, hRc, hRs, hst⟩ := C
  intro H locs ls hS hR hl
  exact lv_ifnonnullN hx hb hd (k H locs ls hS hR hl)
theorem g_null (C : tkC X cc own nm nL ret hh d MC MS)  (hd : decode cc pc = .ok (.aconst_null, 1)) (k : tkG X Q cs ss (pc + 1) lv (.null :: stk) σ I L) : tkG X Q cs ss pc lv stk σ I L := by
  obtain ⟨p, l, e, R, s, m, args, below, meth, c, base, D⟩ := X
  obtain ⟨hx, hb, hml, hown, hts, hK, hE, hlocks, hr, hnm, hhh, hfr, hlo, hRc, hRs, hst⟩ := C
  intro H locs ls hS hR hl
  exact lv_null hx hb hd (k H locs ls hS hR hl)
theorem g_aloadN_n (C : tkC X cc own nm nL ret hh d MC MS) {k0 : Fin 4} {i : Nat} (hd : decode cc pc = .ok (.aload_n k0, 1)) (hi : (k0 : Nat) = i) (hg : tkGet lv i = some .null) (k : tkG X Q cs ss (pc + 1) lv (.null :: stk) σ I L) : tkG X Q cs ss pc lv stk σ I L := by
  obtain ⟨p, l, e, R, s, m, args, below, meth, c, base, D⟩ := X
  obtain ⟨hx, hb, hml, hown, hts, hK, hE, hlocks, hr, hnm, hhh, hfr, hlo, hRc, hRs, hst⟩ := C
  intro H locs ls hS hR hl
  exact lv_aload_nN hx hb hd hi (hl.get hg) (k H locs ls hS hR hl)
theorem g_astoreN_n (C : tkC X cc own nm nL ret hh d MC MS) {k0 : Fin 4} {i : Nat} (hd : decode cc pc = .ok (.astore_n k0, 1)) (hi : (k0 : Nat) = i) (hn : i < nL) (k : tkG X Q cs ss (pc + 1) (tkSt1 lv i .null) stk σ I L) : tkG X Q cs ss pc lv (.null :: stk) σ I L := by
  obtain ⟨p, l, e, R, s, m, args, below, meth, c, base, D⟩ := X
  obtain ⟨hx, hb, hml, hown, hts, hK, hE, hlocks, hr, hnm, hhh, hfr, hlo, hRc, hRs, hst⟩ := C
  intro H locs ls hS hR hl
  exact lv_astore_nN (nL := c.maxLocals) hx hb hd hi hl (by rw [hml]; exact hn) rfl (fun ls' h' => k H locs ls' hS hR (tkLv.st1 h'))
end TKR
end
section

section TKW
theorem tk_w0 : ∀ w ∈ u_ws RX0 TX0 3, w ∈ tkAll := by decide +kernel
theorem tk_w1 : ∀ w ∈ u_ws RX1 TX1 5, w ∈ tkAll := by decide +kernel
theorem tk_w2 : ∀ w ∈ u_ws RX2 TX2 13, w ∈ tkAll := by decide +kernel
theorem tk_w3 : ∀ w ∈ u_ws RX3 TX3 5, w ∈ tkAll := by decide +kernel
theorem tk_w4 : ∀ w ∈ u_ws RX4 TX4 6, w ∈ tkAll := by decide +kernel
theorem tk_w5 : ∀ w ∈ u_ws RX5 TX5 4, w ∈ tkAll := by decide +kernel
/-- the classes' tables, one theorem for all -/
theorem tk_cls : ∀ (ci : Nat) (q : vw_C), vwCl[ci]? = some q → (∀ w ∈ u_ws q.1 q.2.1 q.2.2, w ∈ tkAll) ∧ (∀ k, k < q.2.2 → parseFieldDescriptor (q.2.1 k).2.2.1 = some (tkTy ci k)) ∧ (∀ a, a < q.2.2 → ∀ b, b < q.2.2 → a ≠ b → (q.2.1 a).2.1 ≠ (q.2.1 b).2.1) ∧ (∀ k, k < q.2.2 → defaultValue (tkTy ci k) = tkVal (tkTy ci k) 0 0 none)
  | 0, q, h => by cases h; exact ⟨tk_w0, tyX0_ok, nmX0, by decide +kernel⟩
  | 1, q, h => by cases h; exact ⟨tk_w1, tyX1_ok, nmX1, by decide +kernel⟩
  | 2, q, h => by cases h; exact ⟨tk_w2, tyX2_ok, nmX2, by decide +kernel⟩
  | 3, q, h => by cases h; exact ⟨tk_w3, tyX3_ok, nmX3, by decide +kernel⟩
  | 4, q, h => by cases h; exact ⟨tk_w4, tyX4_ok, nmX4, by decide +kernel⟩
  | 5, q, h => by cases h; exact ⟨tk_w5, tyX5_ok, nmX5, by decide +kernel⟩
  | n + 6, q, h => by simp at h
theorem tk_lt7 {ci : Nat} {q : vw_C} (h : vwCl[ci]? = some q) : ci < 7 := Nat.lt_of_lt_of_le (List.getElem?_eq_some_iff.mp h).1 (by decide)
theorem tk_ne99 {ci : Nat} {q : vw_C} (h : vwCl[ci]? = some q) : ci ≠ 99 := by have := tk_lt7 h; omega
/-- what a field of type t keeps of the three -/
theorem tkVal_int {t : FieldType} (h : t = .int ∨ t = .boolean) (x : Int32) (y : Int64) (r : Option Nat) : tkVal t x y r = .int x := by rcases h with rfl | rfl <;> rfl
def tkRefT (t : FieldType) : Bool := match t with | .object _ => true | .array _ => true | _ => false
theorem tkVal_ref {t : FieldType} (h : tkRefT t = true) (x : Int32) (y : Int64) (r : Option Nat) : tkVal t x y r = va_rf r := by cases t <;> first | rfl | cases h
end TKW
section TKMEM
variable {X : tkX} {Q : State → Prop} {cc : ByteArray} {own nm : String} {nL d MC MS cs ss pc : Nat} {ret : Option FieldType} {hh : List (Nat × Nat × Nat × Nat)} {lv : List (Option Value)} {stk : List Value} {σ : tkM} {I : tkI} {L : tkL}
/-- getfield, any type -/
theorem g_get (C : tkC X cc own nm nL ret hh d MC MS) {idx ci k n a : Nat} {q : vw_C} {v : Value} (hd : decode cc pc = .ok (.getfield idx, 3)) (hS : σ.2.1 a = (ci, n)) (hc : vwCl[ci]? = some q) (hk : k < q.2.2) (hw : Cond.fieldLink own idx (q.2.1 k).1 (q.2.1 k).2.1 (q.2.1 k).2.2.1 ∈ tkAll)
    (hv : tkVal (tkTy ci k) (I a k) (L a k) (σ.2.2 a k) = v) (kk : tkG X Q cs ss (pc + 3) lv (v :: stk) σ I L) : tkG X Q cs ss pc lv (.ref a :: stk) σ I L := by
  obtain ⟨p, l, e, R, s, m, args, below, meth, c, base, D⟩ := X
  obtain ⟨hx, hb, hml, hown, hts, hK, hE, hlocks, hr, hnm, hhh, hfr, hlo, hRc, hRs, hst⟩ := C
  intro H locs ls hSS hR hl
  obtain ⟨-, -, -, hcell⟩ := hR.at hS (tk_ne99 hc)
  obtain ⟨q', h1, cell, q1, q2, q3, q4⟩ := hcell.1 (tk_lt7 hc)
  have hq : q' = q := Option.some.inj (h1.symm.trans hc)
  subst hq
  obtain ⟨hin, -, -, -⟩ := tk_cls ci q' hc
  obtain ⟨hSl, hfc, kC, hkC, hkind⟩ := hK.1.1 ci _ hc
  obtain ⟨cf, kf, fi, f, hi, hsl⟩ := hSl k hk
  refine W.getf hx hb hown (hts _ hw) hi (u_facts hfc hkC (u_lays hts hin hk) hi).1 q1 (by rw [q3]; exact fun h => by cases h) (v := v) ?_ rfl rfl hd (kk H locs ls hSS hR hl)
  rw [hsl, q4 k hk]
  exact congrArg some hv
theorem g_getI (C : tkC X cc own nm nL ret hh d MC MS) {idx a n : Nat} (ci k : Nat) (q : vw_C) {f : Nat → Int32} (hd : decode cc pc = .ok (.getfield idx, 3)) (hS : σ.2.1 a = (ci, n)) (hI : I a = f) (hw : Cond.fieldLink own idx (q.2.1 k).1 (q.2.1 k).2.1 (q.2.1 k).2.2.1 ∈ tkAll) (hc : vwCl[ci]? = some q) (hk : k < q.2.2)
    (ht : tkTy ci k = .int ∨ tkTy ci k = .boolean) (kk : tkG X Q cs ss (pc + 3) lv (.int (f k) :: stk) σ I L) : tkG X Q cs ss pc lv (.ref a :: stk) σ I L :=
  g_get C hd hS hc hk hw (by rw [tkVal_int ht, hI]) kk
theorem g_getL (C : tkC X cc own nm nL ret hh d MC MS) {idx a n : Nat} (ci k : Nat) (q : vw_C) {f : Nat → Int64} (hd : decode cc pc = .ok (.getfield idx, 3)) (hS : σ.2.1 a = (ci, n)) (hI : L a = f) (hw : Cond.fieldLink own idx (q.2.1 k).1 (q.2.1 k).2.1 (q.2.1 k).2.2.1 ∈ tkAll) (hc : vwCl[ci]? = some q) (hk : k < q.2.2)
    (ht : tkTy ci k = .long) (kk : tkG X Q cs ss (pc + 3) lv (.long (f k) :: stk) σ I L) : tkG X Q cs ss pc lv (.ref a :: stk) σ I L :=
  g_get C hd hS hc hk hw (by rw [ht, hI]; rfl) kk
theorem g_getR (C : tkC X cc own nm nL ret hh d MC MS) {idx a n b : Nat} (ci k : Nat) (q : vw_C) (hd : decode cc pc = .ok (.getfield idx, 3)) (hS : σ.2.1 a = (ci, n)) (hr : σ.2.2 a k = some b) (hw : Cond.fieldLink own idx (q.2.1 k).1 (q.2.1 k).2.1 (q.2.1 k).2.2.1 ∈ tkAll) (hc : vwCl[ci]? = some q) (hk : k < q.2.2)
    (ht : tkRefT (tkTy ci k) = true) (kk : tkG X Q cs ss (pc + 3) lv (.ref b :: stk) σ I L) : tkG X Q cs ss pc lv (.ref a :: stk) σ I L :=
  g_get C hd hS hc hk hw (by rw [tkVal_ref ht, hr]; rfl) kk
/-- putfield, any type -/
theorem g_put (C : tkC X cc own nm nL ret hh d MC MS) {idx ci k n a : Nat} {q : vw_C} {v : Value} {σ1 : tkM} {I1 : tkI} {L1 : tkL} (hd : decode cc pc = .ok (.putfield idx, 3)) (hS : σ.2.1 a = (ci, n)) (hc : vwCl[ci]? = some q) (hk : k < q.2.2) (hw : Cond.fieldLink own idx (q.2.1 k).1 (q.2.1 k).2.1 (q.2.1 k).2.2.1 ∈ tkAll)
    (hfin : (q.2.1 k).2.2.2 = false ∨ ((q.2.1 k).2.2.2 = true ∧ nm = "<init>" ∧ (q.2.1 k).1 = own)) (hn : narrow (tkTy ci k) v = v) (hfit : fits (tkTy ci k) v = true) (hσ : σ1.1 = σ.1 ∧ σ1.2.1 = σ.2.1) (ho : ∀ b, b ≠ a → I1 b = I b ∧ L1 b = L b ∧ σ1.2.2 b = σ.2.2 b)
    (hv : ∀ j, j < q.2.2 → tkVal (tkTy ci j) (I1 a j) (L1 a j) (σ1.2.2 a j) = if j = k then v else tkVal (tkTy ci j) (I a j) (L a j) (σ.2.2 a j))
    (kk : tkG X Q cs ss (pc + 3) lv stk σ1 I1 L1) : tkG X Q cs ss pc lv (v :: .ref a :: stk) σ I L := by
  obtain ⟨p, l, e, R, s, m, args, below, meth, c, base, D⟩ := X
  obtain ⟨hx, hb, hml, hown, hts, hK, hE, hlocks, hr, hnm, hhh, hfr, hlo, hRc, hRs, hst⟩ := C
  intro H locs ls hSS hR hl
  obtain ⟨hba, -, -, hcell⟩ := hR.at hS (tk_ne99 hc)
  obtain ⟨q', h1, cell, q1, q2, q3, q4⟩ := hcell.1 (tk_lt7 hc)
  have hq : q' = q := Option.some.inj (h1.symm.trans hc)
  subst hq
  obtain ⟨hin, hty, hnms, -⟩ := tk_cls ci q' hc
  have hap := va_apart (own := own) hts hin (tkTy ci) hty hnms hK.1 hc
  obtain ⟨hSl, hfc, kC, hkC, hkind⟩ := hK.1.1 ci _ hc
  obtain ⟨cf, kf, fi, f, hi, hsl⟩ := hSl k hk
  have hlay := hts _ (hin _ (u_in_lay hk))
  have hstat := (u_facts hfc hkC (u_lays hts hin hk) hi).1
  have fin : ∀ (H1 : Heap), H1[a]? = some (cell.setSlot f.slot v) → H1.size = H.size → (∀ b, b ≠ a → H1[b]? = H[b]?) → W p l e R s m args below meth c H1 (locs ++ [⟨a, f.slot⟩]) cs ss Q (F0 m (pc + 3) ls stk) := by
    intro H1 e1 e2 e3
    refine kk H1 _ ls (hSS.put e2 e3 hba) (hR.put hba e2 e3 hσ.1 hσ.2 (fun b z => (ho b z).1) (fun b z => (ho b z).2.1) (fun b z => (ho b z).2.2) fun _ => ?_) hl
    rw [hS]
    have h7 := tk_lt7 hc
    refine ⟨fun _ => ⟨q', hc, t_OB.to (V := updV (fun j => tkVal (tkTy ci j) (I a j) (L a j) (σ.2.2 a j)) k v) ⟨_, e1, q2, q3, by rw [hsl]; exact t_set q4 hap hk v⟩ (fun j hj => by rw [hv j hj]; rfl)⟩, fun z => ?_, fun z => ?_, fun z => ?_, fun z => ?_, fun z => ?_⟩ <;> (exfalso; dsimp only at z; omega)
  have h6 := u_fits hfc hkC hkind (u_lays hts hin hk) hi (hty k hk) hn hfit
  unfold u_lay at hlay
  rcases hfin with hfin | ⟨hfin, hin2, hdecl⟩
  · rw [if_neg (by rw [hfin]; decide)] at hlay
    have h7 := u_store hfc hkC hkind hlay hi (hty k hk) hn hfit
    exact W.putK hx hb (f := f) ⟨hown, hts _ hw, ⟨_, _, _, hi⟩, hstat⟩ (by rw [q2]; exact h7) q1 q3 (by rw [hsl]; exact k2_hasslot (q4 k hk)) rfl rfl hd fin
  · rw [if_pos hfin] at hlay
    have hcf : m.cls = cf := by
      obtain ⟨_, _, c', _, _, _, -, -, hf', -, -, -, hown2, -⟩ := Cond.laysFinal_spec hlay
      have e1 : c' = cf := by have := hi.symm.trans hf'; simp at this; exact this.1.symm
      rw [hdecl] at hown2
      rw [← e1]; exact Option.some.inj (hown.symm.trans hown2)
    exact W.putFinK hx hb hown (hts _ hw) hi hstat hcf (by rw [hnm]; exact hin2) (by rw [q2]; exact h6) q1 q3 (by rw [hsl]; exact k2_hasslot (q4 k hk)) rfl rfl hd fin
theorem g_putI (C : tkC X cc own nm nL ret hh d MC MS) {idx a n : Nat} {x : Int32} (ci k : Nat) (q : vw_C) {I1 : tkI} (hd : decode cc pc = .ok (.putfield idx, 3)) (hS : σ.2.1 a = (ci, n)) (hI : tk2 I a k x = I1) (hw : Cond.fieldLink own idx (q.2.1 k).1 (q.2.1 k).2.1 (q.2.1 k).2.2.1 ∈ tkAll) (hc : vwCl[ci]? = some q) (hk : k < q.2.2)
    (hfin : (q.2.1 k).2.2.2 = false) (ht : tkTy ci k = .int) (kk : tkG X Q cs ss (pc + 3) lv stk σ I1 L) : tkG X Q cs ss pc lv (.int x :: .ref a :: stk) σ I L := by
  subst hI
  refine g_put C hd hS hc hk hw (Or.inl hfin) (by rw [ht]; rfl) (by rw [ht]; rfl) ⟨rfl, rfl⟩ (fun b z => ⟨by funext j; simp [tk2, z], rfl, rfl⟩) (fun j _ => ?_) kk
  by_cases e : j = k
  · subst e; rw [if_pos rfl, ht]; simp [tkVal, tk2]
  · rw [if_neg e]; simp [tk2, e]
theorem g_putL (C : tkC X cc own nm nL ret hh d MC MS) {idx a n : Nat} {x : Int64} (ci k : Nat) (q : vw_C) {L1 : tkL} (hd : decode cc pc = .ok (.putfield idx, 3)) (hS : σ.2.1 a = (ci, n)) (hI : tk2 L a k x = L1) (hw : Cond.fieldLink own idx (q.2.1 k).1 (q.2.1 k).2.1 (q.2.1 k).2.2.1 ∈ tkAll) (hc : vwCl[ci]? = some q) (hk : k < q.2.2)
    (hfin : (q.2.1 k).2.2.2 = false) (ht : tkTy ci k = .long) (kk : tkG X Q cs ss (pc + 3) lv stk σ I L1) : tkG X Q cs ss pc lv (.long x :: .ref a :: stk) σ I L := by
  subst hI
  refine g_put C hd hS hc hk hw (Or.inl hfin) (by rw [ht]; rfl) (by rw [ht]; rfl) ⟨rfl, rfl⟩ (fun b z => ⟨rfl, by funext j; simp [tk2, z], rfl⟩) (fun j _ => ?_) kk
  by_cases e : j = k
  · subst e; rw [if_pos rfl, ht]; simp [tkVal, tk2]
  · rw [if_neg e]; simp [tk2, e]
/-- a final field of a reference, in the constructor -/
theorem g_putF (C : tkC X cc own nm nL ret hh d MC MS) {idx a n b0 : Nat} (ci k : Nat) (q : vw_C) {r1 : Nat → Nat → Option Nat} (hd : decode cc pc = .ok (.putfield idx, 3)) (hS : σ.2.1 a = (ci, n)) (hI : tk2 σ.2.2 a k (some b0) = r1) (hw : Cond.fieldLink own idx (q.2.1 k).1 (q.2.1 k).2.1 (q.2.1 k).2.2.1 ∈ tkAll) (hc : vwCl[ci]? = some q) (hk : k < q.2.2)
    (hfin : (q.2.1 k).2.2.2 = true ∧ nm = "<init>" ∧ (q.2.1 k).1 = own) (ht : tkRefT (tkTy ci k) = true) (kk : tkG X Q cs ss (pc + 3) lv stk (σ.1, σ.2.1, r1) I L) : tkG X Q cs ss pc lv (.ref b0 :: .ref a :: stk) σ I L := by
  subst hI
  refine g_put C (σ1 := (σ.1, σ.2.1, tk2 σ.2.2 a k (some b0))) hd hS hc hk hw (Or.inr hfin) ?_ ?_ ⟨rfl, rfl⟩ (fun b z => ⟨rfl, rfl, by funext j; simp [tk2, z]⟩) (fun j _ => ?_) kk
  · cases h : tkTy ci k <;> first | rfl | (rw [h] at ht; cases ht)
  · cases h : tkTy ci k <;> first | rfl | (rw [h] at ht; cases ht)
  · by_cases e : j = k
    · subst e; rw [if_pos rfl, tkVal_ref ht]; simp [tk2, va_rf]
    · rw [if_neg e]; simp [tk2, e]
/-! arrays -/
theorem g_iald (C : tkC X cc own nm nL ret hh d MC MS) {a n : Nat} {i : Int32} {f : Nat → Int32} (hd : decode cc pc = .ok (.iaload, 1)) (hS : σ.2.1 a = (10, n)) (hI : I a = f) (hin : vp_in i n) (kk : tkG X Q cs ss (pc + 1) lv (.int (f i.toNatClampNeg) :: stk) σ I L) : tkG X Q cs ss pc lv (.int i :: .ref a :: stk) σ I L := by
  obtain ⟨p, l, e, R, s, m, args, below, meth, c, base, D⟩ := X
  obtain ⟨hx, hb, hml, hown, hts, hK, hE, hlocks, hr, hnm, hhh, hfr, hlo, hRc, hRs, hst⟩ := C
  intro H locs ls hSS hR hl
  subst hI
  have hcell := (hR.at hS (by decide)).2.2.2.2.1 rfl
  have hlt : i.toNatClampNeg < n := Nat.not_le.mp fun q => hin (Or.inr q)
  exact W.iald (v := .int (I a i.toNatClampNeg)) hx hb hcell ((hK.1.2 0 _ rfl).1 n _) (fun q => by cases q) (by show ¬ (i < 0 ∨ (arrV _ _ _).slots.size ≤ _); rw [arrV_size]; exact hin) (by show (arrV _ _ _).slots[_]? = _; rw [arrV_read _ _ hlt]) rfl rfl hd (kk H locs ls hSS hR hl)
theorem g_lald (C : tkC X cc own nm nL ret hh d MC MS) {a n : Nat} {i : Int32} {f : Nat → Int64} (hd : decode cc pc = .ok (.laload, 1)) (hS : σ.2.1 a = (11, n)) (hI : L a = f) (hin : vp_in i n) (kk : tkG X Q cs ss (pc + 1) lv (.long (f i.toNatClampNeg) :: stk) σ I L) : tkG X Q cs ss pc lv (.int i :: .ref a :: stk) σ I L := by
  obtain ⟨p, l, e, R, s, m, args, below, meth, c, base, D⟩ := X
  obtain ⟨hx, hb, hml, hown, hts, hK, hE, hlocks, hr, hnm, hhh, hfr, hlo, hRc, hRs, hst⟩ := C
  intro H locs ls hSS hR hl
  subst hI
  have hcell := (hR.at hS (by decide)).2.2.2.2.2.1 rfl
  have hlt : i.toNatClampNeg < n := Nat.not_le.mp fun q => hin (Or.inr q)
  exact W.lald (v := .long (L a i.toNatClampNeg)) hx hb hcell ((hK.1.2 1 _ rfl).1 n _) (fun q => by cases q) (by show ¬ (i < 0 ∨ (arrV _ _ _).slots.size ≤ _); rw [arrV_size]; exact hin) (by show (arrV _ _ _).slots[_]? = _; rw [arrV_read _ _ hlt]) rfl rfl hd (kk H locs ls hSS hR hl)
theorem g_zald (C : tkC X cc own nm nL ret hh d MC MS) {a n : Nat} {i : Int32} {f : Nat → Int32} (hd : decode cc pc = .ok (.baload, 1)) (hS : σ.2.1 a = (12, n)) (hI : I a = f) (hin : vp_in i n) (kk : (f i.toNatClampNeg = 0 ∨ f i.toNatClampNeg = 1) → tkG X Q cs ss (pc + 1) lv (.int (f i.toNatClampNeg) :: stk) σ I L) : tkG X Q cs ss pc lv (.int i :: .ref a :: stk) σ I L := by
  obtain ⟨p, l, e, R, s, m, args, below, meth, c, base, D⟩ := X
  obtain ⟨hx, hb, hml, hown, hts, hK, hE, hlocks, hr, hnm, hhh, hfr, hlo, hRc, hRs, hst⟩ := C
  intro H locs ls hSS hR hl
  subst hI
  obtain ⟨hcell, hfit⟩ := (hR.at hS (by decide)).2.2.2.2.2.2.1 rfl
  have hlt : i.toNatClampNeg < n := Nat.not_le.mp fun q => hin (Or.inr q)
  have h01 : I a i.toNatClampNeg = 0 ∨ I a i.toNatClampNeg = 1 := by
    have h5 := hfit _ hlt
    simpa [fits] using h5
  exact W.zald (v := .int (I a i.toNatClampNeg)) hx hb hcell ((hK.1.2 2 _ rfl).1 n _) (fun q => by cases q) (by show ¬ (i < 0 ∨ (arrV _ _ _).slots.size ≤ _); rw [arrV_size]; exact hin) (by show (arrV _ _ _).slots[_]? = _; rw [arrV_read _ _ hlt]) rfl rfl hd (kk h01 H locs ls hSS hR hl)
theorem g_aald (C : tkC X cc own nm nL ret hh d MC MS) {a n : Nat} {i : Int32} {r : Option Nat} (hd : decode cc pc = .ok (.aaload, 1)) (hS : σ.2.1 a = (14, n)) (hin : vp_in i n) (hr : σ.2.2 a i.toNatClampNeg = r) (kk : tkG X Q cs ss (pc + 1) lv (va_rf r :: stk) σ I L) : tkG X Q cs ss pc lv (.int i :: .ref a :: stk) σ I L := by
  obtain ⟨p, l, e, R, s, m, args, below, meth, c, base, D⟩ := X
  obtain ⟨hx, hb, hml, hown, hts, hK, hE, hlocks, hrt, hnm, hhh, hfr, hlo, hRc, hRs, hst⟩ := C
  intro H locs ls hSS hR hl
  subst hr
  have hcell := (hR.at hS (by decide)).2.2.2.2.2.2.2.2 rfl
  have hlt : i.toNatClampNeg < n := Nat.not_le.mp fun q => hin (Or.inr q)
  exact W.aald (v := va_rf (σ.2.2 a i.toNatClampNeg)) (ty := .object RX1) hx hb hcell ((hK.1.2 3 _ rfl).1 n _) rfl (fun q => by cases q) (by show ¬ (i < 0 ∨ (arrV _ _ _).slots.size ≤ _); rw [arrV_size]; exact hin) (by show (arrV _ _ _).slots[_]? = _; rw [arrV_read _ _ hlt]) rfl rfl hd (kk H locs ls hSS hR hl)
theorem g_iast (C : tkC X cc own nm nL ret hh d MC MS) {a n : Nat} {i x : Int32} {I1 : tkI} (hd : decode cc pc = .ok (.iastore, 1)) (hS : σ.2.1 a = (10, n)) (hI : tk2 I a i.toNatClampNeg x = I1) (hin : vp_in i n) (kk : tkG X Q cs ss (pc + 1) lv stk σ I1 L) : tkG X Q cs ss pc lv (.int x :: .int i :: .ref a :: stk) σ I L := by
  obtain ⟨p, l, e, R, s, m, args, below, meth, c, base, D⟩ := X
  obtain ⟨hx, hb, hml, hown, hts, hK, hE, hlocks, hr, hnm, hhh, hfr, hlo, hRc, hRs, hst⟩ := C
  intro H locs ls hSS hR hl
  subst hI
  obtain ⟨hba, -, -, hc⟩ := hR.at hS (by decide)
  have hcell := hc.2.1 rfl
  refine W.iast hx hb hcell ((hK.1.2 0 _ rfl).1 n _) (fun q => by cases q) (by show ¬ (i < 0 ∨ (arrV _ _ _).slots.size ≤ _); rw [arrV_size]; exact hin) rfl rfl hd fun H1 e1 z oq => ?_
  refine kk H1 _ ls (hSS.put z oq hba) (hR.put hba z oq rfl rfl (fun b q => by funext j; simp [tk2, q]) (fun _ _ => rfl) (fun _ _ => rfl) fun _ => ?_) hl
  rw [hS]
  refine ⟨fun q => absurd (show 10 < 7 from q) (by decide), fun _ => ?_, fun q => absurd (show 10 = 11 from q) (by decide), fun q => absurd (show 10 = 12 from q) (by decide), fun q => absurd (show 10 = 13 from q) (by decide), fun q => absurd (show 10 = 14 from q) (by decide)⟩
  rw [e1, arrV_store]
  congr 2
  funext j
  by_cases hq : j = i.toNatClampNeg
  · simp [updV, tk2, hq]
  · simp [updV, tk2, hq]
theorem g_last (C : tkC X cc own nm nL ret hh d MC MS) {a n : Nat} {i : Int32} {x : Int64} {L1 : tkL} (hd : decode cc pc = .ok (.lastore, 1)) (hS : σ.2.1 a = (11, n)) (hI : tk2 L a i.toNatClampNeg x = L1) (hin : vp_in i n) (kk : tkG X Q cs ss (pc + 1) lv stk σ I L1) : tkG X Q cs ss pc lv (.long x :: .int i :: .ref a :: stk) σ I L := by
  obtain ⟨p, l, e, R, s, m, args, below, meth, c, base, D⟩ := X
  obtain ⟨hx, hb, hml, hown, hts, hK, hE, hlocks, hr, hnm, hhh, hfr, hlo, hRc, hRs, hst⟩ := C
  intro H locs ls hSS hR hl
  subst hI
  obtain ⟨hba, -, -, hc⟩ := hR.at hS (by decide)
  have hcell := hc.2.2.1 rfl
  refine W.last hx hb hcell ((hK.1.2 1 _ rfl).1 n _) (fun q => by cases q) (by show ¬ (i < 0 ∨ (arrV _ _ _).slots.size ≤ _); rw [arrV_size]; exact hin) rfl rfl hd fun H1 e1 z oq => ?_
  refine kk H1 _ ls (hSS.put z oq hba) (hR.put hba z oq rfl rfl (fun _ _ => rfl) (fun b q => by funext j; simp [tk2, q]) (fun _ _ => rfl) fun _ => ?_) hl
  rw [hS]
  refine ⟨fun q => absurd (show 11 < 7 from q) (by decide), fun q => absurd (show 11 = 10 from q) (by decide), fun _ => ?_, fun q => absurd (show 11 = 12 from q) (by decide), fun q => absurd (show 11 = 13 from q) (by decide), fun q => absurd (show 11 = 14 from q) (by decide)⟩
  rw [e1, arrV_store]
  congr 2
  funext j
  by_cases hq : j = i.toNatClampNeg
  · simp [updV, tk2, hq]
  · simp [updV, tk2, hq]
theorem g_zast (C : tkC X cc own nm nL ret hh d MC MS) {a n : Nat} {i x : Int32} {I1 : tkI} (hd : decode cc pc = .ok (.bastore, 1)) (hS : σ.2.1 a = (12, n)) (hI : tk2 I a i.toNatClampNeg x = I1) (hin : vp_in i n) (h01 : x = 0 ∨ x = 1) (kk : tkG X Q cs ss (pc + 1) lv stk σ I1 L) : tkG X Q cs ss pc lv (.int x :: .int i :: .ref a :: stk) σ I L := by
  obtain ⟨p, l, e, R, s, m, args, below, meth, c, base, D⟩ := X
  obtain ⟨hx, hb, hml, hown, hts, hK, hE, hlocks, hr, hnm, hhh, hfr, hlo, hRc, hRs, hst⟩ := C
  intro H locs ls hSS hR hl
  subst hI
  obtain ⟨hba, -, -, hc⟩ := hR.at hS (by decide)
  obtain ⟨hcell, hfit⟩ := hc.2.2.2.1 rfl
  have hnar : narrow .boolean (.int x) = .int x := by rcases h01 with rfl | rfl <;> rfl
  refine W.zast hx hb hcell ((hK.1.2 2 _ rfl).1 n _) (fun q => by cases q) (by show ¬ (i < 0 ∨ (arrV _ _ _).slots.size ≤ _); rw [arrV_size]; exact hin) rfl rfl hd fun H1 e1 z oq => ?_
  refine kk H1 _ ls (hSS.put z oq hba) (hR.put hba z oq rfl rfl (fun b q => by funext j; simp [tk2, q]) (fun _ _ => rfl) (fun _ _ => rfl) fun _ => ?_) hl
  rw [hS]
  refine ⟨fun q => absurd (show 12 < 7 from q) (by decide), fun q => absurd (show 12 = 10 from q) (by decide), fun q => absurd (show 12 = 11 from q) (by decide), fun _ => ⟨?_, fun j hj => ?_⟩, fun q => absurd (show 12 = 13 from q) (by decide), fun q => absurd (show 12 = 14 from q) (by decide)⟩
  · rw [e1, hnar, arrV_store]
    congr 2
    funext j
    by_cases hq : j = i.toNatClampNeg
    · simp [updV, tk2, hq]
    · simp [updV, tk2, hq]
  · by_cases hq : j = i.toNatClampNeg
    · simp only [tk2, hq]
      rcases h01 with rfl | rfl <;> rfl
    · simp only [tk2, hq, and_false, if_false]
      exact hfit j hj
/-- a plant into the row of depots -/
theorem g_aast (C : tkC X cc own nm nL ret hh d MC MS) {a n v nv : Nat} {i : Int32} {r1 : Nat → Nat → Option Nat} (hd : decode cc pc = .ok (.aastore, 1)) (hS : σ.2.1 a = (14, n)) (hv : σ.2.1 v = (1, nv)) (hI : tk2 σ.2.2 a i.toNatClampNeg (some v) = r1) (hin : vp_in i n) (kk : tkG X Q cs ss (pc + 1) lv stk (σ.1, σ.2.1, r1) I L) : tkG X Q cs ss pc lv (.ref v :: .int i :: .ref a :: stk) σ I L := by
  obtain ⟨p, l, e, R, s, m, args, below, meth, c, base, D⟩ := X
  obtain ⟨hx, hb, hml, hown, hts, hK, hE, hlocks, hr, hnm, hhh, hfr, hlo, hRc, hRs, hst⟩ := C
  intro H locs ls hSS hR hl
  subst hI
  obtain ⟨hba, -, -, hc⟩ := hR.at hS (by decide)
  have hcell := hc.2.2.2.2.2 rfl
  obtain ⟨-, -, -, hcv⟩ := hR.at hv (by decide)
  obtain ⟨qv, hqv, cellV, g1, g2, g3, -⟩ := hcv.1 (show 1 < 7 by decide)
  have hcls := (hK.1.1 1 _ rfl).2
  obtain ⟨kA, comp, k1, k2, k3, -⟩ := (hK.1.2 3 _ rfl).2
  have hcomp : comp = D.1 1 := Option.some.inj (k3.symm.trans hcls.1)
  subst hcomp
  obtain ⟨kC, hkC, -⟩ := hcls.2
  have hlt : i.toNatClampNeg < n := Nat.not_le.mp fun q => hin (Or.inr q)
  have h0 : ¬ i < 0 := fun q => hin (Or.inl q)
  refine W.aast hx hb hcell (fun q h => by cases h) (fun h => by cases h) k1 k2 rfl hkC ⟨h0, by show _ < (arrV _ _ _).slots.size; rw [arrV_size]; exact hlt⟩ g1 (fun q h => by rw [g3] at h; cases h) (by rw [g2]; exact hkC) (by rw [g2]; exact va_assign hcls) rfl rfl hd fun H1 e1 z oq => ?_
  refine kk H1 _ ls (hSS.put z oq hba) (hR.put hba z oq rfl rfl (fun _ _ => rfl) (fun _ _ => rfl) (fun b q => by funext j; simp [tk2, q]) fun _ => ?_) hl
  rw [hS]
  refine ⟨fun q => absurd (show 14 < 7 from q) (by decide), fun q => absurd (show 14 = 10 from q) (by decide), fun q => absurd (show 14 = 11 from q) (by decide), fun q => absurd (show 14 = 12 from q) (by decide), fun q => absurd (show 14 = 13 from q) (by decide), fun _ => ?_⟩
  rw [e1, arrV_store]
  congr 2
  funext j
  by_cases hq : j = i.toNatClampNeg
  · simp [updV, tk2, hq, va_rf]
  · simp [updV, tk2, hq]
/-! new cells -/
def tkNw (σ : tkM) (sh : Nat × Nat) : tkM := (σ.1 + 1, tk1 σ.2.1 σ.1 sh, tk1 σ.2.2 σ.1 (fun _ => none))
def tkZI (σ : tkM) (I : tkI) : tkI := tk1 I σ.1 (fun _ => 0)
def tkZL (σ : tkM) (L : tkL) : tkL := tk1 L σ.1 (fun _ => 0)
theorem tkRel.new {D : va_G} {base : Nat} {σ : tkM} {I : tkI} {L : tkL} {H H1 : Heap} (h : tkRel D base σ I L H) {sh : Nat × Nat} (hz : H1.size = H.size + 1) (oq : ∀ q, q < H.size → H1[q]? = H[q]?)
    (hc : tkCell D H1 σ.1 sh (fun _ => 0) (fun _ => 0) (fun _ => none)) : tkRel D base (tkNw σ sh) (tkZI σ I) (tkZL σ L) H1 :=
  h.push hz oq (fun b e => by simp [tkZI, tk1, e]) (fun b e => by simp [tkZL, tk1, e]) (by simpa [tkZI, tkZL, tk1] using hc)
theorem va_S.grow {A : Nat → Prop} {H0 H H1 : Heap} {locs : List Loc} (h : va_S A H0 H locs) (z : H1.size = H.size + 1) (oq : ∀ q : Nat, q < H.size → H1[q]? = H[q]?) : va_S A H0 H1 locs :=
  ⟨Nat.le_trans h.1 (by omega), fun q h1 h2 => (oq q (Nat.lt_of_lt_of_le h1 h.1)).trans (h.2.1 q h1 h2), h.2.2⟩
theorem g_new (C : tkC X cc own nm nL ret hh d MC MS) {idx : Nat} (ci : Nat) (q : vw_C) (hd : decode cc pc = .ok (.new idx, 3)) (hw : Cond.classLink own idx q.1 ∈ tkAll) (hw2 : Cond.instantiable q.1 q.2.2 ∈ tkAll) (hw3 : Cond.initialized q.1 ∈ tkAll) (hc : vwCl[ci]? = some q) (h1 : cs + 1 ≤ MC) (h2 : ss + q.2.2 ≤ MS)
    (kk : tkG X Q (cs + 1) (ss + q.2.2) (pc + 3) lv (.ref σ.1 :: stk) (tkNw σ (ci, 0)) (tkZI σ I) (tkZL σ L)) : tkG X Q cs ss pc lv stk σ I L := by
  obtain ⟨p, l, e, R, s, m, args, below, meth, c, base, D⟩ := X
  obtain ⟨hx, hb, hml, hown, hts, hK, hE, hlocks, hr, hnm, hhh, hfr, hlo, hRc, hRs, hst⟩ := C
  intro H locs ls hSS hR hl
  obtain ⟨hin, hty, hnms, hdef⟩ := tk_cls ci q hc
  have hKn := hK.1.1 ci _ hc
  refine W.newcK hx hb hown (hts _ hw) (hts _ hw2) (hts _ hw3) rfl hd (by rw [hRc]; exact h1) (by rw [hRs]; exact h2) hKn.2.1 hR.1 fun H1 kC hkC e1 z1 o1 => ?_
  rw [← hR.1] at z1 o1
  refine kk H1 locs ls (hSS.grow z1 o1) (hR.new z1 o1 ?_) hl
  have h7 := tk_lt7 hc
  refine ⟨fun _ => ⟨q, hc, (u_born (tkTy ci) hts hin hKn hkC e1 hty).to hdef⟩, fun z => ?_, fun z => ?_, fun z => ?_, fun z => ?_, fun z => ?_⟩ <;> (exfalso; dsimp only at z; omega)
theorem g_newa_i (C : tkC X cc own nm nL ret hh d MC MS) {n : Int32} (N : Nat) (hd : decode cc pc = .ok (.newarray .int, 2)) (hw : Cond.arrayClass .int ∈ tkAll) (hn : ¬ n < 0) (hN : n.toNatClampNeg = N) (hby : N * componentBytes .int ≤ 536870912) (h1 : cs + 1 ≤ MC) (h2 : ss + N ≤ MS)
    (kk : tkG X Q (cs + 1) (ss + N) (pc + 2) lv (.ref σ.1 :: stk) (tkNw σ (10, N)) (tkZI σ I) (tkZL σ L)) : tkG X Q cs ss pc lv (.int n :: stk) σ I L := by
  obtain ⟨p, l, e, R, s, m, args, below, meth, c, base, D⟩ := X
  obtain ⟨hx, hb, hml, hown, hts, hK, hE, hlocks, hr, hnm, hhh, hfr, hlo, hRc, hRs, hst⟩ := C
  intro H locs ls hSS hR hl
  refine va_newaK (atype := .int) hx hb (hts _ hw) rfl hd rfl hn hN hby (by rw [hRc]; exact h1) (by rw [hRs]; exact h2) hR.1 fun H1 cA e1 z1 o1 hAr hNm => ?_
  rw [← hR.1] at z1 o1
  have hcA : D.1 10 = cA := Option.some.inj ((hK.1.2 0 _ rfl).2.symm.trans hNm)
  refine kk H1 locs ls (hSS.grow z1 o1) (hR.new z1 o1 ?_) hl
  have e2 : H1[σ.1]? = some (arrV (D.1 10) N (fun _ => defaultValue .int)) := by rw [hcA]; exact e1
  exact ⟨fun q => absurd (show 10 < 7 from q) (by decide), fun _ => e2, fun q => absurd (show 10 = 11 from q) (by decide), fun q => absurd (show 10 = 12 from q) (by decide), fun q => absurd (show 10 = 13 from q) (by decide), fun q => absurd (show 10 = 14 from q) (by decide)⟩
theorem g_newa_l (C : tkC X cc own nm nL ret hh d MC MS) {n : Int32} (N : Nat) (hd : decode cc pc = .ok (.newarray .long, 2)) (hw : Cond.arrayClass .long ∈ tkAll) (hn : ¬ n < 0) (hN : n.toNatClampNeg = N) (hby : N * componentBytes .long ≤ 536870912) (h1 : cs + 1 ≤ MC) (h2 : ss + N ≤ MS)
    (kk : tkG X Q (cs + 1) (ss + N) (pc + 2) lv (.ref σ.1 :: stk) (tkNw σ (11, N)) (tkZI σ I) (tkZL σ L)) : tkG X Q cs ss pc lv (.int n :: stk) σ I L := by
  obtain ⟨p, l, e, R, s, m, args, below, meth, c, base, D⟩ := X
  obtain ⟨hx, hb, hml, hown, hts, hK, hE, hlocks, hr, hnm, hhh, hfr, hlo, hRc, hRs, hst⟩ := C
  intro H locs ls hSS hR hl
  refine va_newaK (atype := .long) hx hb (hts _ hw) rfl hd rfl hn hN hby (by rw [hRc]; exact h1) (by rw [hRs]; exact h2) hR.1 fun H1 cA e1 z1 o1 hAr hNm => ?_
  rw [← hR.1] at z1 o1
  have hcA : D.1 11 = cA := Option.some.inj ((hK.1.2 1 _ rfl).2.symm.trans hNm)
  refine kk H1 locs ls (hSS.grow z1 o1) (hR.new z1 o1 ?_) hl
  have e2 : H1[σ.1]? = some (arrV (D.1 11) N (fun _ => defaultValue .long)) := by rw [hcA]; exact e1
  exact ⟨fun q => absurd (show 11 < 7 from q) (by decide), fun q => absurd (show 11 = 10 from q) (by decide), fun _ => e2, fun q => absurd (show 11 = 12 from q) (by decide), fun q => absurd (show 11 = 13 from q) (by decide), fun q => absurd (show 11 = 14 from q) (by decide)⟩
theorem g_newa_z (C : tkC X cc own nm nL ret hh d MC MS) {n : Int32} (N : Nat) (hd : decode cc pc = .ok (.newarray .boolean, 2)) (hw : Cond.arrayClass .boolean ∈ tkAll) (hn : ¬ n < 0) (hN : n.toNatClampNeg = N) (hby : N * componentBytes .boolean ≤ 536870912) (h1 : cs + 1 ≤ MC) (h2 : ss + N ≤ MS)
    (kk : tkG X Q (cs + 1) (ss + N) (pc + 2) lv (.ref σ.1 :: stk) (tkNw σ (12, N)) (tkZI σ I) (tkZL σ L)) : tkG X Q cs ss pc lv (.int n :: stk) σ I L := by
  obtain ⟨p, l, e, R, s, m, args, below, meth, c, base, D⟩ := X
  obtain ⟨hx, hb, hml, hown, hts, hK, hE, hlocks, hr, hnm, hhh, hfr, hlo, hRc, hRs, hst⟩ := C
  intro H locs ls hSS hR hl
  refine va_newaK (atype := .boolean) hx hb (hts _ hw) rfl hd rfl hn hN hby (by rw [hRc]; exact h1) (by rw [hRs]; exact h2) hR.1 fun H1 cA e1 z1 o1 hAr hNm => ?_
  rw [← hR.1] at z1 o1
  have hcA : D.1 12 = cA := Option.some.inj ((hK.1.2 2 _ rfl).2.symm.trans hNm)
  refine kk H1 locs ls (hSS.grow z1 o1) (hR.new z1 o1 ?_) hl
  have e2 : H1[σ.1]? = some (arrV (D.1 12) N (fun _ => defaultValue .boolean)) := by rw [hcA]; exact e1
  exact ⟨fun q => absurd (show 12 < 7 from q) (by decide), fun q => absurd (show 12 = 10 from q) (by decide), fun q => absurd (show 12 = 11 from q) (by decide), fun _ => ⟨e2, fun j _ => rfl⟩, fun q => absurd (show 12 = 13 from q) (by decide), fun q => absurd (show 12 = 14 from q) (by decide)⟩
theorem g_anewa (C : tkC X cc own nm nL ret hh d MC MS) {idx : Nat} {n : Int32} (N : Nat) (hd : decode cc pc = .ok (.anewarray idx, 3)) (hw : Cond.classLink own idx RX1 ∈ tkAll) (hn : ¬ n < 0) (hN : n.toNatClampNeg = N) (hby : N * 4 ≤ 536870912) (h1 : cs + 1 ≤ MC) (h2 : ss + N ≤ MS)
    (kk : tkG X Q (cs + 1) (ss + N) (pc + 3) lv (.ref σ.1 :: stk) (tkNw σ (14, N)) (tkZI σ I) (tkZL σ L)) : tkG X Q cs ss pc lv (.int n :: stk) σ I L := by
  obtain ⟨p, l, e, R, s, m, args, below, meth, c, base, D⟩ := X
  obtain ⟨hx, hb, hml, hown, hts, hK, hE, hlocks, hr, hnm, hhh, hfr, hlo, hRc, hRs, hst⟩ := C
  intro H locs ls hSS hR hl
  subst hN
  refine W.anew hx hb hown (hts _ hw) (va_AO.use hK.2.1) rfl hd rfl hn hby (by rw [hRc]; exact h1) (by rw [hRs]; exact h2) fun cA kA comp f1 f2 f3 f4 => ?_
  generalize hH1 : H.push ({ cls := cA, slots := Array.replicate n.toNatClampNeg .null, vm := .none } : Cell) = H1
  have z1 : H1.size = H.size + 1 := by rw [← hH1, Array.size_push]
  have e1 : H1[H.size]? = some (arrV cA n.toNatClampNeg (fun _ => .null)) := by rw [← hH1, Array.getElem?_push_size, ← arrV_new]
  have o1 : ∀ q : Nat, q < H.size → H1[q]? = H[q]? := fun q hq => by rw [← hH1, Array.getElem?_push, if_neg (Nat.ne_of_lt hq)]
  obtain ⟨kA', comp', -, -, -, g4⟩ := (hK.1.2 3 _ rfl).2
  have hcA : D.1 14 = cA := Option.some.inj (g4.symm.trans f1)
  rw [show (Value.ref H.size) = Value.ref σ.1 by rw [hR.1]]
  refine kk H1 locs ls (hSS.grow z1 o1) (hR.new z1 o1 ?_) hl
  have e2 : H1[σ.1]? = some (arrV (D.1 14) n.toNatClampNeg (fun _ => .null)) := by rw [hcA, ← hR.1]; exact e1
  exact ⟨fun q => absurd (show 14 < 7 from q) (by decide), fun q => absurd (show 14 = 10 from q) (by decide), fun q => absurd (show 14 = 11 from q) (by decide), fun q => absurd (show 14 = 12 from q) (by decide), fun q => absurd (show 14 = 13 from q) (by decide), fun _ => e2⟩
theorem g_objInit (C : tkC X cc own nm nL ret hh d MC MS) {idx a : Nat} (hd : decode cc pc = .ok (.invokespecial idx, 3)) (hw : Cond.methodLink own idx objectInit ∈ tkAll) (hw2 : Cond.instanceMethod objectInit ∈ tkAll) (hw3 : Cond.code objectInit ⟨#[0xb1]⟩ 1 none ∈ tkAll) (hd1 : 1 ≤ d) (hst : (stk.map fun v => v.category).sum ≤ 8) (kk : tkG X Q cs ss (pc + 3) lv stk σ I L) : tkG X Q cs ss pc lv (.ref a :: stk) σ I L := by
  obtain ⟨p, l, e, R, s, m, args, below, meth, c, base, D⟩ := X
  obtain ⟨hx, hb, hml, hown, hts, hK, hE, hlocks, hr, hnm, hhh, hfr, hlo, hRc, hRs, hst9⟩ := C
  intro H locs ls hSS hR hl
  exact W.objInit hx hb hown (hts _ hw) (hts _ hw2) (hts _ hw3) rfl hl.1 rfl hd (by omega) (by show 2 * 0 + _ + 12 ≤ _; omega) (kk H locs ls hSS hR hl)
end TKMEM
end
section
section TKCALL
variable {X : tkX} {Q : State → Prop} {cc : ByteArray} {own nm : String} {nL d MC MS cs ss pc : Nat} {ret : Option FieldType} {hh : List (Nat × Nat × Nat × Nat)} {lv : List (Option Value)} {stk : List Value} {σ : tkM} {I : tkI} {L : tkL}
theorem tk_nn {z : Int32} (hz : ¬ z < 0) : z.toInt = (z.toNatClampNeg : Int) := by
  have hz0 : (0 : Int) ≤ z.toInt := by
    have := Int32.not_lt.mp hz
    simpa using Int32.le_iff_toInt_le.mp this
  show z.toInt = ((z.toInt.toNat : Nat) : Int)
  omega
/-! System.arraycopy -/
theorem g_copy_i (C : tkC X cc own nm nL ret hh d MC MS) {idx a a0 ns nd : Nat} {sp dp n : Int32} {I1 : tkI} (hd : decode cc pc = .ok (.invokestatic idx, 3)) (hw1 : Cond.methodLink own idx arraycopyName ∈ tkAll) (hw2 : Cond.native arraycopyName ∈ tkAll) (hw3 : Cond.static arraycopyName ∈ tkAll) (hw4 : Cond.initialized "java/lang/System" ∈ tkAll)
    (hs0 : σ.2.1 a0 = (10, ns)) (hs1 : σ.2.1 a = (10, nd)) (hI : tk1 I a (va_cpy (I a0) (I a) sp.toNatClampNeg dp.toNatClampNeg n.toNatClampNeg) = I1) (h1 : ¬ sp < 0) (h2 : ¬ dp < 0) (h3 : ¬ n < 0) (h4 : sp.toNatClampNeg + n.toNatClampNeg ≤ ns) (h5 : dp.toNatClampNeg + n.toNatClampNeg ≤ nd)
    (hd2 : 2 ≤ d) (hstk : (stk.map fun v => v.category).sum ≤ 8) (kk : tkG X Q cs ss (pc + 3) lv stk σ I1 L) : tkG X Q cs ss pc lv (.int n :: .int dp :: .ref a :: .int sp :: .ref a0 :: stk) σ I L := by
  obtain ⟨p, l, e, R, s, m, args, below, meth, c, base, D⟩ := X
  obtain ⟨hx, hb, hml, hown, hts, hK, hE, hlocks, hr, hnm, hhh, hfr, hlo, hRc, hRs, hst⟩ := C
  intro H locs ls hSS hR hl T hT X
  subst hI
  obtain ⟨-, -, -, hcs⟩ := hR.at hs0 (by decide)
  obtain ⟨hba, hla, hlz, hcd⟩ := hR.at hs1 (by decide)
  have hc0 : H[a0]? = some (arrV (D.1 10) ns (fun j => .int (I a0 j))) := hcs.2.1 rfl
  have hc1 : H[a]? = some (arrV (D.1 10) nd (fun j => .int (I a j))) := hcd.2.1 rfl
  obtain ⟨-, k0, hk0, cm0, hkk0⟩ := (hK.1.2 0 _ rfl).1 ns (fun j => .int (I a0 j))
  obtain ⟨-, k1, hk1, cm1, hkk1⟩ := (hK.1.2 0 _ rfl).1 nd (fun j => .int (I a j))
  obtain ⟨vm', X', step⟩ := X.arraycopy hx hown (hts _ hw1) (hts _ hw2) (hts _ hw3) (hts _ hw4) (src := a0) (dst := a) (cs := arrV (D.1 10) ns (fun j => .int (I a0 j))) (cd := arrV (D.1 10) nd (fun j => .int (I a j))) (srcPos := sp) (destPos := dp) (n := n) (by rw [hT]; exact hc0) (by rw [hT]; exact hc1)
    (fun _ h => by cases h) (fun _ h => by cases h) (fun h => by cases h) (fun h => by cases h) hk0 hk1 hkk0 hkk1 (by simp [refKind]) h1 h2 h3
    (by rw [tk_nn h1, tk_nn h3, arrV_size]; omega) (by rw [tk_nn h2, tk_nn h3, arrV_size]; omega)
    (fun vm₁ _ i hi => by
      have e9 : (arrV (D.1 10) ns (fun j => .int (I a0 j))).slots.getD (sp.toNatClampNeg + i) .null = .int (I a0 (sp.toNatClampNeg + i)) := by
        rw [Array.getD_eq_getD_getElem?, arrV_read _ _ (by omega)]
        rfl
      refine ⟨?_, ?_⟩
      · rw [e9]
        exact rfl
      · rw [e9]
        exact trivial)
    (g := F0 m pc ls (.int n :: .int dp :: .ref a :: .int sp :: .ref a0 :: stk)) rfl (by exact hl.1) (rest := stk) rfl (by rw [hb]; exact hd) (by omega) (by
      have e8 : nativeFrameWords "java/lang/System" "arraycopy" 5 + 11 ≤ 60 := by decide
      show 2 * 0 + _ + _ ≤ _
      omega)
  have e1 : copied (arrV (D.1 10) ns (fun j => .int (I a0 j))) (arrV (D.1 10) nd (fun j => .int (I a j))) sp dp n = arrV (D.1 10) nd (fun j => .int (va_cpy (I a0) (I a) sp.toNatClampNeg dp.toNatClampNeg n.toNatClampNeg j)) := va_copied (fun z => .int z) _ _ (I a0) (I a) h4
  rw [e1] at X' step
  generalize hN : arrV (D.1 10) nd (fun j => .int (va_cpy (I a0) (I a) sp.toNatClampNeg dp.toNatClampNeg n.toNatClampNeg j)) = N at X' step
  have hheap : ((T.setVm vm').setCell a N).heap = H.setIfInBounds a N := by rw [← hT]; rfl
  have oq : ∀ q : Nat, q ≠ a → (H.setIfInBounds a N)[q]? = H[q]? := fun q hq => by simp [Array.getElem?_setIfInBounds, Ne.symm hq]
  have hz : (H.setIfInBounds a N).size = H.size := by simp
  have e2 : (H.setIfInBounds a N)[a]? = some (arrV (D.1 10) nd (fun j => .int (tk1 I a (va_cpy (I a0) (I a) sp.toNatClampNeg dp.toNatClampNeg n.toNatClampNeg) a j))) := by
    simp only [tk1, if_true, hN]
    simp [Array.getElem?_setIfInBounds, hlz]
  obtain ⟨t, a1, b1⟩ := kk (H.setIfInBounds a N) _ ls ⟨by rw [hz]; exact hSS.1, fun q g1 g2 => by
      rw [oq q (fun e => g2 (by rw [e]; exact hba))]
      exact hSS.2.1 q g1 g2, fun q hq => by
      rcases List.mem_append.mp hq with h | h
      · exact hSS.2.2 q h
      · obtain ⟨z, -, hz9⟩ := List.mem_map.mp h
        rw [← hz9]
        exact hba⟩ (hR.put hba hz oq rfl rfl (fun b q => by simp [tk1, q]) (fun _ _ => rfl) (fun _ _ => rfl) (fun _ => by
      rw [hs1]
      exact ⟨fun q => absurd (show 10 < 7 from q) (by decide), fun _ => e2, fun q => absurd (show 10 = 11 from q) (by decide), fun q => absurd (show 10 = 12 from q) (by decide), fun q => absurd (show 10 = 13 from q) (by decide), fun q => absurd (show 10 = 14 from q) (by decide)⟩)) hl _ hheap X'
  exact ⟨t, step t a1, b1⟩
theorem g_copy_z (C : tkC X cc own nm nL ret hh d MC MS) {idx a a0 ns nd : Nat} {sp dp n : Int32} {I1 : tkI} (hd : decode cc pc = .ok (.invokestatic idx, 3)) (hw1 : Cond.methodLink own idx arraycopyName ∈ tkAll) (hw2 : Cond.native arraycopyName ∈ tkAll) (hw3 : Cond.static arraycopyName ∈ tkAll) (hw4 : Cond.initialized "java/lang/System" ∈ tkAll)
    (hs0 : σ.2.1 a0 = (12, ns)) (hs1 : σ.2.1 a = (12, nd)) (hI : tk1 I a (va_cpy (I a0) (I a) sp.toNatClampNeg dp.toNatClampNeg n.toNatClampNeg) = I1) (h1 : ¬ sp < 0) (h2 : ¬ dp < 0) (h3 : ¬ n < 0) (h4 : sp.toNatClampNeg + n.toNatClampNeg ≤ ns) (h5 : dp.toNatClampNeg + n.toNatClampNeg ≤ nd)
    (hd2 : 2 ≤ d) (hstk : (stk.map fun v => v.category).sum ≤ 8) (kk : tkG X Q cs ss (pc + 3) lv stk σ I1 L) : tkG X Q cs ss pc lv (.int n :: .int dp :: .ref a :: .int sp :: .ref a0 :: stk) σ I L := by
  obtain ⟨p, l, e, R, s, m, args, below, meth, c, base, D⟩ := X
  obtain ⟨hx, hb, hml, hown, hts, hK, hE, hlocks, hr, hnm, hhh, hfr, hlo, hRc, hRs, hst⟩ := C
  intro H locs ls hSS hR hl T hT X
  subst hI
  obtain ⟨-, -, -, hcs⟩ := hR.at hs0 (by decide)
  obtain ⟨hba, hla, hlz, hcd⟩ := hR.at hs1 (by decide)
  have hc0 : H[a0]? = some (arrV (D.1 12) ns (fun j => .int (I a0 j))) := (hcs.2.2.2.1 rfl).1
  have hc1 : H[a]? = some (arrV (D.1 12) nd (fun j => .int (I a j))) := (hcd.2.2.2.1 rfl).1
  obtain ⟨-, k0, hk0, cm0, hkk0⟩ := (hK.1.2 2 _ rfl).1 ns (fun j => .int (I a0 j))
  obtain ⟨-, k1, hk1, cm1, hkk1⟩ := (hK.1.2 2 _ rfl).1 nd (fun j => .int (I a j))
  obtain ⟨vm', X', step⟩ := X.arraycopy hx hown (hts _ hw1) (hts _ hw2) (hts _ hw3) (hts _ hw4) (src := a0) (dst := a) (cs := arrV (D.1 12) ns (fun j => .int (I a0 j))) (cd := arrV (D.1 12) nd (fun j => .int (I a j))) (srcPos := sp) (destPos := dp) (n := n) (by rw [hT]; exact hc0) (by rw [hT]; exact hc1)
    (fun _ h => by cases h) (fun _ h => by cases h) (fun h => by cases h) (fun h => by cases h) hk0 hk1 hkk0 hkk1 (by simp [refKind]) h1 h2 h3
    (by rw [tk_nn h1, tk_nn h3, arrV_size]; omega) (by rw [tk_nn h2, tk_nn h3, arrV_size]; omega)
    (fun vm₁ _ i hi => by
      have e9 : (arrV (D.1 12) ns (fun j => .int (I a0 j))).slots.getD (sp.toNatClampNeg + i) .null = .int (I a0 (sp.toNatClampNeg + i)) := by
        rw [Array.getD_eq_getD_getElem?, arrV_read _ _ (by omega)]
        rfl
      refine ⟨?_, ?_⟩
      · rw [e9]
        exact by exact (hcs.2.2.2.1 rfl).2 _ (by show _ < ns; omega)
      · rw [e9]
        exact trivial)
    (g := F0 m pc ls (.int n :: .int dp :: .ref a :: .int sp :: .ref a0 :: stk)) rfl (by exact hl.1) (rest := stk) rfl (by rw [hb]; exact hd) (by omega) (by
      have e8 : nativeFrameWords "java/lang/System" "arraycopy" 5 + 11 ≤ 60 := by decide
      show 2 * 0 + _ + _ ≤ _
      omega)
  have e1 : copied (arrV (D.1 12) ns (fun j => .int (I a0 j))) (arrV (D.1 12) nd (fun j => .int (I a j))) sp dp n = arrV (D.1 12) nd (fun j => .int (va_cpy (I a0) (I a) sp.toNatClampNeg dp.toNatClampNeg n.toNatClampNeg j)) := va_copied (fun z => .int z) _ _ (I a0) (I a) h4
  rw [e1] at X' step
  generalize hN : arrV (D.1 12) nd (fun j => .int (va_cpy (I a0) (I a) sp.toNatClampNeg dp.toNatClampNeg n.toNatClampNeg j)) = N at X' step
  have hheap : ((T.setVm vm').setCell a N).heap = H.setIfInBounds a N := by rw [← hT]; rfl
  have oq : ∀ q : Nat, q ≠ a → (H.setIfInBounds a N)[q]? = H[q]? := fun q hq => by simp [Array.getElem?_setIfInBounds, Ne.symm hq]
  have hz : (H.setIfInBounds a N).size = H.size := by simp
  have e2 : (H.setIfInBounds a N)[a]? = some (arrV (D.1 12) nd (fun j => .int (tk1 I a (va_cpy (I a0) (I a) sp.toNatClampNeg dp.toNatClampNeg n.toNatClampNeg) a j))) := by
    simp only [tk1, if_true, hN]
    simp [Array.getElem?_setIfInBounds, hlz]
  have hfit2 : ∀ j, j < nd → fits .boolean (.int (tk1 I a (va_cpy (I a0) (I a) sp.toNatClampNeg dp.toNatClampNeg n.toNatClampNeg) a j)) = true := by
    intro j hj
    simp only [tk1, if_true, va_cpy]
    split
    · exact (hcs.2.2.2.1 rfl).2 _ (by show _ < ns; omega)
    · exact (hcd.2.2.2.1 rfl).2 j hj
  obtain ⟨t, a1, b1⟩ := kk (H.setIfInBounds a N) _ ls ⟨by rw [hz]; exact hSS.1, fun q g1 g2 => by
      rw [oq q (fun e => g2 (by rw [e]; exact hba))]
      exact hSS.2.1 q g1 g2, fun q hq => by
      rcases List.mem_append.mp hq with h | h
      · exact hSS.2.2 q h
      · obtain ⟨z, -, hz9⟩ := List.mem_map.mp h
        rw [← hz9]
        exact hba⟩ (hR.put hba hz oq rfl rfl (fun b q => by simp [tk1, q]) (fun _ _ => rfl) (fun _ _ => rfl) (fun _ => by
      rw [hs1]
      exact ⟨fun q => absurd (show 12 < 7 from q) (by decide), fun q => absurd (show 12 = 10 from q) (by decide), fun q => absurd (show 12 = 11 from q) (by decide), fun _ => ⟨e2, hfit2⟩, fun q => absurd (show 12 = 13 from q) (by decide), fun q => absurd (show 12 = 14 from q) (by decide)⟩)) hl _ hheap X'
  exact ⟨t, step t a1, b1⟩
theorem g_copy_l (C : tkC X cc own nm nL ret hh d MC MS) {idx a a0 ns nd : Nat} {sp dp n : Int32} {L1 : tkL} (hd : decode cc pc = .ok (.invokestatic idx, 3)) (hw1 : Cond.methodLink own idx arraycopyName ∈ tkAll) (hw2 : Cond.native arraycopyName ∈ tkAll) (hw3 : Cond.static arraycopyName ∈ tkAll) (hw4 : Cond.initialized "java/lang/System" ∈ tkAll)
    (hs0 : σ.2.1 a0 = (11, ns)) (hs1 : σ.2.1 a = (11, nd)) (hI : tk1 L a (va_cpy (L a0) (L a) sp.toNatClampNeg dp.toNatClampNeg n.toNatClampNeg) = L1) (h1 : ¬ sp < 0) (h2 : ¬ dp < 0) (h3 : ¬ n < 0) (h4 : sp.toNatClampNeg + n.toNatClampNeg ≤ ns) (h5 : dp.toNatClampNeg + n.toNatClampNeg ≤ nd)
    (hd2 : 2 ≤ d) (hstk : (stk.map fun v => v.category).sum ≤ 8) (kk : tkG X Q cs ss (pc + 3) lv stk σ I L1) : tkG X Q cs ss pc lv (.int n :: .int dp :: .ref a :: .int sp :: .ref a0 :: stk) σ I L := by
  obtain ⟨p, l, e, R, s, m, args, below, meth, c, base, D⟩ := X
  obtain ⟨hx, hb, hml, hown, hts, hK, hE, hlocks, hr, hnm, hhh, hfr, hlo, hRc, hRs, hst⟩ := C
  intro H locs ls hSS hR hl T hT X
  subst hI
  obtain ⟨-, -, -, hcs⟩ := hR.at hs0 (by decide)
  obtain ⟨hba, hla, hlz, hcd⟩ := hR.at hs1 (by decide)
  have hc0 : H[a0]? = some (arrV (D.1 11) ns (fun j => .long (L a0 j))) := hcs.2.2.1 rfl
  have hc1 : H[a]? = some (arrV (D.1 11) nd (fun j => .long (L a j))) := hcd.2.2.1 rfl
  obtain ⟨-, k0, hk0, cm0, hkk0⟩ := (hK.1.2 1 _ rfl).1 ns (fun j => .long (L a0 j))
  obtain ⟨-, k1, hk1, cm1, hkk1⟩ := (hK.1.2 1 _ rfl).1 nd (fun j => .long (L a j))
  obtain ⟨vm', X', step⟩ := X.arraycopy hx hown (hts _ hw1) (hts _ hw2) (hts _ hw3) (hts _ hw4) (src := a0) (dst := a) (cs := arrV (D.1 11) ns (fun j => .long (L a0 j))) (cd := arrV (D.1 11) nd (fun j => .long (L a j))) (srcPos := sp) (destPos := dp) (n := n) (by rw [hT]; exact hc0) (by rw [hT]; exact hc1)
    (fun _ h => by cases h) (fun _ h => by cases h) (fun h => by cases h) (fun h => by cases h) hk0 hk1 hkk0 hkk1 (by simp [refKind]) h1 h2 h3
    (by rw [tk_nn h1, tk_nn h3, arrV_size]; omega) (by rw [tk_nn h2, tk_nn h3, arrV_size]; omega)
    (fun vm₁ _ i hi => by
      have e9 : (arrV (D.1 11) ns (fun j => .long (L a0 j))).slots.getD (sp.toNatClampNeg + i) .null = .long (L a0 (sp.toNatClampNeg + i)) := by
        rw [Array.getD_eq_getD_getElem?, arrV_read _ _ (by omega)]
        rfl
      refine ⟨?_, ?_⟩
      · rw [e9]
        exact rfl
      · rw [e9]
        exact trivial)
    (g := F0 m pc ls (.int n :: .int dp :: .ref a :: .int sp :: .ref a0 :: stk)) rfl (by exact hl.1) (rest := stk) rfl (by rw [hb]; exact hd) (by omega) (by
      have e8 : nativeFrameWords "java/lang/System" "arraycopy" 5 + 11 ≤ 60 := by decide
      show 2 * 0 + _ + _ ≤ _
      omega)
  have e1 : copied (arrV (D.1 11) ns (fun j => .long (L a0 j))) (arrV (D.1 11) nd (fun j => .long (L a j))) sp dp n = arrV (D.1 11) nd (fun j => .long (va_cpy (L a0) (L a) sp.toNatClampNeg dp.toNatClampNeg n.toNatClampNeg j)) := va_copied (fun z => .long z) _ _ (L a0) (L a) h4
  rw [e1] at X' step
  generalize hN : arrV (D.1 11) nd (fun j => .long (va_cpy (L a0) (L a) sp.toNatClampNeg dp.toNatClampNeg n.toNatClampNeg j)) = N at X' step
  have hheap : ((T.setVm vm').setCell a N).heap = H.setIfInBounds a N := by rw [← hT]; rfl
  have oq : ∀ q : Nat, q ≠ a → (H.setIfInBounds a N)[q]? = H[q]? := fun q hq => by simp [Array.getElem?_setIfInBounds, Ne.symm hq]
  have hz : (H.setIfInBounds a N).size = H.size := by simp
  have e2 : (H.setIfInBounds a N)[a]? = some (arrV (D.1 11) nd (fun j => .long (tk1 L a (va_cpy (L a0) (L a) sp.toNatClampNeg dp.toNatClampNeg n.toNatClampNeg) a j))) := by
    simp only [tk1, if_true, hN]
    simp [Array.getElem?_setIfInBounds, hlz]
  obtain ⟨t, a1, b1⟩ := kk (H.setIfInBounds a N) _ ls ⟨by rw [hz]; exact hSS.1, fun q g1 g2 => by
      rw [oq q (fun e => g2 (by rw [e]; exact hba))]
      exact hSS.2.1 q g1 g2, fun q hq => by
      rcases List.mem_append.mp hq with h | h
      · exact hSS.2.2 q h
      · obtain ⟨z, -, hz9⟩ := List.mem_map.mp h
        rw [← hz9]
        exact hba⟩ (hR.put hba hz oq rfl rfl (fun _ _ => rfl) (fun b q => by simp [tk1, q]) (fun _ _ => rfl) (fun _ => by
      rw [hs1]
      exact ⟨fun q => absurd (show 11 < 7 from q) (by decide), fun q => absurd (show 11 = 10 from q) (by decide), fun _ => e2, fun q => absurd (show 11 = 12 from q) (by decide), fun q => absurd (show 11 = 13 from q) (by decide), fun q => absurd (show 11 = 14 from q) (by decide)⟩)) hl _ hheap X'
  exact ⟨t, step t a1, b1⟩
/-! a method's standing facts -/
def tkMth (y : MethodName) (cc : ByteArray) (maxL : Nat) (ret : Option FieldType) (n : Nat) : Prop :=
  Cond.code y cc maxL ret ∈ tkAll ∧ Cond.initialized y.cls ∈ tkAll ∧ maxL ≤ 18 ∧ (y.cls ≠ "java/lang/invoke/MethodHandle" ∧ y.cls ≠ "java/lang/invoke/VarHandle" ∧ (parseMethodDescriptor y.desc).map (fun d => d.parameters.length) = some n)
theorem tkMth.len {y : MethodName} {cc : ByteArray} {maxL n : Nat} {ret : Option FieldType} (h : tkMth y cc maxL ret n) : ∀ sig, parseMethodDescriptor y.desc = some sig → n = sig.parameters.length := by
  intro sig hs
  have h2 := h.2.2.2.2.2
  rw [hs] at h2
  exact (Option.some.inj h2).symm
theorem tkPc.blind {base : Nat} {D : va_G} {a : List Value} : FrameBlind (tkPc base D a σ I L) := by
  intro v U g mk h
  obtain ⟨h1, h2, h3, h4⟩ := h
  refine ⟨h1, ?_, ?_, h4⟩
  · exact ⟨va_K.moved (u := U) (U := U.calling g mk v) (Vm.Alike.refl U.vm) h2.1, va_AO.moved (u := U) (U := U.calling g mk v) (Vm.Alike.refl U.vm) h2.2.1, fun q hq => (h2.2.2.1 q hq).imp fun _ z => vk_R.same (u := U) (U := U.calling g mk v) rfl z, fun q hq => va_Nc.moved (u := U) (U := U.calling g mk v) (Vm.Alike.refl U.vm) (h2.2.2.2 q hq)⟩
  · exact ⟨vx_Zq.moved (u := U) (U := U.calling g mk v) (Vm.Alike.refl U.vm) h3.1, vx_Zq.moved (u := U) (U := U.calling g mk v) (Vm.Alike.refl U.vm) h3.2⟩
theorem tkPc.go {base : Nat} {D : va_G} {a : List Value} {s : State} {H : Heap} {locs : List Loc} (hK : tkK D s) (hE : tkE base s s.heap) (hS : va_S (fun q => base ≤ q) s.heap H locs) (hR : tkRel D base σ I L H) : ∀ U : State, U.heap = H → s.WarmedH U.vm → tkPc base D a σ I L a.toArray U := by
  intro U hU hW
  exact ⟨rfl, hK.warm hW, by rw [hU]; exact (hE.warm hW).kept hS.2.1, by rw [hU]; exact hR⟩
/-- behind any call -/
theorem tk_after {p : Program} {l : Launch} {e : Env} {R : Room} {s : State} {m : MethodId} {args : Array Value} {below : List Frame} {meth : Method} {c : Code} {base : Nat} {D : va_G} {H : Heap} {locs : List Loc} {ls : Array Slot} {mc ms : Nat} {st0 rest : List Value} {a : Array Value} {lo : Bool} {out : tkOut} {σ' : tkM} {I' : tkI} {L' : tkL}
    (hr : vx_Run p l e R s m args below meth c H locs cs ss mc ms (F0 m pc ls st0) rest (tkQc lo base D out σ' I' L' a) (tkXC base D out σ' I' L') (fun q => base ≤ q)) (hS : va_S (fun q => base ≤ q) s.heap H locs) (hl : tkLv ls c.maxLocals lv)
    (kr : ∀ v n, out = .inl v → σ'.1 ≤ n → (lo = false → n = σ'.1) → tkG (p, l, e, R, s, m, args, below, meth, c, base, D) Q (cs + mc) (ss + ms) (pc + 3) lv (v.toList ++ rest) (n, σ'.2) I' L')
    (kt : ∀ E n, out = .inr E → σ'.1 ≤ n → tkT (p, l, e, R, s, m, args, below, meth, c, base, D) Q (cs + mc) (ss + ms) pc lv rest (n, σ'.2) I' L' E) : W p l e R s m args below meth c H locs cs ss Q (F0 m pc ls st0) := by
  intro T hT X
  rcases hr T hT X with ⟨v, st₀, t, T', L9, h0, X', hL, e1, e2, ⟨⟨v', ho, hv⟩, ⟨n, hn, hn2, hR'⟩, hF⟩, st⟩ | ⟨q, st₀, t, T', L9, E, ce, h0, X', hL, e1, e2, ⟨ho, ⟨n, hn, hR'⟩, hF⟩, hce, hcv, hcl, st⟩
  · have hv2 : v' = v := by cases hv; rfl
    subst hv2
    obtain ⟨k1, k2, k3⟩ := vx_keep h0 e1 hS (fun q _ z => z) (fun q z => z) hL hF
    obtain ⟨t2, a1, b1⟩ := kr v' n ho hn hn2 T'.heap (locs ++ L9) ls k3 (by rw [e1]; exact hR') hl T' rfl X'
    exact ⟨t2, st t2 a1, b1⟩
  · obtain ⟨k1, k2, k3⟩ := vx_keep h0 e1 hS (fun q _ z => z) (fun q z => z) hL hF
    obtain ⟨t2, a1, b1⟩ := kt E n ho hn T'.heap (locs ++ L9) ls q ce k3 (by rw [e1]; exact hR') hl (by rw [e1]; exact hce) hcv hcl T' rfl X'
    exact ⟨t2, st.trans a1, b1⟩
theorem tk_room {d d' maxL : Nat} {R : Room} {mc ms : Nat} (h : d' + 1 ≤ d) (hm : maxL ≤ 18) (h1 : d ≤ R.frames) (h2 : 37 * d ≤ R.locals) : (tkRm d' mc ms).frames + 1 ≤ R.frames ∧ 8 + (maxL + 11) + (tkRm d' mc ms).locals ≤ R.locals := by
  constructor
  · show d' + 1 ≤ R.frames; omega
  · show 8 + (maxL + 11) + 37 * d' ≤ R.locals; omega
variable {lo : Bool} {idx d' mc ms maxL : Nat} {y : MethodName} {bytes : ByteArray} {ret' : Option FieldType} {As rest : List Value} {out : tkOut} {σ' : tkM} {I' : tkI} {L' : tkL} {b : Nat}
/-- what a callee's words ask -/
theorem tk_words {s : State} {args : Array Value} {w : Cond} (hts : ∀ w ∈ tkAll, w.before args s = true) (hw : w ∈ tkAll) : ∀ z ∈ w :: tkAll, ∀ (a' : Array Value) (U : State), s.WarmedH U.vm → z.before a' U = true := by
  intro z hz a' U hW
  have hz' : z ∈ tkAll := by rcases List.mem_cons.mp hz with rfl | h; exact hw; exact h
  exact tk_rides hW hts z hz'
theorem g_callV (C : tkC X cc own nm nL ret hh d MC MS) {nb ci : Nat} {q : vw_C} (hd : decode cc pc = .ok (.invokevirtual idx, 3)) (hM : tkMth y bytes maxL ret' As.length) (hl1 : Cond.methodLink own idx y ∈ tkAll) (hl2 : Cond.instanceMethod y ∈ tkAll) (hl3 : Cond.selects y.cls y y ∈ tkAll) (hcon : tkCon lo (.code y bytes maxL ret') y d' (.ref b :: As) σ I L mc ms out σ' I' L')
    (hstk : stk = As.reverse ++ .ref b :: rest) (hS : σ.2.1 b = (ci, nb)) (hc : vwCl[ci]? = some q) (hq : q.1 = y.cls) (hroom : d' + 1 ≤ d ∧ cs + mc ≤ MC ∧ ss + ms ≤ MS ∧ (rest.map fun v => v.category).sum ≤ 8)
    (kr : ∀ v n, out = .inl v → σ'.1 ≤ n → (lo = false → n = σ'.1) → tkG X Q (cs + mc) (ss + ms) (pc + 3) lv (v.toList ++ rest) (n, σ'.2) I' L')
    (kt : ∀ E n, out = .inr E → σ'.1 ≤ n → tkT X Q (cs + mc) (ss + ms) pc lv rest (n, σ'.2) I' L' E) : tkG X Q cs ss pc lv stk σ I L := by
  obtain ⟨p, l, e, R, s, m, args, below, meth, c, base, D⟩ := X
  obtain ⟨hx, hb, hml, hown, hts, hK, hE, hlocks, hr, hnm, hhh, hfr, hlo, hRc, hRs, hst⟩ := C
  intro H locs ls hSS hR hl
  obtain ⟨h1, h2, h3, h4⟩ := hroom
  obtain ⟨-, -, -, hcell⟩ := hR.at hS (tk_ne99 hc)
  obtain ⟨q', hq1, cell, q1, q2, q3, q4⟩ := hcell.1 (tk_lt7 hc)
  have hR2 := tk_room (mc := mc) (ms := ms) h1 hM.2.2.1 hfr hlo
  exact tk_after (vx_runV (C := y.cls) (b := b) (As := As) (rest := rest) (nL := nL) (n := As.length) (bytes := bytes) (maxL := maxL) (ret := ret') (rm := tkRm d' mc ms) ⟨hx, hb, hml, hown, hts⟩ (hcon l hst base D)
    ⟨⟨rfl, rfl, hR2.1, hR2.2, tk_words hts hM.1, List.mem_cons_self, hts _ hM.1, hts _ hM.2.1, ⟨hM.2.2.2.1, hM.2.2.2.2.1⟩, hM.len, hts _ hl1⟩, hts _ hl2, hts _ hl3⟩
    ⟨tkPc.blind, ⟨cell, q1, by rw [q3]; rfl, by rw [q2, ← hq]; exact (hK.1.1 ci _ hc).2.1⟩, tkPc.go hK hE hSS hR⟩ rfl rfl (by rw [← hml]; exact hl.1) hstk (lv_room h4) hd ⟨by rw [hRc]; exact h2, by rw [hRs]; exact h3⟩) hSS hl kr kt
theorem g_callS (C : tkC X cc own nm nL ret hh d MC MS) (hd : decode cc pc = .ok (.invokestatic idx, 3)) (hM : tkMth y bytes maxL ret' As.length) (hl1 : Cond.methodLink own idx y ∈ tkAll) (hl2 : Cond.static y ∈ tkAll) (hcon : tkCon lo (.code y bytes maxL ret') y d' As σ I L mc ms out σ' I' L')
    (hstk : stk = As.reverse ++ rest) (hroom : d' + 1 ≤ d ∧ cs + mc ≤ MC ∧ ss + ms ≤ MS ∧ (rest.map fun v => v.category).sum ≤ 8)
    (kr : ∀ v n, out = .inl v → σ'.1 ≤ n → (lo = false → n = σ'.1) → tkG X Q (cs + mc) (ss + ms) (pc + 3) lv (v.toList ++ rest) (n, σ'.2) I' L')
    (kt : ∀ E n, out = .inr E → σ'.1 ≤ n → tkT X Q (cs + mc) (ss + ms) pc lv rest (n, σ'.2) I' L' E) : tkG X Q cs ss pc lv stk σ I L := by
  obtain ⟨p, l, e, R, s, m, args, below, meth, c, base, D⟩ := X
  obtain ⟨hx, hb, hml, hown, hts, hK, hE, hlocks, hr, hnm, hhh, hfr, hlo, hRc, hRs, hst⟩ := C
  intro H locs ls hSS hR hl
  obtain ⟨h1, h2, h3, h4⟩ := hroom
  have hR2 := tk_room (mc := mc) (ms := ms) h1 hM.2.2.1 hfr hlo
  exact tk_after (vx_runS (As := As) (rest := rest) (nL := nL) (n := As.length) (bytes := bytes) (maxL := maxL) (ret := ret') (rm := tkRm d' mc ms) ⟨hx, hb, hml, hown, hts⟩ (hcon l hst base D)
    ⟨⟨rfl, rfl, hR2.1, hR2.2, tk_words hts hM.1, List.mem_cons_self, hts _ hM.1, hts _ hM.2.1, ⟨hM.2.2.2.1, hM.2.2.2.2.1⟩, hM.len, hts _ hl1⟩, hts _ hl2⟩
    ⟨tkPc.blind, tkPc.go hK hE hSS hR⟩ rfl rfl (by rw [← hml]; exact hl.1) hstk (lv_room h4) hd ⟨by rw [hRc]; exact h2, by rw [hRs]; exact h3⟩) hSS hl kr kt
theorem g_callSN (C : tkC X cc own nm nL ret hh d MC MS) {host : String} (hd : decode cc pc = .ok (.invokestatic idx, 3)) (hM : tkMth y bytes maxL ret' As.length) (hl1 : Cond.methodLinkNest own idx y host ∈ tkAll) (hl2 : Cond.static y ∈ tkAll) (hcon : tkCon lo (.code y bytes maxL ret') y d' As σ I L mc ms out σ' I' L')
    (hstk : stk = As.reverse ++ rest) (hroom : d' + 1 ≤ d ∧ cs + mc ≤ MC ∧ ss + ms ≤ MS ∧ (rest.map fun v => v.category).sum ≤ 8)
    (kr : ∀ v n, out = .inl v → σ'.1 ≤ n → (lo = false → n = σ'.1) → tkG X Q (cs + mc) (ss + ms) (pc + 3) lv (v.toList ++ rest) (n, σ'.2) I' L')
    (kt : ∀ E n, out = .inr E → σ'.1 ≤ n → tkT X Q (cs + mc) (ss + ms) pc lv rest (n, σ'.2) I' L' E) : tkG X Q cs ss pc lv stk σ I L := by
  obtain ⟨p, l, e, R, s, m, args, below, meth, c, base, D⟩ := X
  obtain ⟨hx, hb, hml, hown, hts, hK, hE, hlocks, hr, hnm, hhh, hfr, hlo, hRc, hRs, hst⟩ := C
  intro H locs ls hSS hR hl
  obtain ⟨h1, h2, h3, h4⟩ := hroom
  have hR2 := tk_room (mc := mc) (ms := ms) h1 hM.2.2.1 hfr hlo
  exact tk_after (vx_runSN (As := As) (rest := rest) (nL := nL) (n := As.length) (bytes := bytes) (maxL := maxL) (ret := ret') (rm := tkRm d' mc ms) ⟨hx, hb, hml, hown, hts⟩ (hcon l hst base D)
    ⟨⟨⟨rfl, rfl, hR2.1, hR2.2, tk_words hts hM.1, List.mem_cons_self⟩, hts _ hM.1, hts _ hM.2.1, ⟨hM.2.2.2.1, hM.2.2.2.2.1⟩, hM.len, hts _ hl1⟩, hts _ hl2, trivial⟩
    ⟨tkPc.blind, tkPc.go hK hE hSS hR⟩ rfl rfl (by rw [← hml]; exact hl.1) hstk (lv_room h4) hd ⟨by rw [hRc]; exact h2, by rw [hRs]; exact h3⟩) hSS hl kr kt
theorem g_callI (C : tkC X cc own nm nL ret hh d MC MS) (hd : decode cc pc = .ok (.invokespecial idx, 3)) (hM : tkMth y bytes maxL none As.length) (hl1 : Cond.methodLink own idx y ∈ tkAll) (hl2 : Cond.instanceMethod y ∈ tkAll) (hy : y.name = "<init>") (hcon : tkCon lo (.code y bytes maxL none) y d' (.ref b :: As) σ I L mc ms out σ' I' L')
    (hstk : stk = As.reverse ++ .ref b :: rest) (hroom : d' + 1 ≤ d ∧ cs + mc ≤ MC ∧ ss + ms ≤ MS ∧ (rest.map fun v => v.category).sum ≤ 8)
    (kr : ∀ v n, out = .inl v → σ'.1 ≤ n → (lo = false → n = σ'.1) → tkG X Q (cs + mc) (ss + ms) (pc + 3) lv (v.toList ++ rest) (n, σ'.2) I' L')
    (kt : ∀ E n, out = .inr E → σ'.1 ≤ n → tkT X Q (cs + mc) (ss + ms) pc lv rest (n, σ'.2) I' L' E) : tkG X Q cs ss pc lv stk σ I L := by
  obtain ⟨p, l, e, R, s, m, args, below, meth, c, base, D⟩ := X
  obtain ⟨hx, hb, hml, hown, hts, hK, hE, hlocks, hr, hnm, hhh, hfr, hlo, hRc, hRs, hst⟩ := C
  intro H locs ls hSS hR hl
  obtain ⟨h1, h2, h3, h4⟩ := hroom
  have hR2 := tk_room (mc := mc) (ms := ms) h1 hM.2.2.1 hfr hlo
  exact tk_after (vx_runI (b := b) (As := As) (rest := rest) (nL := nL) (n := As.length) (bytes := bytes) (maxL := maxL) (rm := tkRm d' mc ms) ⟨hx, hb, hml, hown, hts⟩ (hcon l hst base D)
    ⟨⟨rfl, rfl, hR2.1, hR2.2, tk_words hts hM.1, List.mem_cons_self, hts _ hM.1, hts _ hM.2.1, ⟨hM.2.2.2.1, hM.2.2.2.2.1⟩, hM.len, hts _ hl1⟩, hy, hts _ hl2⟩
    ⟨tkPc.blind, tkPc.go hK hE hSS hR⟩ rfl rfl (by rw [← hml]; exact hl.1) hstk (lv_room h4) hd ⟨by rw [hRc]; exact h2, by rw [hRs]; exact h3⟩) hSS hl kr kt
theorem g_callIN (C : tkC X cc own nm nL ret hh d MC MS) {host : String} (hd : decode cc pc = .ok (.invokespecial idx, 3)) (hM : tkMth y bytes maxL none As.length) (hl1 : Cond.methodLinkNest own idx y host ∈ tkAll) (hl2 : Cond.instanceMethod y ∈ tkAll) (hy : y.name = "<init>") (hcon : tkCon lo (.code y bytes maxL none) y d' (.ref b :: As) σ I L mc ms out σ' I' L')
    (hstk : stk = As.reverse ++ .ref b :: rest) (hroom : d' + 1 ≤ d ∧ cs + mc ≤ MC ∧ ss + ms ≤ MS ∧ (rest.map fun v => v.category).sum ≤ 8)
    (kr : ∀ v n, out = .inl v → σ'.1 ≤ n → (lo = false → n = σ'.1) → tkG X Q (cs + mc) (ss + ms) (pc + 3) lv (v.toList ++ rest) (n, σ'.2) I' L')
    (kt : ∀ E n, out = .inr E → σ'.1 ≤ n → tkT X Q (cs + mc) (ss + ms) pc lv rest (n, σ'.2) I' L' E) : tkG X Q cs ss pc lv stk σ I L := by
  obtain ⟨p, l, e, R, s, m, args, below, meth, c, base, D⟩ := X
  obtain ⟨hx, hb, hml, hown, hts, hK, hE, hlocks, hr, hnm, hhh, hfr, hlo, hRc, hRs, hst⟩ := C
  intro H locs ls hSS hR hl
  obtain ⟨h1, h2, h3, h4⟩ := hroom
  have hR2 := tk_room (mc := mc) (ms := ms) h1 hM.2.2.1 hfr hlo
  exact tk_after (vx_runIN (b := b) (As := As) (rest := rest) (nL := nL) (n := As.length) (bytes := bytes) (maxL := maxL) (rm := tkRm d' mc ms) ⟨hx, hb, hml, hown, hts⟩ (hcon l hst base D)
    ⟨⟨⟨rfl, rfl, hR2.1, hR2.2, tk_words hts hM.1, List.mem_cons_self⟩, hts _ hM.1, hts _ hM.2.1, ⟨hM.2.2.2.1, hM.2.2.2.2.1⟩, hM.len, hts _ hl1⟩, hy, hts _ hl2⟩
    ⟨tkPc.blind, tkPc.go hK hE hSS hR⟩ rfl rfl (by rw [← hml]; exact hl.1) hstk (lv_room h4) hd ⟨by rw [hRc]; exact h2, by rw [hRs]; exact h3⟩) hSS hl kr kt
/-- a static method with a table of handlers -/
def tkMthH (y : MethodName) (cc : ByteArray) (maxL : Nat) (ret : Option FieldType) (hh : List (Nat × Nat × Nat × Nat)) (n : Nat) : Prop :=
  Cond.codeWith y cc maxL ret hh ∈ tkAll ∧ Cond.initialized y.cls ∈ tkAll ∧ maxL ≤ 18 ∧ (y.cls ≠ "java/lang/invoke/MethodHandle" ∧ y.cls ≠ "java/lang/invoke/VarHandle" ∧ (parseMethodDescriptor y.desc).map (fun d => d.parameters.length) = some n)
theorem tkMthH.len {y : MethodName} {cc : ByteArray} {maxL n : Nat} {ret : Option FieldType} {hh : List (Nat × Nat × Nat × Nat)} (h : tkMthH y cc maxL ret hh n) : ∀ sig, parseMethodDescriptor y.desc = some sig → n = sig.parameters.length := by
  intro sig hs
  have h2 := h.2.2.2.2.2
  rw [hs] at h2
  exact (Option.some.inj h2).symm
theorem g_callSH (C : tkC X cc own nm nL ret hh d MC MS) {hh' : List (Nat × Nat × Nat × Nat)} (hd : decode cc pc = .ok (.invokestatic idx, 3)) (hM : tkMthH y bytes maxL ret' hh' As.length) (hl1 : Cond.methodLink own idx y ∈ tkAll) (hl2 : Cond.static y ∈ tkAll) (hcon : tkCon lo (.codeWith y bytes maxL ret' hh') y d' As σ I L mc ms out σ' I' L')
    (hstk : stk = As.reverse ++ rest) (hroom : d' + 1 ≤ d ∧ cs + mc ≤ MC ∧ ss + ms ≤ MS ∧ (rest.map fun v => v.category).sum ≤ 8)
    (kr : ∀ v n, out = .inl v → σ'.1 ≤ n → (lo = false → n = σ'.1) → tkG X Q (cs + mc) (ss + ms) (pc + 3) lv (v.toList ++ rest) (n, σ'.2) I' L')
    (kt : ∀ E n, out = .inr E → σ'.1 ≤ n → tkT X Q (cs + mc) (ss + ms) pc lv rest (n, σ'.2) I' L' E) : tkG X Q cs ss pc lv stk σ I L := by
  obtain ⟨p, l, e, R, s, m, args, below, meth, c, base, D⟩ := X
  obtain ⟨hx, hb, hml, hown, hts, hK, hE, hlocks, hr, hnm, hhh, hfr, hlo, hRc, hRs, hst⟩ := C
  intro H locs ls hSS hR hl
  obtain ⟨h1, h2, h3, h4⟩ := hroom
  have hR2 := tk_room (mc := mc) (ms := ms) h1 hM.2.2.1 hfr hlo
  exact tk_after (vx_runSX (hh := hh') (As := As) (rest := rest) (nL := nL) (n := As.length) (bytes := bytes) (maxL := maxL) (ret := ret') (rm := tkRm d' mc ms) ⟨hx, hb, hml, hown, hts⟩ (hcon l hst base D)
    ⟨⟨rfl, rfl, hR2.1, hR2.2, tk_words hts hM.1, List.mem_cons_self⟩, hts _ hM.1, hts _ hM.2.1, ⟨hM.2.2.2.1, hM.2.2.2.2.1⟩, hM.len, hts _ hl1, hts _ hl2⟩
    ⟨tkPc.blind, tkPc.go hK hE hSS hR⟩ rfl rfl (by rw [← hml]; exact hl.1) hstk (lv_room h4) hd ⟨by rw [hRc]; exact h2, by rw [hRs]; exact h3⟩) hSS hl kr kt
end TKCALL
section TKEND
variable {X : tkX} {Q : State → Prop} {cc : ByteArray} {own nm : String} {nL d MC MS cs ss pc : Nat} {ret : Option FieldType} {hh : List (Nat × Nat × Nat × Nat)} {lv : List (Option Value)} {stk : List Value} {σ σ' : tkM} {I I' : tkI} {L L' : tkL} {lo : Bool} {mc ms : Nat} {out : tkOut}
/-- what an end says: the answer, and the memory as told -/
def tkEnd (lo : Bool) (out : tkOut) (σ' : tkM) (I' : tkI) (L' : tkL) (v : Option Value) (σ : tkM) (I : tkI) (L : tkL) : Prop := out = .inl v ∧ (σ'.1 ≤ σ.1 ∧ (lo = false → σ.1 = σ'.1)) ∧ σ.2 = σ'.2 ∧ I = I' ∧ L = L'
theorem tkEnd.rf {out : tkOut} {v : Option Value} (h : out = .inl v) (hI : I = I') (hL : L = L') : tkEnd lo out σ I' L' v σ I L := ⟨h, ⟨Nat.le_refl _, fun _ => rfl⟩, rfl, hI, hL⟩
theorem tkQc.of {base : Nat} {D : va_G} {s t : State} {H : Heap} {locs : List Loc} {v : Option Value} {args : Array Value} (h : tkEnd lo out σ' I' L' v σ I L) (hS : va_S (fun q => base ≤ q) s.heap H locs) (hR : tkRel D base σ I L H) (ht : t.heap = H) : tkQc lo base D out σ' I' L' args s (.returned v) t := by
  obtain ⟨h1, ⟨h2, h3⟩, h4, h5, h6⟩ := h
  subst h5; subst h6
  refine ⟨⟨v, h1, rfl⟩, ⟨σ.1, h2, h3, ?_⟩, hS.F ht⟩
  rw [ht, ← h4]
  exact hR
theorem g_ireturn (C : tkC X cc own nm nL (some .int) hh d MC MS) {x : Int32} (hd : decode cc pc = .ok (.ireturn, 1)) (hz : cs ≤ mc ∧ ss ≤ ms) (h : tkEnd lo out σ' I' L' (some (.int x)) σ I L) : tkG X (tkQ lo X mc ms out σ' I' L') cs ss pc lv [.int x] σ I L := by
  obtain ⟨p, l, e, R, s, m, args, below, meth, c, base, D⟩ := X
  obtain ⟨hx, hb, hml, hown, hts, hK, hE, hlocks, hr, hnm, hhh, hfr, hlo, hRc, hRs, hst⟩ := C
  intro H locs ls hSS hR hl
  exact W.widen hz.1 hz.2 (vx_ret (W.iret hx hb hr (fun t ht hW => tkQc.of h hSS hR ht) hSS.2.2 hd hlocks))
theorem g_zreturn (C : tkC X cc own nm nL (some .boolean) hh d MC MS) {x : Int32} (hd : decode cc pc = .ok (.ireturn, 1)) (hz : cs ≤ mc ∧ ss ≤ ms) (h01 : x = 0 ∨ x = 1) (h : tkEnd lo out σ' I' L' (some (.int x)) σ I L) : tkG X (tkQ lo X mc ms out σ' I' L') cs ss pc lv [.int x] σ I L := by
  obtain ⟨p, l, e, R, s, m, args, below, meth, c, base, D⟩ := X
  obtain ⟨hx, hb, hml, hown, hts, hK, hE, hlocks, hr, hnm, hhh, hfr, hlo, hRc, hRs, hst⟩ := C
  intro H locs ls hSS hR hl
  exact W.widen hz.1 hz.2 (vx_ret (W.zret hx hb hr (by rcases h01 with rfl | rfl <;> rfl) (fun t ht hW => tkQc.of h hSS hR ht) hSS.2.2 hd hlocks))
theorem g_lreturn (C : tkC X cc own nm nL (some .long) hh d MC MS) {x : Int64} (hd : decode cc pc = .ok (.lreturn, 1)) (hz : cs ≤ mc ∧ ss ≤ ms) (h : tkEnd lo out σ' I' L' (some (.long x)) σ I L) : tkG X (tkQ lo X mc ms out σ' I' L') cs ss pc lv [.long x] σ I L := by
  obtain ⟨p, l, e, R, s, m, args, below, meth, c, base, D⟩ := X
  obtain ⟨hx, hb, hml, hown, hts, hK, hE, hlocks, hr, hnm, hhh, hfr, hlo, hRc, hRs, hst⟩ := C
  intro H locs ls hSS hR hl
  exact W.widen hz.1 hz.2 (vx_ret (W.lret hx hb hr (fun t ht hW => tkQc.of h hSS hR ht) hSS.2.2 hd hlocks))
theorem g_dreturn (C : tkC X cc own nm nL (some .double) hh d MC MS) {x : UInt64} (hd : decode cc pc = .ok (.dreturn, 1)) (hz : cs ≤ mc ∧ ss ≤ ms) (h : tkEnd lo out σ' I' L' (some (.double x)) σ I L) : tkG X (tkQ lo X mc ms out σ' I' L') cs ss pc lv [.double x] σ I L := by
  obtain ⟨p, l, e, R, s, m, args, below, meth, c, base, D⟩ := X
  obtain ⟨hx, hb, hml, hown, hts, hK, hE, hlocks, hr, hnm, hhh, hfr, hlo, hRc, hRs, hst⟩ := C
  intro H locs ls hSS hR hl
  exact W.widen hz.1 hz.2 (vx_ret (W.dret hx hb hr (fun t ht hW => tkQc.of h hSS hR ht) hSS.2.2 hd hlocks))
theorem g_return (C : tkC X cc own nm nL none hh d MC MS) (hd : decode cc pc = .ok (.return_, 1)) (hz : cs ≤ mc ∧ ss ≤ ms) (h : tkEnd lo out σ' I' L' none σ I L) : tkG X (tkQ lo X mc ms out σ' I' L') cs ss pc lv [] σ I L := by
  obtain ⟨p, l, e, R, s, m, args, below, meth, c, base, D⟩ := X
  obtain ⟨hx, hb, hml, hown, hts, hK, hE, hlocks, hr, hnm, hhh, hfr, hlo, hRc, hRs, hst⟩ := C
  intro H locs ls hSS hR hl
  exact W.widen hz.1 hz.2 (vx_ret (W.vret hx hb hr (fun t ht hW => tkQc.of h hSS hR ht) hSS.2.2 hd hlocks))
/-- thrown on, past a method without handlers -/
theorem g_out (C : tkC X cc own nm nL ret [] d MC MS) {E : String} (hz : cs ≤ mc ∧ ss ≤ ms) (ho : out = .inr E) (hσ : σ'.1 ≤ σ.1 ∧ σ.2 = σ'.2) (hI : I = I') (hL : L = L') : tkT X (tkQ lo X mc ms out σ' I' L') cs ss pc lv stk σ I L E := by
  obtain ⟨p, l, e, R, s, m, args, below, meth, c, base, D⟩ := X
  obtain ⟨hx, hb, hml, hown, hts, hK, hE, hlocks, hr, hnm, hhh, hfr, hlo, hRc, hRs, hst⟩ := C
  intro H locs ls q ce hSS hR hl hce hcv hcl
  subst hI; subst hL
  have hno : ∀ x ∈ c.exceptionTable.toList, covers x pc = false := by
    intro x hx9
    rw [hhh] at hx9
    cases hx9
  refine vx_out hno hlocks hce hcv hcl (fun t ht hW => ⟨ho, ⟨σ.1, hσ.1, ?_⟩, hSS.F ht⟩) hSS.2.2 hz.1 hz.2
  rw [ht, ← hσ.2]
  exact hR
/-- throw new E("text") -/
theorem g_throwS (C : tkC X cc RX5 nm nL ret [] d MC MS) {ik is ic : Nat} {E text : String} (d0 : decode cc pc = .ok (.new ik, 3)) (d3 : decode cc (pc + 3) = .ok (.dup, 1)) (d4 : decode cc (pc + 4) = .ok (.ldc is, 2)) (d6 : decode cc (pc + 6) = .ok (.invokespecial ic, 3)) (d9 : decode cc (pc + 9) = .ok (.athrow, 1))
    (hf : Bundle.fit E = true) (hk : Cond.classLink RX5 ik E ∈ tkAll) (hini : Cond.initialized E ∈ tkAll) (hstr : (is, text) ∈ tkStr) (hat : ∀ w ∈ vx_atS RX5 ic E ["java/lang/RuntimeException", "java/lang/Exception"], w ∈ tkAll)
    (hgood : ∀ w ∈ Cond.classLink RX5 ik E :: Cond.initialized E :: vx_atS RX5 ic E ["java/lang/RuntimeException", "java/lang/Exception"], vx_ot w = true)
    (hroom : 6 ≤ d ∧ cs + 1 ≤ MC ∧ ss + 6 ≤ MS ∧ (stk.map fun v => v.category).sum ≤ 8) (hz : cs + 1 ≤ mc ∧ ss + 6 ≤ ms) (ho : out = .inr E) (hσ : σ'.1 ≤ σ.1 ∧ σ.2 = σ'.2) (hI : I = I') (hL : L = L') : tkG X (tkQ lo X mc ms out σ' I' L') cs ss pc lv stk σ I L := by
  obtain ⟨p, l, e, R, s, m, args, below, meth, c, base, D⟩ := X
  obtain ⟨hx, hb, hml, hown, hts, hK, hE, hlocks, hr, hnm, hhh, hfr, hlo, hRc, hRs, hst⟩ := C
  intro H locs ls hSS hR hl
  subst hI; subst hL
  obtain ⟨sa, hsa⟩ := hK.2.2.1 _ hstr
  have hno : ∀ x ∈ c.exceptionTable.toList, covers x (pc + 9) = false := by
    intro x hx9
    rw [hhh] at hx9
    cases hx9
  obtain ⟨r1, r2, r3, r4⟩ := hroom
  refine vx_throwS (own := RX5) (cls := E) (names := ["java/lang/RuntimeException", "java/lang/Exception"]) (text := text) (sa := sa) hx hb hst hown hf (by decide) (hts _ hk) (hts _ hini) hsa (fun w hw => hts w (hat w hw)) hgood hE.1 hE.2 hSS hl.1 d0 d3 d4 d6 d9 hno (by show 2 + 3 < R.frames; omega) (by show _ + (13 * (2 + 1) + 43) ≤ R.locals; omega) (by rw [hRc]; exact r2) (by rw [hRs]; exact r3) hlocks ?_ hSS.2.2 hz.1 hz.2
  intro t hal hsz hkeep
  refine ⟨ho, ⟨t.heap.size, Nat.le_trans hσ.1 (by rw [← hR.1]; exact hsz), ?_⟩, ?_⟩
  · rw [← hσ.2]
    exact hR.grow rfl (by rw [← hR.1]; exact hsz) hkeep
  · exact ⟨Nat.le_trans hSS.1 hsz, fun q h1 h2 => by rw [hkeep q (Nat.lt_of_lt_of_le h1 hSS.1)]; exact hSS.2.1 q h1 h2⟩
/-- caught -/
theorem g_catch (C : tkC X cc own nm nL ret hh d MC MS) {E name : String} (pre : List ExceptionTableEntry) (x : ExceptionTableEntry) (suf : List ExceptionTableEntry) (hsplit : tableOf hh = pre ++ x :: suf)
    (hpass : ∀ z ∈ pre, covers z pc = false ∨ (z.catchType ≠ 0 ∧ ∃ n9 : String, Cond.classLink own z.catchType n9 ∈ tkAll ∧ (E, n9) ∈ tkNc)) (hcov : covers x pc = true) (h0 : x.catchType ≠ 0) (hlink : Cond.classLink own x.catchType name ∈ tkAll) (hcast : Cond.castable E name ∈ tkAll)
    (kk : ∀ q : Nat, tkG X Q cs ss x.handlerPc lv [.ref q] σ I L) : tkT X Q cs ss pc lv stk σ I L E := by
  obtain ⟨p, l, e, R, s, m, args, below, meth, c, base, D⟩ := X
  obtain ⟨hx, hb, hml, hown, hts, hK, hE, hlocks, hr, hnm, hhh, hfr, hlo, hRc, hRs, hst⟩ := C
  intro H locs ls q ce hSS hR hl hce hcv hcl
  refine vx_catch hown pre x suf (by rw [hhh]; exact hsplit) (fun z hz => ?_) hcov h0 (hts _ hlink) (hts _ hcast) hce hcv hcl (kk q H locs ls hSS hR hl)
  rcases hpass z hz with h | ⟨h1, n9, h2, h3⟩
  · exact Or.inl h
  · exact Or.inr ⟨h1, n9, hts _ h2, hK.2.2.2 _ h3⟩
end TKEND
end
section
theorem ms_yX5_needTank : Cond.selects (MethodName.cls yX5_needTank) yX5_needTank yX5_needTank ∈ tkAll := tk_at 1 (by decide +kernel) (by decide +kernel)
theorem ms_yX5_needTankOrOutside : Cond.selects (MethodName.cls yX5_needTankOrOutside) yX5_needTankOrOutside yX5_needTankOrOutside ∈ tkAll := tk_at 2 (by decide +kernel) (by decide +kernel)
theorem ms_yX5_needSwitch : Cond.selects (MethodName.cls yX5_needSwitch) yX5_needSwitch yX5_needSwitch ∈ tkAll := tk_at 3 (by decide +kernel) (by decide +kernel)
theorem ms_yX1_tick : Cond.selects (MethodName.cls yX1_tick) yX1_tick yX1_tick ∈ tkAll := tk_at 4 (by decide +kernel) (by decide +kernel)
theorem ms_yX2_move : Cond.selects (MethodName.cls yX2_move) yX2_move yX2_move ∈ tkAll := tk_at 5 (by decide +kernel) (by decide +kernel)
theorem ms_yX2_enter : Cond.selects (MethodName.cls yX2_enter) yX2_enter yX2_enter ∈ tkAll := tk_at 6 (by decide +kernel) (by decide +kernel)
theorem ms_yX1_repeatLast : Cond.selects (MethodName.cls yX1_repeatLast) yX1_repeatLast yX1_repeatLast ∈ tkAll := tk_at 7 (by decide +kernel) (by decide +kernel)
theorem ms_yX2_steadyTicksOf : Cond.selects (MethodName.cls yX2_steadyTicksOf) yX2_steadyTicksOf yX2_steadyTicksOf ∈ tkAll := tk_at 8 (by decide +kernel) (by decide +kernel)
theorem ms_yX5_needPump : Cond.selects (MethodName.cls yX5_needPump) yX5_needPump yX5_needPump ∈ tkAll := tk_at 9 (by decide +kernel) (by decide +kernel)
theorem mi_L : Cond.initialized RL ∈ tkAll := tk_at 10 (by decide +kernel) (by decide +kernel)
theorem mi_X5 : Cond.initialized RX5 ∈ tkAll := tk_at 11 (by decide +kernel) (by decide +kernel)
theorem mi_X1 : Cond.initialized RX1 ∈ tkAll := tk_at 12 (by decide +kernel) (by decide +kernel)
theorem mi_X4 : Cond.initialized RX4 ∈ tkAll := tk_at 13 (by decide +kernel) (by decide +kernel)
theorem mi_X3 : Cond.initialized RX3 ∈ tkAll := tk_at 14 (by decide +kernel) (by decide +kernel)
theorem mi_X2 : Cond.initialized RX2 ∈ tkAll := tk_at 15 (by decide +kernel) (by decide +kernel)
theorem mi_X0 : Cond.initialized RX0 ∈ tkAll := tk_at 16 (by decide +kernel) (by decide +kernel)
theorem mi_java_lang_Throwable : Cond.initialized "java/lang/Throwable" ∈ tkAll := tk_at 17 (by decide +kernel) (by decide +kernel)
theorem mi_java_lang_Exception : Cond.initialized "java/lang/Exception" ∈ tkAll := tk_at 18 (by decide +kernel) (by decide +kernel)
theorem mi_java_lang_RuntimeException : Cond.initialized "java/lang/RuntimeException" ∈ tkAll := tk_at 19 (by decide +kernel) (by decide +kernel)
theorem mi_java_lang_IllegalArgumentException : Cond.initialized "java/lang/IllegalArgumentException" ∈ tkAll := tk_at 20 (by decide +kernel) (by decide +kernel)
theorem mi_java_lang_IllegalStateException : Cond.initialized "java/lang/IllegalStateException" ∈ tkAll := tk_at 21 (by decide +kernel) (by decide +kernel)
theorem mi_java_lang_IndexOutOfBoundsException : Cond.initialized "java/lang/IndexOutOfBoundsException" ∈ tkAll := tk_at 22 (by decide +kernel) (by decide +kernel)
theorem mi_J9 : Cond.initialized RJ9 ∈ tkAll := tk_at 23 (by decide +kernel) (by decide +kernel)
theorem mi_J10 : Cond.initialized RJ10 ∈ tkAll := tk_at 24 (by decide +kernel) (by decide +kernel)
theorem ml_L_9 : Cond.classLink RL 9 RX5 ∈ tkAll := tk_at 25 (by decide +kernel) (by decide +kernel)
theorem mn_X5 : Cond.instantiable RX5 4 ∈ tkAll := tk_at 26 (by decide +kernel) (by decide +kernel)
theorem ml_L_11 : Cond.methodLink RL 11 yX5_init ∈ tkAll := tk_at 27 (by decide +kernel) (by decide +kernel)
theorem mv_yX5_init : Cond.instanceMethod yX5_init ∈ tkAll := tk_at 28 (by decide +kernel) (by decide +kernel)
theorem mc_X5_init : Cond.code yX5_init cX5_init 1 none ∈ tkAll := tk_at 29 (by decide +kernel) (by decide +kernel)
theorem ml_X5_1 : Cond.methodLink RX5 1 objectInit ∈ tkAll := tk_at 30 (by decide +kernel) (by decide +kernel)
theorem mv_objectInit : Cond.instanceMethod objectInit ∈ tkAll := tk_at 31 (by decide +kernel) (by decide +kernel)
theorem mc_objectInit : Cond.code objectInit ⟨#[0xb1]⟩ 1 none ∈ tkAll := tk_at 32 (by decide +kernel) (by decide +kernel)
theorem ml_X5_7 : Cond.classLink RX5 7 RX1 ∈ tkAll := tk_at 33 (by decide +kernel) (by decide +kernel)
theorem mn_X1 : Cond.instantiable RX1 5 ∈ tkAll := tk_at 34 (by decide +kernel) (by decide +kernel)
theorem ml_X5_9 : Cond.methodLinkNest RX5 9 yX1_init RX5 ∈ tkAll := tk_at 35 (by decide +kernel) (by decide +kernel)
theorem mv_yX1_init : Cond.instanceMethod yX1_init ∈ tkAll := tk_at 36 (by decide +kernel) (by decide +kernel)
theorem mc_X1_init : Cond.code yX1_init cX1_init 1 none ∈ tkAll := tk_at 37 (by decide +kernel) (by decide +kernel)
theorem ml_X1_1 : Cond.methodLink RX1 1 objectInit ∈ tkAll := tk_at 38 (by decide +kernel) (by decide +kernel)
theorem ml_X1_7 : Cond.classLink RX1 7 RX4 ∈ tkAll := tk_at 39 (by decide +kernel) (by decide +kernel)
theorem mn_X4 : Cond.instantiable RX4 6 ∈ tkAll := tk_at 40 (by decide +kernel) (by decide +kernel)
theorem ml_X1_9 : Cond.methodLinkNest RX1 9 yX4_init RX5 ∈ tkAll := tk_at 41 (by decide +kernel) (by decide +kernel)
theorem mv_yX4_init : Cond.instanceMethod yX4_init ∈ tkAll := tk_at 42 (by decide +kernel) (by decide +kernel)
theorem mc_X4_init : Cond.code yX4_init cX4_init 1 none ∈ tkAll := tk_at 43 (by decide +kernel) (by decide +kernel)
theorem ml_X4_3 : Cond.methodLink RX4 3 objectInit ∈ tkAll := tk_at 44 (by decide +kernel) (by decide +kernel)
theorem ml_X4_28 : Cond.fieldLink RX4 28 "TankPlant$Tanks" "count" "I" ∈ tkAll := tk_at 45 (by decide +kernel) (by decide +kernel)
theorem ml_X5_51 : Cond.fieldLink RX5 51 "TankPlant$Tanks" "count" "I" ∈ tkAll := tk_at 46 (by decide +kernel) (by decide +kernel)
theorem ml_X4_9 : Cond.fieldLink RX4 9 "TankPlant$Tanks" "capacity" "[I" ∈ tkAll := tk_at 47 (by decide +kernel) (by decide +kernel)
theorem ml_X5_68 : Cond.fieldLink RX5 68 "TankPlant$Tanks" "capacity" "[I" ∈ tkAll := tk_at 48 (by decide +kernel) (by decide +kernel)
theorem ml_X2_88 : Cond.fieldLink RX2 88 "TankPlant$Tanks" "capacity" "[I" ∈ tkAll := tk_at 49 (by decide +kernel) (by decide +kernel)
theorem ml_X4_15 : Cond.fieldLink RX4 15 "TankPlant$Tanks" "level" "[I" ∈ tkAll := tk_at 50 (by decide +kernel) (by decide +kernel)
theorem ml_X3_35 : Cond.fieldLink RX3 35 "TankPlant$Tanks" "level" "[I" ∈ tkAll := tk_at 51 (by decide +kernel) (by decide +kernel)
theorem ml_X2_77 : Cond.fieldLink RX2 77 "TankPlant$Tanks" "level" "[I" ∈ tkAll := tk_at 52 (by decide +kernel) (by decide +kernel)
theorem ml_X5_109 : Cond.fieldLink RX5 109 "TankPlant$Tanks" "level" "[I" ∈ tkAll := tk_at 53 (by decide +kernel) (by decide +kernel)
theorem ml_X4_18 : Cond.fieldLink RX4 18 "TankPlant$Tanks" "leak" "[I" ∈ tkAll := tk_at 54 (by decide +kernel) (by decide +kernel)
theorem ml_X4_21 : Cond.fieldLink RX4 21 "TankPlant$Tanks" "levelSum" "[J" ∈ tkAll := tk_at 55 (by decide +kernel) (by decide +kernel)
theorem ml_X5_143 : Cond.fieldLink RX5 143 "TankPlant$Tanks" "levelSum" "[J" ∈ tkAll := tk_at 56 (by decide +kernel) (by decide +kernel)
theorem ml_X4_25 : Cond.fieldLink RX4 25 "TankPlant$Tanks" "before" "[I" ∈ tkAll := tk_at 57 (by decide +kernel) (by decide +kernel)
theorem ml_X3_46 : Cond.fieldLink RX3 46 "TankPlant$Tanks" "before" "[I" ∈ tkAll := tk_at 58 (by decide +kernel) (by decide +kernel)
theorem ma_int : Cond.arrayClass .int ∈ tkAll := tk_at 72 (by decide +kernel) (by decide +kernel)
theorem ma_long : Cond.arrayClass .long ∈ tkAll := tk_at 73 (by decide +kernel) (by decide +kernel)
theorem ml_X1_16 : Cond.classLink RX1 16 RX3 ∈ tkAll := tk_at 74 (by decide +kernel) (by decide +kernel)
theorem mn_X3 : Cond.instantiable RX3 5 ∈ tkAll := tk_at 75 (by decide +kernel) (by decide +kernel)
theorem ml_X1_18 : Cond.methodLinkNest RX1 18 yX3_init RX5 ∈ tkAll := tk_at 76 (by decide +kernel) (by decide +kernel)
theorem mv_yX3_init : Cond.instanceMethod yX3_init ∈ tkAll := tk_at 77 (by decide +kernel) (by decide +kernel)
theorem mc_X3_init : Cond.code yX3_init cX3_init 1 none ∈ tkAll := tk_at 78 (by decide +kernel) (by decide +kernel)
theorem ml_X3_3 : Cond.methodLink RX3 3 objectInit ∈ tkAll := tk_at 79 (by decide +kernel) (by decide +kernel)
theorem ml_X3_25 : Cond.fieldLink RX3 25 "TankPlant$Switches" "count" "I" ∈ tkAll := tk_at 80 (by decide +kernel) (by decide +kernel)
theorem ml_X5_78 : Cond.fieldLink RX5 78 "TankPlant$Switches" "count" "I" ∈ tkAll := tk_at 81 (by decide +kernel) (by decide +kernel)
theorem ml_X3_9 : Cond.fieldLink RX3 9 "TankPlant$Switches" "tank" "[I" ∈ tkAll := tk_at 82 (by decide +kernel) (by decide +kernel)
theorem ml_X3_15 : Cond.fieldLink RX3 15 "TankPlant$Switches" "low" "[I" ∈ tkAll := tk_at 83 (by decide +kernel) (by decide +kernel)
theorem ml_X3_18 : Cond.fieldLink RX3 18 "TankPlant$Switches" "high" "[I" ∈ tkAll := tk_at 84 (by decide +kernel) (by decide +kernel)
theorem ml_X3_21 : Cond.fieldLink RX3 21 "TankPlant$Switches" "on" "[Z" ∈ tkAll := tk_at 85 (by decide +kernel) (by decide +kernel)
theorem ml_X2_60 : Cond.fieldLink RX2 60 "TankPlant$Switches" "on" "[Z" ∈ tkAll := tk_at 86 (by decide +kernel) (by decide +kernel)
theorem ml_X5_147 : Cond.fieldLink RX5 147 "TankPlant$Switches" "on" "[Z" ∈ tkAll := tk_at 87 (by decide +kernel) (by decide +kernel)
theorem ma_boolean : Cond.arrayClass .boolean ∈ tkAll := tk_at 99 (by decide +kernel) (by decide +kernel)
theorem ml_X1_23 : Cond.classLink RX1 23 RX2 ∈ tkAll := tk_at 100 (by decide +kernel) (by decide +kernel)
theorem mn_X2 : Cond.instantiable RX2 13 ∈ tkAll := tk_at 101 (by decide +kernel) (by decide +kernel)
theorem ml_X1_25 : Cond.methodLinkNest RX1 25 yX2_init RX5 ∈ tkAll := tk_at 102 (by decide +kernel) (by decide +kernel)
theorem mv_yX2_init : Cond.instanceMethod yX2_init ∈ tkAll := tk_at 103 (by decide +kernel) (by decide +kernel)
theorem mc_X2_init : Cond.code yX2_init cX2_init 1 none ∈ tkAll := tk_at 104 (by decide +kernel) (by decide +kernel)
theorem ml_X2_3 : Cond.methodLink RX2 3 objectInit ∈ tkAll := tk_at 105 (by decide +kernel) (by decide +kernel)
theorem ml_X2_50 : Cond.fieldLink RX2 50 "TankPlant$Pumps" "count" "I" ∈ tkAll := tk_at 106 (by decide +kernel) (by decide +kernel)
theorem ml_X5_101 : Cond.fieldLink RX5 101 "TankPlant$Pumps" "count" "I" ∈ tkAll := tk_at 107 (by decide +kernel) (by decide +kernel)
theorem ml_X2_9 : Cond.fieldLink RX2 9 "TankPlant$Pumps" "from" "[I" ∈ tkAll := tk_at 108 (by decide +kernel) (by decide +kernel)
theorem ml_X2_15 : Cond.fieldLink RX2 15 "TankPlant$Pumps" "to" "[I" ∈ tkAll := tk_at 109 (by decide +kernel) (by decide +kernel)
theorem ml_X2_18 : Cond.fieldLink RX2 18 "TankPlant$Pumps" "rate" "[I" ∈ tkAll := tk_at 110 (by decide +kernel) (by decide +kernel)
theorem ml_X2_21 : Cond.fieldLink RX2 21 "TankPlant$Pumps" "lift" "[I" ∈ tkAll := tk_at 111 (by decide +kernel) (by decide +kernel)
theorem ml_X2_24 : Cond.fieldLink RX2 24 "TankPlant$Pumps" "control" "[I" ∈ tkAll := tk_at 112 (by decide +kernel) (by decide +kernel)
theorem ml_X2_27 : Cond.fieldLink RX2 27 "TankPlant$Pumps" "inverted" "[Z" ∈ tkAll := tk_at 113 (by decide +kernel) (by decide +kernel)
theorem ml_X2_31 : Cond.fieldLink RX2 31 "TankPlant$Pumps" "total" "[J" ∈ tkAll := tk_at 114 (by decide +kernel) (by decide +kernel)
theorem ml_X5_151 : Cond.fieldLink RX5 151 "TankPlant$Pumps" "total" "[J" ∈ tkAll := tk_at 115 (by decide +kernel) (by decide +kernel)
theorem ml_X2_35 : Cond.fieldLink RX2 35 "TankPlant$Pumps" "energy" "[J" ∈ tkAll := tk_at 116 (by decide +kernel) (by decide +kernel)
theorem ml_X5_154 : Cond.fieldLink RX5 154 "TankPlant$Pumps" "energy" "[J" ∈ tkAll := tk_at 117 (by decide +kernel) (by decide +kernel)
theorem ml_X2_38 : Cond.fieldLink RX2 38 "TankPlant$Pumps" "shortTicks" "[J" ∈ tkAll := tk_at 118 (by decide +kernel) (by decide +kernel)
theorem ml_X5_157 : Cond.fieldLink RX5 157 "TankPlant$Pumps" "shortTicks" "[J" ∈ tkAll := tk_at 119 (by decide +kernel) (by decide +kernel)
theorem ml_X2_41 : Cond.fieldLink RX2 41 "TankPlant$Pumps" "amount" "[I" ∈ tkAll := tk_at 120 (by decide +kernel) (by decide +kernel)
theorem ml_X2_44 : Cond.fieldLink RX2 44 "TankPlant$Pumps" "sourceLeft" "[I" ∈ tkAll := tk_at 121 (by decide +kernel) (by decide +kernel)
theorem ml_X2_47 : Cond.fieldLink RX2 47 "TankPlant$Pumps" "roomLeft" "[I" ∈ tkAll := tk_at 122 (by decide +kernel) (by decide +kernel)
theorem ml_X1_30 : Cond.classLink RX1 30 RX0 ∈ tkAll := tk_at 150 (by decide +kernel) (by decide +kernel)
theorem mn_X0 : Cond.instantiable RX0 3 ∈ tkAll := tk_at 151 (by decide +kernel) (by decide +kernel)
theorem ml_X1_32 : Cond.methodLinkNest RX1 32 yX0_init RX5 ∈ tkAll := tk_at 152 (by decide +kernel) (by decide +kernel)
theorem mv_yX0_init : Cond.instanceMethod yX0_init ∈ tkAll := tk_at 153 (by decide +kernel) (by decide +kernel)
theorem mc_X0_init : Cond.code yX0_init cX0_init 1 none ∈ tkAll := tk_at 154 (by decide +kernel) (by decide +kernel)
theorem ml_X0_3 : Cond.methodLink RX0 3 objectInit ∈ tkAll := tk_at 155 (by decide +kernel) (by decide +kernel)
theorem ml_X0_19 : Cond.fieldLink RX0 19 "TankPlant$ChangeLog" "count" "J" ∈ tkAll := tk_at 156 (by decide +kernel) (by decide +kernel)
theorem ml_X5_171 : Cond.fieldLink RX5 171 "TankPlant$ChangeLog" "count" "J" ∈ tkAll := tk_at 157 (by decide +kernel) (by decide +kernel)
theorem ml_X0_9 : Cond.fieldLink RX0 9 "TankPlant$ChangeLog" "times" "[J" ∈ tkAll := tk_at 158 (by decide +kernel) (by decide +kernel)
theorem ml_X0_15 : Cond.fieldLink RX0 15 "TankPlant$ChangeLog" "numbers" "[I" ∈ tkAll := tk_at 159 (by decide +kernel) (by decide +kernel)
theorem ml_X1_10 : Cond.fieldLink RX1 10 "TankPlant$Plant" "tanks" "LTankPlant$Tanks;" ∈ tkAll := tk_at 167 (by decide +kernel) (by decide +kernel)
theorem ml_X5_47 : Cond.fieldLink RX5 47 "TankPlant$Plant" "tanks" "LTankPlant$Tanks;" ∈ tkAll := tk_at 168 (by decide +kernel) (by decide +kernel)
theorem ml_X1_19 : Cond.fieldLink RX1 19 "TankPlant$Plant" "switches" "LTankPlant$Switches;" ∈ tkAll := tk_at 169 (by decide +kernel) (by decide +kernel)
theorem ml_X5_74 : Cond.fieldLink RX5 74 "TankPlant$Plant" "switches" "LTankPlant$Switches;" ∈ tkAll := tk_at 170 (by decide +kernel) (by decide +kernel)
theorem ml_X1_26 : Cond.fieldLink RX1 26 "TankPlant$Plant" "pumps" "LTankPlant$Pumps;" ∈ tkAll := tk_at 171 (by decide +kernel) (by decide +kernel)
theorem ml_X5_97 : Cond.fieldLink RX5 97 "TankPlant$Plant" "pumps" "LTankPlant$Pumps;" ∈ tkAll := tk_at 172 (by decide +kernel) (by decide +kernel)
theorem ml_X1_33 : Cond.fieldLink RX1 33 "TankPlant$Plant" "log" "LTankPlant$ChangeLog;" ∈ tkAll := tk_at 173 (by decide +kernel) (by decide +kernel)
theorem ml_X5_167 : Cond.fieldLink RX5 167 "TankPlant$Plant" "log" "LTankPlant$ChangeLog;" ∈ tkAll := tk_at 174 (by decide +kernel) (by decide +kernel)
theorem ml_X1_50 : Cond.fieldLink RX1 50 "TankPlant$Plant" "time" "J" ∈ tkAll := tk_at 175 (by decide +kernel) (by decide +kernel)
theorem ml_X5_139 : Cond.fieldLink RX5 139 "TankPlant$Plant" "time" "J" ∈ tkAll := tk_at 176 (by decide +kernel) (by decide +kernel)
theorem ml_X5_10 : Cond.fieldLink RX5 10 "TankPlant" "plant" "LTankPlant$Plant;" ∈ tkAll := tk_at 189 (by decide +kernel) (by decide +kernel)
theorem ml_X5_16 : Cond.fieldLink RX5 16 "TankPlant" "trial" "LTankPlant$Plant;" ∈ tkAll := tk_at 190 (by decide +kernel) (by decide +kernel)
theorem ml_X5_19 : Cond.fieldLink RX5 19 "TankPlant" "depots" "[LTankPlant$Plant;" ∈ tkAll := tk_at 191 (by decide +kernel) (by decide +kernel)
theorem ml_X5_23 : Cond.fieldLink RX5 23 "TankPlant" "depotCount" "I" ∈ tkAll := tk_at 192 (by decide +kernel) (by decide +kernel)
theorem ml_L_22 : Cond.methodLink RL 22 yX5_addTank ∈ tkAll := tk_at 202 (by decide +kernel) (by decide +kernel)
theorem mv_yX5_addTank : Cond.instanceMethod yX5_addTank ∈ tkAll := tk_at 203 (by decide +kernel) (by decide +kernel)
theorem ms_yX5_addTank : Cond.selects (MethodName.cls yX5_addTank) yX5_addTank yX5_addTank ∈ tkAll := tk_at 204 (by decide +kernel) (by decide +kernel)
theorem mc_X5_addTank : Cond.code yX5_addTank cX5_addTank 4 (some .int) ∈ tkAll := tk_at 205 (by decide +kernel) (by decide +kernel)
theorem ml_X5_27 : Cond.constant RX5 27 (1000000000) ∈ tkAll := tk_at 206 (by decide +kernel) (by decide +kernel)
theorem ml_X5_28 : Cond.methodLink RX5 28 yX5_isWithin ∈ tkAll := tk_at 207 (by decide +kernel) (by decide +kernel)
theorem mt_yX5_isWithin : Cond.static yX5_isWithin ∈ tkAll := tk_at 208 (by decide +kernel) (by decide +kernel)
theorem mc_X5_isWithin : Cond.code yX5_isWithin cX5_isWithin 3 (some .boolean) ∈ tkAll := tk_at 209 (by decide +kernel) (by decide +kernel)
theorem ml_X5_32 : Cond.classLink RX5 32 "java/lang/IllegalArgumentException" ∈ tkAll := tk_at 210 (by decide +kernel) (by decide +kernel)
theorem mk_java_lang_IllegalArgumentException : Cond.castable "java/lang/IllegalArgumentException" "java/lang/IllegalArgumentException" ∈ tkAll := tk_at 212 (by decide +kernel) (by decide +kernel)
theorem ma_byte : Cond.arrayClass .byte ∈ tkAll := tk_at 277 (by decide +kernel) (by decide +kernel)
theorem ml_X5_39 : Cond.methodLink RX5 39 yX5_needAmount ∈ tkAll := tk_at 278 (by decide +kernel) (by decide +kernel)
theorem mt_yX5_needAmount : Cond.static yX5_needAmount ∈ tkAll := tk_at 279 (by decide +kernel) (by decide +kernel)
theorem mc_X5_needAmount : Cond.code yX5_needAmount cX5_needAmount 2 none ∈ tkAll := tk_at 280 (by decide +kernel) (by decide +kernel)
theorem ml_X5_43 : Cond.methodLink RX5 43 yX5_needLeak ∈ tkAll := tk_at 282 (by decide +kernel) (by decide +kernel)
theorem mt_yX5_needLeak : Cond.static yX5_needLeak ∈ tkAll := tk_at 283 (by decide +kernel) (by decide +kernel)
theorem mc_X5_needLeak : Cond.code yX5_needLeak cX5_needLeak 1 none ∈ tkAll := tk_at 284 (by decide +kernel) (by decide +kernel)
theorem ml_X5_220 : Cond.constant RX5 220 (1000000) ∈ tkAll := tk_at 285 (by decide +kernel) (by decide +kernel)
theorem ml_X5_56 : Cond.classLink RX5 56 "java/lang/IllegalStateException" ∈ tkAll := tk_at 287 (by decide +kernel) (by decide +kernel)
theorem mk_java_lang_IllegalStateException : Cond.castable "java/lang/IllegalStateException" "java/lang/IllegalStateException" ∈ tkAll := tk_at 289 (by decide +kernel) (by decide +kernel)
theorem ml_X5_61 : Cond.methodLink RX5 61 yX4_append ∈ tkAll := tk_at 303 (by decide +kernel) (by decide +kernel)
theorem mv_yX4_append : Cond.instanceMethod yX4_append ∈ tkAll := tk_at 304 (by decide +kernel) (by decide +kernel)
theorem ms_yX4_append : Cond.selects (MethodName.cls yX4_append) yX4_append yX4_append ∈ tkAll := tk_at 305 (by decide +kernel) (by decide +kernel)
theorem mc_X4_append : Cond.code yX4_append cX4_append 5 (some .int) ∈ tkAll := tk_at 306 (by decide +kernel) (by decide +kernel)
theorem ml_L_26 : Cond.methodLink RL 26 yX5_addSwitch ∈ tkAll := tk_at 307 (by decide +kernel) (by decide +kernel)
theorem mv_yX5_addSwitch : Cond.instanceMethod yX5_addSwitch ∈ tkAll := tk_at 308 (by decide +kernel) (by decide +kernel)
theorem ms_yX5_addSwitch : Cond.selects (MethodName.cls yX5_addSwitch) yX5_addSwitch yX5_addSwitch ∈ tkAll := tk_at 309 (by decide +kernel) (by decide +kernel)
theorem mc_X5_addSwitch : Cond.code yX5_addSwitch cX5_addSwitch 4 (some .int) ∈ tkAll := tk_at 310 (by decide +kernel) (by decide +kernel)
theorem ml_X5_65 : Cond.methodLink RX5 65 yX5_needTank ∈ tkAll := tk_at 311 (by decide +kernel) (by decide +kernel)
theorem mv_yX5_needTank : Cond.instanceMethod yX5_needTank ∈ tkAll := tk_at 313 (by decide +kernel) (by decide +kernel)
theorem mc_X5_needTank : Cond.code yX5_needTank cX5_needTank 2 none ∈ tkAll := tk_at 314 (by decide +kernel) (by decide +kernel)
theorem ml_X5_203 : Cond.classLink RX5 203 "java/lang/IndexOutOfBoundsException" ∈ tkAll := tk_at 315 (by decide +kernel) (by decide +kernel)
theorem mk_java_lang_IndexOutOfBoundsException : Cond.castable "java/lang/IndexOutOfBoundsException" "java/lang/IndexOutOfBoundsException" ∈ tkAll := tk_at 317 (by decide +kernel) (by decide +kernel)
theorem ml_X5_83 : Cond.methodLink RX5 83 yX3_append ∈ tkAll := tk_at 333 (by decide +kernel) (by decide +kernel)
theorem mv_yX3_append : Cond.instanceMethod yX3_append ∈ tkAll := tk_at 334 (by decide +kernel) (by decide +kernel)
theorem ms_yX3_append : Cond.selects (MethodName.cls yX3_append) yX3_append yX3_append ∈ tkAll := tk_at 335 (by decide +kernel) (by decide +kernel)
theorem mc_X3_append : Cond.code yX3_append cX3_append 5 (some .int) ∈ tkAll := tk_at 336 (by decide +kernel) (by decide +kernel)
theorem ml_L_29 : Cond.methodLink RL 29 yX5_addPump ∈ tkAll := tk_at 337 (by decide +kernel) (by decide +kernel)
theorem mv_yX5_addPump : Cond.instanceMethod yX5_addPump ∈ tkAll := tk_at 338 (by decide +kernel) (by decide +kernel)
theorem ms_yX5_addPump : Cond.selects (MethodName.cls yX5_addPump) yX5_addPump yX5_addPump ∈ tkAll := tk_at 339 (by decide +kernel) (by decide +kernel)
theorem mc_X5_addPump : Cond.code yX5_addPump cX5_addPump 7 (some .int) ∈ tkAll := tk_at 340 (by decide +kernel) (by decide +kernel)
theorem ml_X5_84 : Cond.methodLink RX5 84 yX5_needTankOrOutside ∈ tkAll := tk_at 341 (by decide +kernel) (by decide +kernel)
theorem mv_yX5_needTankOrOutside : Cond.instanceMethod yX5_needTankOrOutside ∈ tkAll := tk_at 343 (by decide +kernel) (by decide +kernel)
theorem mc_X5_needTankOrOutside : Cond.code yX5_needTankOrOutside cX5_needTankOrOutside 2 none ∈ tkAll := tk_at 344 (by decide +kernel) (by decide +kernel)
theorem ml_X5_87 : Cond.methodLink RX5 87 yX5_needSwitch ∈ tkAll := tk_at 345 (by decide +kernel) (by decide +kernel)
theorem mv_yX5_needSwitch : Cond.instanceMethod yX5_needSwitch ∈ tkAll := tk_at 347 (by decide +kernel) (by decide +kernel)
theorem mc_X5_needSwitch : Cond.code yX5_needSwitch cX5_needSwitch 2 none ∈ tkAll := tk_at 348 (by decide +kernel) (by decide +kernel)
theorem ml_X5_92 : Cond.methodLink RX5 92 yX5_needRate ∈ tkAll := tk_at 351 (by decide +kernel) (by decide +kernel)
theorem mt_yX5_needRate : Cond.static yX5_needRate ∈ tkAll := tk_at 352 (by decide +kernel) (by decide +kernel)
theorem mc_X5_needRate : Cond.code yX5_needRate cX5_needRate 1 none ∈ tkAll := tk_at 353 (by decide +kernel) (by decide +kernel)
theorem ml_X5_106 : Cond.methodLink RX5 106 yX2_append ∈ tkAll := tk_at 357 (by decide +kernel) (by decide +kernel)
theorem mv_yX2_append : Cond.instanceMethod yX2_append ∈ tkAll := tk_at 358 (by decide +kernel) (by decide +kernel)
theorem ms_yX2_append : Cond.selects (MethodName.cls yX2_append) yX2_append yX2_append ∈ tkAll := tk_at 359 (by decide +kernel) (by decide +kernel)
theorem mc_X2_append : Cond.code yX2_append cX2_append 8 (some .int) ∈ tkAll := tk_at 360 (by decide +kernel) (by decide +kernel)
theorem ml_L_41 : Cond.methodLink RL 41 yX5_run ∈ tkAll := tk_at 361 (by decide +kernel) (by decide +kernel)
theorem mv_yX5_run : Cond.instanceMethod yX5_run ∈ tkAll := tk_at 362 (by decide +kernel) (by decide +kernel)
theorem ms_yX5_run : Cond.selects (MethodName.cls yX5_run) yX5_run yX5_run ∈ tkAll := tk_at 363 (by decide +kernel) (by decide +kernel)
theorem mc_X5_run : Cond.code yX5_run cX5_run 2 (some .int) ∈ tkAll := tk_at 364 (by decide +kernel) (by decide +kernel)
theorem ml_X5_121 : Cond.methodLink RX5 121 yX5_needTicks ∈ tkAll := tk_at 365 (by decide +kernel) (by decide +kernel)
theorem mt_yX5_needTicks : Cond.static yX5_needTicks ∈ tkAll := tk_at 366 (by decide +kernel) (by decide +kernel)
theorem mc_X5_needTicks : Cond.code yX5_needTicks cX5_needTicks 2 none ∈ tkAll := tk_at 367 (by decide +kernel) (by decide +kernel)
theorem ml_X5_124 : Cond.methodLink RX5 124 yX1_advance ∈ tkAll := tk_at 369 (by decide +kernel) (by decide +kernel)
theorem mv_yX1_advance : Cond.instanceMethod yX1_advance ∈ tkAll := tk_at 370 (by decide +kernel) (by decide +kernel)
theorem ms_yX1_advance : Cond.selects (MethodName.cls yX1_advance) yX1_advance yX1_advance ∈ tkAll := tk_at 371 (by decide +kernel) (by decide +kernel)
theorem mc_X1_advance : Cond.code yX1_advance cX1_advance 4 (some .int) ∈ tkAll := tk_at 372 (by decide +kernel) (by decide +kernel)
theorem ml_X1_54 : Cond.methodLink RX1 54 yX1_tick ∈ tkAll := tk_at 373 (by decide +kernel) (by decide +kernel)
theorem mv_yX1_tick : Cond.instanceMethod yX1_tick ∈ tkAll := tk_at 375 (by decide +kernel) (by decide +kernel)
theorem mc_X1_tick : Cond.code yX1_tick cX1_tick 2 (some .int) ∈ tkAll := tk_at 376 (by decide +kernel) (by decide +kernel)
theorem ml_X1_70 : Cond.methodLink RX1 70 yX4_noteLevels ∈ tkAll := tk_at 377 (by decide +kernel) (by decide +kernel)
theorem mv_yX4_noteLevels : Cond.instanceMethod yX4_noteLevels ∈ tkAll := tk_at 378 (by decide +kernel) (by decide +kernel)
theorem ms_yX4_noteLevels : Cond.selects (MethodName.cls yX4_noteLevels) yX4_noteLevels yX4_noteLevels ∈ tkAll := tk_at 379 (by decide +kernel) (by decide +kernel)
theorem mc_X4_noteLevels : Cond.code yX4_noteLevels cX4_noteLevels 1 none ∈ tkAll := tk_at 380 (by decide +kernel) (by decide +kernel)
theorem ml_X4_32 : Cond.methodLink RX4 32 arraycopyName ∈ tkAll := tk_at 381 (by decide +kernel) (by decide +kernel)
theorem mt_arraycopyName : Cond.static arraycopyName ∈ tkAll := tk_at 382 (by decide +kernel) (by decide +kernel)
theorem mw_arraycopyName : Cond.native arraycopyName ∈ tkAll := tk_at 383 (by decide +kernel) (by decide +kernel)
theorem ml_X1_73 : Cond.methodLink RX1 73 yX3_follow ∈ tkAll := tk_at 384 (by decide +kernel) (by decide +kernel)
theorem mv_yX3_follow : Cond.instanceMethod yX3_follow ∈ tkAll := tk_at 385 (by decide +kernel) (by decide +kernel)
theorem ms_yX3_follow : Cond.selects (MethodName.cls yX3_follow) yX3_follow yX3_follow ∈ tkAll := tk_at 386 (by decide +kernel) (by decide +kernel)
theorem mc_X3_follow : Cond.code yX3_follow cX3_follow 9 (some .int) ∈ tkAll := tk_at 387 (by decide +kernel) (by decide +kernel)
theorem ml_X3_40 : Cond.methodLink RX3 40 yX0_note ∈ tkAll := tk_at 388 (by decide +kernel) (by decide +kernel)
theorem mv_yX0_note : Cond.instanceMethod yX0_note ∈ tkAll := tk_at 389 (by decide +kernel) (by decide +kernel)
theorem ms_yX0_note : Cond.selects (MethodName.cls yX0_note) yX0_note yX0_note ∈ tkAll := tk_at 390 (by decide +kernel) (by decide +kernel)
theorem mc_X0_note : Cond.code yX0_note cX0_note 5 none ∈ tkAll := tk_at 391 (by decide +kernel) (by decide +kernel)
theorem ml_X0_23 : Cond.constantLong RX0 23 (30) ∈ tkAll := tk_at 392 (by decide +kernel) (by decide +kernel)
theorem ml_X1_77 : Cond.methodLink RX1 77 yX2_moveAll ∈ tkAll := tk_at 393 (by decide +kernel) (by decide +kernel)
theorem mv_yX2_moveAll : Cond.instanceMethod yX2_moveAll ∈ tkAll := tk_at 394 (by decide +kernel) (by decide +kernel)
theorem ms_yX2_moveAll : Cond.selects (MethodName.cls yX2_moveAll) yX2_moveAll yX2_moveAll ∈ tkAll := tk_at 395 (by decide +kernel) (by decide +kernel)
theorem mc_X2_moveAll : Cond.code yX2_moveAll cX2_moveAll 4 none ∈ tkAll := tk_at 396 (by decide +kernel) (by decide +kernel)
theorem ml_X2_65 : Cond.methodLink RX2 65 yX2_isActive ∈ tkAll := tk_at 397 (by decide +kernel) (by decide +kernel)
theorem mv_yX2_isActive : Cond.instanceMethod yX2_isActive ∈ tkAll := tk_at 398 (by decide +kernel) (by decide +kernel)
theorem ms_yX2_isActive : Cond.selects (MethodName.cls yX2_isActive) yX2_isActive yX2_isActive ∈ tkAll := tk_at 399 (by decide +kernel) (by decide +kernel)
theorem mc_X2_isActive : Cond.code yX2_isActive cX2_isActive 4 (some .boolean) ∈ tkAll := tk_at 400 (by decide +kernel) (by decide +kernel)
theorem ml_X2_69 : Cond.methodLink RX2 69 yX2_move ∈ tkAll := tk_at 401 (by decide +kernel) (by decide +kernel)
theorem mv_yX2_move : Cond.instanceMethod yX2_move ∈ tkAll := tk_at 403 (by decide +kernel) (by decide +kernel)
theorem mc_X2_move : Cond.code yX2_move cX2_move 6 none ∈ tkAll := tk_at 404 (by decide +kernel) (by decide +kernel)
theorem ml_X2_82 : Cond.methodLink RX2 82 yJ9_min_7cf53 ∈ tkAll := tk_at 405 (by decide +kernel) (by decide +kernel)
theorem mt_yJ9_min_7cf53 : Cond.static yJ9_min_7cf53 ∈ tkAll := tk_at 406 (by decide +kernel) (by decide +kernel)
theorem mc_J9_min_7cf53 : Cond.code yJ9_min_7cf53 cJ9_min_7cf53 2 (some .int) ∈ tkAll := tk_at 407 (by decide +kernel) (by decide +kernel)
theorem ml_X2_73 : Cond.methodLink RX2 73 yX2_enter ∈ tkAll := tk_at 408 (by decide +kernel) (by decide +kernel)
theorem mv_yX2_enter : Cond.instanceMethod yX2_enter ∈ tkAll := tk_at 410 (by decide +kernel) (by decide +kernel)
theorem mc_X2_enter : Cond.code yX2_enter cX2_enter 5 none ∈ tkAll := tk_at 411 (by decide +kernel) (by decide +kernel)
theorem ml_X1_81 : Cond.methodLink RX1 81 yX4_leakAndSum ∈ tkAll := tk_at 412 (by decide +kernel) (by decide +kernel)
theorem mv_yX4_leakAndSum : Cond.instanceMethod yX4_leakAndSum ∈ tkAll := tk_at 413 (by decide +kernel) (by decide +kernel)
theorem ms_yX4_leakAndSum : Cond.selects (MethodName.cls yX4_leakAndSum) yX4_leakAndSum yX4_leakAndSum ∈ tkAll := tk_at 414 (by decide +kernel) (by decide +kernel)
theorem mc_X4_leakAndSum : Cond.code yX4_leakAndSum cX4_leakAndSum 2 none ∈ tkAll := tk_at 415 (by decide +kernel) (by decide +kernel)
theorem ml_X4_38 : Cond.methodLink RX4 38 yJ9_min_7cf53 ∈ tkAll := tk_at 416 (by decide +kernel) (by decide +kernel)
theorem ml_X1_58 : Cond.methodLink RX1 58 yX1_repeatLast ∈ tkAll := tk_at 417 (by decide +kernel) (by decide +kernel)
theorem mv_yX1_repeatLast : Cond.instanceMethod yX1_repeatLast ∈ tkAll := tk_at 419 (by decide +kernel) (by decide +kernel)
theorem mc_X1_repeatLast : Cond.code yX1_repeatLast cX1_repeatLast 3 (some .int) ∈ tkAll := tk_at 420 (by decide +kernel) (by decide +kernel)
theorem ml_X1_84 : Cond.methodLink RX1 84 yX3_steadyTicks ∈ tkAll := tk_at 421 (by decide +kernel) (by decide +kernel)
theorem mv_yX3_steadyTicks : Cond.instanceMethod yX3_steadyTicks ∈ tkAll := tk_at 422 (by decide +kernel) (by decide +kernel)
theorem ms_yX3_steadyTicks : Cond.selects (MethodName.cls yX3_steadyTicks) yX3_steadyTicks yX3_steadyTicks ∈ tkAll := tk_at 423 (by decide +kernel) (by decide +kernel)
theorem mc_X3_steadyTicks : Cond.code yX3_steadyTicks cX3_steadyTicks 7 (some .int) ∈ tkAll := tk_at 424 (by decide +kernel) (by decide +kernel)
theorem ml_X3_49 : Cond.methodLink RX3 49 yX4_drift ∈ tkAll := tk_at 425 (by decide +kernel) (by decide +kernel)
theorem mv_yX4_drift : Cond.instanceMethod yX4_drift ∈ tkAll := tk_at 426 (by decide +kernel) (by decide +kernel)
theorem ms_yX4_drift : Cond.selects (MethodName.cls yX4_drift) yX4_drift yX4_drift ∈ tkAll := tk_at 427 (by decide +kernel) (by decide +kernel)
theorem mc_X4_drift : Cond.code yX4_drift cX4_drift 2 (some .int) ∈ tkAll := tk_at 428 (by decide +kernel) (by decide +kernel)
theorem ml_X3_53 : Cond.methodLinkNest RX3 53 yX5_ticksWhile RX5 ∈ tkAll := tk_at 429 (by decide +kernel) (by decide +kernel)
theorem mt_yX5_ticksWhile : Cond.static yX5_ticksWhile ∈ tkAll := tk_at 430 (by decide +kernel) (by decide +kernel)
theorem mc_X5_ticksWhile : Cond.code yX5_ticksWhile cX5_ticksWhile 5 (some .int) ∈ tkAll := tk_at 431 (by decide +kernel) (by decide +kernel)
theorem ml_X5_229 : Cond.methodLink RX5 229 yJ9_min_f86c9 ∈ tkAll := tk_at 432 (by decide +kernel) (by decide +kernel)
theorem mt_yJ9_min_f86c9 : Cond.static yJ9_min_f86c9 ∈ tkAll := tk_at 433 (by decide +kernel) (by decide +kernel)
theorem mc_J9_min_f86c9 : Cond.code yJ9_min_f86c9 cJ9_min_f86c9 4 (some .long) ∈ tkAll := tk_at 434 (by decide +kernel) (by decide +kernel)
theorem ml_X1_88 : Cond.methodLink RX1 88 yX2_steadyTicks ∈ tkAll := tk_at 435 (by decide +kernel) (by decide +kernel)
theorem mv_yX2_steadyTicks : Cond.instanceMethod yX2_steadyTicks ∈ tkAll := tk_at 436 (by decide +kernel) (by decide +kernel)
theorem ms_yX2_steadyTicks : Cond.selects (MethodName.cls yX2_steadyTicks) yX2_steadyTicks yX2_steadyTicks ∈ tkAll := tk_at 437 (by decide +kernel) (by decide +kernel)
theorem mc_X2_steadyTicks : Cond.code yX2_steadyTicks cX2_steadyTicks 6 (some .int) ∈ tkAll := tk_at 438 (by decide +kernel) (by decide +kernel)
theorem ml_X2_91 : Cond.methodLink RX2 91 yX2_steadyTicksOf ∈ tkAll := tk_at 439 (by decide +kernel) (by decide +kernel)
theorem mv_yX2_steadyTicksOf : Cond.instanceMethod yX2_steadyTicksOf ∈ tkAll := tk_at 441 (by decide +kernel) (by decide +kernel)
theorem mc_X2_steadyTicksOf : Cond.code yX2_steadyTicksOf cX2_steadyTicksOf 7 (some .int) ∈ tkAll := tk_at 442 (by decide +kernel) (by decide +kernel)
theorem ml_X2_95 : Cond.methodLink RX2 95 yX4_drift ∈ tkAll := tk_at 443 (by decide +kernel) (by decide +kernel)
theorem ml_X2_99 : Cond.methodLinkNest RX2 99 yX5_ticksWhile RX5 ∈ tkAll := tk_at 444 (by decide +kernel) (by decide +kernel)
theorem ml_X1_91 : Cond.methodLink RX1 91 yX4_steadyTicks ∈ tkAll := tk_at 445 (by decide +kernel) (by decide +kernel)
theorem mv_yX4_steadyTicks : Cond.instanceMethod yX4_steadyTicks ∈ tkAll := tk_at 446 (by decide +kernel) (by decide +kernel)
theorem ms_yX4_steadyTicks : Cond.selects (MethodName.cls yX4_steadyTicks) yX4_steadyTicks yX4_steadyTicks ∈ tkAll := tk_at 447 (by decide +kernel) (by decide +kernel)
theorem mc_X4_steadyTicks : Cond.code yX4_steadyTicks cX4_steadyTicks 4 (some .int) ∈ tkAll := tk_at 448 (by decide +kernel) (by decide +kernel)
theorem ml_X4_44 : Cond.methodLink RX4 44 yX4_drift ∈ tkAll := tk_at 449 (by decide +kernel) (by decide +kernel)
theorem ml_X4_48 : Cond.methodLinkNest RX4 48 yX5_ticksWhile RX5 ∈ tkAll := tk_at 450 (by decide +kernel) (by decide +kernel)
theorem ml_X1_93 : Cond.methodLink RX1 93 yX2_repeat ∈ tkAll := tk_at 451 (by decide +kernel) (by decide +kernel)
theorem mv_yX2_repeat : Cond.instanceMethod yX2_repeat ∈ tkAll := tk_at 452 (by decide +kernel) (by decide +kernel)
theorem ms_yX2_repeat : Cond.selects (MethodName.cls yX2_repeat) yX2_repeat yX2_repeat ∈ tkAll := tk_at 453 (by decide +kernel) (by decide +kernel)
theorem mc_X2_repeat : Cond.code yX2_repeat cX2_repeat 4 none ∈ tkAll := tk_at 454 (by decide +kernel) (by decide +kernel)
theorem ml_X1_97 : Cond.methodLink RX1 97 yX4_repeat ∈ tkAll := tk_at 455 (by decide +kernel) (by decide +kernel)
theorem mv_yX4_repeat : Cond.instanceMethod yX4_repeat ∈ tkAll := tk_at 456 (by decide +kernel) (by decide +kernel)
theorem ms_yX4_repeat : Cond.selects (MethodName.cls yX4_repeat) yX4_repeat yX4_repeat ∈ tkAll := tk_at 457 (by decide +kernel) (by decide +kernel)
theorem mc_X4_repeat : Cond.code yX4_repeat cX4_repeat 6 none ∈ tkAll := tk_at 458 (by decide +kernel) (by decide +kernel)
theorem ml_X4_52 : Cond.constantLong RX4 52 (2) ∈ tkAll := tk_at 459 (by decide +kernel) (by decide +kernel)
theorem ml_L_71 : Cond.methodLink RL 71 yX5_time ∈ tkAll := tk_at 460 (by decide +kernel) (by decide +kernel)
theorem mv_yX5_time : Cond.instanceMethod yX5_time ∈ tkAll := tk_at 461 (by decide +kernel) (by decide +kernel)
theorem ms_yX5_time : Cond.selects (MethodName.cls yX5_time) yX5_time yX5_time ∈ tkAll := tk_at 462 (by decide +kernel) (by decide +kernel)
theorem mc_X5_time : Cond.code yX5_time cX5_time 1 (some .long) ∈ tkAll := tk_at 463 (by decide +kernel) (by decide +kernel)
theorem ml_L_49 : Cond.methodLink RL 49 yX5_level ∈ tkAll := tk_at 464 (by decide +kernel) (by decide +kernel)
theorem mv_yX5_level : Cond.instanceMethod yX5_level ∈ tkAll := tk_at 465 (by decide +kernel) (by decide +kernel)
theorem ms_yX5_level : Cond.selects (MethodName.cls yX5_level) yX5_level yX5_level ∈ tkAll := tk_at 466 (by decide +kernel) (by decide +kernel)
theorem mc_X5_level : Cond.code yX5_level cX5_level 2 (some .int) ∈ tkAll := tk_at 467 (by decide +kernel) (by decide +kernel)
theorem ml_L_52 : Cond.methodLink RL 52 yX5_levelSum ∈ tkAll := tk_at 468 (by decide +kernel) (by decide +kernel)
theorem mv_yX5_levelSum : Cond.instanceMethod yX5_levelSum ∈ tkAll := tk_at 469 (by decide +kernel) (by decide +kernel)
theorem ms_yX5_levelSum : Cond.selects (MethodName.cls yX5_levelSum) yX5_levelSum yX5_levelSum ∈ tkAll := tk_at 470 (by decide +kernel) (by decide +kernel)
theorem mc_X5_levelSum : Cond.code yX5_levelSum cX5_levelSum 2 (some .long) ∈ tkAll := tk_at 471 (by decide +kernel) (by decide +kernel)
theorem ml_L_56 : Cond.methodLink RL 56 yX5_isOn ∈ tkAll := tk_at 472 (by decide +kernel) (by decide +kernel)
theorem mv_yX5_isOn : Cond.instanceMethod yX5_isOn ∈ tkAll := tk_at 473 (by decide +kernel) (by decide +kernel)
theorem ms_yX5_isOn : Cond.selects (MethodName.cls yX5_isOn) yX5_isOn yX5_isOn ∈ tkAll := tk_at 474 (by decide +kernel) (by decide +kernel)
theorem mc_X5_isOn : Cond.code yX5_isOn cX5_isOn 2 (some .boolean) ∈ tkAll := tk_at 475 (by decide +kernel) (by decide +kernel)
theorem ml_L_60 : Cond.methodLink RL 60 yX5_total ∈ tkAll := tk_at 476 (by decide +kernel) (by decide +kernel)
theorem mv_yX5_total : Cond.instanceMethod yX5_total ∈ tkAll := tk_at 477 (by decide +kernel) (by decide +kernel)
theorem ms_yX5_total : Cond.selects (MethodName.cls yX5_total) yX5_total yX5_total ∈ tkAll := tk_at 478 (by decide +kernel) (by decide +kernel)
theorem mc_X5_total : Cond.code yX5_total cX5_total 2 (some .long) ∈ tkAll := tk_at 479 (by decide +kernel) (by decide +kernel)
theorem ml_X5_115 : Cond.methodLink RX5 115 yX5_needPump ∈ tkAll := tk_at 480 (by decide +kernel) (by decide +kernel)
theorem mv_yX5_needPump : Cond.instanceMethod yX5_needPump ∈ tkAll := tk_at 482 (by decide +kernel) (by decide +kernel)
theorem mc_X5_needPump : Cond.code yX5_needPump cX5_needPump 2 none ∈ tkAll := tk_at 483 (by decide +kernel) (by decide +kernel)
theorem ml_L_63 : Cond.methodLink RL 63 yX5_energy ∈ tkAll := tk_at 485 (by decide +kernel) (by decide +kernel)
theorem mv_yX5_energy : Cond.instanceMethod yX5_energy ∈ tkAll := tk_at 486 (by decide +kernel) (by decide +kernel)
theorem ms_yX5_energy : Cond.selects (MethodName.cls yX5_energy) yX5_energy yX5_energy ∈ tkAll := tk_at 487 (by decide +kernel) (by decide +kernel)
theorem mc_X5_energy : Cond.code yX5_energy cX5_energy 2 (some .long) ∈ tkAll := tk_at 488 (by decide +kernel) (by decide +kernel)
theorem ml_L_68 : Cond.methodLink RL 68 yX5_shortTicks ∈ tkAll := tk_at 489 (by decide +kernel) (by decide +kernel)
theorem mv_yX5_shortTicks : Cond.instanceMethod yX5_shortTicks ∈ tkAll := tk_at 490 (by decide +kernel) (by decide +kernel)
theorem ms_yX5_shortTicks : Cond.selects (MethodName.cls yX5_shortTicks) yX5_shortTicks yX5_shortTicks ∈ tkAll := tk_at 491 (by decide +kernel) (by decide +kernel)
theorem mc_X5_shortTicks : Cond.code yX5_shortTicks cX5_shortTicks 2 (some .long) ∈ tkAll := tk_at 492 (by decide +kernel) (by decide +kernel)
theorem ml_L_45 : Cond.methodLink RL 45 yX5_changeCount ∈ tkAll := tk_at 493 (by decide +kernel) (by decide +kernel)
theorem mv_yX5_changeCount : Cond.instanceMethod yX5_changeCount ∈ tkAll := tk_at 494 (by decide +kernel) (by decide +kernel)
theorem ms_yX5_changeCount : Cond.selects (MethodName.cls yX5_changeCount) yX5_changeCount yX5_changeCount ∈ tkAll := tk_at 495 (by decide +kernel) (by decide +kernel)
theorem mc_X5_changeCount : Cond.code yX5_changeCount cX5_changeCount 1 (some .long) ∈ tkAll := tk_at 496 (by decide +kernel) (by decide +kernel)
theorem ml_L_18 : Cond.methodLink RL 18 yL_below ∈ tkAll := tk_at 497 (by decide +kernel) (by decide +kernel)
theorem mt_yL_below : Cond.static yL_below ∈ tkAll := tk_at 498 (by decide +kernel) (by decide +kernel)
theorem mc_L_below : Cond.code yL_below cL_below 2 (some .int) ∈ tkAll := tk_at 499 (by decide +kernel) (by decide +kernel)
theorem ml_L_7 : Cond.constant RL 7 (2147483647) ∈ tkAll := tk_at 500 (by decide +kernel) (by decide +kernel)
theorem ml_L_12 : Cond.methodLink RL 12 yL_cell ∈ tkAll := tk_at 501 (by decide +kernel) (by decide +kernel)
theorem mt_yL_cell : Cond.static yL_cell ∈ tkAll := tk_at 502 (by decide +kernel) (by decide +kernel)
theorem mc_L_cell : Cond.code yL_cell cL_cell 2 (some .int) ∈ tkAll := tk_at 503 (by decide +kernel) (by decide +kernel)
theorem ml_L_8 : Cond.constant RL 8 (790386105) ∈ tkAll := tk_at 504 (by decide +kernel) (by decide +kernel)
theorem ml_L_38 : Cond.methodLink RL 38 yJ9_max_7cf53 ∈ tkAll := tk_at 505 (by decide +kernel) (by decide +kernel)
theorem mt_yJ9_max_7cf53 : Cond.static yJ9_max_7cf53 ∈ tkAll := tk_at 506 (by decide +kernel) (by decide +kernel)
theorem mc_J9_max_7cf53 : Cond.code yJ9_max_7cf53 cJ9_max_7cf53 2 (some .int) ∈ tkAll := tk_at 507 (by decide +kernel) (by decide +kernel)
theorem ml_L_33 : Cond.methodLink RL 33 yJ9_min_7cf53 ∈ tkAll := tk_at 508 (by decide +kernel) (by decide +kernel)
theorem ml_L_66 : Cond.constantLong RL 66 (2) ∈ tkAll := tk_at 509 (by decide +kernel) (by decide +kernel)
theorem mm_J9_max_7cf53 : tkMth yJ9_max_7cf53 cJ9_max_7cf53 2 (some .int) 2 := ⟨mc_J9_max_7cf53, mi_J9, by decide, by decide +kernel⟩
theorem mm_J9_min_7cf53 : tkMth yJ9_min_7cf53 cJ9_min_7cf53 2 (some .int) 2 := ⟨mc_J9_min_7cf53, mi_J9, by decide, by decide +kernel⟩
theorem mm_J9_min_f86c9 : tkMth yJ9_min_f86c9 cJ9_min_f86c9 4 (some .long) 2 := ⟨mc_J9_min_f86c9, mi_J9, by decide, by decide +kernel⟩
theorem mm_L_below : tkMth yL_below cL_below 2 (some .int) 2 := ⟨mc_L_below, mi_L, by decide, by decide +kernel⟩
theorem mm_L_cell : tkMth yL_cell cL_cell 2 (some .int) 2 := ⟨mc_L_cell, mi_L, by decide, by decide +kernel⟩
theorem mm_X0_init : tkMth yX0_init cX0_init 1 none 0 := ⟨mc_X0_init, mi_X0, by decide, by decide +kernel⟩
theorem mm_X0_note : tkMth yX0_note cX0_note 5 none 2 := ⟨mc_X0_note, mi_X0, by decide, by decide +kernel⟩
theorem mm_X1_advance : tkMth yX1_advance cX1_advance 4 (some .int) 1 := ⟨mc_X1_advance, mi_X1, by decide, by decide +kernel⟩
theorem mm_X1_init : tkMth yX1_init cX1_init 1 none 0 := ⟨mc_X1_init, mi_X1, by decide, by decide +kernel⟩
theorem mm_X1_repeatLast : tkMth yX1_repeatLast cX1_repeatLast 3 (some .int) 1 := ⟨mc_X1_repeatLast, mi_X1, by decide, by decide +kernel⟩
theorem mm_X1_tick : tkMth yX1_tick cX1_tick 2 (some .int) 0 := ⟨mc_X1_tick, mi_X1, by decide, by decide +kernel⟩
theorem mm_X2_append : tkMth yX2_append cX2_append 8 (some .int) 6 := ⟨mc_X2_append, mi_X2, by decide, by decide +kernel⟩
theorem mm_X2_enter : tkMth yX2_enter cX2_enter 5 none 2 := ⟨mc_X2_enter, mi_X2, by decide, by decide +kernel⟩
theorem mm_X2_init : tkMth yX2_init cX2_init 1 none 0 := ⟨mc_X2_init, mi_X2, by decide, by decide +kernel⟩
theorem mm_X2_isActive : tkMth yX2_isActive cX2_isActive 4 (some .boolean) 2 := ⟨mc_X2_isActive, mi_X2, by decide, by decide +kernel⟩
theorem mm_X2_move : tkMth yX2_move cX2_move 6 none 2 := ⟨mc_X2_move, mi_X2, by decide, by decide +kernel⟩
theorem mm_X2_moveAll : tkMth yX2_moveAll cX2_moveAll 4 none 2 := ⟨mc_X2_moveAll, mi_X2, by decide, by decide +kernel⟩
theorem mm_X2_repeat : tkMth yX2_repeat cX2_repeat 4 none 2 := ⟨mc_X2_repeat, mi_X2, by decide, by decide +kernel⟩
theorem mm_X2_steadyTicks : tkMth yX2_steadyTicks cX2_steadyTicks 6 (some .int) 3 := ⟨mc_X2_steadyTicks, mi_X2, by decide, by decide +kernel⟩
theorem mm_X2_steadyTicksOf : tkMth yX2_steadyTicksOf cX2_steadyTicksOf 7 (some .int) 3 := ⟨mc_X2_steadyTicksOf, mi_X2, by decide, by decide +kernel⟩
theorem mm_X3_append : tkMth yX3_append cX3_append 5 (some .int) 3 := ⟨mc_X3_append, mi_X3, by decide, by decide +kernel⟩
theorem mm_X3_follow : tkMth yX3_follow cX3_follow 9 (some .int) 3 := ⟨mc_X3_follow, mi_X3, by decide, by decide +kernel⟩
theorem mm_X3_init : tkMth yX3_init cX3_init 1 none 0 := ⟨mc_X3_init, mi_X3, by decide, by decide +kernel⟩
theorem mm_X3_steadyTicks : tkMth yX3_steadyTicks cX3_steadyTicks 7 (some .int) 2 := ⟨mc_X3_steadyTicks, mi_X3, by decide, by decide +kernel⟩
theorem mm_X4_append : tkMth yX4_append cX4_append 5 (some .int) 3 := ⟨mc_X4_append, mi_X4, by decide, by decide +kernel⟩
theorem mm_X4_drift : tkMth yX4_drift cX4_drift 2 (some .int) 1 := ⟨mc_X4_drift, mi_X4, by decide, by decide +kernel⟩
theorem mm_X4_init : tkMth yX4_init cX4_init 1 none 0 := ⟨mc_X4_init, mi_X4, by decide, by decide +kernel⟩
theorem mm_X4_leakAndSum : tkMth yX4_leakAndSum cX4_leakAndSum 2 none 0 := ⟨mc_X4_leakAndSum, mi_X4, by decide, by decide +kernel⟩
theorem mm_X4_noteLevels : tkMth yX4_noteLevels cX4_noteLevels 1 none 0 := ⟨mc_X4_noteLevels, mi_X4, by decide, by decide +kernel⟩
theorem mm_X4_repeat : tkMth yX4_repeat cX4_repeat 6 none 1 := ⟨mc_X4_repeat, mi_X4, by decide, by decide +kernel⟩
theorem mm_X4_steadyTicks : tkMth yX4_steadyTicks cX4_steadyTicks 4 (some .int) 1 := ⟨mc_X4_steadyTicks, mi_X4, by decide, by decide +kernel⟩
theorem mm_X5_addPump : tkMth yX5_addPump cX5_addPump 7 (some .int) 6 := ⟨mc_X5_addPump, mi_X5, by decide, by decide +kernel⟩
theorem mm_X5_addSwitch : tkMth yX5_addSwitch cX5_addSwitch 4 (some .int) 3 := ⟨mc_X5_addSwitch, mi_X5, by decide, by decide +kernel⟩
theorem mm_X5_addTank : tkMth yX5_addTank cX5_addTank 4 (some .int) 3 := ⟨mc_X5_addTank, mi_X5, by decide, by decide +kernel⟩
theorem mm_X5_changeCount : tkMth yX5_changeCount cX5_changeCount 1 (some .long) 0 := ⟨mc_X5_changeCount, mi_X5, by decide, by decide +kernel⟩
theorem mm_X5_energy : tkMth yX5_energy cX5_energy 2 (some .long) 1 := ⟨mc_X5_energy, mi_X5, by decide, by decide +kernel⟩
theorem mm_X5_init : tkMth yX5_init cX5_init 1 none 0 := ⟨mc_X5_init, mi_X5, by decide, by decide +kernel⟩
theorem mm_X5_isOn : tkMth yX5_isOn cX5_isOn 2 (some .boolean) 1 := ⟨mc_X5_isOn, mi_X5, by decide, by decide +kernel⟩
theorem mm_X5_isWithin : tkMth yX5_isWithin cX5_isWithin 3 (some .boolean) 3 := ⟨mc_X5_isWithin, mi_X5, by decide, by decide +kernel⟩
theorem mm_X5_level : tkMth yX5_level cX5_level 2 (some .int) 1 := ⟨mc_X5_level, mi_X5, by decide, by decide +kernel⟩
theorem mm_X5_levelSum : tkMth yX5_levelSum cX5_levelSum 2 (some .long) 1 := ⟨mc_X5_levelSum, mi_X5, by decide, by decide +kernel⟩
theorem mm_X5_needAmount : tkMth yX5_needAmount cX5_needAmount 2 none 2 := ⟨mc_X5_needAmount, mi_X5, by decide, by decide +kernel⟩
theorem mm_X5_needLeak : tkMth yX5_needLeak cX5_needLeak 1 none 1 := ⟨mc_X5_needLeak, mi_X5, by decide, by decide +kernel⟩
theorem mm_X5_needPump : tkMth yX5_needPump cX5_needPump 2 none 1 := ⟨mc_X5_needPump, mi_X5, by decide, by decide +kernel⟩
theorem mm_X5_needRate : tkMth yX5_needRate cX5_needRate 1 none 1 := ⟨mc_X5_needRate, mi_X5, by decide, by decide +kernel⟩
theorem mm_X5_needSwitch : tkMth yX5_needSwitch cX5_needSwitch 2 none 1 := ⟨mc_X5_needSwitch, mi_X5, by decide, by decide +kernel⟩
theorem mm_X5_needTank : tkMth yX5_needTank cX5_needTank 2 none 1 := ⟨mc_X5_needTank, mi_X5, by decide, by decide +kernel⟩
theorem mm_X5_needTankOrOutside : tkMth yX5_needTankOrOutside cX5_needTankOrOutside 2 none 1 := ⟨mc_X5_needTankOrOutside, mi_X5, by decide, by decide +kernel⟩
theorem mm_X5_needTicks : tkMth yX5_needTicks cX5_needTicks 2 none 2 := ⟨mc_X5_needTicks, mi_X5, by decide, by decide +kernel⟩
theorem mm_X5_run : tkMth yX5_run cX5_run 2 (some .int) 1 := ⟨mc_X5_run, mi_X5, by decide, by decide +kernel⟩
theorem mm_X5_shortTicks : tkMth yX5_shortTicks cX5_shortTicks 2 (some .long) 1 := ⟨mc_X5_shortTicks, mi_X5, by decide, by decide +kernel⟩
theorem mm_X5_ticksWhile : tkMth yX5_ticksWhile cX5_ticksWhile 5 (some .int) 3 := ⟨mc_X5_ticksWhile, mi_X5, by decide, by decide +kernel⟩
theorem mm_X5_time : tkMth yX5_time cX5_time 1 (some .long) 0 := ⟨mc_X5_time, mi_X5, by decide, by decide +kernel⟩
theorem mm_X5_total : tkMth yX5_total cX5_total 2 (some .long) 1 := ⟨mc_X5_total, mi_X5, by decide, by decide +kernel⟩
theorem mx_iae : ∀ w ∈ vx_atS RX5 36 "java/lang/IllegalArgumentException" ["java/lang/RuntimeException", "java/lang/Exception"], w ∈ tkAll := by decide +kernel
theorem mg_iae : ∀ w ∈ Cond.classLink RX5 32 "java/lang/IllegalArgumentException" :: Cond.initialized "java/lang/IllegalArgumentException" :: vx_atS RX5 36 "java/lang/IllegalArgumentException" ["java/lang/RuntimeException", "java/lang/Exception"], vx_ot w = true := by decide +kernel
theorem mx_ise : ∀ w ∈ vx_atS RX5 60 "java/lang/IllegalStateException" ["java/lang/RuntimeException", "java/lang/Exception"], w ∈ tkAll := by decide +kernel
theorem mg_ise : ∀ w ∈ Cond.classLink RX5 56 "java/lang/IllegalStateException" :: Cond.initialized "java/lang/IllegalStateException" :: vx_atS RX5 60 "java/lang/IllegalStateException" ["java/lang/RuntimeException", "java/lang/Exception"], vx_ot w = true := by decide +kernel
theorem mx_iobe : ∀ w ∈ vx_atS RX5 207 "java/lang/IndexOutOfBoundsException" ["java/lang/RuntimeException", "java/lang/Exception"], w ∈ tkAll := by decide +kernel
theorem mg_iobe : ∀ w ∈ Cond.classLink RX5 203 "java/lang/IndexOutOfBoundsException" :: Cond.initialized "java/lang/IndexOutOfBoundsException" :: vx_atS RX5 207 "java/lang/IndexOutOfBoundsException" ["java/lang/RuntimeException", "java/lang/Exception"], vx_ot w = true := by decide +kernel
end
section

section TKREG
/-- a block of N cells from p on, the rest elsewhere -/
def reg {α : Type} (p N : Nat) (f v : Nat → Nat → α) : Nat → Nat → α := fun a => if p ≤ a ∧ a < p + N then f (a - p) else v a
theorem reg_at {α : Type} {p N k : Nat} {f v : Nat → Nat → α} (hk : k < N) : reg p N f v (p + k) = f k := by
  rw [reg, if_pos ⟨Nat.le_add_right _ _, by omega⟩, Nat.add_sub_cancel_left]
theorem reg_off {α : Type} {p N a : Nat} {f v : Nat → Nat → α} (h : a < p ∨ p + N ≤ a) : reg p N f v a = v a := by
  rw [reg, if_neg (by omega)]
theorem tk2_reg {α : Type} {p N k i : Nat} {x : α} {f v : Nat → Nat → α} (hk : k < N) : tk2 (reg p N f v) (p + k) i x = reg p N (tk2 f k i x) v := by
  funext a j
  simp only [tk2, reg]
  by_cases h : p ≤ a ∧ a < p + N
  · rw [if_pos h, if_pos h]
    by_cases e : a = p + k
    · subst e
      simp [tk2]
    · have e2 : ¬ a - p = k := by omega
      simp [tk2, e, e2]
  · rw [if_neg h, if_neg h]
    have e : ¬ a = p + k := by omega
    simp [e]
theorem tk1_reg {α : Type} {p N k : Nat} {x : Nat → α} {f v : Nat → Nat → α} (hk : k < N) : tk1 (reg p N f v) (p + k) x = reg p N (tk1 f k x) v := by
  funext a
  simp only [tk1, reg]
  by_cases h : p ≤ a ∧ a < p + N
  · rw [if_pos h, if_pos h]
    by_cases e : a = p + k
    · subst e
      simp [tk1]
    · have e2 : ¬ a - p = k := by omega
      simp [tk1, e, e2]
  · rw [if_neg h, if_neg h]
    have e : ¬ a = p + k := by omega
    simp [e]
theorem reg_eta {α : Type} (p N : Nat) (v : Nat → Nat → α) : reg p N (fun k => v (p + k)) v = v := by
  funext a
  simp only [reg]
  by_cases h : p ≤ a ∧ a < p + N
  · rw [if_pos h, show p + (a - p) = a by omega]
  · rw [if_neg h]
theorem reg_reg {α : Type} (p N : Nat) (f g v : Nat → Nat → α) : reg p N f (reg p N g v) = reg p N f v := by
  funext a
  simp only [reg]
  by_cases h : p ≤ a ∧ a < p + N
  · rw [if_pos h, if_pos h]
  · rw [if_neg h, if_neg h, if_neg h]
theorem reg_congr {α : Type} {p N : Nat} {f g v : Nat → Nat → α} (h : ∀ k, k < N → f k = g k) : reg p N f v = reg p N g v := by
  funext a
  simp only [reg]
  by_cases q : p ≤ a ∧ a < p + N
  · rw [if_pos q, if_pos q, h _ (by omega)]
  · rw [if_neg q, if_neg q]
/-- the shapes and the inner references of a block -/
def tkReg (N : Nat) (T : Nat → Nat × Nat) (F : Nat → Nat → Option Nat) (σ : tkM) (p : Nat) : Prop := (∀ k, k < N → σ.2.1 (p + k) = T k) ∧ ∀ k j o, k < N → F k j = some o → σ.2.2 (p + k) j = some (p + o)
/-- a plant: itself, tanks (1..6), switches (7..11), pumps (12..24), log (25..27) -/
def pT (k : Nat) : Nat × Nat := match k with
  | 0 => (1, 0) | 1 => (4, 0) | 2 => (10, 8) | 3 => (10, 8) | 4 => (10, 8) | 5 => (11, 8) | 6 => (10, 8)
  | 7 => (3, 0) | 8 => (10, 10) | 9 => (10, 10) | 10 => (10, 10) | 11 => (12, 10)
  | 12 => (2, 0) | 13 => (10, 16) | 14 => (10, 16) | 15 => (10, 16) | 16 => (10, 16) | 17 => (10, 16) | 18 => (12, 16) | 19 => (11, 16) | 20 => (11, 16) | 21 => (11, 16) | 22 => (10, 16) | 23 => (10, 16) | 24 => (10, 16)
  | 25 => (0, 0) | 26 => (11, 30) | 27 => (10, 30) | _ => (99, 0)
def pF (k j : Nat) : Option Nat := match k with
  | 0 => (match j with | 0 => some 1 | 1 => some 7 | 2 => some 12 | 3 => some 25 | _ => none)
  | 1 => (match j with | 1 => some 2 | 2 => some 3 | 3 => some 4 | 4 => some 5 | 5 => some 6 | _ => none)
  | 7 => (match j with | 1 => some 8 | 2 => some 9 | 3 => some 10 | 4 => some 11 | _ => none)
  | 12 => (match j with | 1 => some 13 | 2 => some 14 | 3 => some 15 | 4 => some 16 | 5 => some 17 | 6 => some 18 | 7 => some 19 | 8 => some 20 | 9 => some 21 | 10 => some 22 | 11 => some 23 | 12 => some 24 | _ => none)
  | 25 => (match j with | 1 => some 26 | 2 => some 27 | _ => none)
  | _ => none
/-- the reference: itself, then its twenty rows -/
def mT (k : Nat) : Nat × Nat := match k with
  | 0 => (6, 0) | 1 => (10, 8) | 2 => (10, 10) | 3 => (10, 10) | 4 => (10, 10) | 5 => (10, 16) | 6 => (10, 16) | 7 => (10, 16) | 8 => (10, 16) | 9 => (12, 16) | 10 => (10, 8) | 11 => (10, 8) | 12 => (11, 8) | 13 => (12, 10) | 14 => (10, 16) | 15 => (11, 16) | 16 => (11, 16) | 17 => (11, 16) | 18 => (11, 30) | 19 => (10, 30) | 20 => (11, 820) | _ => (99, 0)
def mF (k j : Nat) : Option Nat := match k with
  | 0 => (match j with | 2 => some 1 | 4 => some 2 | 5 => some 3 | 6 => some 4 | 8 => some 5 | 9 => some 6 | 10 => some 7 | 11 => some 8 | 12 => some 9 | 13 => some 10 | 14 => some 11 | 15 => some 12 | 16 => some 13 | 17 => some 14 | 18 => some 15 | 19 => some 16 | 20 => some 17 | 24 => some 18 | 25 => some 19 | 27 => some 20 | _ => none)
  | _ => none
/-! array rules for indices that are small naturals -/
variable {X : tkX} {Q : State → Prop} {cc : ByteArray} {own nm : String} {nL d MC MS cs ss pc : Nat} {ret : Option FieldType} {hh : List (Nat × Nat × Nat × Nat)} {lv : List (Option Value)} {stk : List Value} {σ : tkM} {I : tkI} {L : tkL}
theorem g_ia (C : tkC X cc own nm nL ret hh d MC MS) {a n j : Nat} {i : Int32} {f : Nat → Int32} (hd : decode cc pc = .ok (.iaload, 1)) (hS : σ.2.1 a = (10, n)) (hI : I a = f) (hi : i = nI j) (hj : j < n) (hn : n < 2 ^ 31) (kk : tkG X Q cs ss (pc + 1) lv (.int (f j) :: stk) σ I L) : tkG X Q cs ss pc lv (.int i :: .ref a :: stk) σ I L := by
  subst hi
  exact g_iald C hd hS hI (vp_in_nI hj hn) (by rw [nI_clamp (by omega)]; exact kk)
theorem g_la (C : tkC X cc own nm nL ret hh d MC MS) {a n j : Nat} {i : Int32} {f : Nat → Int64} (hd : decode cc pc = .ok (.laload, 1)) (hS : σ.2.1 a = (11, n)) (hI : L a = f) (hi : i = nI j) (hj : j < n) (hn : n < 2 ^ 31) (kk : tkG X Q cs ss (pc + 1) lv (.long (f j) :: stk) σ I L) : tkG X Q cs ss pc lv (.int i :: .ref a :: stk) σ I L := by
  subst hi
  exact g_lald C hd hS hI (vp_in_nI hj hn) (by rw [nI_clamp (by omega)]; exact kk)
theorem g_za (C : tkC X cc own nm nL ret hh d MC MS) {a n j : Nat} {i : Int32} {f : Nat → Int32} (hd : decode cc pc = .ok (.baload, 1)) (hS : σ.2.1 a = (12, n)) (hI : I a = f) (hi : i = nI j) (hj : j < n) (hn : n < 2 ^ 31) (kk : (f j = 0 ∨ f j = 1) → tkG X Q cs ss (pc + 1) lv (.int (f j) :: stk) σ I L) : tkG X Q cs ss pc lv (.int i :: .ref a :: stk) σ I L := by
  subst hi
  exact g_zald C hd hS hI (vp_in_nI hj hn) (by rw [nI_clamp (by omega)]; exact kk)
theorem g_is (C : tkC X cc own nm nL ret hh d MC MS) {a n j : Nat} {i x : Int32} {I1 : tkI} (hd : decode cc pc = .ok (.iastore, 1)) (hS : σ.2.1 a = (10, n)) (hI : tk2 I a j x = I1) (hi : i = nI j) (hj : j < n) (hn : n < 2 ^ 31) (kk : tkG X Q cs ss (pc + 1) lv stk σ I1 L) : tkG X Q cs ss pc lv (.int x :: .int i :: .ref a :: stk) σ I L := by
  subst hi
  exact g_iast C hd hS (by rw [nI_clamp (by omega)]; exact hI) (vp_in_nI hj hn) kk
theorem g_zs (C : tkC X cc own nm nL ret hh d MC MS) {a n j : Nat} {i x : Int32} {I1 : tkI} (hd : decode cc pc = .ok (.bastore, 1)) (hS : σ.2.1 a = (12, n)) (hI : tk2 I a j x = I1) (hi : i = nI j) (hj : j < n) (hn : n < 2 ^ 31) (h01 : x = 0 ∨ x = 1) (kk : tkG X Q cs ss (pc + 1) lv stk σ I1 L) : tkG X Q cs ss pc lv (.int x :: .int i :: .ref a :: stk) σ I L := by
  subst hi
  exact g_zast C hd hS (by rw [nI_clamp (by omega)]; exact hI) (vp_in_nI hj hn) h01 kk
theorem g_ls (C : tkC X cc own nm nL ret hh d MC MS) {a n j : Nat} {i : Int32} {x : Int64} {L1 : tkL} (hd : decode cc pc = .ok (.lastore, 1)) (hS : σ.2.1 a = (11, n)) (hI : tk2 L a j x = L1) (hi : i = nI j) (hj : j < n) (hn : n < 2 ^ 31) (kk : tkG X Q cs ss (pc + 1) lv stk σ I L1) : tkG X Q cs ss pc lv (.long x :: .int i :: .ref a :: stk) σ I L := by
  subst hi
  exact g_last C hd hS (by rw [nI_clamp (by omega)]; exact hI) (vp_in_nI hj hn) kk
variable {rest : List Value} {σ' : tkM} {I' : tkI} {L' : tkL}
theorem tk_retv {v : Value} (k : tkG X Q cs ss pc lv (v :: rest) σ' I' L') : ∀ (v' : Option Value) (n : Nat), (Sum.inl (some v) : tkOut) = .inl v' → σ'.1 ≤ n → (false = false → n = σ'.1) → tkG X Q cs ss pc lv (v'.toList ++ rest) (n, σ'.2) I' L' := by
  intro v' n h1 _ h3
  cases h1
  cases h3 rfl
  exact k
theorem tk_retn (k : tkG X Q cs ss pc lv rest σ' I' L') : ∀ (v' : Option Value) (n : Nat), (Sum.inl none : tkOut) = .inl v' → σ'.1 ≤ n → (false = false → n = σ'.1) → tkG X Q cs ss pc lv (v'.toList ++ rest) (n, σ'.2) I' L' := by
  intro v' n h1 _ h3
  cases h1
  cases h3 rfl
  exact k
theorem tk_nothr {v : Option Value} : ∀ (E : String) (n : Nat), (Sum.inl v : tkOut) = .inr E → σ'.1 ≤ n → tkT X Q cs ss pc lv rest (n, σ'.2) I' L' E := by
  intro E n h1
  cases h1
theorem tk_noret {E : String} : ∀ (v' : Option Value) (n : Nat), (Sum.inr E : tkOut) = .inl v' → σ'.1 ≤ n → (false = false → n = σ'.1) → tkG X Q cs ss pc lv (v'.toList ++ rest) (n, σ'.2) I' L' := by
  intro v' n h1
  cases h1
theorem tk_thr {E : String} (k : ∀ n, σ'.1 ≤ n → tkT X Q cs ss pc lv rest (n, σ'.2) I' L' E) : ∀ (E' : String) (n : Nat), (Sum.inr E : tkOut) = .inr E' → σ'.1 ≤ n → tkT X Q cs ss pc lv rest (n, σ'.2) I' L' E' := by
  intro E' n h1 h2
  cases h1
  exact k n h2
end TKREG
end
section
section TKSPEC
/-- n rounds of f, with 0, 1 .. n - 1 -/
def itr {α : Type} (f : Nat → α → α) : Nat → α → α
  | 0, a => a
  | n + 1, a => f n (itr f n a)
theorem itr_inv {α : Type} {f : Nat → α → α} {P : α → Prop} {n : Nat} (hs : ∀ i a, i < n → P a → P (f i a)) : ∀ {k : Nat} {a : α}, k ≤ n → P a → P (itr f k a)
  | 0, a, _, h => h
  | k + 1, a, hk, h => hs k _ hk (itr_inv hs (Nat.le_of_succ_le hk) h)
def jmin (x y : Int32) : Int32 := if y < x then y else x
def jminL (x y : Int64) : Int64 := if y < x then y else x
theorem itr_stop {α : Type} {f : Nat → α → α} {P : α → Prop} (hs : ∀ i a, P a → f i a = a) {i : Nat} {a : α} (h : P (itr f i a)) : ∀ k, itr f (i + k) a = itr f i a
  | 0 => rfl
  | k + 1 => by
    have e := itr_stop hs h k
    show f (i + k) (itr f (i + k) a) = itr f i a
    rw [e]
    exact hs _ _ h
theorem tk_negz {b : Int64} (h : b < 0) : ¬ -b = 0 := Int64.neg_ne_zero.mpr (fun z => by rw [z] at h; exact absurd h (by decide))
/-- a margin's ticks -/
def jtw (spare slope : Int64) (limit : Int32) : Int32 := if 0 ≤ spare then (if slope < 0 then (jminL limit.toInt64 (spare / -slope)).toInt32 else limit) else 0
def jwith (x a b : Int32) : Int32 := if x < a then 0 else if b < x then 0 else 1
def jreach (lvl mark b : Int32) : Int32 := if b = 0 then (if lvl < mark then 0 else 1) else (if mark < lvl then 0 else 1)
def jmix (d x : Int64) : Int64 := d * 31 + x
def lgSlot (x : Int64) : Nat := x.toInt.toNat % 30
theorem lgSlot_lN {c : Nat} (h : c < 2 ^ 63) : lgSlot (lN c) = c % 30 := by
  rw [lgSlot, pk_lT h]
  rfl
/-! the tanks' steps, on plant-local memory -/
def sLeak (i : Nat) (q : tkI × tkL) : tkI × tkL :=
  let I1 := tk2 q.1 3 i (q.1 3 i - jmin (q.1 4 i) (q.1 3 i))
  (I1, tk2 q.2 5 i (q.2 5 i + (I1 3 i).toInt64))
def sTst (I : tkI) (i : Nat) (st : Int32) : Int32 := if 0 < st then jtw (I 3 i).toInt64 (I 3 i - I 6 i).toInt64 st else st
def sRep (t : Int32) (i : Nat) (q : tkI × tkL) : tkI × tkL :=
  (tk2 q.1 3 i (q.1 3 i + (q.1 3 i - q.1 6 i) * t),
   tk2 q.2 5 i (q.2 5 i + ((q.1 3 i).toInt64 * t.toInt64 + (q.1 3 i - q.1 6 i).toInt64 * (t.toInt64 * (t + 1).toInt64 / 2))))
def sTmix (I : tkI) (i : Nat) (d : Int64) : Int64 := jmix (jmix d (I 3 i).toInt64) (I 4 i).toInt64
def sBef (I : tkI) : tkI := tk1 I 6 (va_cpy (I 3) (I 6) 0 0 8)
/-! the log -/
def sNote (now : Int64) (i : Int32) (q : tkI × tkL) : tkI × tkL := (tk2 q.1 27 (lgSlot (q.2 25 0)) i, tk2 (tk2 q.2 26 (lgSlot (q.2 25 0)) now) 25 0 (q.2 25 0 + 1))
/-! the switches -/
def sDue (I : tkI) (i : Nat) : Int32 := if I 11 i = 0 then (if I 9 i < I 3 (I 8 i).toNatClampNeg then 0 else 1) else (if I 10 i ≤ I 3 (I 8 i).toNatClampNeg then 0 else 1)
def sFol (now : Int64) (i : Nat) (q : (tkI × tkL) × Int32) : (tkI × tkL) × Int32 :=
  if sDue q.1.1 i = q.1.1 11 i then q else (sNote now (nI i) (tk2 q.1.1 11 i (sDue q.1.1 i), q.1.2), q.2 + 1)
def sSst (I : tkI) (i : Nat) (st : Int32) : Int32 :=
  let t := (I 8 i).toNatClampNeg
  let lv := I 6 t
  let dr := I 3 t - I 6 t
  if 0 < st then (if I 11 i = 0 then jtw (lv - I 9 i - 1).toInt64 dr.toInt64 st else jtw (I 10 i - 1 - lv).toInt64 (-dr).toInt64 st) else st
def sSmix (I : tkI) (i : Nat) (d : Int64) : Int64 := jmix d (if I 11 i = 0 then 0 else 1)
/-- the switches' rows are in order: each watches a tank -/
def wSw (I : tkI) (ns : Nat) : Prop := I 7 0 = nI ns ∧ ns ≤ 10 ∧ ∀ i, i < ns → ∃ t, t < 8 ∧ I 8 i = nI t
def wTk (I : tkI) (nt : Nat) : Prop := I 1 0 = nI nt ∧ nt ≤ 8
/-- the pumps' rows are in order -/
def wPu (I : tkI) (np : Nat) : Prop := I 12 0 = nI np ∧ np ≤ 16 ∧ ∀ i, i < np → (I 13 i = -1 ∨ ∃ t, t < 8 ∧ I 13 i = nI t) ∧ (I 14 i = -1 ∨ ∃ t, t < 8 ∧ I 14 i = nI t) ∧ (I 17 i = -1 ∨ ∃ t, t < 10 ∧ I 17 i = nI t)
end TKSPEC
section TKCPY
variable {X : tkX} {Q : State → Prop} {cc : ByteArray} {own nm : String} {nL d MC MS cs ss pc : Nat} {ret : Option FieldType} {hh : List (Nat × Nat × Nat × Nat)} {lv : List (Option Value)} {stk : List Value} {σ : tkM} {I : tkI} {L : tkL}
theorem cp_reg {α : Type} {p N k n : Nat} {f v : Nat → Nat → α} {g : Nat → α} {a0 : Nat} (hk : k < N) (h : reg p N f v a0 = g) : tk1 (reg p N f v) (p + k) (va_cpy (reg p N f v a0) (reg p N f v (p + k)) 0 0 n) = reg p N (tk1 f k (va_cpy g (f k) 0 0 n)) v := by
  rw [h, reg_at hk, tk1_reg hk]
theorem g_cp_i (C : tkC X cc own nm nL ret hh d MC MS) {idx a a0 ns nd N : Nat} {n : Int32} {I1 : tkI} (hd : decode cc pc = .ok (.invokestatic idx, 3)) (hw1 : Cond.methodLink own idx arraycopyName ∈ tkAll)
    (hs0 : σ.2.1 a0 = (10, ns)) (hs1 : σ.2.1 a = (10, nd)) (hn : n = nI N) (hI : tk1 I a (va_cpy (I a0) (I a) 0 0 N) = I1) (h4 : N ≤ ns) (h5 : N ≤ nd) (hN : N < 2 ^ 31)
    (hd2 : 2 ≤ d) (hstk : (stk.map fun v => v.category).sum ≤ 8) (kk : tkG X Q cs ss (pc + 3) lv stk σ I1 L) : tkG X Q cs ss pc lv (.int n :: .int 0 :: .ref a :: .int 0 :: .ref a0 :: stk) σ I L := by
  subst hn
  have e0 : (0 : Int32).toNatClampNeg = 0 := by decide
  exact g_copy_i C hd hw1 mw_arraycopyName mt_arraycopyName mi_J10 hs0 hs1 (by rw [e0, nI_clamp hN]; exact hI) (by decide) (by decide) (nI_pos hN) (by rw [e0, nI_clamp hN]; omega) (by rw [e0, nI_clamp hN]; omega) hd2 hstk kk
theorem g_cp_z (C : tkC X cc own nm nL ret hh d MC MS) {idx a a0 ns nd N : Nat} {n : Int32} {I1 : tkI} (hd : decode cc pc = .ok (.invokestatic idx, 3)) (hw1 : Cond.methodLink own idx arraycopyName ∈ tkAll)
    (hs0 : σ.2.1 a0 = (12, ns)) (hs1 : σ.2.1 a = (12, nd)) (hn : n = nI N) (hI : tk1 I a (va_cpy (I a0) (I a) 0 0 N) = I1) (h4 : N ≤ ns) (h5 : N ≤ nd) (hN : N < 2 ^ 31)
    (hd2 : 2 ≤ d) (hstk : (stk.map fun v => v.category).sum ≤ 8) (kk : tkG X Q cs ss (pc + 3) lv stk σ I1 L) : tkG X Q cs ss pc lv (.int n :: .int 0 :: .ref a :: .int 0 :: .ref a0 :: stk) σ I L := by
  subst hn
  have e0 : (0 : Int32).toNatClampNeg = 0 := by decide
  exact g_copy_z C hd hw1 mw_arraycopyName mt_arraycopyName mi_J10 hs0 hs1 (by rw [e0, nI_clamp hN]; exact hI) (by decide) (by decide) (nI_pos hN) (by rw [e0, nI_clamp hN]; omega) (by rw [e0, nI_clamp hN]; omega) hd2 hstk kk
theorem g_cp_l (C : tkC X cc own nm nL ret hh d MC MS) {idx a a0 ns nd N : Nat} {n : Int32} {L1 : tkL} (hd : decode cc pc = .ok (.invokestatic idx, 3)) (hw1 : Cond.methodLink own idx arraycopyName ∈ tkAll)
    (hs0 : σ.2.1 a0 = (11, ns)) (hs1 : σ.2.1 a = (11, nd)) (hn : n = nI N) (hI : tk1 L a (va_cpy (L a0) (L a) 0 0 N) = L1) (h4 : N ≤ ns) (h5 : N ≤ nd) (hN : N < 2 ^ 31)
    (hd2 : 2 ≤ d) (hstk : (stk.map fun v => v.category).sum ≤ 8) (kk : tkG X Q cs ss (pc + 3) lv stk σ I L1) : tkG X Q cs ss pc lv (.int n :: .int 0 :: .ref a :: .int 0 :: .ref a0 :: stk) σ I L := by
  subst hn
  have e0 : (0 : Int32).toNatClampNeg = 0 := by decide
  exact g_copy_l C hd hw1 mw_arraycopyName mt_arraycopyName mi_J10 hs0 hs1 (by rw [e0, nI_clamp hN]; exact hI) (by decide) (by decide) (nI_pos hN) (by rw [e0, nI_clamp hN]; omega) (by rw [e0, nI_clamp hN]; omega) hd2 hstk kk
end TKCPY
section TKMIN
variable {X : tkX} {Q : State → Prop} {cc : ByteArray} {own nm : String} {nL d MC MS cs ss pc : Nat} {ret : Option FieldType} {hh : List (Nat × Nat × Nat × Nat)} {lv : List (Option Value)} {stk : List Value} {σ : tkM} {I : tkI} {L : tkL}
theorem mz_min : Cond.code Lib.Math.min.name Lib.Math.min.code 2 (some .int) ∈ tkAll := tk_at 407 (by decide +kernel) (by decide +kernel)
theorem mz_minL : Cond.code Lib.MathLoose.min_long.x Lib.MathLoose.min_long.code 4 (some .long) ∈ tkAll := tk_at 434 (by decide +kernel) (by decide +kernel)
theorem g_min (C : tkC X cc own nm nL ret hh d MC MS) {idx : Nat} {x y : Int32} (hd : decode cc pc = .ok (.invokestatic idx, 3)) (hw : Cond.methodLink own idx yJ9_min_7cf53 ∈ tkAll) (h1 : 1 ≤ d) (h2 : cs ≤ MC) (h3 : ss ≤ MS) (hst : (stk.map fun v => v.category).sum ≤ 8) (k : tkG X Q cs ss (pc + 3) lv (.int (jmin x y) :: stk) σ I L) : tkG X Q cs ss pc lv (.int y :: .int x :: stk) σ I L := by
  obtain ⟨p, l, e, R, s, m, args, below, meth, c, base, D⟩ := X
  obtain ⟨hx, hb, hml, hown, hts, hK, hE, hlocks, hr, hnm, hhh, hfr, hlo, hRc, hRs, hst9⟩ := C
  intro H locs ls hSS hR hl
  exact va_mmin hx hb (by exact hl.1.symm) hown (hts _ hw) (hts _ mt_yJ9_min_7cf53) (hts _ mi_J9) (hts _ mz_min) (by omega) (by omega) (by rw [hRc]; exact h2) (by rw [hRs]; exact h3) hd (k H locs ls hSS hR hl)
theorem g_minL (C : tkC X cc own nm nL ret hh d MC MS) {idx : Nat} {x y : Int64} (hd : decode cc pc = .ok (.invokestatic idx, 3)) (hw : Cond.methodLink own idx yJ9_min_f86c9 ∈ tkAll) (h1 : 1 ≤ d) (h2 : cs ≤ MC) (h3 : ss ≤ MS) (hst : (stk.map fun v => v.category).sum ≤ 8) (k : tkG X Q cs ss (pc + 3) lv (.long (jminL x y) :: stk) σ I L) : tkG X Q cs ss pc lv (.long y :: .long x :: stk) σ I L := by
  obtain ⟨p, l, e, R, s, m, args, below, meth, c, base, D⟩ := X
  obtain ⟨hx, hb, hml, hown, hts, hK, hE, hlocks, hr, hnm, hhh, hfr, hlo, hRc, hRs, hst9⟩ := C
  intro H locs ls hSS hR hl
  exact va_mmin_long hx hb (by exact hl.1.symm) hown (hts _ hw) (hts _ mt_yJ9_min_f86c9) (hts _ mi_J9) (hts _ mz_minL) (by omega) (by omega) (by rw [hRc]; exact h2) (by rw [hRs]; exact h3) hd (k H locs ls hSS hR hl)
end TKMIN
end
section
section TKTANKS
variable {σ : tkM} {p : Nat} {I0 v : tkI} {L0 w : tkL}
/-! the static helpers of TankPlant -/
theorem c_X5_isWithin {I : tkI} {L : tkL} (x a b : Int32) : tkCon false (.code yX5_isWithin cX5_isWithin 3 (some .boolean)) yX5_isWithin 1 [.int x, .int a, .int b] σ I L 0 0 (.inl (some (.int (jwith x a b)))) σ I L := by
  refine tkCon.of (by decide) (Nat.le_of_ble_eq_true rfl) (fun X C => ?_)
  refine g_iload_n C (i := 0) dX5_isWithin_0 rfl rfl ?_
  refine g_iload_n C (i := 1) dX5_isWithin_1 rfl rfl ?_
  refine g_icmp_lt C 14 dX5_isWithin_2 (by decide) (fun h2 => ?_) (fun h2 => ?_)
  · refine g_iconst C (0) dX5_isWithin_14 rfl ?_
    exact g_zreturn C dX5_isWithin_15 ⟨Nat.le_refl _, Nat.le_refl _⟩ (Or.inl rfl) (tkEnd.rf (by simp [jwith, h2]) rfl rfl)
  · refine g_iload_n C (i := 0) dX5_isWithin_5 rfl rfl ?_
    refine g_iload_n C (i := 2) dX5_isWithin_6 rfl rfl ?_
    refine g_icmp_gt C 14 dX5_isWithin_7 (by decide) (fun h7 => ?_) (fun h7 => ?_)
    · refine g_iconst C (0) dX5_isWithin_14 rfl ?_
      exact g_zreturn C dX5_isWithin_15 ⟨Nat.le_refl _, Nat.le_refl _⟩ (Or.inl rfl) (tkEnd.rf (by simp [jwith, h2, h7]) rfl rfl)
    · refine g_iconst C (1) dX5_isWithin_10 rfl ?_
      refine g_goto C 15 dX5_isWithin_11 (by decide) ?_
      exact g_zreturn C dX5_isWithin_15 ⟨Nat.le_refl _, Nat.le_refl _⟩ (Or.inr rfl) (tkEnd.rf (by simp [jwith, h2, h7]) rfl rfl)
theorem c_X5_ticksWhile {I : tkI} {L : tkL} (a b : Int64) (m : Int32) : tkCon false (.code yX5_ticksWhile cX5_ticksWhile 5 (some .int)) yX5_ticksWhile 2 [.long a, .long b, .int m] σ I L 0 0 (.inl (some (.int (jtw a b m)))) σ I L := by
  refine tkCon.of (by decide) (Nat.le_of_ble_eq_true rfl) (fun X C => ?_)
  refine g_lload_n C (i := 0) dX5_ticksWhile_0 rfl rfl ?_
  refine g_lconst C 0 dX5_ticksWhile_1 rfl ?_
  refine g_lcmp C dX5_ticksWhile_2 ?_
  refine g_if_ge C 8 dX5_ticksWhile_3 (by decide) (fun h3 => ?_) (fun h3 => ?_)
  · rw [lg_cmp_ge] at h3
    refine g_lload_n C (i := 2) dX5_ticksWhile_8 rfl rfl ?_
    refine g_lconst C 0 dX5_ticksWhile_9 rfl ?_
    refine g_lcmp C dX5_ticksWhile_10 ?_
    refine g_if_lt C 17 dX5_ticksWhile_11 (by decide) (fun h11 => ?_) (fun h11 => ?_)
    · rw [lg_cmp_lt] at h11
      refine g_iload C (i := 4) dX5_ticksWhile_17 rfl ?_
      refine g_i2l C dX5_ticksWhile_19 ?_
      refine g_lload_n C (i := 0) dX5_ticksWhile_20 rfl rfl ?_
      refine g_lload_n C (i := 2) dX5_ticksWhile_21 rfl rfl ?_
      refine g_lneg C dX5_ticksWhile_22 ?_
      refine g_ldiv C dX5_ticksWhile_23 (tk_negz h11) ?_
      refine g_minL C dX5_ticksWhile_24 ml_X5_229 (by decide) (Nat.le_of_ble_eq_true rfl) (Nat.le_of_ble_eq_true rfl) (Nat.le_of_ble_eq_true rfl) ?_
      refine g_l2i C dX5_ticksWhile_27 ?_
      exact g_ireturn C dX5_ticksWhile_28 ⟨Nat.le_of_ble_eq_true rfl, Nat.le_of_ble_eq_true rfl⟩ (tkEnd.rf (by simp [jtw, h3, h11]) rfl rfl)
    · rw [lg_cmp_lt] at h11
      refine g_iload C (i := 4) dX5_ticksWhile_14 rfl ?_
      exact g_ireturn C dX5_ticksWhile_16 ⟨Nat.le_of_ble_eq_true rfl, Nat.le_of_ble_eq_true rfl⟩ (tkEnd.rf (by simp [jtw, h3, h11]) rfl rfl)
  · rw [lg_cmp_ge] at h3
    refine g_iconst C (0) dX5_ticksWhile_6 rfl ?_
    exact g_ireturn C dX5_ticksWhile_7 ⟨Nat.le_of_ble_eq_true rfl, Nat.le_of_ble_eq_true rfl⟩ (tkEnd.rf (by simp [jtw, h3]) rfl rfl)
/-! Tanks -/
/-- Tanks.append -/
theorem c_X4_append (hP : tkReg 28 pT pF σ p) {n : Nat} (hn : n < 8) (hc : I0 1 0 = nI n) (x1 x2 x3 : Int32) :
    tkCon false (.code yX4_append cX4_append 5 (some .int)) yX4_append 1 [.ref (p + 1), .int x1, .int x2, .int x3] σ (reg p 28 I0 v) (reg p 28 L0 w) 0 0 (.inl (some (.int (nI n)))) σ
      (reg p 28 (tk2 (tk2 (tk2 (tk2 I0 2 n x1) 3 n x2) 4 n x3) 1 0 (nI n + 1)) v) (reg p 28 (tk2 L0 5 n 0) w) := by
  refine tkCon.of (by decide) (Nat.le_of_ble_eq_true rfl) (fun X C => ?_)
  refine g_aload_n C (i := 0) dX4_append_0 rfl rfl ?_
  refine g_getI C 4 0 (RX4, TX4, 6) dX4_append_1 (hP.1 1 (by decide)) (reg_at (k := 1) (by decide)) ml_X4_28 rfl (by decide) (Or.inl rfl) ?_
  rw [hc]
  refine g_istore C (i := 4) dX4_append_4 (by decide) ?_
  refine g_aload_n C (i := 0) dX4_append_6 rfl rfl ?_
  refine g_getR C 4 1 (RX4, TX4, 6) dX4_append_7 (hP.1 1 (by decide)) (hP.2 1 1 2 (by decide) rfl) ml_X4_9 rfl (by decide) rfl ?_
  refine g_iload C (i := 4) dX4_append_10 rfl ?_
  refine g_iload_n C (i := 1) dX4_append_12 rfl rfl ?_
  refine g_is C dX4_append_13 (hP.1 2 (by decide)) (tk2_reg (k := 2) (by decide)) rfl (by omega) (by decide) ?_
  refine g_aload_n C (i := 0) dX4_append_14 rfl rfl ?_
  refine g_getR C 4 2 (RX4, TX4, 6) dX4_append_15 (hP.1 1 (by decide)) (hP.2 1 2 3 (by decide) rfl) ml_X4_15 rfl (by decide) rfl ?_
  refine g_iload C (i := 4) dX4_append_18 rfl ?_
  refine g_iload_n C (i := 2) dX4_append_20 rfl rfl ?_
  refine g_is C dX4_append_21 (hP.1 3 (by decide)) (tk2_reg (k := 3) (by decide)) rfl (by omega) (by decide) ?_
  refine g_aload_n C (i := 0) dX4_append_22 rfl rfl ?_
  refine g_getR C 4 3 (RX4, TX4, 6) dX4_append_23 (hP.1 1 (by decide)) (hP.2 1 3 4 (by decide) rfl) ml_X4_18 rfl (by decide) rfl ?_
  refine g_iload C (i := 4) dX4_append_26 rfl ?_
  refine g_iload_n C (i := 3) dX4_append_28 rfl rfl ?_
  refine g_is C dX4_append_29 (hP.1 4 (by decide)) (tk2_reg (k := 4) (by decide)) rfl (by omega) (by decide) ?_
  refine g_aload_n C (i := 0) dX4_append_30 rfl rfl ?_
  refine g_getR C 4 4 (RX4, TX4, 6) dX4_append_31 (hP.1 1 (by decide)) (hP.2 1 4 5 (by decide) rfl) ml_X4_21 rfl (by decide) rfl ?_
  refine g_iload C (i := 4) dX4_append_34 rfl ?_
  refine g_lconst C 0 dX4_append_36 rfl ?_
  refine g_ls C dX4_append_37 (hP.1 5 (by decide)) (tk2_reg (k := 5) (by decide)) rfl (by omega) (by decide) ?_
  refine g_aload_n C (i := 0) dX4_append_38 rfl rfl ?_
  refine g_dup C dX4_append_39 rfl ?_
  refine g_getI C 4 0 (RX4, TX4, 6) dX4_append_40 (hP.1 1 (by decide)) (reg_at (k := 1) (by decide)) ml_X4_28 rfl (by decide) (Or.inl rfl) ?_
  rw [show tk2 (tk2 (tk2 I0 2 n x1) 3 n x2) 4 n x3 1 0 = nI n by simp [tk2, hc]]
  refine g_iconst C (1) dX4_append_43 rfl ?_
  refine g_iadd C dX4_append_44 ?_
  refine g_putI C 4 0 (RX4, TX4, 6) dX4_append_45 (hP.1 1 (by decide)) (tk2_reg (k := 1) (by decide)) ml_X4_28 rfl (by decide) rfl rfl ?_
  refine g_iload C (i := 4) dX4_append_48 rfl ?_
  exact g_ireturn C dX4_append_50 ⟨Nat.le_of_ble_eq_true rfl, Nat.le_of_ble_eq_true rfl⟩ (tkEnd.rf rfl rfl rfl)
/-- Tanks.drift -/
theorem c_X4_drift (hP : tkReg 28 pT pF σ p) {j : Nat} (hj : j < 8) :
    tkCon false (.code yX4_drift cX4_drift 2 (some .int)) yX4_drift 1 [.ref (p + 1), .int (nI j)] σ (reg p 28 I0 v) (reg p 28 L0 w) 0 0 (.inl (some (.int (I0 3 j - I0 6 j)))) σ (reg p 28 I0 v) (reg p 28 L0 w) := by
  refine tkCon.of (by decide) (Nat.le_of_ble_eq_true rfl) (fun X C => ?_)
  refine g_aload_n C (i := 0) dX4_drift_0 rfl rfl ?_
  refine g_getR C 4 2 (RX4, TX4, 6) dX4_drift_1 (hP.1 1 (by decide)) (hP.2 1 2 3 (by decide) rfl) ml_X4_15 rfl (by decide) rfl ?_
  refine g_iload_n C (i := 1) dX4_drift_4 rfl rfl ?_
  refine g_ia C dX4_drift_5 (hP.1 3 (by decide)) (reg_at (k := 3) (by decide)) rfl (by omega) (by decide) ?_
  refine g_aload_n C (i := 0) dX4_drift_6 rfl rfl ?_
  refine g_getR C 4 5 (RX4, TX4, 6) dX4_drift_7 (hP.1 1 (by decide)) (hP.2 1 5 6 (by decide) rfl) ml_X4_25 rfl (by decide) rfl ?_
  refine g_iload_n C (i := 1) dX4_drift_10 rfl rfl ?_
  refine g_ia C dX4_drift_11 (hP.1 6 (by decide)) (reg_at (k := 6) (by decide)) rfl (by omega) (by decide) ?_
  refine g_isub C dX4_drift_12 ?_
  exact g_ireturn C dX4_drift_13 ⟨Nat.le_of_ble_eq_true rfl, Nat.le_of_ble_eq_true rfl⟩ (tkEnd.rf rfl rfl rfl)
theorem c_X4_noteLevels (hP : tkReg 28 pT pF σ p) :
    tkCon false (.code yX4_noteLevels cX4_noteLevels 1 none) yX4_noteLevels 2 [.ref (p + 1)] σ (reg p 28 I0 v) (reg p 28 L0 w) 0 0 (.inl none) σ (reg p 28 (sBef I0) v) (reg p 28 L0 w) := by
  refine tkCon.of (by decide) (Nat.le_of_ble_eq_true rfl) (fun X C => ?_)
  refine g_aload_n C (i := 0) dX4_noteLevels_0 rfl rfl ?_
  refine g_getR C 4 2 (RX4, TX4, 6) dX4_noteLevels_1 (hP.1 1 (by decide)) (hP.2 1 2 3 (by decide) rfl) ml_X4_15 rfl (by decide) rfl ?_
  refine g_iconst C (0) dX4_noteLevels_4 rfl ?_
  refine g_aload_n C (i := 0) dX4_noteLevels_5 rfl rfl ?_
  refine g_getR C 4 5 (RX4, TX4, 6) dX4_noteLevels_6 (hP.1 1 (by decide)) (hP.2 1 5 6 (by decide) rfl) ml_X4_25 rfl (by decide) rfl ?_
  refine g_iconst C (0) dX4_noteLevels_9 rfl ?_
  refine g_bipush C (8) dX4_noteLevels_10 rfl ?_
  refine g_cp_i C dX4_noteLevels_12 ml_X4_32 (hP.1 3 (by decide)) (hP.1 6 (by decide)) rfl (cp_reg (k := 6) (by decide) (reg_at (by decide))) (by decide) (by decide) (by decide) (by decide) (Nat.le_of_ble_eq_true rfl) ?_
  exact g_return C dX4_noteLevels_15 ⟨Nat.le_of_ble_eq_true rfl, Nat.le_of_ble_eq_true rfl⟩ (tkEnd.rf rfl rfl rfl)
theorem c_X4_leakAndSum (hP : tkReg 28 pT pF σ p) {n : Nat} (hW : wTk I0 n) :
    tkCon false (.code yX4_leakAndSum cX4_leakAndSum 2 none) yX4_leakAndSum 2 [.ref (p + 1)] σ (reg p 28 I0 v) (reg p 28 L0 w) 0 0 (.inl none) σ (reg p 28 (itr sLeak n (I0, L0)).1 v) (reg p 28 (itr sLeak n (I0, L0)).2 w) := by
  obtain ⟨hc, hn⟩ := hW
  refine tkCon.of (by decide) (Nat.le_of_ble_eq_true rfl) (fun X C => ?_)
  have hcc : ∀ i, i ≤ n → (itr sLeak i (I0, L0)).1 1 0 = nI n := fun i hi => itr_inv (P := fun q : tkI × tkL => q.1 1 0 = nI n) (n := n) (fun k a _ h => by simp [sLeak, tk2, h]) hi hc
  refine g_iconst C (0) dX4_leakAndSum_0 rfl ?_
  refine g_istore_n C (i := 1) dX4_leakAndSum_1 rfl (by decide) ?_
  have key : ∀ k i, k + i = n → tkG X (tkQ false X 0 0 (.inl none) σ (reg p 28 (itr sLeak n (I0, L0)).1 v) (reg p 28 (itr sLeak n (I0, L0)).2 w)) 0 0 2 [some (.ref (p + 1)), some (.int (nI i))] [] σ (reg p 28 (itr sLeak i (I0, L0)).1 v) (reg p 28 (itr sLeak i (I0, L0)).2 w) := by
    intro k
    induction k with
    | zero =>
      intro i hi
      have e : i = n := by omega
      subst e
      refine g_iload_n C (i := 1) dX4_leakAndSum_2 rfl rfl ?_
      refine g_aload_n C (i := 0) dX4_leakAndSum_3 rfl rfl ?_
      refine g_getI C 4 0 (RX4, TX4, 6) dX4_leakAndSum_4 (hP.1 1 (by decide)) (reg_at (k := 1) (by decide)) ml_X4_28 rfl (by decide) (Or.inl rfl) ?_
      rw [hcc i (Nat.le_refl _)]
      refine g_icmp_ge C 56 dX4_leakAndSum_7 (by decide) (fun h7 => ?_) (fun h7 => ?_)
      · exact g_return C dX4_leakAndSum_56 ⟨Nat.le_of_ble_eq_true rfl, Nat.le_of_ble_eq_true rfl⟩ (tkEnd.rf rfl rfl rfl)
      · exact absurd (Int32.le_refl _) h7
    | succ k ih =>
      intro i hi
      have hlt : i < n := by omega
      refine g_iload_n C (i := 1) dX4_leakAndSum_2 rfl rfl ?_
      refine g_aload_n C (i := 0) dX4_leakAndSum_3 rfl rfl ?_
      refine g_getI C 4 0 (RX4, TX4, 6) dX4_leakAndSum_4 (hP.1 1 (by decide)) (reg_at (k := 1) (by decide)) ml_X4_28 rfl (by decide) (Or.inl rfl) ?_
      rw [hcc i (by omega)]
      refine g_icmp_ge C 56 dX4_leakAndSum_7 (by decide) (fun h7 => ?_) (fun h7 => ?_)
      · exact absurd h7 (nI_ge hlt (by omega))
      · refine g_aload_n C (i := 0) dX4_leakAndSum_10 rfl rfl ?_
        refine g_getR C 4 2 (RX4, TX4, 6) dX4_leakAndSum_11 (hP.1 1 (by decide)) (hP.2 1 2 3 (by decide) rfl) ml_X4_15 rfl (by decide) rfl ?_
        refine g_iload_n C (i := 1) dX4_leakAndSum_14 rfl rfl ?_
        refine g_dup2 C dX4_leakAndSum_15 rfl rfl ?_
        refine g_ia C dX4_leakAndSum_16 (hP.1 3 (by decide)) (reg_at (k := 3) (by decide)) rfl (by omega) (by decide) ?_
        refine g_aload_n C (i := 0) dX4_leakAndSum_17 rfl rfl ?_
        refine g_getR C 4 3 (RX4, TX4, 6) dX4_leakAndSum_18 (hP.1 1 (by decide)) (hP.2 1 3 4 (by decide) rfl) ml_X4_18 rfl (by decide) rfl ?_
        refine g_iload_n C (i := 1) dX4_leakAndSum_21 rfl rfl ?_
        refine g_ia C dX4_leakAndSum_22 (hP.1 4 (by decide)) (reg_at (k := 4) (by decide)) rfl (by omega) (by decide) ?_
        refine g_aload_n C (i := 0) dX4_leakAndSum_23 rfl rfl ?_
        refine g_getR C 4 2 (RX4, TX4, 6) dX4_leakAndSum_24 (hP.1 1 (by decide)) (hP.2 1 2 3 (by decide) rfl) ml_X4_15 rfl (by decide) rfl ?_
        refine g_iload_n C (i := 1) dX4_leakAndSum_27 rfl rfl ?_
        refine g_ia C dX4_leakAndSum_28 (hP.1 3 (by decide)) (reg_at (k := 3) (by decide)) rfl (by omega) (by decide) ?_
        refine g_min C dX4_leakAndSum_29 ml_X4_38 (by decide) (Nat.le_of_ble_eq_true rfl) (Nat.le_of_ble_eq_true rfl) (Nat.le_of_ble_eq_true rfl) ?_
        refine g_isub C dX4_leakAndSum_32 ?_
        refine g_is C dX4_leakAndSum_33 (hP.1 3 (by decide)) (tk2_reg (k := 3) (by decide)) rfl (by omega) (by decide) ?_
        refine g_aload_n C (i := 0) dX4_leakAndSum_34 rfl rfl ?_
        refine g_getR C 4 4 (RX4, TX4, 6) dX4_leakAndSum_35 (hP.1 1 (by decide)) (hP.2 1 4 5 (by decide) rfl) ml_X4_21 rfl (by decide) rfl ?_
        refine g_iload_n C (i := 1) dX4_leakAndSum_38 rfl rfl ?_
        refine g_dup2 C dX4_leakAndSum_39 rfl rfl ?_
        refine g_la C dX4_leakAndSum_40 (hP.1 5 (by decide)) (reg_at (k := 5) (by decide)) rfl (by omega) (by decide) ?_
        refine g_aload_n C (i := 0) dX4_leakAndSum_41 rfl rfl ?_
        refine g_getR C 4 2 (RX4, TX4, 6) dX4_leakAndSum_42 (hP.1 1 (by decide)) (hP.2 1 2 3 (by decide) rfl) ml_X4_15 rfl (by decide) rfl ?_
        refine g_iload_n C (i := 1) dX4_leakAndSum_45 rfl rfl ?_
        refine g_ia C dX4_leakAndSum_46 (hP.1 3 (by decide)) (reg_at (k := 3) (by decide)) rfl (by omega) (by decide) ?_
        refine g_i2l C dX4_leakAndSum_47 ?_
        refine g_ladd C dX4_leakAndSum_48 ?_
        refine g_ls C dX4_leakAndSum_49 (hP.1 5 (by decide)) (tk2_reg (k := 5) (by decide)) rfl (by omega) (by decide) ?_
        refine g_iinc C (i := 1) (nI (i + 1)) dX4_leakAndSum_50 rfl (nI_1 i) (by decide) ?_
        refine g_goto C 2 dX4_leakAndSum_53 (by decide) ?_
        exact ih (i + 1) (by omega)
  exact key n 0 (by omega)
theorem c_X4_steadyTicks (hP : tkReg 28 pT pF σ p) {n : Nat} (hW : wTk I0 n) (lim : Int32) :
    tkCon false (.code yX4_steadyTicks cX4_steadyTicks 4 (some .int)) yX4_steadyTicks 3 [.ref (p + 1), .int lim] σ (reg p 28 I0 v) (reg p 28 L0 w) 0 0 (.inl (some (.int (itr (sTst I0) n lim)))) σ (reg p 28 I0 v) (reg p 28 L0 w) := by
  obtain ⟨hc, hn⟩ := hW
  refine tkCon.of (by decide) (Nat.le_of_ble_eq_true rfl) (fun X C => ?_)
  refine g_iload_n C (i := 1) dX4_steadyTicks_0 rfl rfl ?_
  refine g_istore_n C (i := 2) dX4_steadyTicks_1 rfl (by decide) ?_
  refine g_iconst C (0) dX4_steadyTicks_2 rfl ?_
  refine g_istore_n C (i := 3) dX4_steadyTicks_3 rfl (by decide) ?_
  have key : ∀ k i, k + i = n → tkG X (tkQ false X 0 0 (.inl (some (.int (itr (sTst I0) n lim)))) σ (reg p 28 I0 v) (reg p 28 L0 w)) 0 0 4 [some (.ref (p + 1)), some (.int lim), some (.int (itr (sTst I0) i lim)), some (.int (nI i))] [] σ (reg p 28 I0 v) (reg p 28 L0 w) := by
    intro k
    induction k with
    | zero =>
      intro i hi
      have e : i = n := by omega
      subst e
      refine g_iload_n C (i := 3) dX4_steadyTicks_4 rfl rfl ?_
      refine g_aload_n C (i := 0) dX4_steadyTicks_5 rfl rfl ?_
      refine g_getI C 4 0 (RX4, TX4, 6) dX4_steadyTicks_6 (hP.1 1 (by decide)) (reg_at (k := 1) (by decide)) ml_X4_28 rfl (by decide) (Or.inl rfl) ?_
      rw [hc]
      refine g_icmp_ge C 40 dX4_steadyTicks_9 (by decide) (fun h9 => ?_) (fun h9 => ?_)
      · refine g_iload_n C (i := 2) dX4_steadyTicks_40 rfl rfl ?_
        exact g_ireturn C dX4_steadyTicks_41 ⟨Nat.le_of_ble_eq_true rfl, Nat.le_of_ble_eq_true rfl⟩ (tkEnd.rf rfl rfl rfl)
      · exact absurd (Int32.le_refl _) h9
    | succ k ih =>
      intro i hi
      have hlt : i < n := by omega
      refine g_iload_n C (i := 3) dX4_steadyTicks_4 rfl rfl ?_
      refine g_aload_n C (i := 0) dX4_steadyTicks_5 rfl rfl ?_
      refine g_getI C 4 0 (RX4, TX4, 6) dX4_steadyTicks_6 (hP.1 1 (by decide)) (reg_at (k := 1) (by decide)) ml_X4_28 rfl (by decide) (Or.inl rfl) ?_
      rw [hc]
      refine g_icmp_ge C 40 dX4_steadyTicks_9 (by decide) (fun h9 => ?_) (fun h9 => ?_)
      · exact absurd h9 (nI_ge hlt (by omega))
      · refine g_iload_n C (i := 2) dX4_steadyTicks_12 rfl rfl ?_
        refine g_if_le C 40 dX4_steadyTicks_13 (by decide) (fun h13 => ?_) (fun h13 => ?_)
        · have e := itr_stop (f := sTst I0) (P := fun s => s ≤ 0) (fun i a h => by simp [sTst, Int32.not_lt.mpr h]) h13 (k + 1)
          rw [show i + (k + 1) = n by omega] at e
          rw [e]
          refine g_iload_n C (i := 2) dX4_steadyTicks_40 rfl rfl ?_
          exact g_ireturn C dX4_steadyTicks_41 ⟨Nat.le_of_ble_eq_true rfl, Nat.le_of_ble_eq_true rfl⟩ (tkEnd.rf rfl rfl rfl)
        · have e : itr (sTst I0) (i + 1) lim = jtw (I0 3 i).toInt64 (I0 3 i - I0 6 i).toInt64 (itr (sTst I0) i lim) := by
            show sTst I0 i (itr (sTst I0) i lim) = _
            rw [sTst, if_pos (Int32.not_le.mp h13)]
          refine g_aload_n C (i := 0) dX4_steadyTicks_16 rfl rfl ?_
          refine g_getR C 4 2 (RX4, TX4, 6) dX4_steadyTicks_17 (hP.1 1 (by decide)) (hP.2 1 2 3 (by decide) rfl) ml_X4_15 rfl (by decide) rfl ?_
          refine g_iload_n C (i := 3) dX4_steadyTicks_20 rfl rfl ?_
          refine g_ia C dX4_steadyTicks_21 (hP.1 3 (by decide)) (reg_at (k := 3) (by decide)) rfl (by omega) (by decide) ?_
          refine g_i2l C dX4_steadyTicks_22 ?_
          refine g_aload_n C (i := 0) dX4_steadyTicks_23 rfl rfl ?_
          refine g_iload_n C (i := 3) dX4_steadyTicks_24 rfl rfl ?_
          refine g_callV C (q := (RX4, TX4, 6)) (rest := _) dX4_steadyTicks_25 mm_X4_drift ml_X4_44 mv_yX4_drift ms_yX4_drift (c_X4_drift hP (by omega)) rfl (hP.1 1 (by decide)) rfl rfl ⟨by decide, Nat.le_of_ble_eq_true rfl, Nat.le_of_ble_eq_true rfl, Nat.le_of_ble_eq_true rfl⟩ (tk_retv ?_) tk_nothr
          refine g_i2l C dX4_steadyTicks_28 ?_
          refine g_iload_n C (i := 2) dX4_steadyTicks_29 rfl rfl ?_
          refine g_callSN C dX4_steadyTicks_30 mm_X5_ticksWhile ml_X4_48 mt_yX5_ticksWhile (c_X5_ticksWhile _ _ _) rfl ⟨by decide, Nat.le_of_ble_eq_true rfl, Nat.le_of_ble_eq_true rfl, Nat.le_of_ble_eq_true rfl⟩ (tk_retv ?_) tk_nothr
          refine g_istore_n C (i := 2) dX4_steadyTicks_33 rfl (by decide) ?_
          refine g_iinc C (i := 3) (nI (i + 1)) dX4_steadyTicks_34 rfl (nI_1 i) (by decide) ?_
          refine g_goto C 4 dX4_steadyTicks_37 (by decide) ?_
          rw [← e]
          exact ih (i + 1) (by omega)
  exact key n 0 (by omega)
theorem c_X4_repeat (hP : tkReg 28 pT pF σ p) {n : Nat} (hW : wTk I0 n) (t : Int32) :
    tkCon false (.code yX4_repeat cX4_repeat 6 none) yX4_repeat 2 [.ref (p + 1), .int t] σ (reg p 28 I0 v) (reg p 28 L0 w) 0 0 (.inl none) σ (reg p 28 (itr (sRep t) n (I0, L0)).1 v) (reg p 28 (itr (sRep t) n (I0, L0)).2 w) := by
  obtain ⟨hc, hn⟩ := hW
  refine tkCon.of (by decide) (Nat.le_of_ble_eq_true rfl) (fun X C => ?_)
  have hcc : ∀ i, i ≤ n → (itr (sRep t) i (I0, L0)).1 1 0 = nI n := fun i hi => itr_inv (P := fun q : tkI × tkL => q.1 1 0 = nI n) (n := n) (fun k a _ h => by simp [sRep, tk2, h]) hi hc
  refine g_iload_n C (i := 1) dX4_repeat_0 rfl rfl ?_
  refine g_i2l C dX4_repeat_1 ?_
  refine g_iload_n C (i := 1) dX4_repeat_2 rfl rfl ?_
  refine g_iconst C (1) dX4_repeat_3 rfl ?_
  refine g_iadd C dX4_repeat_4 ?_
  refine g_i2l C dX4_repeat_5 ?_
  refine g_lmul C dX4_repeat_6 ?_
  refine g_ldc2 C (2) dX4_repeat_7 ml_X4_52 ?_
  refine g_ldiv C dX4_repeat_10 (by decide) ?_
  refine g_lstore_n C (i := 2) dX4_repeat_11 rfl (by decide) ?_
  refine g_iconst C (0) dX4_repeat_12 rfl ?_
  refine g_istore C (i := 4) dX4_repeat_13 (by decide) ?_
  have key : ∀ k i lv5, k + i = n → tkG X (tkQ false X 0 0 (.inl none) σ (reg p 28 (itr (sRep t) n (I0, L0)).1 v) (reg p 28 (itr (sRep t) n (I0, L0)).2 w)) 0 0 15 [some (.ref (p + 1)), some (.int t), some (.long (t.toInt64 * (t + 1).toInt64 / 2)), none, some (.int (nI i)), lv5] [] σ (reg p 28 (itr (sRep t) i (I0, L0)).1 v) (reg p 28 (itr (sRep t) i (I0, L0)).2 w) := by
    intro k
    induction k with
    | zero =>
      intro i lv5 hi
      have e : i = n := by omega
      subst e
      refine g_iload C (i := 4) dX4_repeat_15 rfl ?_
      refine g_aload_n C (i := 0) dX4_repeat_17 rfl rfl ?_
      refine g_getI C 4 0 (RX4, TX4, 6) dX4_repeat_18 (hP.1 1 (by decide)) (reg_at (k := 1) (by decide)) ml_X4_28 rfl (by decide) (Or.inl rfl) ?_
      rw [hcc i (Nat.le_refl _)]
      refine g_icmp_ge C 79 dX4_repeat_21 (by decide) (fun h21 => ?_) (fun h21 => ?_)
      · exact g_return C dX4_repeat_79 ⟨Nat.le_of_ble_eq_true rfl, Nat.le_of_ble_eq_true rfl⟩ (tkEnd.rf rfl rfl rfl)
      · exact absurd (Int32.le_refl _) h21
    | succ k ih =>
      intro i lv5 hi
      have hlt : i < n := by omega
      refine g_iload C (i := 4) dX4_repeat_15 rfl ?_
      refine g_aload_n C (i := 0) dX4_repeat_17 rfl rfl ?_
      refine g_getI C 4 0 (RX4, TX4, 6) dX4_repeat_18 (hP.1 1 (by decide)) (reg_at (k := 1) (by decide)) ml_X4_28 rfl (by decide) (Or.inl rfl) ?_
      rw [hcc i (by omega)]
      refine g_icmp_ge C 79 dX4_repeat_21 (by decide) (fun h21 => ?_) (fun h21 => ?_)
      · exact absurd h21 (nI_ge hlt (by omega))
      · refine g_aload_n C (i := 0) dX4_repeat_24 rfl rfl ?_
        refine g_iload C (i := 4) dX4_repeat_25 rfl ?_
        refine g_callV C (q := (RX4, TX4, 6)) (rest := _) dX4_repeat_27 mm_X4_drift ml_X4_44 mv_yX4_drift ms_yX4_drift (c_X4_drift hP (by omega)) rfl (hP.1 1 (by decide)) rfl rfl ⟨by decide, Nat.le_of_ble_eq_true rfl, Nat.le_of_ble_eq_true rfl, Nat.le_of_ble_eq_true rfl⟩ (tk_retv ?_) tk_nothr
        refine g_istore C (i := 5) dX4_repeat_30 (by decide) ?_
        refine g_aload_n C (i := 0) dX4_repeat_32 rfl rfl ?_
        refine g_getR C 4 4 (RX4, TX4, 6) dX4_repeat_33 (hP.1 1 (by decide)) (hP.2 1 4 5 (by decide) rfl) ml_X4_21 rfl (by decide) rfl ?_
        refine g_iload C (i := 4) dX4_repeat_36 rfl ?_
        refine g_dup2 C dX4_repeat_38 rfl rfl ?_
        refine g_la C dX4_repeat_39 (hP.1 5 (by decide)) (reg_at (k := 5) (by decide)) rfl (by omega) (by decide) ?_
        refine g_aload_n C (i := 0) dX4_repeat_40 rfl rfl ?_
        refine g_getR C 4 2 (RX4, TX4, 6) dX4_repeat_41 (hP.1 1 (by decide)) (hP.2 1 2 3 (by decide) rfl) ml_X4_15 rfl (by decide) rfl ?_
        refine g_iload C (i := 4) dX4_repeat_44 rfl ?_
        refine g_ia C dX4_repeat_46 (hP.1 3 (by decide)) (reg_at (k := 3) (by decide)) rfl (by omega) (by decide) ?_
        refine g_i2l C dX4_repeat_47 ?_
        refine g_iload_n C (i := 1) dX4_repeat_48 rfl rfl ?_
        refine g_i2l C dX4_repeat_49 ?_
        refine g_lmul C dX4_repeat_50 ?_
        refine g_iload C (i := 5) dX4_repeat_51 rfl ?_
        refine g_i2l C dX4_repeat_53 ?_
        refine g_lload_n C (i := 2) dX4_repeat_54 rfl rfl ?_
        refine g_lmul C dX4_repeat_55 ?_
        refine g_ladd C dX4_repeat_56 ?_
        refine g_ladd C dX4_repeat_57 ?_
        refine g_ls C dX4_repeat_58 (hP.1 5 (by decide)) (tk2_reg (k := 5) (by decide)) rfl (by omega) (by decide) ?_
        refine g_aload_n C (i := 0) dX4_repeat_59 rfl rfl ?_
        refine g_getR C 4 2 (RX4, TX4, 6) dX4_repeat_60 (hP.1 1 (by decide)) (hP.2 1 2 3 (by decide) rfl) ml_X4_15 rfl (by decide) rfl ?_
        refine g_iload C (i := 4) dX4_repeat_63 rfl ?_
        refine g_dup2 C dX4_repeat_65 rfl rfl ?_
        refine g_ia C dX4_repeat_66 (hP.1 3 (by decide)) (reg_at (k := 3) (by decide)) rfl (by omega) (by decide) ?_
        refine g_iload C (i := 5) dX4_repeat_67 rfl ?_
        refine g_iload_n C (i := 1) dX4_repeat_69 rfl rfl ?_
        refine g_imul C dX4_repeat_70 ?_
        refine g_iadd C dX4_repeat_71 ?_
        refine g_is C dX4_repeat_72 (hP.1 3 (by decide)) (tk2_reg (k := 3) (by decide)) rfl (by omega) (by decide) ?_
        refine g_iinc C (i := 4) (nI (i + 1)) dX4_repeat_73 rfl (nI_1 i) (by decide) ?_
        refine g_goto C 15 dX4_repeat_76 (by decide) ?_
        exact ih (i + 1) _ (by omega)
  exact key n 0 _ (by omega)
end TKTANKS
end
section
section TKSWITCHES
theorem itr_ind {α : Type} {f : Nat → α → α} {P : Nat → α → Prop} {n : Nat} (hs : ∀ i a, i < n → P i a → P (i + 1) (f i a)) : ∀ {k : Nat} {a : α}, k ≤ n → P 0 a → P k (itr f k a)
  | 0, a, _, h => h
  | k + 1, a, hk, h => hs k _ hk (itr_ind hs (Nat.le_of_succ_le hk) h)
theorem sDue_01 (I : tkI) (i : Nat) : sDue I i = 0 ∨ sDue I i = 1 := by
  unfold sDue
  split <;> split <;> first | exact Or.inl rfl | exact Or.inr rfl
variable {σ : tkM} {p : Nat} {I0 v : tkI} {L0 w : tkL}
/-! the log -/
theorem c_X0_note (hP : tkReg 28 pT pF σ p) {c : Nat} (hc : L0 25 0 = lN c) (hlt : c < 2 ^ 62) (now : Int64) (x : Int32) :
    tkCon false (.code yX0_note cX0_note 5 none) yX0_note 1 [.ref (p + 25), .long now, .int x] σ (reg p 28 I0 v) (reg p 28 L0 w) 0 0 (.inl none) σ (reg p 28 (sNote now x (I0, L0)).1 v) (reg p 28 (sNote now x (I0, L0)).2 w) := by
  have e30 : (30 : Int64) = lN 30 := rfl
  have es : lgSlot (L0 25 0) = c % 30 := by rw [hc]; exact lgSlot_lN (by omega)
  have hm : c % 30 < 30 := Nat.mod_lt _ (by decide)
  unfold sNote
  dsimp only
  rw [es]
  refine tkCon.of (by decide) (Nat.le_of_ble_eq_true rfl) (fun X C => ?_)
  refine g_aload_n C (i := 0) dX0_note_0 rfl rfl ?_
  refine g_getL C 0 0 (RX0, TX0, 3) dX0_note_1 (hP.1 25 (by decide)) (reg_at (k := 25) (by decide)) ml_X0_19 rfl (by decide) rfl ?_
  refine g_ldc2 C (30) dX0_note_4 ml_X0_23 ?_
  refine g_lrem C dX0_note_7 (by decide) ?_
  rw [hc, e30, pk_lRem (by omega) (by decide) (by decide)]
  refine g_l2i C dX0_note_8 ?_
  rw [lN_i]
  refine g_istore C (i := 4) dX0_note_9 (by decide) ?_
  refine g_aload_n C (i := 0) dX0_note_11 rfl rfl ?_
  refine g_getR C 0 1 (RX0, TX0, 3) dX0_note_12 (hP.1 25 (by decide)) (hP.2 25 1 26 (by decide) rfl) ml_X0_9 rfl (by decide) rfl ?_
  refine g_iload C (i := 4) dX0_note_15 rfl ?_
  refine g_lload_n C (i := 1) dX0_note_17 rfl rfl ?_
  refine g_ls C dX0_note_18 (hP.1 26 (by decide)) (tk2_reg (k := 26) (by decide)) rfl (by omega) (by decide) ?_
  refine g_aload_n C (i := 0) dX0_note_19 rfl rfl ?_
  refine g_getR C 0 2 (RX0, TX0, 3) dX0_note_20 (hP.1 25 (by decide)) (hP.2 25 2 27 (by decide) rfl) ml_X0_15 rfl (by decide) rfl ?_
  refine g_iload C (i := 4) dX0_note_23 rfl ?_
  refine g_iload_n C (i := 3) dX0_note_25 rfl rfl ?_
  refine g_is C dX0_note_26 (hP.1 27 (by decide)) (tk2_reg (k := 27) (by decide)) rfl (by omega) (by decide) ?_
  refine g_aload_n C (i := 0) dX0_note_27 rfl rfl ?_
  refine g_dup C dX0_note_28 rfl ?_
  refine g_getL C 0 0 (RX0, TX0, 3) dX0_note_29 (hP.1 25 (by decide)) (reg_at (k := 25) (by decide)) ml_X0_19 rfl (by decide) rfl ?_
  refine g_lconst C 1 dX0_note_32 rfl ?_
  refine g_ladd C dX0_note_33 ?_
  refine g_putL C 0 0 (RX0, TX0, 3) dX0_note_34 (hP.1 25 (by decide)) (tk2_reg (k := 25) (by decide)) ml_X0_19 rfl (by decide) rfl rfl ?_
  exact g_return C dX0_note_37 ⟨Nat.le_of_ble_eq_true rfl, Nat.le_of_ble_eq_true rfl⟩ (tkEnd.rf rfl rfl (by rw [show tk2 L0 26 (c % 30) now 25 0 = lN c by simp [tk2, hc]]))
/-! Switches -/
theorem c_X3_append (hP : tkReg 28 pT pF σ p) {n : Nat} (hn : n < 10) (hc : I0 7 0 = nI n) (x1 x2 x3 : Int32) :
    tkCon false (.code yX3_append cX3_append 5 (some .int)) yX3_append 1 [.ref (p + 7), .int x1, .int x2, .int x3] σ (reg p 28 I0 v) (reg p 28 L0 w) 0 0 (.inl (some (.int (nI n)))) σ
      (reg p 28 (tk2 (tk2 (tk2 (tk2 (tk2 I0 8 n x1) 9 n x2) 10 n x3) 11 n 0) 7 0 (nI n + 1)) v) (reg p 28 L0 w) := by
  refine tkCon.of (by decide) (Nat.le_of_ble_eq_true rfl) (fun X C => ?_)
  refine g_aload_n C (i := 0) dX3_append_0 rfl rfl ?_
  refine g_getI C 3 0 (RX3, TX3, 5) dX3_append_1 (hP.1 7 (by decide)) (reg_at (k := 7) (by decide)) ml_X3_25 rfl (by decide) (Or.inl rfl) ?_
  rw [hc]
  refine g_istore C (i := 4) dX3_append_4 (by decide) ?_
  refine g_aload_n C (i := 0) dX3_append_6 rfl rfl ?_
  refine g_getR C 3 1 (RX3, TX3, 5) dX3_append_7 (hP.1 7 (by decide)) (hP.2 7 1 8 (by decide) rfl) ml_X3_9 rfl (by decide) rfl ?_
  refine g_iload C (i := 4) dX3_append_10 rfl ?_
  refine g_iload_n C (i := 1) dX3_append_12 rfl rfl ?_
  refine g_is C dX3_append_13 (hP.1 8 (by decide)) (tk2_reg (k := 8) (by decide)) rfl (by omega) (by decide) ?_
  refine g_aload_n C (i := 0) dX3_append_14 rfl rfl ?_
  refine g_getR C 3 2 (RX3, TX3, 5) dX3_append_15 (hP.1 7 (by decide)) (hP.2 7 2 9 (by decide) rfl) ml_X3_15 rfl (by decide) rfl ?_
  refine g_iload C (i := 4) dX3_append_18 rfl ?_
  refine g_iload_n C (i := 2) dX3_append_20 rfl rfl ?_
  refine g_is C dX3_append_21 (hP.1 9 (by decide)) (tk2_reg (k := 9) (by decide)) rfl (by omega) (by decide) ?_
  refine g_aload_n C (i := 0) dX3_append_22 rfl rfl ?_
  refine g_getR C 3 3 (RX3, TX3, 5) dX3_append_23 (hP.1 7 (by decide)) (hP.2 7 3 10 (by decide) rfl) ml_X3_18 rfl (by decide) rfl ?_
  refine g_iload C (i := 4) dX3_append_26 rfl ?_
  refine g_iload_n C (i := 3) dX3_append_28 rfl rfl ?_
  refine g_is C dX3_append_29 (hP.1 10 (by decide)) (tk2_reg (k := 10) (by decide)) rfl (by omega) (by decide) ?_
  refine g_aload_n C (i := 0) dX3_append_30 rfl rfl ?_
  refine g_getR C 3 4 (RX3, TX3, 5) dX3_append_31 (hP.1 7 (by decide)) (hP.2 7 4 11 (by decide) rfl) ml_X3_21 rfl (by decide) rfl ?_
  refine g_iload C (i := 4) dX3_append_34 rfl ?_
  refine g_iconst C (0) dX3_append_36 rfl ?_
  refine g_zs C dX3_append_37 (hP.1 11 (by decide)) (tk2_reg (k := 11) (by decide)) rfl (by omega) (by decide) (by first | assumption | exact Or.inl rfl | exact Or.inr rfl) ?_
  refine g_aload_n C (i := 0) dX3_append_38 rfl rfl ?_
  refine g_dup C dX3_append_39 rfl ?_
  refine g_getI C 3 0 (RX3, TX3, 5) dX3_append_40 (hP.1 7 (by decide)) (reg_at (k := 7) (by decide)) ml_X3_25 rfl (by decide) (Or.inl rfl) ?_
  rw [show tk2 (tk2 (tk2 (tk2 I0 8 n x1) 9 n x2) 10 n x3) 11 n 0 7 0 = nI n by simp [tk2, hc]]
  refine g_iconst C (1) dX3_append_43 rfl ?_
  refine g_iadd C dX3_append_44 ?_
  refine g_putI C 3 0 (RX3, TX3, 5) dX3_append_45 (hP.1 7 (by decide)) (tk2_reg (k := 7) (by decide)) ml_X3_25 rfl (by decide) rfl rfl ?_
  refine g_iload C (i := 4) dX3_append_48 rfl ?_
  exact g_ireturn C dX3_append_50 ⟨Nat.le_of_ble_eq_true rfl, Nat.le_of_ble_eq_true rfl⟩ (tkEnd.rf rfl rfl rfl)
def pFol (I0 : tkI) (ns c i : Nat) (q : (tkI × tkL) × Int32) : Prop := q.1.1 7 0 = nI ns ∧ (∀ k, q.1.1 8 k = I0 8 k) ∧ ∃ c', c' ≤ c + i ∧ q.1.2 25 0 = lN c'
theorem sFol_inv {I0 : tkI} {L0 : tkL} {ns c : Nat} (hW : wSw I0 ns) (hc : L0 25 0 = lN c) (now : Int64) {i : Nat} (hi : i ≤ ns) : pFol I0 ns c i (itr (sFol now) i ((I0, L0), 0)) := by
  refine itr_ind (P := pFol I0 ns c) (n := ns) ?_ hi ⟨hW.1, fun _ => rfl, c, by omega, hc⟩
  intro k q _ h
  obtain ⟨h1, h2, c', h3, h4⟩ := h
  unfold sFol
  split
  · exact ⟨h1, h2, c', by omega, h4⟩
  · refine ⟨by simp [sNote, tk2, h1], fun k => by simp [sNote, tk2, h2], c' + 1, by omega, ?_⟩
    simp [sNote, tk2, h4, lN_1]
theorem c_X3_follow (hP : tkReg 28 pT pF σ p) {ns c : Nat} (hW : wSw I0 ns) (hc : L0 25 0 = lN c) (hlt : c + 10 < 2 ^ 62) (now : Int64) :
    tkCon false (.code yX3_follow cX3_follow 9 (some .int)) yX3_follow 2 [.ref (p + 7), .ref (p + 1), .ref (p + 25), .long now] σ (reg p 28 I0 v) (reg p 28 L0 w) 0 0
      (.inl (some (.int (itr (sFol now) ns ((I0, L0), 0)).2))) σ (reg p 28 (itr (sFol now) ns ((I0, L0), 0)).1.1 v) (reg p 28 (itr (sFol now) ns ((I0, L0), 0)).1.2 w) := by
  obtain ⟨s, hs⟩ : ∃ s, s = fun i => itr (sFol now) i ((I0, L0), 0) := ⟨_, rfl⟩
  have inv : ∀ i, i ≤ ns → (s i).1.1 7 0 = nI ns ∧ (∀ k, (s i).1.1 8 k = I0 8 k) ∧ ∃ c', c' ≤ c + i ∧ (s i).1.2 25 0 = lN c' := fun i hi => by rw [hs]; exact sFol_inv hW hc now hi
  have hsucc : ∀ i, s (i + 1) = sFol now i (s i) := fun i => by rw [hs]; rfl
  have h0 : s 0 = ((I0, L0), 0) := by rw [hs]; rfl
  rw [show itr (sFol now) ns ((I0, L0), 0) = s ns by rw [hs]]
  obtain ⟨hw1, hw2, hw3⟩ := hW
  refine tkCon.of (by decide) (Nat.le_of_ble_eq_true rfl) (fun X C => ?_)
  refine g_iconst C (0) dX3_follow_0 rfl ?_
  refine g_istore C (i := 5) dX3_follow_1 (by decide) ?_
  refine g_iconst C (0) dX3_follow_3 rfl ?_
  refine g_istore C (i := 6) dX3_follow_4 (by decide) ?_
  have key : ∀ k i lv7 lv8, k + i = ns → tkG X (tkQ false X 0 0 (.inl (some (.int (s ns).2))) σ (reg p 28 (s ns).1.1 v) (reg p 28 (s ns).1.2 w)) 0 0 6 [some (.ref (p + 7)), some (.ref (p + 1)), some (.ref (p + 25)), some (.long now), none, some (.int (s i).2), some (.int (nI i)), lv7, lv8] [] σ (reg p 28 (s i).1.1 v) (reg p 28 (s i).1.2 w) := by
    intro k
    induction k with
    | zero =>
      intro i lv7 lv8 hi
      have e : i = ns := by omega
      subst e
      refine g_iload C (i := 6) dX3_follow_6 rfl ?_
      refine g_aload_n C (i := 0) dX3_follow_8 rfl rfl ?_
      refine g_getI C 3 0 (RX3, TX3, 5) dX3_follow_9 (hP.1 7 (by decide)) (reg_at (k := 7) (by decide)) ml_X3_25 rfl (by decide) (Or.inl rfl) ?_
      rw [(inv i (Nat.le_refl _)).1]
      refine g_icmp_ge C 115 dX3_follow_12 (by decide) (fun h12 => ?_) (fun h12 => ?_)
      · refine g_iload C (i := 5) dX3_follow_115 rfl ?_
        exact g_ireturn C dX3_follow_117 ⟨Nat.le_of_ble_eq_true rfl, Nat.le_of_ble_eq_true rfl⟩ (tkEnd.rf rfl rfl rfl)
      · exact absurd (Int32.le_refl _) h12
    | succ k ih =>
      intro i lv7 lv8 hi
      have hlt : i < ns := by omega
      have ih1 := fun a b => ih (i + 1) a b (by omega)
      rw [hsucc] at ih1
      obtain ⟨g1, g2, c', g3, g4⟩ := inv i (by omega)
      obtain ⟨t, ht, et⟩ := hw3 i hlt
      rw [← g2] at et
      generalize s i = q at *
      obtain ⟨⟨I1, L1⟩, n1⟩ := q
      dsimp only at *
      have etc : (I1 8 i).toNatClampNeg = t := by rw [et]; exact nI_clamp (by omega)
      have J : ∀ (x7 : Int32) lv8, tkG X (tkQ false X 0 0 (.inl (some (.int (s ns).2))) σ (reg p 28 (s ns).1.1 v) (reg p 28 (s ns).1.2 w)) 0 0 76 [some (.ref (p + 7)), some (.ref (p + 1)), some (.ref (p + 25)), some (.long now), none, some (.int n1), some (.int (nI i)), some (.int x7), lv8] [.int (sDue I1 i)] σ (reg p 28 I1 v) (reg p 28 L1 w) := by
        intro x7 lv8
        refine g_istore C (i := 8) dX3_follow_76 (by decide) ?_
        refine g_iload C (i := 8) dX3_follow_78 rfl ?_
        refine g_aload_n C (i := 0) dX3_follow_80 rfl rfl ?_
        refine g_getR C 3 4 (RX3, TX3, 5) dX3_follow_81 (hP.1 7 (by decide)) (hP.2 7 4 11 (by decide) rfl) ml_X3_21 rfl (by decide) rfl ?_
        refine g_iload C (i := 6) dX3_follow_84 rfl ?_
        refine g_za C dX3_follow_86 (hP.1 11 (by decide)) (reg_at (k := 11) (by decide)) rfl (by omega) (by decide) (fun _ => ?_)
        refine g_icmp_eq C 109 dX3_follow_87 (by decide) (fun h87 => ?_) (fun h87 => ?_)
        · refine g_iinc C (i := 6) (nI (i + 1)) dX3_follow_109 rfl (nI_1 i) (by decide) ?_
          refine g_goto C 6 dX3_follow_112 (by decide) ?_
          rw [sFol, if_pos h87] at ih1
          exact ih1 _ _
        · refine g_aload_n C (i := 0) dX3_follow_90 rfl rfl ?_
          refine g_getR C 3 4 (RX3, TX3, 5) dX3_follow_91 (hP.1 7 (by decide)) (hP.2 7 4 11 (by decide) rfl) ml_X3_21 rfl (by decide) rfl ?_
          refine g_iload C (i := 6) dX3_follow_94 rfl ?_
          refine g_iload C (i := 8) dX3_follow_96 rfl ?_
          refine g_zs C dX3_follow_98 (hP.1 11 (by decide)) (tk2_reg (k := 11) (by decide)) rfl (by omega) (by decide) (sDue_01 I1 i) ?_
          refine g_aload_n C (i := 2) dX3_follow_99 rfl rfl ?_
          refine g_lload_n C (i := 3) dX3_follow_100 rfl rfl ?_
          refine g_iload C (i := 6) dX3_follow_101 rfl ?_
          refine g_callV C (q := (RX0, TX0, 3)) (rest := _) dX3_follow_103 mm_X0_note ml_X3_40 mv_yX0_note ms_yX0_note (c_X0_note hP g4 (by omega) now (nI i)) rfl (hP.1 25 (by decide)) rfl rfl ⟨by decide, Nat.le_of_ble_eq_true rfl, Nat.le_of_ble_eq_true rfl, Nat.le_of_ble_eq_true rfl⟩ (tk_retn ?_) tk_nothr
          refine g_iinc C (i := 5) (n1 + 1) dX3_follow_106 rfl rfl (by decide) ?_
          refine g_iinc C (i := 6) (nI (i + 1)) dX3_follow_109 rfl (nI_1 i) (by decide) ?_
          refine g_goto C 6 dX3_follow_112 (by decide) ?_
          rw [sFol, if_neg h87] at ih1
          exact ih1 _ _
      refine g_iload C (i := 6) dX3_follow_6 rfl ?_
      refine g_aload_n C (i := 0) dX3_follow_8 rfl rfl ?_
      refine g_getI C 3 0 (RX3, TX3, 5) dX3_follow_9 (hP.1 7 (by decide)) (reg_at (k := 7) (by decide)) ml_X3_25 rfl (by decide) (Or.inl rfl) ?_
      rw [g1]
      refine g_icmp_ge C 115 dX3_follow_12 (by decide) (fun h12 => ?_) (fun h12 => ?_)
      · exact absurd h12 (nI_ge hlt (by omega))
      · refine g_aload_n C (i := 1) dX3_follow_15 rfl rfl ?_
        refine g_getR C 4 2 (RX4, TX4, 6) dX3_follow_16 (hP.1 1 (by decide)) (hP.2 1 2 3 (by decide) rfl) ml_X3_35 rfl (by decide) rfl ?_
        refine g_aload_n C (i := 0) dX3_follow_19 rfl rfl ?_
        refine g_getR C 3 1 (RX3, TX3, 5) dX3_follow_20 (hP.1 7 (by decide)) (hP.2 7 1 8 (by decide) rfl) ml_X3_9 rfl (by decide) rfl ?_
        refine g_iload C (i := 6) dX3_follow_23 rfl ?_
        refine g_ia C dX3_follow_25 (hP.1 8 (by decide)) (reg_at (k := 8) (by decide)) rfl (by omega) (by decide) ?_
        refine g_ia C dX3_follow_26 (hP.1 3 (by decide)) (reg_at (k := 3) (by decide)) et (by omega) (by decide) ?_
        refine g_istore C (i := 7) dX3_follow_27 (by decide) ?_
        refine g_aload_n C (i := 0) dX3_follow_29 rfl rfl ?_
        refine g_getR C 3 4 (RX3, TX3, 5) dX3_follow_30 (hP.1 7 (by decide)) (hP.2 7 4 11 (by decide) rfl) ml_X3_21 rfl (by decide) rfl ?_
        refine g_iload C (i := 6) dX3_follow_33 rfl ?_
        refine g_za C dX3_follow_35 (hP.1 11 (by decide)) (reg_at (k := 11) (by decide)) rfl (by omega) (by decide) (fun _ => ?_)
        refine g_if_eq C 59 dX3_follow_36 (by decide) (fun h36 => ?_) (fun h36 => ?_)
        · refine g_iload C (i := 7) dX3_follow_59 rfl ?_
          refine g_aload_n C (i := 0) dX3_follow_61 rfl rfl ?_
          refine g_getR C 3 2 (RX3, TX3, 5) dX3_follow_62 (hP.1 7 (by decide)) (hP.2 7 2 9 (by decide) rfl) ml_X3_15 rfl (by decide) rfl ?_
          refine g_iload C (i := 6) dX3_follow_65 rfl ?_
          refine g_ia C dX3_follow_67 (hP.1 9 (by decide)) (reg_at (k := 9) (by decide)) rfl (by omega) (by decide) ?_
          refine g_icmp_gt C 75 dX3_follow_68 (by decide) (fun h68 => ?_) (fun h68 => ?_)
          · refine g_iconst C (0) dX3_follow_75 rfl ?_
            rw [show (0 : Int32) = sDue I1 i by simp [sDue, h36, etc, h68]]
            exact J _ _
          · refine g_iconst C (1) dX3_follow_71 rfl ?_
            refine g_goto C 76 dX3_follow_72 (by decide) ?_
            rw [show (1 : Int32) = sDue I1 i by simp [sDue, h36, etc, h68]]
            exact J _ _
        · refine g_iload C (i := 7) dX3_follow_39 rfl ?_
          refine g_aload_n C (i := 0) dX3_follow_41 rfl rfl ?_
          refine g_getR C 3 3 (RX3, TX3, 5) dX3_follow_42 (hP.1 7 (by decide)) (hP.2 7 3 10 (by decide) rfl) ml_X3_18 rfl (by decide) rfl ?_
          refine g_iload C (i := 6) dX3_follow_45 rfl ?_
          refine g_ia C dX3_follow_47 (hP.1 10 (by decide)) (reg_at (k := 10) (by decide)) rfl (by omega) (by decide) ?_
          refine g_icmp_ge C 55 dX3_follow_48 (by decide) (fun h48 => ?_) (fun h48 => ?_)
          · refine g_iconst C (0) dX3_follow_55 rfl ?_
            refine g_goto C 76 dX3_follow_56 (by decide) ?_
            rw [show (0 : Int32) = sDue I1 i by simp [sDue, h36, etc, h48]]
            exact J _ _
          · refine g_iconst C (1) dX3_follow_51 rfl ?_
            refine g_goto C 76 dX3_follow_52 (by decide) ?_
            rw [show (1 : Int32) = sDue I1 i by simp [sDue, h36, etc, h48]]
            exact J _ _
  have k0 := key ns 0 none none (by omega)
  rw [h0] at k0
  exact k0
theorem c_X3_steadyTicks (hP : tkReg 28 pT pF σ p) {ns : Nat} (hW : wSw I0 ns) (lim : Int32) :
    tkCon false (.code yX3_steadyTicks cX3_steadyTicks 7 (some .int)) yX3_steadyTicks 3 [.ref (p + 7), .ref (p + 1), .int lim] σ (reg p 28 I0 v) (reg p 28 L0 w) 0 0 (.inl (some (.int (itr (sSst I0) ns lim)))) σ (reg p 28 I0 v) (reg p 28 L0 w) := by
  obtain ⟨hw1, hw2, hw3⟩ := hW
  refine tkCon.of (by decide) (Nat.le_of_ble_eq_true rfl) (fun X C => ?_)
  refine g_iload_n C (i := 2) dX3_steadyTicks_0 rfl rfl ?_
  refine g_istore_n C (i := 3) dX3_steadyTicks_1 rfl (by decide) ?_
  refine g_iconst C (0) dX3_steadyTicks_2 rfl ?_
  refine g_istore C (i := 4) dX3_steadyTicks_3 (by decide) ?_
  have key : ∀ k i lv5 lv6, k + i = ns → tkG X (tkQ false X 0 0 (.inl (some (.int (itr (sSst I0) ns lim)))) σ (reg p 28 I0 v) (reg p 28 L0 w)) 0 0 5 [some (.ref (p + 7)), some (.ref (p + 1)), some (.int lim), some (.int (itr (sSst I0) i lim)), some (.int (nI i)), lv5, lv6] [] σ (reg p 28 I0 v) (reg p 28 L0 w) := by
    intro k
    induction k with
    | zero =>
      intro i lv5 lv6 hi
      have e : i = ns := by omega
      subst e
      refine g_iload C (i := 4) dX3_steadyTicks_5 rfl ?_
      refine g_aload_n C (i := 0) dX3_steadyTicks_7 rfl rfl ?_
      refine g_getI C 3 0 (RX3, TX3, 5) dX3_steadyTicks_8 (hP.1 7 (by decide)) (reg_at (k := 7) (by decide)) ml_X3_25 rfl (by decide) (Or.inl rfl) ?_
      rw [hw1]
      refine g_icmp_ge C 106 dX3_steadyTicks_11 (by decide) (fun h11 => ?_) (fun h11 => ?_)
      · refine g_iload_n C (i := 3) dX3_steadyTicks_106 rfl rfl ?_
        exact g_ireturn C dX3_steadyTicks_107 ⟨Nat.le_of_ble_eq_true rfl, Nat.le_of_ble_eq_true rfl⟩ (tkEnd.rf rfl rfl rfl)
      · exact absurd (Int32.le_refl _) h11
    | succ k ih =>
      intro i lv5 lv6 hi
      have hlt : i < ns := by omega
      obtain ⟨t, ht, et⟩ := hw3 i hlt
      have etc : (I0 8 i).toNatClampNeg = t := by rw [et]; exact nI_clamp (by omega)
      have ih1 := fun a b => ih (i + 1) a b (by omega)
      rw [show itr (sSst I0) (i + 1) lim = sSst I0 i (itr (sSst I0) i lim) from rfl] at ih1
      refine g_iload C (i := 4) dX3_steadyTicks_5 rfl ?_
      refine g_aload_n C (i := 0) dX3_steadyTicks_7 rfl rfl ?_
      refine g_getI C 3 0 (RX3, TX3, 5) dX3_steadyTicks_8 (hP.1 7 (by decide)) (reg_at (k := 7) (by decide)) ml_X3_25 rfl (by decide) (Or.inl rfl) ?_
      rw [hw1]
      refine g_icmp_ge C 106 dX3_steadyTicks_11 (by decide) (fun h11 => ?_) (fun h11 => ?_)
      · exact absurd h11 (nI_ge hlt (by omega))
      · refine g_iload_n C (i := 3) dX3_steadyTicks_14 rfl rfl ?_
        refine g_if_le C 106 dX3_steadyTicks_15 (by decide) (fun h15 => ?_) (fun h15 => ?_)
        · have e := itr_stop (f := sSst I0) (P := fun s => s ≤ 0) (fun i a h => by simp [sSst, Int32.not_lt.mpr h]) h15 (k + 1)
          rw [show i + (k + 1) = ns by omega] at e
          rw [e]
          refine g_iload_n C (i := 3) dX3_steadyTicks_106 rfl rfl ?_
          exact g_ireturn C dX3_steadyTicks_107 ⟨Nat.le_of_ble_eq_true rfl, Nat.le_of_ble_eq_true rfl⟩ (tkEnd.rf rfl rfl rfl)
        · have h15' := Int32.not_le.mp h15
          refine g_aload_n C (i := 1) dX3_steadyTicks_18 rfl rfl ?_
          refine g_getR C 4 5 (RX4, TX4, 6) dX3_steadyTicks_19 (hP.1 1 (by decide)) (hP.2 1 5 6 (by decide) rfl) ml_X3_46 rfl (by decide) rfl ?_
          refine g_aload_n C (i := 0) dX3_steadyTicks_22 rfl rfl ?_
          refine g_getR C 3 1 (RX3, TX3, 5) dX3_steadyTicks_23 (hP.1 7 (by decide)) (hP.2 7 1 8 (by decide) rfl) ml_X3_9 rfl (by decide) rfl ?_
          refine g_iload C (i := 4) dX3_steadyTicks_26 rfl ?_
          refine g_ia C dX3_steadyTicks_28 (hP.1 8 (by decide)) (reg_at (k := 8) (by decide)) rfl (by omega) (by decide) ?_
          refine g_ia C dX3_steadyTicks_29 (hP.1 6 (by decide)) (reg_at (k := 6) (by decide)) et (by omega) (by decide) ?_
          refine g_istore C (i := 5) dX3_steadyTicks_30 (by decide) ?_
          refine g_aload_n C (i := 1) dX3_steadyTicks_32 rfl rfl ?_
          refine g_aload_n C (i := 0) dX3_steadyTicks_33 rfl rfl ?_
          refine g_getR C 3 1 (RX3, TX3, 5) dX3_steadyTicks_34 (hP.1 7 (by decide)) (hP.2 7 1 8 (by decide) rfl) ml_X3_9 rfl (by decide) rfl ?_
          refine g_iload C (i := 4) dX3_steadyTicks_37 rfl ?_
          refine g_ia C dX3_steadyTicks_39 (hP.1 8 (by decide)) (reg_at (k := 8) (by decide)) rfl (by omega) (by decide) ?_
          rw [et]
          refine g_callV C (q := (RX4, TX4, 6)) (rest := _) dX3_steadyTicks_40 mm_X4_drift ml_X3_49 mv_yX4_drift ms_yX4_drift (c_X4_drift (j := t) hP ht) rfl (hP.1 1 (by decide)) rfl rfl ⟨by decide, Nat.le_of_ble_eq_true rfl, Nat.le_of_ble_eq_true rfl, Nat.le_of_ble_eq_true rfl⟩ (tk_retv ?_) tk_nothr
          refine g_istore C (i := 6) dX3_steadyTicks_43 (by decide) ?_
          refine g_aload_n C (i := 0) dX3_steadyTicks_45 rfl rfl ?_
          refine g_getR C 3 4 (RX3, TX3, 5) dX3_steadyTicks_46 (hP.1 7 (by decide)) (hP.2 7 4 11 (by decide) rfl) ml_X3_21 rfl (by decide) rfl ?_
          refine g_iload C (i := 4) dX3_steadyTicks_49 rfl ?_
          refine g_za C dX3_steadyTicks_51 (hP.1 11 (by decide)) (reg_at (k := 11) (by decide)) rfl (by omega) (by decide) (fun _ => ?_)
          refine g_if_eq C 79 dX3_steadyTicks_52 (by decide) (fun h52 => ?_) (fun h52 => ?_)
          · refine g_iload C (i := 5) dX3_steadyTicks_79 rfl ?_
            refine g_aload_n C (i := 0) dX3_steadyTicks_81 rfl rfl ?_
            refine g_getR C 3 2 (RX3, TX3, 5) dX3_steadyTicks_82 (hP.1 7 (by decide)) (hP.2 7 2 9 (by decide) rfl) ml_X3_15 rfl (by decide) rfl ?_
            refine g_iload C (i := 4) dX3_steadyTicks_85 rfl ?_
            refine g_ia C dX3_steadyTicks_87 (hP.1 9 (by decide)) (reg_at (k := 9) (by decide)) rfl (by omega) (by decide) ?_
            refine g_isub C dX3_steadyTicks_88 ?_
            refine g_iconst C (1) dX3_steadyTicks_89 rfl ?_
            refine g_isub C dX3_steadyTicks_90 ?_
            refine g_i2l C dX3_steadyTicks_91 ?_
            refine g_iload C (i := 6) dX3_steadyTicks_92 rfl ?_
            refine g_i2l C dX3_steadyTicks_94 ?_
            refine g_iload_n C (i := 3) dX3_steadyTicks_95 rfl rfl ?_
            refine g_callSN C dX3_steadyTicks_96 mm_X5_ticksWhile ml_X3_53 mt_yX5_ticksWhile (c_X5_ticksWhile _ _ _) rfl ⟨by decide, Nat.le_of_ble_eq_true rfl, Nat.le_of_ble_eq_true rfl, Nat.le_of_ble_eq_true rfl⟩ (tk_retv ?_) tk_nothr
            refine g_istore_n C (i := 3) dX3_steadyTicks_99 rfl (by decide) ?_
            refine g_iinc C (i := 4) (nI (i + 1)) dX3_steadyTicks_100 rfl (nI_1 i) (by decide) ?_
            refine g_goto C 5 dX3_steadyTicks_103 (by decide) ?_
            rw [show sSst I0 i (itr (sSst I0) i lim) = jtw (I0 6 t - I0 9 i - 1).toInt64 (I0 3 t - I0 6 t).toInt64 (itr (sSst I0) i lim) by simp only [sSst, if_pos h15', if_pos h52, etc]] at ih1
            exact ih1 _ _
          · refine g_aload_n C (i := 0) dX3_steadyTicks_55 rfl rfl ?_
            refine g_getR C 3 3 (RX3, TX3, 5) dX3_steadyTicks_56 (hP.1 7 (by decide)) (hP.2 7 3 10 (by decide) rfl) ml_X3_18 rfl (by decide) rfl ?_
            refine g_iload C (i := 4) dX3_steadyTicks_59 rfl ?_
            refine g_ia C dX3_steadyTicks_61 (hP.1 10 (by decide)) (reg_at (k := 10) (by decide)) rfl (by omega) (by decide) ?_
            refine g_iconst C (1) dX3_steadyTicks_62 rfl ?_
            refine g_isub C dX3_steadyTicks_63 ?_
            refine g_iload C (i := 5) dX3_steadyTicks_64 rfl ?_
            refine g_isub C dX3_steadyTicks_66 ?_
            refine g_i2l C dX3_steadyTicks_67 ?_
            refine g_iload C (i := 6) dX3_steadyTicks_68 rfl ?_
            refine g_ineg C dX3_steadyTicks_70 ?_
            refine g_i2l C dX3_steadyTicks_71 ?_
            refine g_iload_n C (i := 3) dX3_steadyTicks_72 rfl rfl ?_
            refine g_callSN C dX3_steadyTicks_73 mm_X5_ticksWhile ml_X3_53 mt_yX5_ticksWhile (c_X5_ticksWhile _ _ _) rfl ⟨by decide, Nat.le_of_ble_eq_true rfl, Nat.le_of_ble_eq_true rfl, Nat.le_of_ble_eq_true rfl⟩ (tk_retv ?_) tk_nothr
            refine g_goto C 99 dX3_steadyTicks_76 (by decide) ?_
            refine g_istore_n C (i := 3) dX3_steadyTicks_99 rfl (by decide) ?_
            refine g_iinc C (i := 4) (nI (i + 1)) dX3_steadyTicks_100 rfl (nI_1 i) (by decide) ?_
            refine g_goto C 5 dX3_steadyTicks_103 (by decide) ?_
            rw [show sSst I0 i (itr (sSst I0) i lim) = jtw (I0 10 i - 1 - I0 6 t).toInt64 (-(I0 3 t - I0 6 t)).toInt64 (itr (sSst I0) i lim) by simp only [sSst, if_pos h15', if_neg h52, etc]] at ih1
            exact ih1 _ _
  exact key ns 0 none none (by omega)
end TKSWITCHES
end
section
section TKPUMPS
variable {σ : tkM} {p : Nat} {I0 v : tkI} {L0 w : tkL}
/-! the pumps' steps -/
def sAct (I : tkI) (i : Nat) : Int32 := if I 17 i = -1 then 1 else if I 11 (I 17 i).toNatClampNeg = I 18 i then 0 else 1
def sMove (i : Nat) (I : tkI) : tkI :=
  let s := (I 13 i).toNatClampNeg
  let t := (I 14 i).toNatClampNeg
  let m1 := if I 13 i = -1 then I 15 i else jmin (I 15 i) (I 3 s)
  let m2 := if I 14 i = -1 then m1 else jmin m1 (I 2 t - I 3 t)
  let I1 := if I 13 i = -1 then I else tk2 (tk2 I 3 s (I 3 s - m2)) 23 i (tk2 I 3 s (I 3 s - m2) 3 s)
  let I2 := if I 14 i = -1 then I1 else tk2 (tk2 I1 3 t (I1 3 t + m2)) 24 i (tk2 I1 3 t (I1 3 t + m2) 2 t - tk2 I1 3 t (I1 3 t + m2) 3 t)
  tk2 I2 22 i m2
def sEnter (t : Int32) (i : Nat) (I : tkI) (L : tkL) : tkL :=
  let mv := (I 22 i).toInt64 * t.toInt64
  let L1 := tk2 L 19 i (L 19 i + mv)
  let L2 := tk2 L1 20 i (L1 20 i + mv * (I 16 i).toInt64)
  if I 15 i ≤ I 22 i then L2 else tk2 L2 21 i (L2 21 i + t.toInt64)
def sMv (i : Nat) (q : tkI × tkL) : tkI × tkL := if sAct q.1 i = 0 then q else (sMove i q.1, sEnter 1 i (sMove i q.1) q.2)
def sPrep (I : tkI) (t : Int32) (i : Nat) (L : tkL) : tkL := if sAct I i = 0 then L else sEnter t i I L
def sHeld (h left dr : Int32) : Int32 := if h = 0 then (if left = 0 then (if dr = 0 then 1 else 0) else 0) else 1
def sOf1 (I : tkI) (i : Nat) (lim : Int32) : Int32 × Int32 :=
  let s := (I 13 i).toNatClampNeg
  let h0 : Int32 := if I 22 i = I 15 i then 1 else 0
  if I 13 i = -1 then (lim, h0) else (jtw (I 23 i).toInt64 (I 3 s - I 6 s).toInt64 lim, sHeld h0 (I 23 i) (I 3 s - I 6 s))
def sOf2 (I : tkI) (i : Nat) (q : Int32 × Int32) : Int32 × Int32 :=
  let t := (I 14 i).toNatClampNeg
  if I 14 i = -1 then q else (jtw (I 24 i).toInt64 (-(I 3 t - I 6 t)).toInt64 q.1, sHeld q.2 (I 24 i) (I 3 t - I 6 t))
def sOf (I : tkI) (i : Nat) (lim : Int32) : Int32 := if (sOf2 I i (sOf1 I i lim)).2 = 0 then 0 else (sOf2 I i (sOf1 I i lim)).1
def sPst (I : tkI) (i : Nat) (st : Int32) : Int32 := if 0 < st then (if sAct I i = 0 then st else sOf I i st) else st
def sIn (I : tkI) (L : tkL) (i : Nat) (d : Int64) : Int64 := d + (if I 13 i = -1 then L 19 i else 0)
def sGo (I : tkI) (L : tkL) (i : Nat) (d : Int64) : Int64 := d + (if I 14 i = -1 then L 19 i else 0)
def sPmix (I : tkI) (L : tkL) (i : Nat) (d : Int64) : Int64 := jmix (jmix (jmix (jmix d (I 15 i).toInt64) (L 19 i)) (L 20 i)) (L 21 i)
theorem sAct_01 (I : tkI) (i : Nat) : sAct I i = 0 ∨ sAct I i = 1 := by
  unfold sAct
  split
  · exact Or.inr rfl
  · split
    · exact Or.inl rfl
    · exact Or.inr rfl
theorem sAct_ne {I : tkI} {i : Nat} (h : ¬ sAct I i = 0) : sAct I i = 1 := (sAct_01 I i).resolve_left h
theorem c_X2_append (hP : tkReg 28 pT pF σ p) {n : Nat} (hn : n < 16) (hc : I0 12 0 = nI n) (x1 x2 x3 x4 x5 x6 : Int32) (h6 : x6 = 0 ∨ x6 = 1) :
    tkCon false (.code yX2_append cX2_append 8 (some .int)) yX2_append 1 [.ref (p + 12), .int x1, .int x2, .int x3, .int x4, .int x5, .int x6] σ (reg p 28 I0 v) (reg p 28 L0 w) 0 0 (.inl (some (.int (nI n)))) σ
      (reg p 28 (tk2 (tk2 (tk2 (tk2 (tk2 (tk2 (tk2 I0 13 n x1) 14 n x2) 15 n x3) 16 n x4) 17 n x5) 18 n x6) 12 0 (nI n + 1)) v) (reg p 28 (tk2 (tk2 (tk2 L0 19 n 0) 20 n 0) 21 n 0) w) := by
  refine tkCon.of (by decide) (Nat.le_of_ble_eq_true rfl) (fun X C => ?_)
  refine g_aload_n C (i := 0) dX2_append_0 rfl rfl ?_
  refine g_getI C 2 0 (RX2, TX2, 13) dX2_append_1 (hP.1 12 (by decide)) (reg_at (k := 12) (by decide)) ml_X2_50 rfl (by decide) (Or.inl rfl) ?_
  rw [hc]
  refine g_istore C (i := 7) dX2_append_4 (by decide) ?_
  refine g_aload_n C (i := 0) dX2_append_6 rfl rfl ?_
  refine g_getR C 2 1 (RX2, TX2, 13) dX2_append_7 (hP.1 12 (by decide)) (hP.2 12 1 13 (by decide) rfl) ml_X2_9 rfl (by decide) rfl ?_
  refine g_iload C (i := 7) dX2_append_10 rfl ?_
  refine g_iload_n C (i := 1) dX2_append_12 rfl rfl ?_
  refine g_is C dX2_append_13 (hP.1 13 (by decide)) (tk2_reg (k := 13) (by decide)) rfl (by omega) (by decide) ?_
  refine g_aload_n C (i := 0) dX2_append_14 rfl rfl ?_
  refine g_getR C 2 2 (RX2, TX2, 13) dX2_append_15 (hP.1 12 (by decide)) (hP.2 12 2 14 (by decide) rfl) ml_X2_15 rfl (by decide) rfl ?_
  refine g_iload C (i := 7) dX2_append_18 rfl ?_
  refine g_iload_n C (i := 2) dX2_append_20 rfl rfl ?_
  refine g_is C dX2_append_21 (hP.1 14 (by decide)) (tk2_reg (k := 14) (by decide)) rfl (by omega) (by decide) ?_
  refine g_aload_n C (i := 0) dX2_append_22 rfl rfl ?_
  refine g_getR C 2 3 (RX2, TX2, 13) dX2_append_23 (hP.1 12 (by decide)) (hP.2 12 3 15 (by decide) rfl) ml_X2_18 rfl (by decide) rfl ?_
  refine g_iload C (i := 7) dX2_append_26 rfl ?_
  refine g_iload_n C (i := 3) dX2_append_28 rfl rfl ?_
  refine g_is C dX2_append_29 (hP.1 15 (by decide)) (tk2_reg (k := 15) (by decide)) rfl (by omega) (by decide) ?_
  refine g_aload_n C (i := 0) dX2_append_30 rfl rfl ?_
  refine g_getR C 2 4 (RX2, TX2, 13) dX2_append_31 (hP.1 12 (by decide)) (hP.2 12 4 16 (by decide) rfl) ml_X2_21 rfl (by decide) rfl ?_
  refine g_iload C (i := 7) dX2_append_34 rfl ?_
  refine g_iload C (i := 4) dX2_append_36 rfl ?_
  refine g_is C dX2_append_38 (hP.1 16 (by decide)) (tk2_reg (k := 16) (by decide)) rfl (by omega) (by decide) ?_
  refine g_aload_n C (i := 0) dX2_append_39 rfl rfl ?_
  refine g_getR C 2 5 (RX2, TX2, 13) dX2_append_40 (hP.1 12 (by decide)) (hP.2 12 5 17 (by decide) rfl) ml_X2_24 rfl (by decide) rfl ?_
  refine g_iload C (i := 7) dX2_append_43 rfl ?_
  refine g_iload C (i := 5) dX2_append_45 rfl ?_
  refine g_is C dX2_append_47 (hP.1 17 (by decide)) (tk2_reg (k := 17) (by decide)) rfl (by omega) (by decide) ?_
  refine g_aload_n C (i := 0) dX2_append_48 rfl rfl ?_
  refine g_getR C 2 6 (RX2, TX2, 13) dX2_append_49 (hP.1 12 (by decide)) (hP.2 12 6 18 (by decide) rfl) ml_X2_27 rfl (by decide) rfl ?_
  refine g_iload C (i := 7) dX2_append_52 rfl ?_
  refine g_iload C (i := 6) dX2_append_54 rfl ?_
  refine g_zs C dX2_append_56 (hP.1 18 (by decide)) (tk2_reg (k := 18) (by decide)) rfl (by omega) (by decide) h6 ?_
  refine g_aload_n C (i := 0) dX2_append_57 rfl rfl ?_
  refine g_getR C 2 7 (RX2, TX2, 13) dX2_append_58 (hP.1 12 (by decide)) (hP.2 12 7 19 (by decide) rfl) ml_X2_31 rfl (by decide) rfl ?_
  refine g_iload C (i := 7) dX2_append_61 rfl ?_
  refine g_lconst C 0 dX2_append_63 rfl ?_
  refine g_ls C dX2_append_64 (hP.1 19 (by decide)) (tk2_reg (k := 19) (by decide)) rfl (by omega) (by decide) ?_
  refine g_aload_n C (i := 0) dX2_append_65 rfl rfl ?_
  refine g_getR C 2 8 (RX2, TX2, 13) dX2_append_66 (hP.1 12 (by decide)) (hP.2 12 8 20 (by decide) rfl) ml_X2_35 rfl (by decide) rfl ?_
  refine g_iload C (i := 7) dX2_append_69 rfl ?_
  refine g_lconst C 0 dX2_append_71 rfl ?_
  refine g_ls C dX2_append_72 (hP.1 20 (by decide)) (tk2_reg (k := 20) (by decide)) rfl (by omega) (by decide) ?_
  refine g_aload_n C (i := 0) dX2_append_73 rfl rfl ?_
  refine g_getR C 2 9 (RX2, TX2, 13) dX2_append_74 (hP.1 12 (by decide)) (hP.2 12 9 21 (by decide) rfl) ml_X2_38 rfl (by decide) rfl ?_
  refine g_iload C (i := 7) dX2_append_77 rfl ?_
  refine g_lconst C 0 dX2_append_79 rfl ?_
  refine g_ls C dX2_append_80 (hP.1 21 (by decide)) (tk2_reg (k := 21) (by decide)) rfl (by omega) (by decide) ?_
  refine g_aload_n C (i := 0) dX2_append_81 rfl rfl ?_
  refine g_dup C dX2_append_82 rfl ?_
  refine g_getI C 2 0 (RX2, TX2, 13) dX2_append_83 (hP.1 12 (by decide)) (reg_at (k := 12) (by decide)) ml_X2_50 rfl (by decide) (Or.inl rfl) ?_
  rw [show tk2 (tk2 (tk2 (tk2 (tk2 (tk2 I0 13 n x1) 14 n x2) 15 n x3) 16 n x4) 17 n x5) 18 n x6 12 0 = nI n by simp [tk2, hc]]
  refine g_iconst C (1) dX2_append_86 rfl ?_
  refine g_iadd C dX2_append_87 ?_
  refine g_putI C 2 0 (RX2, TX2, 13) dX2_append_88 (hP.1 12 (by decide)) (tk2_reg (k := 12) (by decide)) ml_X2_50 rfl (by decide) rfl rfl ?_
  refine g_iload C (i := 7) dX2_append_91 rfl ?_
  exact g_ireturn C dX2_append_93 ⟨Nat.le_of_ble_eq_true rfl, Nat.le_of_ble_eq_true rfl⟩ (tkEnd.rf rfl rfl rfl)
theorem c_X2_isActive (hP : tkReg 28 pT pF σ p) {np j : Nat} (hW : wPu I0 np) (hj : j < np) :
    tkCon false (.code yX2_isActive cX2_isActive 4 (some .boolean)) yX2_isActive 1 [.ref (p + 12), .int (nI j), .ref (p + 7)] σ (reg p 28 I0 v) (reg p 28 L0 w) 0 0 (.inl (some (.int (sAct I0 j)))) σ (reg p 28 I0 v) (reg p 28 L0 w) := by
  obtain ⟨hw1, hw2, hw3⟩ := hW
  have hc3 := (hw3 j hj).2.2
  refine tkCon.of (by decide) (Nat.le_of_ble_eq_true rfl) (fun X C => ?_)
  refine g_aload_n C (i := 0) dX2_isActive_0 rfl rfl ?_
  refine g_getR C 2 5 (RX2, TX2, 13) dX2_isActive_1 (hP.1 12 (by decide)) (hP.2 12 5 17 (by decide) rfl) ml_X2_24 rfl (by decide) rfl ?_
  refine g_iload_n C (i := 1) dX2_isActive_4 rfl rfl ?_
  refine g_ia C dX2_isActive_5 (hP.1 17 (by decide)) (reg_at (k := 17) (by decide)) rfl (by omega) (by decide) ?_
  refine g_istore_n C (i := 3) dX2_isActive_6 rfl (by decide) ?_
  refine g_iload_n C (i := 3) dX2_isActive_7 rfl rfl ?_
  refine g_iconst C (-1) dX2_isActive_8 rfl ?_
  refine g_icmp_eq C 27 dX2_isActive_9 (by decide) (fun h9 => ?_) (fun h9 => ?_)
  · refine g_iconst C (1) dX2_isActive_27 rfl ?_
    refine g_goto C 32 dX2_isActive_28 (by decide) ?_
    exact g_zreturn C dX2_isActive_32 ⟨Nat.le_of_ble_eq_true rfl, Nat.le_of_ble_eq_true rfl⟩ (by first | assumption | exact Or.inl rfl | exact Or.inr rfl) (tkEnd.rf (by simp [sAct, h9]) rfl rfl)
  · obtain ⟨t, ht, et⟩ := hc3.resolve_left h9
    have etc : (I0 17 j).toNatClampNeg = t := by rw [et]; exact nI_clamp (by omega)
    refine g_aload_n C (i := 2) dX2_isActive_12 rfl rfl ?_
    refine g_getR C 3 4 (RX3, TX3, 5) dX2_isActive_13 (hP.1 7 (by decide)) (hP.2 7 4 11 (by decide) rfl) ml_X2_60 rfl (by decide) rfl ?_
    refine g_iload_n C (i := 3) dX2_isActive_16 rfl rfl ?_
    refine g_za C dX2_isActive_17 (hP.1 11 (by decide)) (reg_at (k := 11) (by decide)) et (by omega) (by decide) (fun _ => ?_)
    refine g_aload_n C (i := 0) dX2_isActive_18 rfl rfl ?_
    refine g_getR C 2 6 (RX2, TX2, 13) dX2_isActive_19 (hP.1 12 (by decide)) (hP.2 12 6 18 (by decide) rfl) ml_X2_27 rfl (by decide) rfl ?_
    refine g_iload_n C (i := 1) dX2_isActive_22 rfl rfl ?_
    refine g_za C dX2_isActive_23 (hP.1 18 (by decide)) (reg_at (k := 18) (by decide)) rfl (by omega) (by decide) (fun _ => ?_)
    refine g_icmp_eq C 31 dX2_isActive_24 (by decide) (fun h24 => ?_) (fun h24 => ?_)
    · refine g_iconst C (0) dX2_isActive_31 rfl ?_
      exact g_zreturn C dX2_isActive_32 ⟨Nat.le_of_ble_eq_true rfl, Nat.le_of_ble_eq_true rfl⟩ (by first | assumption | exact Or.inl rfl | exact Or.inr rfl) (tkEnd.rf (by simp [sAct, h9, etc, h24]) rfl rfl)
    · refine g_iconst C (1) dX2_isActive_27 rfl ?_
      refine g_goto C 32 dX2_isActive_28 (by decide) ?_
      exact g_zreturn C dX2_isActive_32 ⟨Nat.le_of_ble_eq_true rfl, Nat.le_of_ble_eq_true rfl⟩ (by first | assumption | exact Or.inl rfl | exact Or.inr rfl) (tkEnd.rf (by simp [sAct, h9, etc, h24]) rfl rfl)
theorem c_X2_move (hP : tkReg 28 pT pF σ p) {np j : Nat} (hW : wPu I0 np) (hj : j < np) :
    tkCon false (.code yX2_move cX2_move 6 none) yX2_move 2 [.ref (p + 12), .int (nI j), .ref (p + 1)] σ (reg p 28 I0 v) (reg p 28 L0 w) 0 0 (.inl none) σ (reg p 28 (sMove j I0) v) (reg p 28 L0 w) := by
  obtain ⟨hw1, hw2, hw3⟩ := hW
  obtain ⟨hf, ht, -⟩ := hw3 j hj
  obtain ⟨m1, em1⟩ : ∃ m1, m1 = if I0 13 j = -1 then I0 15 j else jmin (I0 15 j) (I0 3 (I0 13 j).toNatClampNeg) := ⟨_, rfl⟩
  obtain ⟨m2, em2⟩ : ∃ m2, m2 = if I0 14 j = -1 then m1 else jmin m1 (I0 2 (I0 14 j).toNatClampNeg - I0 3 (I0 14 j).toNatClampNeg) := ⟨_, rfl⟩
  obtain ⟨I1, eI1⟩ : ∃ I1, I1 = if I0 13 j = -1 then I0 else tk2 (tk2 I0 3 (I0 13 j).toNatClampNeg (I0 3 (I0 13 j).toNatClampNeg - m2)) 23 j (tk2 I0 3 (I0 13 j).toNatClampNeg (I0 3 (I0 13 j).toNatClampNeg - m2) 3 (I0 13 j).toNatClampNeg) := ⟨_, rfl⟩
  obtain ⟨I2, eI2⟩ : ∃ I2, I2 = if I0 14 j = -1 then I1 else tk2 (tk2 I1 3 (I0 14 j).toNatClampNeg (I1 3 (I0 14 j).toNatClampNeg + m2)) 24 j (tk2 I1 3 (I0 14 j).toNatClampNeg (I1 3 (I0 14 j).toNatClampNeg + m2) 2 (I0 14 j).toNatClampNeg - tk2 I1 3 (I0 14 j).toNatClampNeg (I1 3 (I0 14 j).toNatClampNeg + m2) 3 (I0 14 j).toNatClampNeg) := ⟨_, rfl⟩
  have eF : sMove j I0 = tk2 I2 22 j m2 := by rw [eI2, eI1, em2, em1]; rfl
  rw [eF]
  refine tkCon.of (by decide) (Nat.le_of_ble_eq_true rfl) (fun X C => ?_)
  have J136 : tkG X (tkQ false X 0 0 (.inl none) σ (reg p 28 (tk2 I2 22 j m2) v) (reg p 28 L0 w)) 0 0 136 [some (.ref (p + 12)), some (.int (nI j)), some (.ref (p + 1)), some (.int (I0 13 j)), some (.int (I0 14 j)), some (.int m2)] [] σ (reg p 28 I2 v) (reg p 28 L0 w) := by
    clear eI1 eI2 em1 em2 eF
    refine g_aload_n C (i := 0) dX2_move_136 rfl rfl ?_
    refine g_getR C 2 10 (RX2, TX2, 13) dX2_move_137 (hP.1 12 (by decide)) (hP.2 12 10 22 (by decide) rfl) ml_X2_41 rfl (by decide) rfl ?_
    refine g_iload_n C (i := 1) dX2_move_140 rfl rfl ?_
    refine g_iload C (i := 5) dX2_move_141 rfl ?_
    refine g_is C dX2_move_143 (hP.1 22 (by decide)) (tk2_reg (k := 22) (by decide)) rfl (by omega) (by decide) ?_
    exact g_return C dX2_move_144 ⟨Nat.le_of_ble_eq_true rfl, Nat.le_of_ble_eq_true rfl⟩ (tkEnd.rf rfl rfl rfl)
  have J97 : tkG X (tkQ false X 0 0 (.inl none) σ (reg p 28 (tk2 I2 22 j m2) v) (reg p 28 L0 w)) 0 0 97 [some (.ref (p + 12)), some (.int (nI j)), some (.ref (p + 1)), some (.int (I0 13 j)), some (.int (I0 14 j)), some (.int m2)] [] σ (reg p 28 I1 v) (reg p 28 L0 w) := by
    clear eI1 em1 em2 eF
    refine g_iload C (i := 4) dX2_move_97 rfl ?_
    refine g_iconst C (-1) dX2_move_99 rfl ?_
    refine g_icmp_eq C 136 dX2_move_100 (by decide) (fun h100 => ?_) (fun h100 => ?_)
    · rw [if_pos h100] at eI2
      rw [eI2] at J136
      rw [eI2]
      skip
      exact J136
    · obtain ⟨t, ht, et⟩ := ht.resolve_left h100
      have etc : (I0 14 j).toNatClampNeg = t := by rw [et]; exact nI_clamp (by omega)
      rw [if_neg h100, etc] at eI2
      rw [eI2] at J136
      rw [eI2]
      refine g_aload_n C (i := 2) dX2_move_103 rfl rfl ?_
      refine g_getR C 4 2 (RX4, TX4, 6) dX2_move_104 (hP.1 1 (by decide)) (hP.2 1 2 3 (by decide) rfl) ml_X2_77 rfl (by decide) rfl ?_
      refine g_iload C (i := 4) dX2_move_107 rfl ?_
      refine g_dup2 C dX2_move_109 rfl rfl ?_
      refine g_ia C dX2_move_110 (hP.1 3 (by decide)) (reg_at (k := 3) (by decide)) et (by omega) (by decide) ?_
      refine g_iload C (i := 5) dX2_move_111 rfl ?_
      refine g_iadd C dX2_move_113 ?_
      refine g_is C dX2_move_114 (hP.1 3 (by decide)) (tk2_reg (k := 3) (by decide)) et (by omega) (by decide) ?_
      refine g_aload_n C (i := 0) dX2_move_115 rfl rfl ?_
      refine g_getR C 2 12 (RX2, TX2, 13) dX2_move_116 (hP.1 12 (by decide)) (hP.2 12 12 24 (by decide) rfl) ml_X2_47 rfl (by decide) rfl ?_
      refine g_iload_n C (i := 1) dX2_move_119 rfl rfl ?_
      refine g_aload_n C (i := 2) dX2_move_120 rfl rfl ?_
      refine g_getR C 4 1 (RX4, TX4, 6) dX2_move_121 (hP.1 1 (by decide)) (hP.2 1 1 2 (by decide) rfl) ml_X2_88 rfl (by decide) rfl ?_
      refine g_iload C (i := 4) dX2_move_124 rfl ?_
      refine g_ia C dX2_move_126 (hP.1 2 (by decide)) (reg_at (k := 2) (by decide)) et (by omega) (by decide) ?_
      refine g_aload_n C (i := 2) dX2_move_127 rfl rfl ?_
      refine g_getR C 4 2 (RX4, TX4, 6) dX2_move_128 (hP.1 1 (by decide)) (hP.2 1 2 3 (by decide) rfl) ml_X2_77 rfl (by decide) rfl ?_
      refine g_iload C (i := 4) dX2_move_131 rfl ?_
      refine g_ia C dX2_move_133 (hP.1 3 (by decide)) (reg_at (k := 3) (by decide)) et (by omega) (by decide) ?_
      refine g_isub C dX2_move_134 ?_
      refine g_is C dX2_move_135 (hP.1 24 (by decide)) (tk2_reg (k := 24) (by decide)) rfl (by omega) (by decide) ?_
      exact J136
  have J69 : tkG X (tkQ false X 0 0 (.inl none) σ (reg p 28 (tk2 I2 22 j m2) v) (reg p 28 L0 w)) 0 0 69 [some (.ref (p + 12)), some (.int (nI j)), some (.ref (p + 1)), some (.int (I0 13 j)), some (.int (I0 14 j)), some (.int m2)] [] σ (reg p 28 I0 v) (reg p 28 L0 w) := by
    clear J136 eI2 em1 em2 eF
    refine g_iload_n C (i := 3) dX2_move_69 rfl rfl ?_
    refine g_iconst C (-1) dX2_move_70 rfl ?_
    refine g_icmp_eq C 97 dX2_move_71 (by decide) (fun h71 => ?_) (fun h71 => ?_)
    · rw [if_pos h71] at eI1
      rw [eI1] at J97
      skip
      exact J97
    · obtain ⟨s, hs, es⟩ := hf.resolve_left h71
      have esc : (I0 13 j).toNatClampNeg = s := by rw [es]; exact nI_clamp (by omega)
      rw [if_neg h71, esc] at eI1
      rw [eI1] at J97
      refine g_aload_n C (i := 2) dX2_move_74 rfl rfl ?_
      refine g_getR C 4 2 (RX4, TX4, 6) dX2_move_75 (hP.1 1 (by decide)) (hP.2 1 2 3 (by decide) rfl) ml_X2_77 rfl (by decide) rfl ?_
      refine g_iload_n C (i := 3) dX2_move_78 rfl rfl ?_
      refine g_dup2 C dX2_move_79 rfl rfl ?_
      refine g_ia C dX2_move_80 (hP.1 3 (by decide)) (reg_at (k := 3) (by decide)) es (by omega) (by decide) ?_
      refine g_iload C (i := 5) dX2_move_81 rfl ?_
      refine g_isub C dX2_move_83 ?_
      refine g_is C dX2_move_84 (hP.1 3 (by decide)) (tk2_reg (k := 3) (by decide)) es (by omega) (by decide) ?_
      refine g_aload_n C (i := 0) dX2_move_85 rfl rfl ?_
      refine g_getR C 2 11 (RX2, TX2, 13) dX2_move_86 (hP.1 12 (by decide)) (hP.2 12 11 23 (by decide) rfl) ml_X2_44 rfl (by decide) rfl ?_
      refine g_iload_n C (i := 1) dX2_move_89 rfl rfl ?_
      refine g_aload_n C (i := 2) dX2_move_90 rfl rfl ?_
      refine g_getR C 4 2 (RX4, TX4, 6) dX2_move_91 (hP.1 1 (by decide)) (hP.2 1 2 3 (by decide) rfl) ml_X2_77 rfl (by decide) rfl ?_
      refine g_iload_n C (i := 3) dX2_move_94 rfl rfl ?_
      refine g_ia C dX2_move_95 (hP.1 3 (by decide)) (reg_at (k := 3) (by decide)) es (by omega) (by decide) ?_
      refine g_is C dX2_move_96 (hP.1 23 (by decide)) (tk2_reg (k := 23) (by decide)) rfl (by omega) (by decide) ?_
      exact J97
  clear J136 J97 eI1 eI2 eF
  have J41 : tkG X (tkQ false X 0 0 (.inl none) σ (reg p 28 (tk2 I2 22 j m2) v) (reg p 28 L0 w)) 0 0 41 [some (.ref (p + 12)), some (.int (nI j)), some (.ref (p + 1)), some (.int (I0 13 j)), some (.int (I0 14 j)), some (.int m1)] [] σ (reg p 28 I0 v) (reg p 28 L0 w) := by
    clear em1
    refine g_iload C (i := 4) dX2_move_41 rfl ?_
    refine g_iconst C (-1) dX2_move_43 rfl ?_
    refine g_icmp_eq C 69 dX2_move_44 (by decide) (fun h44 => ?_) (fun h44 => ?_)
    · rw [if_pos h44] at em2
      rw [em2] at J69
      rw [em2]
      skip
      exact J69
    · obtain ⟨t, ht, et⟩ := ht.resolve_left h44
      have etc : (I0 14 j).toNatClampNeg = t := by rw [et]; exact nI_clamp (by omega)
      rw [if_neg h44, etc] at em2
      rw [em2] at J69
      rw [em2]
      refine g_iload C (i := 5) dX2_move_47 rfl ?_
      refine g_aload_n C (i := 2) dX2_move_49 rfl rfl ?_
      refine g_getR C 4 1 (RX4, TX4, 6) dX2_move_50 (hP.1 1 (by decide)) (hP.2 1 1 2 (by decide) rfl) ml_X2_88 rfl (by decide) rfl ?_
      refine g_iload C (i := 4) dX2_move_53 rfl ?_
      refine g_ia C dX2_move_55 (hP.1 2 (by decide)) (reg_at (k := 2) (by decide)) et (by omega) (by decide) ?_
      refine g_aload_n C (i := 2) dX2_move_56 rfl rfl ?_
      refine g_getR C 4 2 (RX4, TX4, 6) dX2_move_57 (hP.1 1 (by decide)) (hP.2 1 2 3 (by decide) rfl) ml_X2_77 rfl (by decide) rfl ?_
      refine g_iload C (i := 4) dX2_move_60 rfl ?_
      refine g_ia C dX2_move_62 (hP.1 3 (by decide)) (reg_at (k := 3) (by decide)) et (by omega) (by decide) ?_
      refine g_isub C dX2_move_63 ?_
      refine g_min C dX2_move_64 ml_X2_82 (by decide) (Nat.le_of_ble_eq_true rfl) (Nat.le_of_ble_eq_true rfl) (Nat.le_of_ble_eq_true rfl) ?_
      refine g_istore C (i := 5) dX2_move_67 (by decide) ?_
      exact J69
  clear J69 em2
  refine g_aload_n C (i := 0) dX2_move_0 rfl rfl ?_
  refine g_getR C 2 1 (RX2, TX2, 13) dX2_move_1 (hP.1 12 (by decide)) (hP.2 12 1 13 (by decide) rfl) ml_X2_9 rfl (by decide) rfl ?_
  refine g_iload_n C (i := 1) dX2_move_4 rfl rfl ?_
  refine g_ia C dX2_move_5 (hP.1 13 (by decide)) (reg_at (k := 13) (by decide)) rfl (by omega) (by decide) ?_
  refine g_istore_n C (i := 3) dX2_move_6 rfl (by decide) ?_
  refine g_aload_n C (i := 0) dX2_move_7 rfl rfl ?_
  refine g_getR C 2 2 (RX2, TX2, 13) dX2_move_8 (hP.1 12 (by decide)) (hP.2 12 2 14 (by decide) rfl) ml_X2_15 rfl (by decide) rfl ?_
  refine g_iload_n C (i := 1) dX2_move_11 rfl rfl ?_
  refine g_ia C dX2_move_12 (hP.1 14 (by decide)) (reg_at (k := 14) (by decide)) rfl (by omega) (by decide) ?_
  refine g_istore C (i := 4) dX2_move_13 (by decide) ?_
  refine g_aload_n C (i := 0) dX2_move_15 rfl rfl ?_
  refine g_getR C 2 3 (RX2, TX2, 13) dX2_move_16 (hP.1 12 (by decide)) (hP.2 12 3 15 (by decide) rfl) ml_X2_18 rfl (by decide) rfl ?_
  refine g_iload_n C (i := 1) dX2_move_19 rfl rfl ?_
  refine g_ia C dX2_move_20 (hP.1 15 (by decide)) (reg_at (k := 15) (by decide)) rfl (by omega) (by decide) ?_
  refine g_istore C (i := 5) dX2_move_21 (by decide) ?_
  refine g_iload_n C (i := 3) dX2_move_23 rfl rfl ?_
  refine g_iconst C (-1) dX2_move_24 rfl ?_
  refine g_icmp_eq C 41 dX2_move_25 (by decide) (fun h25 => ?_) (fun h25 => ?_)
  · rw [if_pos h25] at em1
    rw [em1] at J41
    skip
    exact J41
  · obtain ⟨s, hs, es⟩ := hf.resolve_left h25
    have esc : (I0 13 j).toNatClampNeg = s := by rw [es]; exact nI_clamp (by omega)
    rw [if_neg h25, esc] at em1
    rw [em1] at J41
    refine g_iload C (i := 5) dX2_move_28 rfl ?_
    refine g_aload_n C (i := 2) dX2_move_30 rfl rfl ?_
    refine g_getR C 4 2 (RX4, TX4, 6) dX2_move_31 (hP.1 1 (by decide)) (hP.2 1 2 3 (by decide) rfl) ml_X2_77 rfl (by decide) rfl ?_
    refine g_iload_n C (i := 3) dX2_move_34 rfl rfl ?_
    refine g_ia C dX2_move_35 (hP.1 3 (by decide)) (reg_at (k := 3) (by decide)) es (by omega) (by decide) ?_
    refine g_min C dX2_move_36 ml_X2_82 (by decide) (Nat.le_of_ble_eq_true rfl) (Nat.le_of_ble_eq_true rfl) (Nat.le_of_ble_eq_true rfl) ?_
    refine g_istore C (i := 5) dX2_move_39 (by decide) ?_
    exact J41
theorem c_X2_enter (hP : tkReg 28 pT pF σ p) {j : Nat} (hj : j < 16) (t : Int32) :
    tkCon false (.code yX2_enter cX2_enter 5 none) yX2_enter 1 [.ref (p + 12), .int (nI j), .int t] σ (reg p 28 I0 v) (reg p 28 L0 w) 0 0 (.inl none) σ (reg p 28 I0 v) (reg p 28 (sEnter t j I0 L0) w) := by
  refine tkCon.of (by decide) (Nat.le_of_ble_eq_true rfl) (fun X C => ?_)
  refine g_aload_n C (i := 0) dX2_enter_0 rfl rfl ?_
  refine g_getR C 2 10 (RX2, TX2, 13) dX2_enter_1 (hP.1 12 (by decide)) (hP.2 12 10 22 (by decide) rfl) ml_X2_41 rfl (by decide) rfl ?_
  refine g_iload_n C (i := 1) dX2_enter_4 rfl rfl ?_
  refine g_ia C dX2_enter_5 (hP.1 22 (by decide)) (reg_at (k := 22) (by decide)) rfl (by omega) (by decide) ?_
  refine g_i2l C dX2_enter_6 ?_
  refine g_iload_n C (i := 2) dX2_enter_7 rfl rfl ?_
  refine g_i2l C dX2_enter_8 ?_
  refine g_lmul C dX2_enter_9 ?_
  refine g_lstore_n C (i := 3) dX2_enter_10 rfl (by decide) ?_
  refine g_aload_n C (i := 0) dX2_enter_11 rfl rfl ?_
  refine g_getR C 2 7 (RX2, TX2, 13) dX2_enter_12 (hP.1 12 (by decide)) (hP.2 12 7 19 (by decide) rfl) ml_X2_31 rfl (by decide) rfl ?_
  refine g_iload_n C (i := 1) dX2_enter_15 rfl rfl ?_
  refine g_dup2 C dX2_enter_16 rfl rfl ?_
  refine g_la C dX2_enter_17 (hP.1 19 (by decide)) (reg_at (k := 19) (by decide)) rfl (by omega) (by decide) ?_
  refine g_lload_n C (i := 3) dX2_enter_18 rfl rfl ?_
  refine g_ladd C dX2_enter_19 ?_
  refine g_ls C dX2_enter_20 (hP.1 19 (by decide)) (tk2_reg (k := 19) (by decide)) rfl (by omega) (by decide) ?_
  refine g_aload_n C (i := 0) dX2_enter_21 rfl rfl ?_
  refine g_getR C 2 8 (RX2, TX2, 13) dX2_enter_22 (hP.1 12 (by decide)) (hP.2 12 8 20 (by decide) rfl) ml_X2_35 rfl (by decide) rfl ?_
  refine g_iload_n C (i := 1) dX2_enter_25 rfl rfl ?_
  refine g_dup2 C dX2_enter_26 rfl rfl ?_
  refine g_la C dX2_enter_27 (hP.1 20 (by decide)) (reg_at (k := 20) (by decide)) rfl (by omega) (by decide) ?_
  refine g_lload_n C (i := 3) dX2_enter_28 rfl rfl ?_
  refine g_aload_n C (i := 0) dX2_enter_29 rfl rfl ?_
  refine g_getR C 2 4 (RX2, TX2, 13) dX2_enter_30 (hP.1 12 (by decide)) (hP.2 12 4 16 (by decide) rfl) ml_X2_21 rfl (by decide) rfl ?_
  refine g_iload_n C (i := 1) dX2_enter_33 rfl rfl ?_
  refine g_ia C dX2_enter_34 (hP.1 16 (by decide)) (reg_at (k := 16) (by decide)) rfl (by omega) (by decide) ?_
  refine g_i2l C dX2_enter_35 ?_
  refine g_lmul C dX2_enter_36 ?_
  refine g_ladd C dX2_enter_37 ?_
  refine g_ls C dX2_enter_38 (hP.1 20 (by decide)) (tk2_reg (k := 20) (by decide)) rfl (by omega) (by decide) ?_
  refine g_aload_n C (i := 0) dX2_enter_39 rfl rfl ?_
  refine g_getR C 2 10 (RX2, TX2, 13) dX2_enter_40 (hP.1 12 (by decide)) (hP.2 12 10 22 (by decide) rfl) ml_X2_41 rfl (by decide) rfl ?_
  refine g_iload_n C (i := 1) dX2_enter_43 rfl rfl ?_
  refine g_ia C dX2_enter_44 (hP.1 22 (by decide)) (reg_at (k := 22) (by decide)) rfl (by omega) (by decide) ?_
  refine g_aload_n C (i := 0) dX2_enter_45 rfl rfl ?_
  refine g_getR C 2 3 (RX2, TX2, 13) dX2_enter_46 (hP.1 12 (by decide)) (hP.2 12 3 15 (by decide) rfl) ml_X2_18 rfl (by decide) rfl ?_
  refine g_iload_n C (i := 1) dX2_enter_49 rfl rfl ?_
  refine g_ia C dX2_enter_50 (hP.1 15 (by decide)) (reg_at (k := 15) (by decide)) rfl (by omega) (by decide) ?_
  refine g_icmp_ge C 65 dX2_enter_51 (by decide) (fun h51 => ?_) (fun h51 => ?_)
  · exact g_return C dX2_enter_65 ⟨Nat.le_of_ble_eq_true rfl, Nat.le_of_ble_eq_true rfl⟩ (tkEnd.rf rfl rfl (by simp only [sEnter, h51, if_true]))
  · refine g_aload_n C (i := 0) dX2_enter_54 rfl rfl ?_
    refine g_getR C 2 9 (RX2, TX2, 13) dX2_enter_55 (hP.1 12 (by decide)) (hP.2 12 9 21 (by decide) rfl) ml_X2_38 rfl (by decide) rfl ?_
    refine g_iload_n C (i := 1) dX2_enter_58 rfl rfl ?_
    refine g_dup2 C dX2_enter_59 rfl rfl ?_
    refine g_la C dX2_enter_60 (hP.1 21 (by decide)) (reg_at (k := 21) (by decide)) rfl (by omega) (by decide) ?_
    refine g_iload_n C (i := 2) dX2_enter_61 rfl rfl ?_
    refine g_i2l C dX2_enter_62 ?_
    refine g_ladd C dX2_enter_63 ?_
    refine g_ls C dX2_enter_64 (hP.1 21 (by decide)) (tk2_reg (k := 21) (by decide)) rfl (by omega) (by decide) ?_
    exact g_return C dX2_enter_65 ⟨Nat.le_of_ble_eq_true rfl, Nat.le_of_ble_eq_true rfl⟩ (tkEnd.rf rfl rfl (by simp only [sEnter, h51, if_false]))
/-- what the moves leave as it was -/
def pMv (I0 : tkI) (q : tkI × tkL) : Prop := ∀ k, k ≠ 3 → k ≠ 22 → k ≠ 23 → k ≠ 24 → q.1 k = I0 k
theorem sMove_keep (i : Nat) (I : tkI) {k : Nat} (h3 : k ≠ 3) (h22 : k ≠ 22) (h23 : k ≠ 23) (h24 : k ≠ 24) : sMove i I k = I k := by
  funext j
  unfold sMove
  split <;> split <;> simp [tk2, h3, h22, h23, h24]
theorem sMv_keep {I0 : tkI} {i : Nat} {q : tkI × tkL} (h : pMv I0 q) : pMv I0 (sMv i q) := by
  unfold sMv
  split
  · exact h
  · intro k h3 h22 h23 h24
    show sMove i q.1 k = I0 k
    rw [sMove_keep i q.1 h3 h22 h23 h24]
    exact h k h3 h22 h23 h24
theorem wPu.keep {I0 I1 : tkI} {np : Nat} (h : wPu I0 np) (h12 : I1 12 = I0 12) (h13 : I1 13 = I0 13) (h14 : I1 14 = I0 14) (h17 : I1 17 = I0 17) : wPu I1 np := by
  obtain ⟨a, b, c⟩ := h
  exact ⟨by rw [h12]; exact a, b, fun i hi => by rw [h13, h14, h17]; exact c i hi⟩
theorem c_X2_moveAll (hP : tkReg 28 pT pF σ p) {np : Nat} (hW : wPu I0 np) :
    tkCon false (.code yX2_moveAll cX2_moveAll 4 none) yX2_moveAll 3 [.ref (p + 12), .ref (p + 1), .ref (p + 7)] σ (reg p 28 I0 v) (reg p 28 L0 w) 0 0 (.inl none) σ (reg p 28 (itr sMv np (I0, L0)).1 v) (reg p 28 (itr sMv np (I0, L0)).2 w) := by
  obtain ⟨s, hs⟩ : ∃ s, s = fun i => itr sMv i (I0, L0) := ⟨_, rfl⟩
  have inv : ∀ i, pMv I0 (s i) := fun i => by rw [hs]; exact itr_inv (P := pMv I0) (n := i) (fun k a _ h => sMv_keep h) (Nat.le_refl _) (fun k _ _ _ _ => rfl)
  have hsucc : ∀ i, s (i + 1) = sMv i (s i) := fun i => by rw [hs]; rfl
  have h0 : s 0 = (I0, L0) := by rw [hs]; rfl
  rw [show itr sMv np (I0, L0) = s np by rw [hs]]
  have hWi : ∀ i, wPu (s i).1 np := fun i => hW.keep (inv i 12 (by decide) (by decide) (by decide) (by decide)) (inv i 13 (by decide) (by decide) (by decide) (by decide)) (inv i 14 (by decide) (by decide) (by decide) (by decide)) (inv i 17 (by decide) (by decide) (by decide) (by decide))
  refine tkCon.of (by decide) (Nat.le_of_ble_eq_true rfl) (fun X C => ?_)
  refine g_iconst C (0) dX2_moveAll_0 rfl ?_
  refine g_istore_n C (i := 3) dX2_moveAll_1 rfl (by decide) ?_
  have key : ∀ k i, k + i = np → tkG X (tkQ false X 0 0 (.inl none) σ (reg p 28 (s np).1 v) (reg p 28 (s np).2 w)) 0 0 2 [some (.ref (p + 12)), some (.ref (p + 1)), some (.ref (p + 7)), some (.int (nI i))] [] σ (reg p 28 (s i).1 v) (reg p 28 (s i).2 w) := by
    intro k
    induction k with
    | zero =>
      intro i hi
      have e : i = np := by omega
      subst e
      refine g_iload_n C (i := 3) dX2_moveAll_2 rfl rfl ?_
      refine g_aload_n C (i := 0) dX2_moveAll_3 rfl rfl ?_
      refine g_getI C 2 0 (RX2, TX2, 13) dX2_moveAll_4 (hP.1 12 (by decide)) (reg_at (k := 12) (by decide)) ml_X2_50 rfl (by decide) (Or.inl rfl) ?_
      rw [(hWi i).1]
      refine g_icmp_ge C 37 dX2_moveAll_7 (by decide) (fun h7 => ?_) (fun h7 => ?_)
      · exact g_return C dX2_moveAll_37 ⟨Nat.le_of_ble_eq_true rfl, Nat.le_of_ble_eq_true rfl⟩ (tkEnd.rf rfl rfl rfl)
      · exact absurd (Int32.le_refl _) h7
    | succ k ih =>
      intro i hi
      have hlt : i < np := by omega
      have ih1 := ih (i + 1) (by omega)
      rw [hsucc] at ih1
      have hWq := hWi i
      generalize s i = q at *
      obtain ⟨I1, L1⟩ := q
      dsimp only at *
      have h16 : np ≤ 16 := hWq.2.1
      refine g_iload_n C (i := 3) dX2_moveAll_2 rfl rfl ?_
      refine g_aload_n C (i := 0) dX2_moveAll_3 rfl rfl ?_
      refine g_getI C 2 0 (RX2, TX2, 13) dX2_moveAll_4 (hP.1 12 (by decide)) (reg_at (k := 12) (by decide)) ml_X2_50 rfl (by decide) (Or.inl rfl) ?_
      rw [hWq.1]
      refine g_icmp_ge C 37 dX2_moveAll_7 (by decide) (fun h7 => ?_) (fun h7 => ?_)
      · exact absurd h7 (nI_ge hlt (by omega))
      · refine g_aload_n C (i := 0) dX2_moveAll_10 rfl rfl ?_
        refine g_iload_n C (i := 3) dX2_moveAll_11 rfl rfl ?_
        refine g_aload_n C (i := 2) dX2_moveAll_12 rfl rfl ?_
        refine g_callV C (q := (RX2, TX2, 13)) (rest := _) dX2_moveAll_13 mm_X2_isActive ml_X2_65 mv_yX2_isActive ms_yX2_isActive (c_X2_isActive hP hWq hlt) rfl (hP.1 12 (by decide)) rfl rfl ⟨by decide, Nat.le_of_ble_eq_true rfl, Nat.le_of_ble_eq_true rfl, Nat.le_of_ble_eq_true rfl⟩ (tk_retv ?_) tk_nothr
        refine g_if_eq C 31 dX2_moveAll_16 (by decide) (fun h16' => ?_) (fun h16' => ?_)
        · refine g_iinc C (i := 3) (nI (i + 1)) dX2_moveAll_31 rfl (nI_1 i) (by decide) ?_
          refine g_goto C 2 dX2_moveAll_34 (by decide) ?_
          rw [sMv, if_pos h16'] at ih1
          exact ih1
        · refine g_aload_n C (i := 0) dX2_moveAll_19 rfl rfl ?_
          refine g_iload_n C (i := 3) dX2_moveAll_20 rfl rfl ?_
          refine g_aload_n C (i := 1) dX2_moveAll_21 rfl rfl ?_
          refine g_callV C (q := (RX2, TX2, 13)) (rest := _) dX2_moveAll_22 mm_X2_move ml_X2_69 mv_yX2_move ms_yX2_move (c_X2_move hP hWq hlt) rfl (hP.1 12 (by decide)) rfl rfl ⟨by decide, Nat.le_of_ble_eq_true rfl, Nat.le_of_ble_eq_true rfl, Nat.le_of_ble_eq_true rfl⟩ (tk_retn ?_) tk_nothr
          refine g_aload_n C (i := 0) dX2_moveAll_25 rfl rfl ?_
          refine g_iload_n C (i := 3) dX2_moveAll_26 rfl rfl ?_
          refine g_iconst C (1) dX2_moveAll_27 rfl ?_
          refine g_callV C (q := (RX2, TX2, 13)) (rest := _) dX2_moveAll_28 mm_X2_enter ml_X2_73 mv_yX2_enter ms_yX2_enter (c_X2_enter hP (by omega) 1) rfl (hP.1 12 (by decide)) rfl rfl ⟨by decide, Nat.le_of_ble_eq_true rfl, Nat.le_of_ble_eq_true rfl, Nat.le_of_ble_eq_true rfl⟩ (tk_retn ?_) tk_nothr
          refine g_iinc C (i := 3) (nI (i + 1)) dX2_moveAll_31 rfl (nI_1 i) (by decide) ?_
          refine g_goto C 2 dX2_moveAll_34 (by decide) ?_
          rw [sMv, if_neg h16'] at ih1
          exact ih1
  have k0 := key np 0 (by omega)
  rw [h0] at k0
  exact k0
theorem sPrep_eq (I : tkI) (t : Int32) (i : Nat) (L : tkL) : sPrep I t i L = if sAct I i = 0 then L else sEnter t i I L := rfl
theorem c_X2_repeat (hP : tkReg 28 pT pF σ p) {np : Nat} (hW : wPu I0 np) (t : Int32) :
    tkCon false (.code yX2_repeat cX2_repeat 4 none) yX2_repeat 2 [.ref (p + 12), .ref (p + 7), .int t] σ (reg p 28 I0 v) (reg p 28 L0 w) 0 0 (.inl none) σ (reg p 28 I0 v) (reg p 28 (itr (sPrep I0 t) np L0) w) := by
  have h16 : np ≤ 16 := hW.2.1
  refine tkCon.of (by decide) (Nat.le_of_ble_eq_true rfl) (fun X C => ?_)
  refine g_iconst C (0) dX2_repeat_0 rfl ?_
  refine g_istore_n C (i := 3) dX2_repeat_1 rfl (by decide) ?_
  have key : ∀ k i, k + i = np → tkG X (tkQ false X 0 0 (.inl none) σ (reg p 28 I0 v) (reg p 28 (itr (sPrep I0 t) np L0) w)) 0 0 2 [some (.ref (p + 12)), some (.ref (p + 7)), some (.int t), some (.int (nI i))] [] σ (reg p 28 I0 v) (reg p 28 (itr (sPrep I0 t) i L0) w) := by
    intro k
    induction k with
    | zero =>
      intro i hi
      have e : i = np := by omega
      subst e
      refine g_iload_n C (i := 3) dX2_repeat_2 rfl rfl ?_
      refine g_aload_n C (i := 0) dX2_repeat_3 rfl rfl ?_
      refine g_getI C 2 0 (RX2, TX2, 13) dX2_repeat_4 (hP.1 12 (by decide)) (reg_at (k := 12) (by decide)) ml_X2_50 rfl (by decide) (Or.inl rfl) ?_
      rw [hW.1]
      refine g_icmp_ge C 31 dX2_repeat_7 (by decide) (fun h7 => ?_) (fun h7 => ?_)
      · exact g_return C dX2_repeat_31 ⟨Nat.le_of_ble_eq_true rfl, Nat.le_of_ble_eq_true rfl⟩ (tkEnd.rf rfl rfl rfl)
      · exact absurd (Int32.le_refl _) h7
    | succ k ih =>
      intro i hi
      have hlt : i < np := by omega
      have ih1 := ih (i + 1) (by omega)
      rw [show itr (sPrep I0 t) (i + 1) L0 = sPrep I0 t i (itr (sPrep I0 t) i L0) from rfl, sPrep_eq] at ih1
      refine g_iload_n C (i := 3) dX2_repeat_2 rfl rfl ?_
      refine g_aload_n C (i := 0) dX2_repeat_3 rfl rfl ?_
      refine g_getI C 2 0 (RX2, TX2, 13) dX2_repeat_4 (hP.1 12 (by decide)) (reg_at (k := 12) (by decide)) ml_X2_50 rfl (by decide) (Or.inl rfl) ?_
      rw [hW.1]
      refine g_icmp_ge C 31 dX2_repeat_7 (by decide) (fun h7 => ?_) (fun h7 => ?_)
      · exact absurd h7 (nI_ge hlt (by omega))
      · refine g_aload_n C (i := 0) dX2_repeat_10 rfl rfl ?_
        refine g_iload_n C (i := 3) dX2_repeat_11 rfl rfl ?_
        refine g_aload_n C (i := 1) dX2_repeat_12 rfl rfl ?_
        refine g_callV C (q := (RX2, TX2, 13)) (rest := _) dX2_repeat_13 mm_X2_isActive ml_X2_65 mv_yX2_isActive ms_yX2_isActive (c_X2_isActive hP hW hlt) rfl (hP.1 12 (by decide)) rfl rfl ⟨by decide, Nat.le_of_ble_eq_true rfl, Nat.le_of_ble_eq_true rfl, Nat.le_of_ble_eq_true rfl⟩ (tk_retv ?_) tk_nothr
        refine g_if_eq C 25 dX2_repeat_16 (by decide) (fun h16' => ?_) (fun h16' => ?_)
        · refine g_iinc C (i := 3) (nI (i + 1)) dX2_repeat_25 rfl (nI_1 i) (by decide) ?_
          refine g_goto C 2 dX2_repeat_28 (by decide) ?_
          rw [if_pos h16'] at ih1
          exact ih1
        · refine g_aload_n C (i := 0) dX2_repeat_19 rfl rfl ?_
          refine g_iload_n C (i := 3) dX2_repeat_20 rfl rfl ?_
          refine g_iload_n C (i := 2) dX2_repeat_21 rfl rfl ?_
          refine g_callV C (q := (RX2, TX2, 13)) (rest := _) dX2_repeat_22 mm_X2_enter ml_X2_73 mv_yX2_enter ms_yX2_enter (c_X2_enter hP (by omega) t) rfl (hP.1 12 (by decide)) rfl rfl ⟨by decide, Nat.le_of_ble_eq_true rfl, Nat.le_of_ble_eq_true rfl, Nat.le_of_ble_eq_true rfl⟩ (tk_retn ?_) tk_nothr
          refine g_iinc C (i := 3) (nI (i + 1)) dX2_repeat_25 rfl (nI_1 i) (by decide) ?_
          refine g_goto C 2 dX2_repeat_28 (by decide) ?_
          rw [if_neg h16'] at ih1
          exact ih1
  exact key np 0 (by omega)
theorem c_X2_steadyTicksOf (hP : tkReg 28 pT pF σ p) {np j : Nat} (hW : wPu I0 np) (hj : j < np) (lim : Int32) :
    tkCon false (.code yX2_steadyTicksOf cX2_steadyTicksOf 7 (some .int)) yX2_steadyTicksOf 3 [.ref (p + 12), .int (nI j), .ref (p + 1), .int lim] σ (reg p 28 I0 v) (reg p 28 L0 w) 0 0 (.inl (some (.int (sOf I0 j lim)))) σ (reg p 28 I0 v) (reg p 28 L0 w) := by
  obtain ⟨hw1, hw2, hw3⟩ := hW
  obtain ⟨hf, ht, -⟩ := hw3 j hj
  refine tkCon.of (by decide) (Nat.le_of_ble_eq_true rfl) (fun X C => ?_)
  have J156 : ∀ lv6, tkG X (tkQ false X 0 0 (.inl (some (.int (sOf I0 j lim)))) σ (reg p 28 I0 v) (reg p 28 L0 w)) 0 0 156 [some (.ref (p + 12)), some (.int (nI j)), some (.ref (p + 1)), some (.int lim), some (.int (sOf2 I0 j (sOf1 I0 j lim)).1), some (.int (sOf2 I0 j (sOf1 I0 j lim)).2), lv6] [] σ (reg p 28 I0 v) (reg p 28 L0 w) := by
    intro lv6
    refine g_iload C (i := 5) dX2_steadyTicksOf_156 rfl ?_
    refine g_if_eq C 166 dX2_steadyTicksOf_158 (by decide) (fun h158 => ?_) (fun h158 => ?_)
    · refine g_iconst C (0) dX2_steadyTicksOf_166 rfl ?_
      exact g_ireturn C dX2_steadyTicksOf_167 ⟨Nat.le_of_ble_eq_true rfl, Nat.le_of_ble_eq_true rfl⟩ (tkEnd.rf (by simp only [sOf, h158, if_true]) rfl rfl)
    · refine g_iload C (i := 4) dX2_steadyTicksOf_161 rfl ?_
      refine g_goto C 167 dX2_steadyTicksOf_163 (by decide) ?_
      exact g_ireturn C dX2_steadyTicksOf_167 ⟨Nat.le_of_ble_eq_true rfl, Nat.le_of_ble_eq_true rfl⟩ (tkEnd.rf (by simp only [sOf, h158, if_false]) rfl rfl)
  have J90 : ∀ lv6, tkG X (tkQ false X 0 0 (.inl (some (.int (sOf I0 j lim)))) σ (reg p 28 I0 v) (reg p 28 L0 w)) 0 0 90 [some (.ref (p + 12)), some (.int (nI j)), some (.ref (p + 1)), some (.int lim), some (.int (sOf1 I0 j lim).1), some (.int (sOf1 I0 j lim).2), lv6] [] σ (reg p 28 I0 v) (reg p 28 L0 w) := by
    intro lv6
    generalize sOf1 I0 j lim = q at J156 ⊢
    obtain ⟨st, hd⟩ := q
    dsimp only at *
    refine g_aload_n C (i := 0) dX2_steadyTicksOf_90 rfl rfl ?_
    refine g_getR C 2 2 (RX2, TX2, 13) dX2_steadyTicksOf_91 (hP.1 12 (by decide)) (hP.2 12 2 14 (by decide) rfl) ml_X2_15 rfl (by decide) rfl ?_
    refine g_iload_n C (i := 1) dX2_steadyTicksOf_94 rfl rfl ?_
    refine g_ia C dX2_steadyTicksOf_95 (hP.1 14 (by decide)) (reg_at (k := 14) (by decide)) rfl (by omega) (by decide) ?_
    refine g_iconst C (-1) dX2_steadyTicksOf_96 rfl ?_
    refine g_icmp_eq C 156 dX2_steadyTicksOf_97 (by decide) (fun h97 => ?_) (fun h97 => ?_)
    · rw [show sOf2 I0 j (st, hd) = (st, hd) by simp only [sOf2, h97, if_true]] at J156
      skip
      exact J156 _
    · obtain ⟨t, ht, et⟩ := ht.resolve_left h97
      have etc : (I0 14 j).toNatClampNeg = t := by rw [et]; exact nI_clamp (by omega)
      have e2 : sOf2 I0 j (st, hd) = (jtw (I0 24 j).toInt64 (-(I0 3 t - I0 6 t)).toInt64 st, sHeld hd (I0 24 j) (I0 3 t - I0 6 t)) := by simp only [sOf2, h97, if_false, etc]
      rw [e2] at J156
      refine g_aload_n C (i := 2) dX2_steadyTicksOf_100 rfl rfl ?_
      refine g_aload_n C (i := 0) dX2_steadyTicksOf_101 rfl rfl ?_
      refine g_getR C 2 2 (RX2, TX2, 13) dX2_steadyTicksOf_102 (hP.1 12 (by decide)) (hP.2 12 2 14 (by decide) rfl) ml_X2_15 rfl (by decide) rfl ?_
      refine g_iload_n C (i := 1) dX2_steadyTicksOf_105 rfl rfl ?_
      refine g_ia C dX2_steadyTicksOf_106 (hP.1 14 (by decide)) (reg_at (k := 14) (by decide)) rfl (by omega) (by decide) ?_
      rw [et]
      refine g_callV C (q := (RX4, TX4, 6)) (rest := _) dX2_steadyTicksOf_107 mm_X4_drift ml_X2_95 mv_yX4_drift ms_yX4_drift (c_X4_drift (j := t) hP ht) rfl (hP.1 1 (by decide)) rfl rfl ⟨by decide, Nat.le_of_ble_eq_true rfl, Nat.le_of_ble_eq_true rfl, Nat.le_of_ble_eq_true rfl⟩ (tk_retv ?_) tk_nothr
      refine g_istore C (i := 6) dX2_steadyTicksOf_110 (by decide) ?_
      refine g_aload_n C (i := 0) dX2_steadyTicksOf_112 rfl rfl ?_
      refine g_getR C 2 12 (RX2, TX2, 13) dX2_steadyTicksOf_113 (hP.1 12 (by decide)) (hP.2 12 12 24 (by decide) rfl) ml_X2_47 rfl (by decide) rfl ?_
      refine g_iload_n C (i := 1) dX2_steadyTicksOf_116 rfl rfl ?_
      refine g_ia C dX2_steadyTicksOf_117 (hP.1 24 (by decide)) (reg_at (k := 24) (by decide)) rfl (by omega) (by decide) ?_
      refine g_i2l C dX2_steadyTicksOf_118 ?_
      refine g_iload C (i := 6) dX2_steadyTicksOf_119 rfl ?_
      refine g_ineg C dX2_steadyTicksOf_121 ?_
      refine g_i2l C dX2_steadyTicksOf_122 ?_
      refine g_iload C (i := 4) dX2_steadyTicksOf_123 rfl ?_
      refine g_callSN C dX2_steadyTicksOf_125 mm_X5_ticksWhile ml_X2_99 mt_yX5_ticksWhile (c_X5_ticksWhile _ _ _) rfl ⟨by decide, Nat.le_of_ble_eq_true rfl, Nat.le_of_ble_eq_true rfl, Nat.le_of_ble_eq_true rfl⟩ (tk_retv ?_) tk_nothr
      refine g_istore C (i := 4) dX2_steadyTicksOf_128 (by decide) ?_
      refine g_iload C (i := 5) dX2_steadyTicksOf_130 rfl ?_
      refine g_if_ne C 149 dX2_steadyTicksOf_132 (by decide) (fun h132 => ?_) (fun h132 => ?_)
      · rw [show sHeld hd (I0 24 j) (I0 3 t - I0 6 t) = 1 by simp only [sHeld, h132, if_false]] at J156
        refine g_iconst C (1) dX2_steadyTicksOf_149 rfl ?_
        refine g_goto C 154 dX2_steadyTicksOf_150 (by decide) ?_
        refine g_istore C (i := 5) dX2_steadyTicksOf_154 (by decide) ?_
        exact J156 _
      · refine g_aload_n C (i := 0) dX2_steadyTicksOf_135 rfl rfl ?_
        refine g_getR C 2 12 (RX2, TX2, 13) dX2_steadyTicksOf_136 (hP.1 12 (by decide)) (hP.2 12 12 24 (by decide) rfl) ml_X2_47 rfl (by decide) rfl ?_
        refine g_iload_n C (i := 1) dX2_steadyTicksOf_139 rfl rfl ?_
        refine g_ia C dX2_steadyTicksOf_140 (hP.1 24 (by decide)) (reg_at (k := 24) (by decide)) rfl (by omega) (by decide) ?_
        refine g_if_ne C 153 dX2_steadyTicksOf_141 (by decide) (fun h141 => ?_) (fun h141 => ?_)
        · rw [show sHeld hd (I0 24 j) (I0 3 t - I0 6 t) = 0 by simp only [sHeld, h132, h141, if_true, if_false]] at J156
          refine g_iconst C (0) dX2_steadyTicksOf_153 rfl ?_
          refine g_istore C (i := 5) dX2_steadyTicksOf_154 (by decide) ?_
          exact J156 _
        · refine g_iload C (i := 6) dX2_steadyTicksOf_144 rfl ?_
          refine g_if_ne C 153 dX2_steadyTicksOf_146 (by decide) (fun h146 => ?_) (fun h146 => ?_)
          · rw [show sHeld hd (I0 24 j) (I0 3 t - I0 6 t) = 0 by simp only [sHeld, h132, h141, h146, if_true, if_false]] at J156
            refine g_iconst C (0) dX2_steadyTicksOf_153 rfl ?_
            refine g_istore C (i := 5) dX2_steadyTicksOf_154 (by decide) ?_
            exact J156 _
          · rw [show sHeld hd (I0 24 j) (I0 3 t - I0 6 t) = 1 by simp only [sHeld, h132, h141, h146, if_true]] at J156
            refine g_iconst C (1) dX2_steadyTicksOf_149 rfl ?_
            refine g_goto C 154 dX2_steadyTicksOf_150 (by decide) ?_
            refine g_istore C (i := 5) dX2_steadyTicksOf_154 (by decide) ?_
            exact J156 _
  have J23 : ∀ lv5 lv6, tkG X (tkQ false X 0 0 (.inl (some (.int (sOf I0 j lim)))) σ (reg p 28 I0 v) (reg p 28 L0 w)) 0 0 23 [some (.ref (p + 12)), some (.int (nI j)), some (.ref (p + 1)), some (.int lim), some (.int lim), lv5, lv6] [.int (if I0 22 j = I0 15 j then 1 else 0)] σ (reg p 28 I0 v) (reg p 28 L0 w) := by
    intro lv5 lv6
    obtain ⟨hd, ehd⟩ : ∃ hd : Int32, hd = if I0 22 j = I0 15 j then 1 else 0 := ⟨_, rfl⟩
    rw [← ehd]
    refine g_istore C (i := 5) dX2_steadyTicksOf_23 (by decide) ?_
    refine g_aload_n C (i := 0) dX2_steadyTicksOf_25 rfl rfl ?_
    refine g_getR C 2 1 (RX2, TX2, 13) dX2_steadyTicksOf_26 (hP.1 12 (by decide)) (hP.2 12 1 13 (by decide) rfl) ml_X2_9 rfl (by decide) rfl ?_
    refine g_iload_n C (i := 1) dX2_steadyTicksOf_29 rfl rfl ?_
    refine g_ia C dX2_steadyTicksOf_30 (hP.1 13 (by decide)) (reg_at (k := 13) (by decide)) rfl (by omega) (by decide) ?_
    refine g_iconst C (-1) dX2_steadyTicksOf_31 rfl ?_
    refine g_icmp_eq C 90 dX2_steadyTicksOf_32 (by decide) (fun h32 => ?_) (fun h32 => ?_)
    · rw [show sOf1 I0 j lim = (lim, hd) by simp only [sOf1, h32, if_true, ← ehd]] at J90
      skip
      exact J90 _
    · obtain ⟨s, hs, es⟩ := hf.resolve_left h32
      have esc : (I0 13 j).toNatClampNeg = s := by rw [es]; exact nI_clamp (by omega)
      have e2 : sOf1 I0 j lim = (jtw (I0 23 j).toInt64 (I0 3 s - I0 6 s).toInt64 lim, sHeld hd (I0 23 j) (I0 3 s - I0 6 s)) := by simp only [sOf1, h32, if_false, esc, ← ehd]
      rw [e2] at J90
      refine g_aload_n C (i := 2) dX2_steadyTicksOf_35 rfl rfl ?_
      refine g_aload_n C (i := 0) dX2_steadyTicksOf_36 rfl rfl ?_
      refine g_getR C 2 1 (RX2, TX2, 13) dX2_steadyTicksOf_37 (hP.1 12 (by decide)) (hP.2 12 1 13 (by decide) rfl) ml_X2_9 rfl (by decide) rfl ?_
      refine g_iload_n C (i := 1) dX2_steadyTicksOf_40 rfl rfl ?_
      refine g_ia C dX2_steadyTicksOf_41 (hP.1 13 (by decide)) (reg_at (k := 13) (by decide)) rfl (by omega) (by decide) ?_
      rw [es]
      refine g_callV C (q := (RX4, TX4, 6)) (rest := _) dX2_steadyTicksOf_42 mm_X4_drift ml_X2_95 mv_yX4_drift ms_yX4_drift (c_X4_drift (j := s) hP hs) rfl (hP.1 1 (by decide)) rfl rfl ⟨by decide, Nat.le_of_ble_eq_true rfl, Nat.le_of_ble_eq_true rfl, Nat.le_of_ble_eq_true rfl⟩ (tk_retv ?_) tk_nothr
      refine g_istore C (i := 6) dX2_steadyTicksOf_45 (by decide) ?_
      refine g_aload_n C (i := 0) dX2_steadyTicksOf_47 rfl rfl ?_
      refine g_getR C 2 11 (RX2, TX2, 13) dX2_steadyTicksOf_48 (hP.1 12 (by decide)) (hP.2 12 11 23 (by decide) rfl) ml_X2_44 rfl (by decide) rfl ?_
      refine g_iload_n C (i := 1) dX2_steadyTicksOf_51 rfl rfl ?_
      refine g_ia C dX2_steadyTicksOf_52 (hP.1 23 (by decide)) (reg_at (k := 23) (by decide)) rfl (by omega) (by decide) ?_
      refine g_i2l C dX2_steadyTicksOf_53 ?_
      refine g_iload C (i := 6) dX2_steadyTicksOf_54 rfl ?_
      refine g_i2l C dX2_steadyTicksOf_56 ?_
      refine g_iload C (i := 4) dX2_steadyTicksOf_57 rfl ?_
      refine g_callSN C dX2_steadyTicksOf_59 mm_X5_ticksWhile ml_X2_99 mt_yX5_ticksWhile (c_X5_ticksWhile _ _ _) rfl ⟨by decide, Nat.le_of_ble_eq_true rfl, Nat.le_of_ble_eq_true rfl, Nat.le_of_ble_eq_true rfl⟩ (tk_retv ?_) tk_nothr
      refine g_istore C (i := 4) dX2_steadyTicksOf_62 (by decide) ?_
      refine g_iload C (i := 5) dX2_steadyTicksOf_64 rfl ?_
      refine g_if_ne C 83 dX2_steadyTicksOf_66 (by decide) (fun h66 => ?_) (fun h66 => ?_)
      · rw [show sHeld hd (I0 23 j) (I0 3 s - I0 6 s) = 1 by simp only [sHeld, h66, if_false]] at J90
        refine g_iconst C (1) dX2_steadyTicksOf_83 rfl ?_
        refine g_goto C 88 dX2_steadyTicksOf_84 (by decide) ?_
        refine g_istore C (i := 5) dX2_steadyTicksOf_88 (by decide) ?_
        exact J90 _
      · refine g_aload_n C (i := 0) dX2_steadyTicksOf_69 rfl rfl ?_
        refine g_getR C 2 11 (RX2, TX2, 13) dX2_steadyTicksOf_70 (hP.1 12 (by decide)) (hP.2 12 11 23 (by decide) rfl) ml_X2_44 rfl (by decide) rfl ?_
        refine g_iload_n C (i := 1) dX2_steadyTicksOf_73 rfl rfl ?_
        refine g_ia C dX2_steadyTicksOf_74 (hP.1 23 (by decide)) (reg_at (k := 23) (by decide)) rfl (by omega) (by decide) ?_
        refine g_if_ne C 87 dX2_steadyTicksOf_75 (by decide) (fun h75 => ?_) (fun h75 => ?_)
        · rw [show sHeld hd (I0 23 j) (I0 3 s - I0 6 s) = 0 by simp only [sHeld, h66, h75, if_true, if_false]] at J90
          refine g_iconst C (0) dX2_steadyTicksOf_87 rfl ?_
          refine g_istore C (i := 5) dX2_steadyTicksOf_88 (by decide) ?_
          exact J90 _
        · refine g_iload C (i := 6) dX2_steadyTicksOf_78 rfl ?_
          refine g_if_ne C 87 dX2_steadyTicksOf_80 (by decide) (fun h80 => ?_) (fun h80 => ?_)
          · rw [show sHeld hd (I0 23 j) (I0 3 s - I0 6 s) = 0 by simp only [sHeld, h66, h75, h80, if_true, if_false]] at J90
            refine g_iconst C (0) dX2_steadyTicksOf_87 rfl ?_
            refine g_istore C (i := 5) dX2_steadyTicksOf_88 (by decide) ?_
            exact J90 _
          · rw [show sHeld hd (I0 23 j) (I0 3 s - I0 6 s) = 1 by simp only [sHeld, h66, h75, h80, if_true]] at J90
            refine g_iconst C (1) dX2_steadyTicksOf_83 rfl ?_
            refine g_goto C 88 dX2_steadyTicksOf_84 (by decide) ?_
            refine g_istore C (i := 5) dX2_steadyTicksOf_88 (by decide) ?_
            exact J90 _
  refine g_iload_n C (i := 3) dX2_steadyTicksOf_0 rfl rfl ?_
  refine g_istore C (i := 4) dX2_steadyTicksOf_1 (by decide) ?_
  refine g_aload_n C (i := 0) dX2_steadyTicksOf_3 rfl rfl ?_
  refine g_getR C 2 10 (RX2, TX2, 13) dX2_steadyTicksOf_4 (hP.1 12 (by decide)) (hP.2 12 10 22 (by decide) rfl) ml_X2_41 rfl (by decide) rfl ?_
  refine g_iload_n C (i := 1) dX2_steadyTicksOf_7 rfl rfl ?_
  refine g_ia C dX2_steadyTicksOf_8 (hP.1 22 (by decide)) (reg_at (k := 22) (by decide)) rfl (by omega) (by decide) ?_
  refine g_aload_n C (i := 0) dX2_steadyTicksOf_9 rfl rfl ?_
  refine g_getR C 2 3 (RX2, TX2, 13) dX2_steadyTicksOf_10 (hP.1 12 (by decide)) (hP.2 12 3 15 (by decide) rfl) ml_X2_18 rfl (by decide) rfl ?_
  refine g_iload_n C (i := 1) dX2_steadyTicksOf_13 rfl rfl ?_
  refine g_ia C dX2_steadyTicksOf_14 (hP.1 15 (by decide)) (reg_at (k := 15) (by decide)) rfl (by omega) (by decide) ?_
  refine g_icmp_ne C 22 dX2_steadyTicksOf_15 (by decide) (fun h15 => ?_) (fun h15 => ?_)
  · rw [if_neg h15] at J23
    refine g_iconst C (0) dX2_steadyTicksOf_22 rfl ?_
    exact J23 _ _
  · rw [if_pos h15] at J23
    refine g_iconst C (1) dX2_steadyTicksOf_18 rfl ?_
    refine g_goto C 23 dX2_steadyTicksOf_19 (by decide) ?_
    exact J23 _ _
theorem c_X2_steadyTicks (hP : tkReg 28 pT pF σ p) {np : Nat} (hW : wPu I0 np) (lim : Int32) :
    tkCon false (.code yX2_steadyTicks cX2_steadyTicks 6 (some .int)) yX2_steadyTicks 4 [.ref (p + 12), .ref (p + 1), .ref (p + 7), .int lim] σ (reg p 28 I0 v) (reg p 28 L0 w) 0 0 (.inl (some (.int (itr (sPst I0) np lim)))) σ (reg p 28 I0 v) (reg p 28 L0 w) := by
  have h16 : np ≤ 16 := hW.2.1
  refine tkCon.of (by decide) (Nat.le_of_ble_eq_true rfl) (fun X C => ?_)
  refine g_iload_n C (i := 3) dX2_steadyTicks_0 rfl rfl ?_
  refine g_istore C (i := 4) dX2_steadyTicks_1 (by decide) ?_
  refine g_iconst C (0) dX2_steadyTicks_3 rfl ?_
  refine g_istore C (i := 5) dX2_steadyTicks_4 (by decide) ?_
  have key : ∀ k i, k + i = np → tkG X (tkQ false X 0 0 (.inl (some (.int (itr (sPst I0) np lim)))) σ (reg p 28 I0 v) (reg p 28 L0 w)) 0 0 6 [some (.ref (p + 12)), some (.ref (p + 1)), some (.ref (p + 7)), some (.int lim), some (.int (itr (sPst I0) i lim)), some (.int (nI i))] [] σ (reg p 28 I0 v) (reg p 28 L0 w) := by
    intro k
    induction k with
    | zero =>
      intro i hi
      have e : i = np := by omega
      subst e
      refine g_iload C (i := 5) dX2_steadyTicks_6 rfl ?_
      refine g_aload_n C (i := 0) dX2_steadyTicks_8 rfl rfl ?_
      refine g_getI C 2 0 (RX2, TX2, 13) dX2_steadyTicks_9 (hP.1 12 (by decide)) (reg_at (k := 12) (by decide)) ml_X2_50 rfl (by decide) (Or.inl rfl) ?_
      rw [hW.1]
      refine g_icmp_ge C 47 dX2_steadyTicks_12 (by decide) (fun h12 => ?_) (fun h12 => ?_)
      · refine g_iload C (i := 4) dX2_steadyTicks_47 rfl ?_
        exact g_ireturn C dX2_steadyTicks_49 ⟨Nat.le_of_ble_eq_true rfl, Nat.le_of_ble_eq_true rfl⟩ (tkEnd.rf rfl rfl rfl)
      · exact absurd (Int32.le_refl _) h12
    | succ k ih =>
      intro i hi
      have hlt : i < np := by omega
      have ih1 := ih (i + 1) (by omega)
      rw [show itr (sPst I0) (i + 1) lim = sPst I0 i (itr (sPst I0) i lim) from rfl] at ih1
      refine g_iload C (i := 5) dX2_steadyTicks_6 rfl ?_
      refine g_aload_n C (i := 0) dX2_steadyTicks_8 rfl rfl ?_
      refine g_getI C 2 0 (RX2, TX2, 13) dX2_steadyTicks_9 (hP.1 12 (by decide)) (reg_at (k := 12) (by decide)) ml_X2_50 rfl (by decide) (Or.inl rfl) ?_
      rw [hW.1]
      refine g_icmp_ge C 47 dX2_steadyTicks_12 (by decide) (fun h12 => ?_) (fun h12 => ?_)
      · exact absurd h12 (nI_ge hlt (by omega))
      · refine g_iload C (i := 4) dX2_steadyTicks_15 rfl ?_
        refine g_if_le C 47 dX2_steadyTicks_17 (by decide) (fun h17 => ?_) (fun h17 => ?_)
        · have e := itr_stop (f := sPst I0) (P := fun s => s ≤ 0) (fun i a h => by simp [sPst, Int32.not_lt.mpr h]) h17 (k + 1)
          rw [show i + (k + 1) = np by omega] at e
          rw [e]
          refine g_iload C (i := 4) dX2_steadyTicks_47 rfl ?_
          exact g_ireturn C dX2_steadyTicks_49 ⟨Nat.le_of_ble_eq_true rfl, Nat.le_of_ble_eq_true rfl⟩ (tkEnd.rf rfl rfl rfl)
        · have h17' := Int32.not_le.mp h17
          refine g_aload_n C (i := 0) dX2_steadyTicks_20 rfl rfl ?_
          refine g_iload C (i := 5) dX2_steadyTicks_21 rfl ?_
          refine g_aload_n C (i := 2) dX2_steadyTicks_23 rfl rfl ?_
          refine g_callV C (q := (RX2, TX2, 13)) (rest := _) dX2_steadyTicks_24 mm_X2_isActive ml_X2_65 mv_yX2_isActive ms_yX2_isActive (c_X2_isActive hP hW hlt) rfl (hP.1 12 (by decide)) rfl rfl ⟨by decide, Nat.le_of_ble_eq_true rfl, Nat.le_of_ble_eq_true rfl, Nat.le_of_ble_eq_true rfl⟩ (tk_retv ?_) tk_nothr
          refine g_if_eq C 41 dX2_steadyTicks_27 (by decide) (fun h27 => ?_) (fun h27 => ?_)
          · rw [show sPst I0 i (itr (sPst I0) i lim) = itr (sPst I0) i lim by simp only [sPst, if_pos h17', if_pos h27]] at ih1
            refine g_iinc C (i := 5) (nI (i + 1)) dX2_steadyTicks_41 rfl (nI_1 i) (by decide) ?_
            refine g_goto C 6 dX2_steadyTicks_44 (by decide) ?_
            exact ih1
          · rw [show sPst I0 i (itr (sPst I0) i lim) = sOf I0 i (itr (sPst I0) i lim) by simp only [sPst, if_pos h17', if_neg h27]] at ih1
            refine g_aload_n C (i := 0) dX2_steadyTicks_30 rfl rfl ?_
            refine g_iload C (i := 5) dX2_steadyTicks_31 rfl ?_
            refine g_aload_n C (i := 1) dX2_steadyTicks_33 rfl rfl ?_
            refine g_iload C (i := 4) dX2_steadyTicks_34 rfl ?_
            refine g_callV C (q := (RX2, TX2, 13)) (rest := _) dX2_steadyTicks_36 mm_X2_steadyTicksOf ml_X2_91 mv_yX2_steadyTicksOf ms_yX2_steadyTicksOf (c_X2_steadyTicksOf hP hW hlt _) rfl (hP.1 12 (by decide)) rfl rfl ⟨by decide, Nat.le_of_ble_eq_true rfl, Nat.le_of_ble_eq_true rfl, Nat.le_of_ble_eq_true rfl⟩ (tk_retv ?_) tk_nothr
            refine g_istore C (i := 4) dX2_steadyTicks_39 (by decide) ?_
            refine g_iinc C (i := 5) (nI (i + 1)) dX2_steadyTicks_41 rfl (nI_1 i) (by decide) ?_
            refine g_goto C 6 dX2_steadyTicks_44 (by decide) ?_
            exact ih1
  exact key np 0 (by omega)
end TKPUMPS
end
section
section TKPLANT
variable {σ : tkM} {p : Nat} {I0 v : tkI} {L0 w : tkL}
/-! the plant's steps -/
def sTick (nt ns np : Nat) (q : tkI × tkL) : (tkI × tkL) × Int32 :=
  let f := itr (sFol (q.2 0 4)) ns ((sBef q.1, q.2), 0)
  let r := itr sLeak nt (itr sMv np f.1)
  ((r.1, tk2 r.2 0 4 (r.2 0 4 + 1)), f.2)
def sSteady (nt ns np : Nat) (I : tkI) (lim : Int32) : Int32 := itr (sTst I) nt (itr (sPst I) np (itr (sSst I) ns lim))
def sLast (nt ns np : Nat) (lim : Int32) (q : tkI × tkL) : (tkI × tkL) × Int32 :=
  let st := sSteady nt ns np q.1 lim
  if 0 < st then
    let r := itr (sRep st) nt (q.1, itr (sPrep q.1 st) np q.2)
    ((r.1, tk2 r.2 0 4 (r.2 0 4 + st.toInt64)), st)
  else (q, 0)
def sAdv (nt ns np : Nat) (ticks : Int32) : Nat → Int32 → (tkI × tkL) × Int32 → (tkI × tkL) × Int32
  | 0, _, q => q
  | k + 1, done, q => if done < ticks then
      let t := sTick nt ns np q.1
      let r := sLast nt ns np (ticks - done - 1) t.1
      sAdv nt ns np ticks k (done + r.2 + 1) (r.1, q.2 + t.2)
    else q
def sShort (j : Nat) (mark b : Int32) (I : tkI) (lim : Int32) : Int32 := if b = 0 then jtw (mark.toInt64 - (I 3 j).toInt64 - 1) (-(I 3 j - I 6 j)).toInt64 lim else jtw ((I 3 j).toInt64 - mark.toInt64 - 1) (I 3 j - I 6 j).toInt64 lim
def sUnt (nt ns np j : Nat) (mark b most : Int32) : Nat → Int32 → tkI × tkL → (tkI × tkL) × Int32
  | 0, _, q => (q, -1)
  | k + 1, done, q => if most < done then (q, -1) else
      let t := (sTick nt ns np q).1
      if jreach (t.1 3 j) mark b = 0 then
        let r := sLast nt ns np (sShort j mark b t.1 (most - done)) t
        sUnt nt ns np j mark b most k (done + r.2 + 1) r.1
      else (t, done)
def sNext (nt ns np : Nat) (most : Int32) : Nat → Int32 → tkI × tkL → (tkI × tkL) × Int32
  | 0, _, q => (q, -1)
  | k + 1, done, q => if most < done then (q, -1) else
      let t := sTick nt ns np q
      if t.2 ≤ 0 then
        let r := sLast nt ns np (most - done) t.1
        sNext nt ns np most k (done + r.2 + 1) r.1
      else (t.1, done)
/-! what stays in order -/
def wAll (nt ns np b : Nat) (q : tkI × tkL) : Prop := wTk q.1 nt ∧ wSw q.1 ns ∧ wPu q.1 np ∧ ∃ c, c ≤ b ∧ q.2 25 0 = lN c
theorem wAll.mono {nt ns np b b' : Nat} {q : tkI × tkL} (h : wAll nt ns np b q) (hb : b ≤ b') : wAll nt ns np b' q := by
  obtain ⟨h1, h2, h3, c, h4, h5⟩ := h
  exact ⟨h1, h2, h3, c, by omega, h5⟩
theorem wTk.keep {I I1 : tkI} {nt : Nat} (h : wTk I nt) (h1 : I1 1 = I 1) : wTk I1 nt := ⟨by rw [h1]; exact h.1, h.2⟩
theorem wSw.keep {I I1 : tkI} {ns : Nat} (h : wSw I ns) (h7 : I1 7 = I 7) (h8 : I1 8 = I 8) : wSw I1 ns := ⟨by rw [h7]; exact h.1, h.2.1, fun i hi => by rw [h8]; exact h.2.2 i hi⟩
/-- which rows of ints a switch's step leaves -/
theorem sFol_keep (now : Int64) (i : Nat) (q : (tkI × tkL) × Int32) {k : Nat} (h1 : k ≠ 11) (h2 : k ≠ 27) : (sFol now i q).1.1 k = q.1.1 k := by
  unfold sFol
  split
  · rfl
  · funext j
    simp [sNote, tk2, h1, h2]
theorem sLeak_keep (i : Nat) (q : tkI × tkL) {k : Nat} (h1 : k ≠ 3) : (sLeak i q).1 k = q.1 k := by
  funext j
  simp [sLeak, tk2, h1]
theorem itr_keep {α β : Type} {f : Nat → α → α} {g : α → β} (h : ∀ i a, g (f i a) = g a) : ∀ (n : Nat) (a : α), g (itr f n a) = g a
  | 0, _ => rfl
  | n + 1, a => (h n _).trans (itr_keep h n a)
theorem sBef_keep (I : tkI) {k : Nat} (h : k ≠ 6) : sBef I k = I k := by simp [sBef, tk1, h]
theorem sTick_keep (nt ns np : Nat) (q : tkI × tkL) {k : Nat} (h3 : k ≠ 3) (h6 : k ≠ 6) (h11 : k ≠ 11) (h22 : k ≠ 22) (h23 : k ≠ 23) (h24 : k ≠ 24) (h27 : k ≠ 27) : (sTick nt ns np q).1.1 k = q.1 k := by
  show (itr sLeak nt _).1 k = q.1 k
  rw [itr_keep (g := fun a : tkI × tkL => a.1 k) (fun i a => sLeak_keep i a h3), itr_keep (g := fun a : tkI × tkL => a.1 k) (fun i a => by
    show (sMv i a).1 k = a.1 k
    unfold sMv
    split
    · rfl
    · exact sMove_keep i a.1 h3 h22 h23 h24), itr_keep (g := fun a : (tkI × tkL) × Int32 => a.1.1 k) (fun i a => sFol_keep _ i a h11 h27)]
  exact sBef_keep q.1 h6
theorem sEnter_25 (t : Int32) (i : Nat) (I : tkI) (L : tkL) {k : Nat} (h19 : k ≠ 19) (h20 : k ≠ 20) (h21 : k ≠ 21) : sEnter t i I L k = L k := by
  funext j
  unfold sEnter
  split <;> simp [tk2, h19, h20, h21]
theorem sMv_L (i : Nat) (q : tkI × tkL) {k : Nat} (h19 : k ≠ 19) (h20 : k ≠ 20) (h21 : k ≠ 21) : (sMv i q).2 k = q.2 k := by
  unfold sMv
  split
  · rfl
  · exact sEnter_25 1 i _ _ h19 h20 h21
theorem sLeak_L (i : Nat) (q : tkI × tkL) {k : Nat} (h5 : k ≠ 5) : (sLeak i q).2 k = q.2 k := by
  funext j
  simp [sLeak, tk2, h5]
theorem tk_time25 (L : tkL) (x : Int64) : tk2 L 0 4 x 25 0 = L 25 0 := by simp [tk2]
theorem wAll.tick {nt ns np b : Nat} {q : tkI × tkL} (h : wAll nt ns np b q) : wAll nt ns np (b + 10) (sTick nt ns np q).1 := by
  obtain ⟨h1, h2, h3, c, h4, h5⟩ := h
  have kk : ∀ k, k ≠ 3 → k ≠ 6 → k ≠ 11 → k ≠ 22 → k ≠ 23 → k ≠ 24 → k ≠ 27 → (sTick nt ns np q).1.1 k = q.1 k := fun k a b c d e f g => sTick_keep nt ns np q a b c d e f g
  refine ⟨h1.keep (kk 1 (by decide) (by decide) (by decide) (by decide) (by decide) (by decide) (by decide)), h2.keep (kk 7 (by decide) (by decide) (by decide) (by decide) (by decide) (by decide) (by decide)) (kk 8 (by decide) (by decide) (by decide) (by decide) (by decide) (by decide) (by decide)),
    h3.keep (kk 12 (by decide) (by decide) (by decide) (by decide) (by decide) (by decide) (by decide)) (kk 13 (by decide) (by decide) (by decide) (by decide) (by decide) (by decide) (by decide)) (kk 14 (by decide) (by decide) (by decide) (by decide) (by decide) (by decide) (by decide)) (kk 17 (by decide) (by decide) (by decide) (by decide) (by decide) (by decide) (by decide)), ?_⟩
  have hw : wSw (sBef q.1) ns := h2.keep (sBef_keep q.1 (by decide)) (sBef_keep q.1 (by decide))
  obtain ⟨-, -, c', g1, g2⟩ := sFol_inv (I0 := sBef q.1) (L0 := q.2) hw h5 (q.2 0 4) (Nat.le_refl ns)
  refine ⟨c', by have := h2.2.1; omega, ?_⟩
  unfold sTick
  dsimp only
  rw [tk_time25]
  rw [show (itr sLeak nt (itr sMv np (itr (sFol (q.2 0 4)) ns ((sBef q.1, q.2), 0)).1)).2 25 = (itr (sFol (q.2 0 4)) ns ((sBef q.1, q.2), 0)).1.2 25 by
    rw [itr_keep (g := fun a : tkI × tkL => a.2 25) (fun i a => sLeak_L i a (by decide)), itr_keep (g := fun a : tkI × tkL => a.2 25) (fun i a => sMv_L i a (by decide) (by decide) (by decide))]]
  exact g2
theorem sRep_keep (t : Int32) (i : Nat) (q : tkI × tkL) {k : Nat} (h : k ≠ 3) : (sRep t i q).1 k = q.1 k := by
  funext j
  simp [sRep, tk2, h]
theorem sRep_L (t : Int32) (i : Nat) (q : tkI × tkL) {k : Nat} (h : k ≠ 5) : (sRep t i q).2 k = q.2 k := by
  funext j
  simp [sRep, tk2, h]
theorem sPrep_L (I : tkI) (t : Int32) (i : Nat) (L : tkL) {k : Nat} (h19 : k ≠ 19) (h20 : k ≠ 20) (h21 : k ≠ 21) : sPrep I t i L k = L k := by
  unfold sPrep
  split
  · rfl
  · exact sEnter_25 t i I L h19 h20 h21
theorem wAll.last {nt ns np b : Nat} {q : tkI × tkL} (h : wAll nt ns np b q) (lim : Int32) : wAll nt ns np b (sLast nt ns np lim q).1 := by
  obtain ⟨h1, h2, h3, c, h4, h5⟩ := h
  unfold sLast
  dsimp only
  split
  · have kk : ∀ (st : Int32) (L : tkL) k, k ≠ 3 → (itr (sRep st) nt (q.1, L)).1 k = q.1 k := fun st L k hk => itr_keep (g := fun a : tkI × tkL => a.1 k) (fun i a => sRep_keep st i a hk) nt (q.1, L)
    refine ⟨h1.keep (kk _ _ 1 (by decide)), h2.keep (kk _ _ 7 (by decide)) (kk _ _ 8 (by decide)), h3.keep (kk _ _ 12 (by decide)) (kk _ _ 13 (by decide)) (kk _ _ 14 (by decide)) (kk _ _ 17 (by decide)), c, h4, ?_⟩
    dsimp only
    rw [tk_time25]
    rw [itr_keep (g := fun a : tkI × tkL => a.2 25) (fun i a => sRep_L _ i a (by decide))]
    show itr (sPrep q.1 _) np q.2 25 0 = lN c
    rw [itr_keep (g := fun a : tkL => a 25) (fun i a => sPrep_L q.1 _ i a (by decide) (by decide) (by decide))]
    exact h5
  · exact ⟨h1, h2, h3, c, h4, h5⟩
theorem c_X1_tick (hP : tkReg 28 pT pF σ p) {nt ns np b : Nat} (hW : wAll nt ns np b (I0, L0)) (hb : b + 10 < 2 ^ 62) :
    tkCon false (.code yX1_tick cX1_tick 2 (some .int)) yX1_tick 4 [.ref p] σ (reg p 28 I0 v) (reg p 28 L0 w) 0 0 (.inl (some (.int (sTick nt ns np (I0, L0)).2))) σ (reg p 28 (sTick nt ns np (I0, L0)).1.1 v) (reg p 28 (sTick nt ns np (I0, L0)).1.2 w) := by
  obtain ⟨h1, h2, h3, c, h4, h5⟩ := hW
  have hw2 : wSw (sBef I0) ns := h2.keep (sBef_keep I0 (by decide)) (sBef_keep I0 (by decide))
  have hw3 : wPu (itr (sFol (L0 0 4)) ns ((sBef I0, L0), 0)).1.1 np := by
    have kk : ∀ k, k ≠ 11 → k ≠ 27 → k ≠ 6 → (itr (sFol (L0 0 4)) ns ((sBef I0, L0), 0)).1.1 k = I0 k := fun k a b e => by
      rw [itr_keep (g := fun a : (tkI × tkL) × Int32 => a.1.1 k) (fun i x => sFol_keep _ i x a b)]
      exact sBef_keep I0 e
    exact h3.keep (kk 12 (by decide) (by decide) (by decide)) (kk 13 (by decide) (by decide) (by decide)) (kk 14 (by decide) (by decide) (by decide)) (kk 17 (by decide) (by decide) (by decide))
  have hw1 : wTk (itr sMv np (itr (sFol (L0 0 4)) ns ((sBef I0, L0), 0)).1).1 nt := by
    refine h1.keep ?_
    rw [itr_keep (g := fun a : tkI × tkL => a.1 1) (fun i a => by
      show (sMv i a).1 1 = a.1 1
      unfold sMv
      split
      · rfl
      · exact sMove_keep (k := 1) i a.1 (by decide) (by decide) (by decide) (by decide)), itr_keep (g := fun a : (tkI × tkL) × Int32 => a.1.1 1) (fun i x => sFol_keep (k := 1) _ i x (by decide) (by decide))]
    exact sBef_keep (k := 1) I0 (by decide)
  unfold sTick
  dsimp only
  refine tkCon.of (by decide) (Nat.le_of_ble_eq_true rfl) (fun X C => ?_)
  refine g_aload_n C (i := 0) dX1_tick_0 rfl rfl ?_
  refine g_getR C 1 0 (RX1, TX1, 5) dX1_tick_1 (hP.1 0 (by decide)) (hP.2 0 0 1 (by decide) rfl) ml_X1_10 rfl (by decide) rfl ?_
  refine g_callV C (q := (RX4, TX4, 6)) (rest := _) dX1_tick_4 mm_X4_noteLevels ml_X1_70 mv_yX4_noteLevels ms_yX4_noteLevels (c_X4_noteLevels hP) rfl (hP.1 1 (by decide)) rfl rfl ⟨by decide, Nat.le_of_ble_eq_true rfl, Nat.le_of_ble_eq_true rfl, Nat.le_of_ble_eq_true rfl⟩ (tk_retn ?_) tk_nothr
  refine g_aload_n C (i := 0) dX1_tick_7 rfl rfl ?_
  refine g_getR C 1 1 (RX1, TX1, 5) dX1_tick_8 (hP.1 0 (by decide)) (hP.2 0 1 7 (by decide) rfl) ml_X1_19 rfl (by decide) rfl ?_
  refine g_aload_n C (i := 0) dX1_tick_11 rfl rfl ?_
  refine g_getR C 1 0 (RX1, TX1, 5) dX1_tick_12 (hP.1 0 (by decide)) (hP.2 0 0 1 (by decide) rfl) ml_X1_10 rfl (by decide) rfl ?_
  refine g_aload_n C (i := 0) dX1_tick_15 rfl rfl ?_
  refine g_getR C 1 3 (RX1, TX1, 5) dX1_tick_16 (hP.1 0 (by decide)) (hP.2 0 3 25 (by decide) rfl) ml_X1_33 rfl (by decide) rfl ?_
  refine g_aload_n C (i := 0) dX1_tick_19 rfl rfl ?_
  refine g_getL C 1 4 (RX1, TX1, 5) dX1_tick_20 (hP.1 0 (by decide)) (reg_at (k := 0) (by decide)) ml_X1_50 rfl (by decide) rfl ?_
  refine g_callV C (q := (RX3, TX3, 5)) (rest := _) dX1_tick_23 mm_X3_follow ml_X1_73 mv_yX3_follow ms_yX3_follow (c_X3_follow hP hw2 h5 (by omega) (L0 0 4)) rfl (hP.1 7 (by decide)) rfl rfl ⟨by decide, Nat.le_of_ble_eq_true rfl, Nat.le_of_ble_eq_true rfl, Nat.le_of_ble_eq_true rfl⟩ (tk_retv ?_) tk_nothr
  refine g_istore_n C (i := 1) dX1_tick_26 rfl (by decide) ?_
  generalize itr (sFol (L0 0 4)) ns ((sBef I0, L0), 0) = f at *
  obtain ⟨⟨I1, L1⟩, n1⟩ := f
  refine g_aload_n C (i := 0) dX1_tick_27 rfl rfl ?_
  refine g_getR C 1 2 (RX1, TX1, 5) dX1_tick_28 (hP.1 0 (by decide)) (hP.2 0 2 12 (by decide) rfl) ml_X1_26 rfl (by decide) rfl ?_
  refine g_aload_n C (i := 0) dX1_tick_31 rfl rfl ?_
  refine g_getR C 1 0 (RX1, TX1, 5) dX1_tick_32 (hP.1 0 (by decide)) (hP.2 0 0 1 (by decide) rfl) ml_X1_10 rfl (by decide) rfl ?_
  refine g_aload_n C (i := 0) dX1_tick_35 rfl rfl ?_
  refine g_getR C 1 1 (RX1, TX1, 5) dX1_tick_36 (hP.1 0 (by decide)) (hP.2 0 1 7 (by decide) rfl) ml_X1_19 rfl (by decide) rfl ?_
  refine g_callV C (q := (RX2, TX2, 13)) (rest := _) dX1_tick_39 mm_X2_moveAll ml_X1_77 mv_yX2_moveAll ms_yX2_moveAll (c_X2_moveAll hP hw3) rfl (hP.1 12 (by decide)) rfl rfl ⟨by decide, Nat.le_of_ble_eq_true rfl, Nat.le_of_ble_eq_true rfl, Nat.le_of_ble_eq_true rfl⟩ (tk_retn ?_) tk_nothr
  generalize itr sMv np (I1, L1) = q at *
  obtain ⟨I2, L2⟩ := q
  refine g_aload_n C (i := 0) dX1_tick_42 rfl rfl ?_
  refine g_getR C 1 0 (RX1, TX1, 5) dX1_tick_43 (hP.1 0 (by decide)) (hP.2 0 0 1 (by decide) rfl) ml_X1_10 rfl (by decide) rfl ?_
  refine g_callV C (q := (RX4, TX4, 6)) (rest := _) dX1_tick_46 mm_X4_leakAndSum ml_X1_81 mv_yX4_leakAndSum ms_yX4_leakAndSum (c_X4_leakAndSum hP hw1) rfl (hP.1 1 (by decide)) rfl rfl ⟨by decide, Nat.le_of_ble_eq_true rfl, Nat.le_of_ble_eq_true rfl, Nat.le_of_ble_eq_true rfl⟩ (tk_retn ?_) tk_nothr
  generalize itr sLeak nt (I2, L2) = r at *
  obtain ⟨I3, L3⟩ := r
  refine g_aload_n C (i := 0) dX1_tick_49 rfl rfl ?_
  refine g_dup C dX1_tick_50 rfl ?_
  refine g_getL C 1 4 (RX1, TX1, 5) dX1_tick_51 (hP.1 0 (by decide)) (reg_at (k := 0) (by decide)) ml_X1_50 rfl (by decide) rfl ?_
  refine g_lconst C 1 dX1_tick_54 rfl ?_
  refine g_ladd C dX1_tick_55 ?_
  refine g_putL C 1 4 (RX1, TX1, 5) dX1_tick_56 (hP.1 0 (by decide)) (tk2_reg (k := 0) (by decide)) ml_X1_50 rfl (by decide) rfl rfl ?_
  refine g_iload_n C (i := 1) dX1_tick_59 rfl rfl ?_
  exact g_ireturn C dX1_tick_60 ⟨Nat.le_of_ble_eq_true rfl, Nat.le_of_ble_eq_true rfl⟩ (tkEnd.rf rfl rfl rfl)
theorem c_X1_repeatLast (hP : tkReg 28 pT pF σ p) {nt ns np b : Nat} (hW : wAll nt ns np b (I0, L0)) (lim : Int32) :
    tkCon false (.code yX1_repeatLast cX1_repeatLast 3 (some .int)) yX1_repeatLast 5 [.ref p, .int lim] σ (reg p 28 I0 v) (reg p 28 L0 w) 0 0 (.inl (some (.int (sLast nt ns np lim (I0, L0)).2))) σ (reg p 28 (sLast nt ns np lim (I0, L0)).1.1 v) (reg p 28 (sLast nt ns np lim (I0, L0)).1.2 w) := by
  obtain ⟨h1, h2, h3, c, h4, h5⟩ := hW
  obtain ⟨st, est⟩ : ∃ st, st = sSteady nt ns np I0 lim := ⟨_, rfl⟩
  have e : sLast nt ns np lim (I0, L0) = if 0 < st then ((((itr (sRep st) nt (I0, itr (sPrep I0 st) np L0)).1, tk2 (itr (sRep st) nt (I0, itr (sPrep I0 st) np L0)).2 0 4 ((itr (sRep st) nt (I0, itr (sPrep I0 st) np L0)).2 0 4 + st.toInt64)), st) : (tkI × tkL) × Int32) else ((I0, L0), 0) := by rw [est]; rfl
  rw [e]
  refine tkCon.of (by decide) (Nat.le_of_ble_eq_true rfl) (fun X C => ?_)
  refine g_aload_n C (i := 0) dX1_repeatLast_0 rfl rfl ?_
  refine g_getR C 1 1 (RX1, TX1, 5) dX1_repeatLast_1 (hP.1 0 (by decide)) (hP.2 0 1 7 (by decide) rfl) ml_X1_19 rfl (by decide) rfl ?_
  refine g_aload_n C (i := 0) dX1_repeatLast_4 rfl rfl ?_
  refine g_getR C 1 0 (RX1, TX1, 5) dX1_repeatLast_5 (hP.1 0 (by decide)) (hP.2 0 0 1 (by decide) rfl) ml_X1_10 rfl (by decide) rfl ?_
  refine g_iload_n C (i := 1) dX1_repeatLast_8 rfl rfl ?_
  refine g_callV C (q := (RX3, TX3, 5)) (rest := _) dX1_repeatLast_9 mm_X3_steadyTicks ml_X1_84 mv_yX3_steadyTicks ms_yX3_steadyTicks (c_X3_steadyTicks hP h2 lim) rfl (hP.1 7 (by decide)) rfl rfl ⟨by decide, Nat.le_of_ble_eq_true rfl, Nat.le_of_ble_eq_true rfl, Nat.le_of_ble_eq_true rfl⟩ (tk_retv ?_) tk_nothr
  refine g_istore_n C (i := 2) dX1_repeatLast_12 rfl (by decide) ?_
  refine g_aload_n C (i := 0) dX1_repeatLast_13 rfl rfl ?_
  refine g_getR C 1 2 (RX1, TX1, 5) dX1_repeatLast_14 (hP.1 0 (by decide)) (hP.2 0 2 12 (by decide) rfl) ml_X1_26 rfl (by decide) rfl ?_
  refine g_aload_n C (i := 0) dX1_repeatLast_17 rfl rfl ?_
  refine g_getR C 1 0 (RX1, TX1, 5) dX1_repeatLast_18 (hP.1 0 (by decide)) (hP.2 0 0 1 (by decide) rfl) ml_X1_10 rfl (by decide) rfl ?_
  refine g_aload_n C (i := 0) dX1_repeatLast_21 rfl rfl ?_
  refine g_getR C 1 1 (RX1, TX1, 5) dX1_repeatLast_22 (hP.1 0 (by decide)) (hP.2 0 1 7 (by decide) rfl) ml_X1_19 rfl (by decide) rfl ?_
  refine g_iload_n C (i := 2) dX1_repeatLast_25 rfl rfl ?_
  refine g_callV C (q := (RX2, TX2, 13)) (rest := _) dX1_repeatLast_26 mm_X2_steadyTicks ml_X1_88 mv_yX2_steadyTicks ms_yX2_steadyTicks (c_X2_steadyTicks hP h3 _) rfl (hP.1 12 (by decide)) rfl rfl ⟨by decide, Nat.le_of_ble_eq_true rfl, Nat.le_of_ble_eq_true rfl, Nat.le_of_ble_eq_true rfl⟩ (tk_retv ?_) tk_nothr
  refine g_istore_n C (i := 2) dX1_repeatLast_29 rfl (by decide) ?_
  refine g_aload_n C (i := 0) dX1_repeatLast_30 rfl rfl ?_
  refine g_getR C 1 0 (RX1, TX1, 5) dX1_repeatLast_31 (hP.1 0 (by decide)) (hP.2 0 0 1 (by decide) rfl) ml_X1_10 rfl (by decide) rfl ?_
  refine g_iload_n C (i := 2) dX1_repeatLast_34 rfl rfl ?_
  refine g_callV C (q := (RX4, TX4, 6)) (rest := _) dX1_repeatLast_35 mm_X4_steadyTicks ml_X1_91 mv_yX4_steadyTicks ms_yX4_steadyTicks (c_X4_steadyTicks hP h1 _) rfl (hP.1 1 (by decide)) rfl rfl ⟨by decide, Nat.le_of_ble_eq_true rfl, Nat.le_of_ble_eq_true rfl, Nat.le_of_ble_eq_true rfl⟩ (tk_retv ?_) tk_nothr
  rw [show itr (sTst I0) nt (itr (sPst I0) np (itr (sSst I0) ns lim)) = st by rw [est]; rfl]
  refine g_istore_n C (i := 2) dX1_repeatLast_38 rfl (by decide) ?_
  refine g_iload_n C (i := 2) dX1_repeatLast_39 rfl rfl ?_
  refine g_if_gt C 45 dX1_repeatLast_40 (by decide) (fun h40 => ?_) (fun h40 => ?_)
  · rw [if_pos h40]
    refine g_aload_n C (i := 0) dX1_repeatLast_45 rfl rfl ?_
    refine g_getR C 1 2 (RX1, TX1, 5) dX1_repeatLast_46 (hP.1 0 (by decide)) (hP.2 0 2 12 (by decide) rfl) ml_X1_26 rfl (by decide) rfl ?_
    refine g_aload_n C (i := 0) dX1_repeatLast_49 rfl rfl ?_
    refine g_getR C 1 1 (RX1, TX1, 5) dX1_repeatLast_50 (hP.1 0 (by decide)) (hP.2 0 1 7 (by decide) rfl) ml_X1_19 rfl (by decide) rfl ?_
    refine g_iload_n C (i := 2) dX1_repeatLast_53 rfl rfl ?_
    refine g_callV C (q := (RX2, TX2, 13)) (rest := _) dX1_repeatLast_54 mm_X2_repeat ml_X1_93 mv_yX2_repeat ms_yX2_repeat (c_X2_repeat hP h3 st) rfl (hP.1 12 (by decide)) rfl rfl ⟨by decide, Nat.le_of_ble_eq_true rfl, Nat.le_of_ble_eq_true rfl, Nat.le_of_ble_eq_true rfl⟩ (tk_retn ?_) tk_nothr
    refine g_aload_n C (i := 0) dX1_repeatLast_57 rfl rfl ?_
    refine g_getR C 1 0 (RX1, TX1, 5) dX1_repeatLast_58 (hP.1 0 (by decide)) (hP.2 0 0 1 (by decide) rfl) ml_X1_10 rfl (by decide) rfl ?_
    refine g_iload_n C (i := 2) dX1_repeatLast_61 rfl rfl ?_
    refine g_callV C (q := (RX4, TX4, 6)) (rest := _) dX1_repeatLast_62 mm_X4_repeat ml_X1_97 mv_yX4_repeat ms_yX4_repeat (c_X4_repeat hP h1 st) rfl (hP.1 1 (by decide)) rfl rfl ⟨by decide, Nat.le_of_ble_eq_true rfl, Nat.le_of_ble_eq_true rfl, Nat.le_of_ble_eq_true rfl⟩ (tk_retn ?_) tk_nothr
    generalize itr (sRep st) nt (I0, itr (sPrep I0 st) np L0) = r at *
    obtain ⟨I3, L3⟩ := r
    refine g_aload_n C (i := 0) dX1_repeatLast_65 rfl rfl ?_
    refine g_dup C dX1_repeatLast_66 rfl ?_
    refine g_getL C 1 4 (RX1, TX1, 5) dX1_repeatLast_67 (hP.1 0 (by decide)) (reg_at (k := 0) (by decide)) ml_X1_50 rfl (by decide) rfl ?_
    refine g_iload_n C (i := 2) dX1_repeatLast_70 rfl rfl ?_
    refine g_i2l C dX1_repeatLast_71 ?_
    refine g_ladd C dX1_repeatLast_72 ?_
    refine g_putL C 1 4 (RX1, TX1, 5) dX1_repeatLast_73 (hP.1 0 (by decide)) (tk2_reg (k := 0) (by decide)) ml_X1_50 rfl (by decide) rfl rfl ?_
    refine g_iload_n C (i := 2) dX1_repeatLast_76 rfl rfl ?_
    exact g_ireturn C dX1_repeatLast_77 ⟨Nat.le_of_ble_eq_true rfl, Nat.le_of_ble_eq_true rfl⟩ (tkEnd.rf rfl rfl rfl)
  · rw [if_neg h40]
    refine g_iconst C (0) dX1_repeatLast_43 rfl ?_
    exact g_ireturn C dX1_repeatLast_44 ⟨Nat.le_of_ble_eq_true rfl, Nat.le_of_ble_eq_true rfl⟩ (tkEnd.rf rfl rfl rfl)
end TKPLANT
end
section
section TKRANGE
/-- for how many of m ticks a margin a that grows by b stays at 0 or above -/
def nTw (a b : Int) (m : Nat) : Nat := if 0 ≤ a then (if b < 0 then min m (a / -b).toNat else m) else 0
theorem nTw_le (a b : Int) (m : Nat) : nTw a b m ≤ m := by
  unfold nTw
  split
  · split <;> omega
  · omega
theorem jtw_val {a : Int64} {b : Int32} {m : Nat} (hm : m < 2 ^ 31) : jtw a b.toInt64 (nI m) = nI (nTw a.toInt b.toInt m) := by
  have z0 : (0 : Int64).toInt = 0 := by decide
  unfold jtw nTw
  simp only [Int64.le_iff_toInt_le, Int64.lt_iff_toInt_lt, Int32.toInt_toInt64, z0]
  by_cases ha : 0 ≤ a.toInt
  · rw [if_pos ha, if_pos ha]
    by_cases hb : b.toInt < 0
    · rw [if_pos hb, if_pos hb]
      have hbl := b.le_toInt
      have en : (-b.toInt64).toInt = -b.toInt := by
        rw [Int64.toInt_neg, Int32.toInt_toInt64]
        exact Int.bmod_eq_of_le (by omega) (by omega)
      have eq : (a / -b.toInt64).toInt = a.toInt / -b.toInt := by
        rw [Int64.toInt_div_of_ne_left _ _ (fun e => by rw [e] at ha; exact absurd ha (by decide)), en]
        exact Int.tdiv_eq_ediv_of_nonneg ha
      have hq : 0 ≤ a.toInt / -b.toInt := Int.ediv_nonneg ha (by omega)
      unfold jminL
      simp only [Int64.lt_iff_toInt_lt, eq, Int32.toInt_toInt64, nI_toInt hm]
      generalize a.toInt / -b.toInt = z at *
      by_cases h : z < (m : Int)
      · rw [if_pos h, show min m z.toNat = z.toNat by omega]
        refine Int32.toInt_inj.mp ?_
        rw [Int64.toInt_toInt32, eq, nI_toInt (by omega)]
        have e2 : ((z.toNat : Nat) : Int) = z := by omega
        rw [e2]
        exact Int.bmod_eq_of_le (by omega) (by omega)
      · rw [if_neg h, show min m z.toNat = m by omega, nI_l hm, lN_i]
    · rw [if_neg hb, if_neg hb]
  · rw [if_neg ha, if_neg ha]
    exact nI_0.symm
theorem jtw_in {a : Int64} {b : Int32} {m : Nat} (hm : m < 2 ^ 31) : ∃ r, r ≤ m ∧ jtw a b.toInt64 (nI m) = nI r := ⟨_, nTw_le _ _ _, jtw_val hm⟩
/-- within 0 .. m -/
def iIn (x : Int32) (m : Nat) : Prop := ∃ r, r ≤ m ∧ x = nI r
theorem iIn.jtw {x : Int32} {m : Nat} (hm : m < 2 ^ 31) (h : iIn x m) (a : Int64) (b : Int32) : iIn (jtw a b.toInt64 x) m := by
  obtain ⟨r, hr, rfl⟩ := h
  obtain ⟨t, ht, e⟩ := jtw_in (a := a) (b := b) (m := r) (by omega)
  exact ⟨t, by omega, e⟩
theorem iIn.self (m : Nat) : iIn (nI m) m := ⟨m, Nat.le_refl _, rfl⟩
theorem iIn.zero (m : Nat) : iIn 0 m := ⟨0, Nat.zero_le _, nI_0.symm⟩
theorem iIn_sSst {m : Nat} (hm : m < 2 ^ 31) (I : tkI) (i : Nat) {x : Int32} (h : iIn x m) : iIn (sSst I i x) m := by
  unfold sSst
  dsimp only
  split
  · split
    · exact h.jtw hm _ _
    · exact h.jtw hm _ _
  · exact h
theorem iIn_sTst {m : Nat} (hm : m < 2 ^ 31) (I : tkI) (i : Nat) {x : Int32} (h : iIn x m) : iIn (sTst I i x) m := by
  unfold sTst
  split
  · exact h.jtw hm _ _
  · exact h
theorem iIn_sOf1 {m : Nat} (hm : m < 2 ^ 31) (I : tkI) (i : Nat) {x : Int32} (h : iIn x m) : iIn (sOf1 I i x).1 m := by
  unfold sOf1
  dsimp only
  split
  · exact h
  · exact h.jtw hm _ _
theorem iIn_sOf2 {m : Nat} (hm : m < 2 ^ 31) (I : tkI) (i : Nat) {q : Int32 × Int32} (h : iIn q.1 m) : iIn (sOf2 I i q).1 m := by
  unfold sOf2
  dsimp only
  split
  · exact h
  · exact h.jtw hm _ _
theorem iIn_sPst {m : Nat} (hm : m < 2 ^ 31) (I : tkI) (i : Nat) {x : Int32} (h : iIn x m) : iIn (sPst I i x) m := by
  unfold sPst
  split
  · split
    · exact h
    · unfold sOf
      split
      · exact iIn.zero m
      · exact iIn_sOf2 hm I i (iIn_sOf1 hm I i h)
  · exact h
theorem iIn.steady {m : Nat} (hm : m < 2 ^ 31) (nt ns np : Nat) (I : tkI) {x : Int32} (h : iIn x m) : iIn (sSteady nt ns np I x) m :=
  itr_inv (P := fun x => iIn x m) (n := nt) (fun i _ _ h => iIn_sTst hm I i h) (Nat.le_refl _) (itr_inv (P := fun x => iIn x m) (n := np) (fun i _ _ h => iIn_sPst hm I i h) (Nat.le_refl _) (itr_inv (P := fun x => iIn x m) (n := ns) (fun i _ _ h => iIn_sSst hm I i h) (Nat.le_refl _) h))
theorem sLast_in {m : Nat} (hm : m < 2 ^ 31) (nt ns np : Nat) (q : tkI × tkL) {x : Int32} (h : iIn x m) : iIn (sLast nt ns np x q).2 m := by
  unfold sLast
  dsimp only
  split
  · exact h.steady hm nt ns np q.1
  · exact iIn.zero m
theorem sShort_in {m : Nat} (hm : m < 2 ^ 31) (j : Nat) (mark b : Int32) (I : tkI) {x : Int32} (h : iIn x m) : iIn (sShort j mark b I x) m := by
  unfold sShort
  split
  · exact h.jtw hm _ _
  · exact h.jtw hm _ _
end TKRANGE
section TKADV
variable {σ : tkM} {p : Nat} {I0 v : tkI} {L0 w : tkL}
theorem c_X1_advance (hP : tkReg 28 pT pF σ p) {nt ns np b n : Nat} (hW : wAll nt ns np b (I0, L0)) (hn : n ≤ 5000) (hb : b + 10 * n + 20 < 2 ^ 62) :
    tkCon false (.code yX1_advance cX1_advance 4 (some .int)) yX1_advance 6 [.ref p, .int (nI n)] σ (reg p 28 I0 v) (reg p 28 L0 w) 0 0 (.inl (some (.int (sAdv nt ns np (nI n) n 0 ((I0, L0), 0)).2))) σ (reg p 28 (sAdv nt ns np (nI n) n 0 ((I0, L0), 0)).1.1 v) (reg p 28 (sAdv nt ns np (nI n) n 0 ((I0, L0), 0)).1.2 w) := by
  obtain ⟨R, eR⟩ : ∃ R, sAdv nt ns np (nI n) n 0 ((I0, L0), 0) = R := ⟨_, rfl⟩
  rw [eR]
  refine tkCon.of (by decide) (Nat.le_of_ble_eq_true rfl) (fun X C => ?_)
  refine g_iconst C (0) dX1_advance_0 rfl ?_
  refine g_istore_n C (i := 2) dX1_advance_1 rfl (by decide) ?_
  refine g_iconst C (0) dX1_advance_2 rfl ?_
  refine g_istore_n C (i := 3) dX1_advance_3 rfl (by decide) ?_
  have key : ∀ k i (c : Int32) I1 L1, n ≤ i + k → i ≤ n → sAdv nt ns np (nI n) k (nI i) ((I1, L1), c) = R → wAll nt ns np (b + 10 * i) (I1, L1) → tkG X (tkQ false X 0 0 (.inl (some (.int R.2))) σ (reg p 28 R.1.1 v) (reg p 28 R.1.2 w)) 0 0 4 [some (.ref p), some (.int (nI n)), some (.int c), some (.int (nI i))] [] σ (reg p 28 I1 v) (reg p 28 L1 w) := by
    intro k
    induction k with
    | zero =>
      intro i c I1 L1 h1 h2 h3 h4
      have e : i = n := by omega
      subst e
      have h3 : ((I1, L1), c) = R := h3
      subst h3
      refine g_iload_n C (i := 3) dX1_advance_4 rfl rfl ?_
      refine g_iload_n C (i := 1) dX1_advance_5 rfl rfl ?_
      refine g_icmp_ge C 34 dX1_advance_6 (by decide) (fun h6 => ?_) (fun h6 => ?_)
      · refine g_iload_n C (i := 2) dX1_advance_34 rfl rfl ?_
        exact g_ireturn C dX1_advance_35 ⟨Nat.le_of_ble_eq_true rfl, Nat.le_of_ble_eq_true rfl⟩ (tkEnd.rf rfl rfl rfl)
      · exact absurd (Int32.le_refl _) h6
    | succ k ih =>
      intro i c I1 L1 h1 h2 h3 h4
      have h3 : (if nI i < nI n then sAdv nt ns np (nI n) k (nI i + (sLast nt ns np (nI n - nI i - 1) (sTick nt ns np (I1, L1)).1).2 + 1) ((sLast nt ns np (nI n - nI i - 1) (sTick nt ns np (I1, L1)).1).1, c + (sTick nt ns np (I1, L1)).2) else ((I1, L1), c)) = R := h3
      refine g_iload_n C (i := 3) dX1_advance_4 rfl rfl ?_
      refine g_iload_n C (i := 1) dX1_advance_5 rfl rfl ?_
      refine g_icmp_ge C 34 dX1_advance_6 (by decide) (fun h6 => ?_) (fun h6 => ?_)
      · have e : i = n := by
          have := (nI_leI (by omega) (by omega)).mp h6
          omega
        subst e
        rw [if_neg Int32.lt_irrefl] at h3
        subst h3
        refine g_iload_n C (i := 2) dX1_advance_34 rfl rfl ?_
        exact g_ireturn C dX1_advance_35 ⟨Nat.le_of_ble_eq_true rfl, Nat.le_of_ble_eq_true rfl⟩ (tkEnd.rf rfl rfl rfl)
      · have hlt : i < n := by
          refine Nat.lt_of_not_le (fun z => h6 ((nI_leI (by omega) (by omega)).mpr z))
        rw [if_pos (nI_lt hlt (by omega))] at h3
        have ht := h4.tick
        refine g_iload_n C (i := 2) dX1_advance_9 rfl rfl ?_
        refine g_aload_n C (i := 0) dX1_advance_10 rfl rfl ?_
        refine g_callV C (q := (RX1, TX1, 5)) (rest := _) dX1_advance_11 mm_X1_tick ml_X1_54 mv_yX1_tick ms_yX1_tick (c_X1_tick hP h4 (by omega)) rfl (hP.1 0 (by decide)) rfl rfl ⟨by decide, Nat.le_of_ble_eq_true rfl, Nat.le_of_ble_eq_true rfl, Nat.le_of_ble_eq_true rfl⟩ (tk_retv ?_) tk_nothr
        generalize sTick nt ns np (I1, L1) = q at *
        obtain ⟨⟨I2, L2⟩, n2⟩ := q
        dsimp only at *
        have el : nI n - nI i - 1 = nI (n - i - 1) := by rw [pk_sub (by omega), show (1 : Int32) = nI 1 from rfl, pk_sub (by omega)]
        have hr : iIn (sLast nt ns np (nI n - nI i - 1) (I2, L2)).2 (n - i - 1) := by rw [el]; exact sLast_in (by omega) nt ns np _ (iIn.self _)
        have hl := ht.last (nI n - nI i - 1)
        refine g_iadd C dX1_advance_14 ?_
        refine g_istore_n C (i := 2) dX1_advance_15 rfl (by decide) ?_
        refine g_iload_n C (i := 3) dX1_advance_16 rfl rfl ?_
        refine g_aload_n C (i := 0) dX1_advance_17 rfl rfl ?_
        refine g_iload_n C (i := 1) dX1_advance_18 rfl rfl ?_
        refine g_iload_n C (i := 3) dX1_advance_19 rfl rfl ?_
        refine g_isub C dX1_advance_20 ?_
        refine g_iconst C (1) dX1_advance_21 rfl ?_
        refine g_isub C dX1_advance_22 ?_
        refine g_callV C (q := (RX1, TX1, 5)) (rest := _) dX1_advance_23 mm_X1_repeatLast ml_X1_58 mv_yX1_repeatLast ms_yX1_repeatLast (c_X1_repeatLast hP ht _) rfl (hP.1 0 (by decide)) rfl rfl ⟨by decide, Nat.le_of_ble_eq_true rfl, Nat.le_of_ble_eq_true rfl, Nat.le_of_ble_eq_true rfl⟩ (tk_retv ?_) tk_nothr
        generalize sLast nt ns np (nI n - nI i - 1) (I2, L2) = q at *
        obtain ⟨⟨I3, L3⟩, n3⟩ := q
        dsimp only at *
        obtain ⟨r, hr, rfl⟩ := hr
        have es : nI i + nI r + 1 = nI (i + r + 1) := by rw [nI_add, nI_1]
        rw [es] at h3
        refine g_iadd C dX1_advance_26 ?_
        refine g_istore_n C (i := 3) dX1_advance_27 rfl (by decide) ?_
        refine g_iinc C (i := 3) (nI (i + r + 1)) dX1_advance_28 rfl es (by decide) ?_
        refine g_goto C 4 dX1_advance_31 (by decide) ?_
        exact ih (i + r + 1) _ I3 L3 (by omega) (by omega) h3 (hl.mono (by omega))
  exact key n 0 0 I0 L0 (by omega) (by omega) eR hW
end TKADV
end
section
section TKBLOCK
/-- the shapes of a block -/
def rgS (p N : Nat) (T S : Nat → Nat × Nat) : Nat → Nat × Nat := fun a => if p ≤ a ∧ a < p + N then T (a - p) else S a
theorem rgS_at {p N k : Nat} {T S : Nat → Nat × Nat} (hk : k < N) : rgS p N T S (p + k) = T k := by
  rw [rgS, if_pos ⟨Nat.le_add_right _ _, by omega⟩, Nat.add_sub_cancel_left]
theorem rgS_off {p N a : Nat} {T S : Nat → Nat × Nat} (h : a < p ∨ p + N ≤ a) : rgS p N T S a = S a := by
  rw [rgS, if_neg (by omega)]
theorem rgS_push {p n : Nat} {T S : Nat → Nat × Nat} {sh : Nat × Nat} (h : T n = sh) : tk1 (rgS p n T S) (p + n) sh = rgS p (n + 1) T S := by
  subst h
  funext a
  simp only [tk1, rgS]
  by_cases e : a = p + n
  · subst e
    rw [if_pos rfl, if_pos ⟨by omega, by omega⟩, Nat.add_sub_cancel_left]
  · rw [if_neg e]
    by_cases q : p ≤ a ∧ a < p + n
    · rw [if_pos q, if_pos ⟨q.1, by omega⟩]
    · rw [if_neg q, if_neg (by omega)]
theorem rgS_0 (p : Nat) (T S : Nat → Nat × Nat) : rgS p 0 T S = S := by
  funext a
  rw [rgS, if_neg (by omega)]
theorem reg_0 {α : Type} (p : Nat) (f v : Nat → Nat → α) : reg p 0 f v = v := by
  funext a
  rw [reg, if_neg (by omega)]
theorem reg_push {α : Type} {p n : Nat} {f v : Nat → Nat → α} {x : Nat → α} : tk1 (reg p n f v) (p + n) x = reg p (n + 1) (tk1 f n x) v := by
  funext a
  simp only [tk1, reg]
  by_cases e : a = p + n
  · subst e
    rw [if_pos rfl, if_pos ⟨by omega, by omega⟩, Nat.add_sub_cancel_left, if_pos rfl]
  · rw [if_neg e]
    by_cases q : p ≤ a ∧ a < p + n
    · rw [if_pos q, if_pos ⟨q.1, by omega⟩, if_neg (by omega)]
    · rw [if_neg q, if_neg (by omega)]
/-- rows of zeros -/
def zI : tkI := fun _ _ => 0
def zL : tkL := fun _ _ => 0
theorem zI_1 (n : Nat) : tk1 zI n (fun _ => 0) = zI := by
  funext a j
  simp only [tk1, zI]
  split <;> rfl
theorem zL_1 (n : Nat) : tk1 zL n (fun _ => 0) = zL := by
  funext a j
  simp only [tk1, zL]
  split <;> rfl
def zR : Nat → Nat → Option Nat := fun _ _ => none
theorem tk2_off {α : Type} {p N a i : Nat} {x : α} {f v : Nat → Nat → α} (h : a < p ∨ p + N ≤ a) : tk2 (reg p N f v) a i x = reg p N f (tk2 v a i x) := by
  funext b j
  simp only [tk2, reg]
  by_cases q : p ≤ b ∧ b < p + N
  · rw [if_pos q, if_pos q, if_neg (by omega)]
  · rw [if_neg q, if_neg q]
    rfl
theorem tk1_off {α : Type} {p N a : Nat} {x : Nat → α} {f v : Nat → Nat → α} (h : a < p ∨ p + N ≤ a) : tk1 (reg p N f v) a x = reg p N f (tk1 v a x) := by
  funext b
  simp only [tk1, reg]
  by_cases q : p ≤ b ∧ b < p + N
  · rw [if_pos q, if_pos q, if_neg (by omega)]
  · rw [if_neg q, if_neg q]
def bM (p n : Nat) (T S : Nat → Nat × Nat) (R V : Nat → Nat → Option Nat) : tkM := (p + n, rgS p n T S, reg p n R V)
theorem bM_nw {p n : Nat} {T S : Nat → Nat × Nat} {R V : Nat → Nat → Option Nat} {sh : Nat × Nat} (h : T n = sh) : tkNw (bM p n T S R V) sh = bM p (n + 1) T S (tk1 R n (fun _ => none)) V := by
  show (p + n + 1, tk1 (rgS p n T S) (p + n) sh, tk1 (reg p n R V) (p + n) (fun _ => none)) = (p + (n + 1), rgS p (n + 1) T S, reg p (n + 1) (tk1 R n (fun _ => none)) V)
  rw [rgS_push h, reg_push]
  rfl
theorem bM_zI {p n : Nat} {T S : Nat → Nat × Nat} {R V : Nat → Nat → Option Nat} {I : tkI} : tkZI (bM p n T S R V) (reg p n zI I) = reg p (n + 1) zI I := by
  show tk1 (reg p n zI I) (p + n) (fun _ => 0) = _
  rw [reg_push, zI_1]
theorem bM_zL {p n : Nat} {T S : Nat → Nat × Nat} {R V : Nat → Nat → Option Nat} {L : tkL} : tkZL (bM p n T S R V) (reg p n zL L) = reg p (n + 1) zL L := by
  show tk1 (reg p n zL L) (p + n) (fun _ => 0) = _
  rw [reg_push, zL_1]
variable {X : tkX} {Q : State → Prop} {cc : ByteArray} {own nm : String} {nL d MC MS cs ss pc : Nat} {ret : Option FieldType} {hh : List (Nat × Nat × Nat × Nat)} {lv : List (Option Value)} {stk : List Value} {p n : Nat} {T S : Nat → Nat × Nat} {R V : Nat → Nat → Option Nat} {I : tkI} {L : tkL}
theorem b_new (C : tkC X cc own nm nL ret hh d MC MS) {idx : Nat} (ci : Nat) (q : vw_C) (hd : decode cc pc = .ok (.new idx, 3)) (hT : T n = (ci, 0)) (hw : Cond.classLink own idx q.1 ∈ tkAll) (hw2 : Cond.instantiable q.1 q.2.2 ∈ tkAll) (hw3 : Cond.initialized q.1 ∈ tkAll) (hc : vwCl[ci]? = some q) (h1 : cs + 1 ≤ MC) (h2 : ss + q.2.2 ≤ MS)
    (kk : tkG X Q (cs + 1) (ss + q.2.2) (pc + 3) lv (.ref (p + n) :: stk) (bM p (n + 1) T S (tk1 R n (fun _ => none)) V) (reg p (n + 1) zI I) (reg p (n + 1) zL L)) : tkG X Q cs ss pc lv stk (bM p n T S R V) (reg p n zI I) (reg p n zL L) := by
  refine g_new C ci q hd hw hw2 hw3 hc h1 h2 ?_
  rw [bM_nw hT, bM_zI, bM_zL]
  exact kk
theorem b_newa_i (C : tkC X cc own nm nL ret hh d MC MS) {c : Int32} (N : Nat) (hd : decode cc pc = .ok (.newarray .int, 2)) (hT : T n = (10, N)) (hw : Cond.arrayClass .int ∈ tkAll) (hn : ¬ c < 0) (hN : c.toNatClampNeg = N) (hby : N * componentBytes .int ≤ 536870912) (h1 : cs + 1 ≤ MC) (h2 : ss + N ≤ MS)
    (kk : tkG X Q (cs + 1) (ss + N) (pc + 2) lv (.ref (p + n) :: stk) (bM p (n + 1) T S (tk1 R n (fun _ => none)) V) (reg p (n + 1) zI I) (reg p (n + 1) zL L)) : tkG X Q cs ss pc lv (.int c :: stk) (bM p n T S R V) (reg p n zI I) (reg p n zL L) := by
  refine g_newa_i C N hd hw hn hN hby h1 h2 ?_
  rw [bM_nw hT, bM_zI, bM_zL]
  exact kk
theorem b_newa_l (C : tkC X cc own nm nL ret hh d MC MS) {c : Int32} (N : Nat) (hd : decode cc pc = .ok (.newarray .long, 2)) (hT : T n = (11, N)) (hw : Cond.arrayClass .long ∈ tkAll) (hn : ¬ c < 0) (hN : c.toNatClampNeg = N) (hby : N * componentBytes .long ≤ 536870912) (h1 : cs + 1 ≤ MC) (h2 : ss + N ≤ MS)
    (kk : tkG X Q (cs + 1) (ss + N) (pc + 2) lv (.ref (p + n) :: stk) (bM p (n + 1) T S (tk1 R n (fun _ => none)) V) (reg p (n + 1) zI I) (reg p (n + 1) zL L)) : tkG X Q cs ss pc lv (.int c :: stk) (bM p n T S R V) (reg p n zI I) (reg p n zL L) := by
  refine g_newa_l C N hd hw hn hN hby h1 h2 ?_
  rw [bM_nw hT, bM_zI, bM_zL]
  exact kk
theorem b_newa_z (C : tkC X cc own nm nL ret hh d MC MS) {c : Int32} (N : Nat) (hd : decode cc pc = .ok (.newarray .boolean, 2)) (hT : T n = (12, N)) (hw : Cond.arrayClass .boolean ∈ tkAll) (hn : ¬ c < 0) (hN : c.toNatClampNeg = N) (hby : N * componentBytes .boolean ≤ 536870912) (h1 : cs + 1 ≤ MC) (h2 : ss + N ≤ MS)
    (kk : tkG X Q (cs + 1) (ss + N) (pc + 2) lv (.ref (p + n) :: stk) (bM p (n + 1) T S (tk1 R n (fun _ => none)) V) (reg p (n + 1) zI I) (reg p (n + 1) zL L)) : tkG X Q cs ss pc lv (.int c :: stk) (bM p n T S R V) (reg p n zI I) (reg p n zL L) := by
  refine g_newa_z C N hd hw hn hN hby h1 h2 ?_
  rw [bM_nw hT, bM_zI, bM_zL]
  exact kk
theorem b_putF (C : tkC X cc own nm nL ret hh d MC MS) {idx k j b0 : Nat} {sh : Nat × Nat} (q : vw_C) (hd : decode cc pc = .ok (.putfield idx, 3)) (hT : T k = sh) (hkn : k < n) (hw : Cond.fieldLink own idx (q.2.1 j).1 (q.2.1 j).2.1 (q.2.1 j).2.2.1 ∈ tkAll) (hc : vwCl[sh.1]? = some q) (hk : j < q.2.2)
    (hfin : (q.2.1 j).2.2.2 = true ∧ nm = "<init>" ∧ (q.2.1 j).1 = own) (ht : tkRefT (tkTy sh.1 j) = true) (kk : tkG X Q cs ss (pc + 3) lv stk (bM p n T S (tk2 R k j (some b0)) V) I L) : tkG X Q cs ss pc lv (.ref b0 :: .ref (p + k) :: stk) (bM p n T S R V) I L := by
  refine g_putF C sh.1 j q (n := sh.2) hd ?_ rfl hw hc hk hfin ht ?_
  · show rgS p n T S (p + k) = _
    rw [rgS_at hkn, hT]
  · show tkG X Q cs ss (pc + 3) lv stk (p + n, rgS p n T S, tk2 (reg p n R V) (p + k) j (some b0)) I L
    rw [tk2_reg hkn]
    exact kk
end TKBLOCK
end
section
section TKINIT
variable {p : Nat} {S : Nat → Nat × Nat} {R V : Nat → Nat → Option Nat} {I : tkI} {L : tkL}
/-- cell o is made, and goes to field j of object k -/
def al (p k j o : Nat) (R : Nat → Nat → Option Nat) : Nat → Nat → Option Nat := tk2 (tk1 R o (fun _ => none)) k j (some (p + o))
def rT (p : Nat) (R : Nat → Nat → Option Nat) : Nat → Nat → Option Nat := (al p 1 5 6 (al p 1 4 5 (al p 1 3 4 (al p 1 2 3 (al p 1 1 2 R)))))
def rS (p : Nat) (R : Nat → Nat → Option Nat) : Nat → Nat → Option Nat := (al p 7 4 11 (al p 7 3 10 (al p 7 2 9 (al p 7 1 8 R))))
def rU (p : Nat) (R : Nat → Nat → Option Nat) : Nat → Nat → Option Nat := (al p 12 12 24 (al p 12 11 23 (al p 12 10 22 (al p 12 9 21 (al p 12 8 20 (al p 12 7 19 (al p 12 6 18 (al p 12 5 17 (al p 12 4 16 (al p 12 3 15 (al p 12 2 14 (al p 12 1 13 R))))))))))))
def rL (p : Nat) (R : Nat → Nat → Option Nat) : Nat → Nat → Option Nat := (al p 25 2 27 (al p 25 1 26 R))
def rOb (o : Nat) (R : Nat → Nat → Option Nat) : Nat → Nat → Option Nat := tk1 R o (fun _ => none)
def rPl (p : Nat) (R : Nat → Nat → Option Nat) : Nat → Nat → Option Nat := tk2 (rL p (rOb 25 (tk2 (rU p (rOb 12 (tk2 (rS p (rOb 7 (tk2 (rT p (rOb 1 R)) 0 0 (some (p + 1))))) 0 1 (some (p + 7))))) 0 2 (some (p + 12))))) 0 3 (some (p + 25))
theorem c_X4_init : tkCon false (.code yX4_init cX4_init 1 none) yX4_init 2 [.ref (p + 1)] (bM p 2 pT S R V) (reg p 2 zI I) (reg p 2 zL L) 5 40 (.inl none) (bM p 7 pT S (rT p R) V) (reg p 7 zI I) (reg p 7 zL L) := by
  refine tkCon.of (by decide) (Nat.le_of_ble_eq_true rfl) (fun X C => ?_)
  refine g_aload_n C (i := 0) dX4_init_0 rfl rfl ?_
  refine g_objInit C dX4_init_1 ml_X4_3 mv_objectInit mc_objectInit (by decide) (Nat.le_of_ble_eq_true rfl) ?_
  refine g_aload_n C (i := 0) dX4_init_4 rfl rfl ?_
  refine g_bipush C (8) dX4_init_5 rfl ?_
  refine b_newa_i C 8 dX4_init_7 rfl ma_int (by decide) (by decide) (by decide) (Nat.le_of_ble_eq_true rfl) (Nat.le_of_ble_eq_true rfl) ?_
  refine b_putF C (k := 1) (j := 1) (b0 := p + 2) (RX4, TX4, 6) dX4_init_9 rfl (by decide) ml_X4_9 rfl (by decide) ⟨rfl, rfl, rfl⟩ rfl ?_
  refine g_aload_n C (i := 0) dX4_init_12 rfl rfl ?_
  refine g_bipush C (8) dX4_init_13 rfl ?_
  refine b_newa_i C 8 dX4_init_15 rfl ma_int (by decide) (by decide) (by decide) (Nat.le_of_ble_eq_true rfl) (Nat.le_of_ble_eq_true rfl) ?_
  refine b_putF C (k := 1) (j := 2) (b0 := p + 3) (RX4, TX4, 6) dX4_init_17 rfl (by decide) ml_X4_15 rfl (by decide) ⟨rfl, rfl, rfl⟩ rfl ?_
  refine g_aload_n C (i := 0) dX4_init_20 rfl rfl ?_
  refine g_bipush C (8) dX4_init_21 rfl ?_
  refine b_newa_i C 8 dX4_init_23 rfl ma_int (by decide) (by decide) (by decide) (Nat.le_of_ble_eq_true rfl) (Nat.le_of_ble_eq_true rfl) ?_
  refine b_putF C (k := 1) (j := 3) (b0 := p + 4) (RX4, TX4, 6) dX4_init_25 rfl (by decide) ml_X4_18 rfl (by decide) ⟨rfl, rfl, rfl⟩ rfl ?_
  refine g_aload_n C (i := 0) dX4_init_28 rfl rfl ?_
  refine g_bipush C (8) dX4_init_29 rfl ?_
  refine b_newa_l C 8 dX4_init_31 rfl ma_long (by decide) (by decide) (by decide) (Nat.le_of_ble_eq_true rfl) (Nat.le_of_ble_eq_true rfl) ?_
  refine b_putF C (k := 1) (j := 4) (b0 := p + 5) (RX4, TX4, 6) dX4_init_33 rfl (by decide) ml_X4_21 rfl (by decide) ⟨rfl, rfl, rfl⟩ rfl ?_
  refine g_aload_n C (i := 0) dX4_init_36 rfl rfl ?_
  refine g_bipush C (8) dX4_init_37 rfl ?_
  refine b_newa_i C 8 dX4_init_39 rfl ma_int (by decide) (by decide) (by decide) (Nat.le_of_ble_eq_true rfl) (Nat.le_of_ble_eq_true rfl) ?_
  refine b_putF C (k := 1) (j := 5) (b0 := p + 6) (RX4, TX4, 6) dX4_init_41 rfl (by decide) ml_X4_25 rfl (by decide) ⟨rfl, rfl, rfl⟩ rfl ?_
  exact g_return C dX4_init_44 ⟨Nat.le_of_ble_eq_true rfl, Nat.le_of_ble_eq_true rfl⟩ (tkEnd.rf rfl rfl rfl)
theorem c_X3_init : tkCon false (.code yX3_init cX3_init 1 none) yX3_init 2 [.ref (p + 7)] (bM p 8 pT S R V) (reg p 8 zI I) (reg p 8 zL L) 4 40 (.inl none) (bM p 12 pT S (rS p R) V) (reg p 12 zI I) (reg p 12 zL L) := by
  refine tkCon.of (by decide) (Nat.le_of_ble_eq_true rfl) (fun X C => ?_)
  refine g_aload_n C (i := 0) dX3_init_0 rfl rfl ?_
  refine g_objInit C dX3_init_1 ml_X3_3 mv_objectInit mc_objectInit (by decide) (Nat.le_of_ble_eq_true rfl) ?_
  refine g_aload_n C (i := 0) dX3_init_4 rfl rfl ?_
  refine g_bipush C (10) dX3_init_5 rfl ?_
  refine b_newa_i C 10 dX3_init_7 rfl ma_int (by decide) (by decide) (by decide) (Nat.le_of_ble_eq_true rfl) (Nat.le_of_ble_eq_true rfl) ?_
  refine b_putF C (k := 7) (j := 1) (b0 := p + 8) (RX3, TX3, 5) dX3_init_9 rfl (by decide) ml_X3_9 rfl (by decide) ⟨rfl, rfl, rfl⟩ rfl ?_
  refine g_aload_n C (i := 0) dX3_init_12 rfl rfl ?_
  refine g_bipush C (10) dX3_init_13 rfl ?_
  refine b_newa_i C 10 dX3_init_15 rfl ma_int (by decide) (by decide) (by decide) (Nat.le_of_ble_eq_true rfl) (Nat.le_of_ble_eq_true rfl) ?_
  refine b_putF C (k := 7) (j := 2) (b0 := p + 9) (RX3, TX3, 5) dX3_init_17 rfl (by decide) ml_X3_15 rfl (by decide) ⟨rfl, rfl, rfl⟩ rfl ?_
  refine g_aload_n C (i := 0) dX3_init_20 rfl rfl ?_
  refine g_bipush C (10) dX3_init_21 rfl ?_
  refine b_newa_i C 10 dX3_init_23 rfl ma_int (by decide) (by decide) (by decide) (Nat.le_of_ble_eq_true rfl) (Nat.le_of_ble_eq_true rfl) ?_
  refine b_putF C (k := 7) (j := 3) (b0 := p + 10) (RX3, TX3, 5) dX3_init_25 rfl (by decide) ml_X3_18 rfl (by decide) ⟨rfl, rfl, rfl⟩ rfl ?_
  refine g_aload_n C (i := 0) dX3_init_28 rfl rfl ?_
  refine g_bipush C (10) dX3_init_29 rfl ?_
  refine b_newa_z C 10 dX3_init_31 rfl ma_boolean (by decide) (by decide) (by decide) (Nat.le_of_ble_eq_true rfl) (Nat.le_of_ble_eq_true rfl) ?_
  refine b_putF C (k := 7) (j := 4) (b0 := p + 11) (RX3, TX3, 5) dX3_init_33 rfl (by decide) ml_X3_21 rfl (by decide) ⟨rfl, rfl, rfl⟩ rfl ?_
  exact g_return C dX3_init_36 ⟨Nat.le_of_ble_eq_true rfl, Nat.le_of_ble_eq_true rfl⟩ (tkEnd.rf rfl rfl rfl)
theorem c_X2_init : tkCon false (.code yX2_init cX2_init 1 none) yX2_init 2 [.ref (p + 12)] (bM p 13 pT S R V) (reg p 13 zI I) (reg p 13 zL L) 12 192 (.inl none) (bM p 25 pT S (rU p R) V) (reg p 25 zI I) (reg p 25 zL L) := by
  refine tkCon.of (by decide) (Nat.le_of_ble_eq_true rfl) (fun X C => ?_)
  refine g_aload_n C (i := 0) dX2_init_0 rfl rfl ?_
  refine g_objInit C dX2_init_1 ml_X2_3 mv_objectInit mc_objectInit (by decide) (Nat.le_of_ble_eq_true rfl) ?_
  refine g_aload_n C (i := 0) dX2_init_4 rfl rfl ?_
  refine g_bipush C (16) dX2_init_5 rfl ?_
  refine b_newa_i C 16 dX2_init_7 rfl ma_int (by decide) (by decide) (by decide) (Nat.le_of_ble_eq_true rfl) (Nat.le_of_ble_eq_true rfl) ?_
  refine b_putF C (k := 12) (j := 1) (b0 := p + 13) (RX2, TX2, 13) dX2_init_9 rfl (by decide) ml_X2_9 rfl (by decide) ⟨rfl, rfl, rfl⟩ rfl ?_
  refine g_aload_n C (i := 0) dX2_init_12 rfl rfl ?_
  refine g_bipush C (16) dX2_init_13 rfl ?_
  refine b_newa_i C 16 dX2_init_15 rfl ma_int (by decide) (by decide) (by decide) (Nat.le_of_ble_eq_true rfl) (Nat.le_of_ble_eq_true rfl) ?_
  refine b_putF C (k := 12) (j := 2) (b0 := p + 14) (RX2, TX2, 13) dX2_init_17 rfl (by decide) ml_X2_15 rfl (by decide) ⟨rfl, rfl, rfl⟩ rfl ?_
  refine g_aload_n C (i := 0) dX2_init_20 rfl rfl ?_
  refine g_bipush C (16) dX2_init_21 rfl ?_
  refine b_newa_i C 16 dX2_init_23 rfl ma_int (by decide) (by decide) (by decide) (Nat.le_of_ble_eq_true rfl) (Nat.le_of_ble_eq_true rfl) ?_
  refine b_putF C (k := 12) (j := 3) (b0 := p + 15) (RX2, TX2, 13) dX2_init_25 rfl (by decide) ml_X2_18 rfl (by decide) ⟨rfl, rfl, rfl⟩ rfl ?_
  refine g_aload_n C (i := 0) dX2_init_28 rfl rfl ?_
  refine g_bipush C (16) dX2_init_29 rfl ?_
  refine b_newa_i C 16 dX2_init_31 rfl ma_int (by decide) (by decide) (by decide) (Nat.le_of_ble_eq_true rfl) (Nat.le_of_ble_eq_true rfl) ?_
  refine b_putF C (k := 12) (j := 4) (b0 := p + 16) (RX2, TX2, 13) dX2_init_33 rfl (by decide) ml_X2_21 rfl (by decide) ⟨rfl, rfl, rfl⟩ rfl ?_
  refine g_aload_n C (i := 0) dX2_init_36 rfl rfl ?_
  refine g_bipush C (16) dX2_init_37 rfl ?_
  refine b_newa_i C 16 dX2_init_39 rfl ma_int (by decide) (by decide) (by decide) (Nat.le_of_ble_eq_true rfl) (Nat.le_of_ble_eq_true rfl) ?_
  refine b_putF C (k := 12) (j := 5) (b0 := p + 17) (RX2, TX2, 13) dX2_init_41 rfl (by decide) ml_X2_24 rfl (by decide) ⟨rfl, rfl, rfl⟩ rfl ?_
  refine g_aload_n C (i := 0) dX2_init_44 rfl rfl ?_
  refine g_bipush C (16) dX2_init_45 rfl ?_
  refine b_newa_z C 16 dX2_init_47 rfl ma_boolean (by decide) (by decide) (by decide) (Nat.le_of_ble_eq_true rfl) (Nat.le_of_ble_eq_true rfl) ?_
  refine b_putF C (k := 12) (j := 6) (b0 := p + 18) (RX2, TX2, 13) dX2_init_49 rfl (by decide) ml_X2_27 rfl (by decide) ⟨rfl, rfl, rfl⟩ rfl ?_
  refine g_aload_n C (i := 0) dX2_init_52 rfl rfl ?_
  refine g_bipush C (16) dX2_init_53 rfl ?_
  refine b_newa_l C 16 dX2_init_55 rfl ma_long (by decide) (by decide) (by decide) (Nat.le_of_ble_eq_true rfl) (Nat.le_of_ble_eq_true rfl) ?_
  refine b_putF C (k := 12) (j := 7) (b0 := p + 19) (RX2, TX2, 13) dX2_init_57 rfl (by decide) ml_X2_31 rfl (by decide) ⟨rfl, rfl, rfl⟩ rfl ?_
  refine g_aload_n C (i := 0) dX2_init_60 rfl rfl ?_
  refine g_bipush C (16) dX2_init_61 rfl ?_
  refine b_newa_l C 16 dX2_init_63 rfl ma_long (by decide) (by decide) (by decide) (Nat.le_of_ble_eq_true rfl) (Nat.le_of_ble_eq_true rfl) ?_
  refine b_putF C (k := 12) (j := 8) (b0 := p + 20) (RX2, TX2, 13) dX2_init_65 rfl (by decide) ml_X2_35 rfl (by decide) ⟨rfl, rfl, rfl⟩ rfl ?_
  refine g_aload_n C (i := 0) dX2_init_68 rfl rfl ?_
  refine g_bipush C (16) dX2_init_69 rfl ?_
  refine b_newa_l C 16 dX2_init_71 rfl ma_long (by decide) (by decide) (by decide) (Nat.le_of_ble_eq_true rfl) (Nat.le_of_ble_eq_true rfl) ?_
  refine b_putF C (k := 12) (j := 9) (b0 := p + 21) (RX2, TX2, 13) dX2_init_73 rfl (by decide) ml_X2_38 rfl (by decide) ⟨rfl, rfl, rfl⟩ rfl ?_
  refine g_aload_n C (i := 0) dX2_init_76 rfl rfl ?_
  refine g_bipush C (16) dX2_init_77 rfl ?_
  refine b_newa_i C 16 dX2_init_79 rfl ma_int (by decide) (by decide) (by decide) (Nat.le_of_ble_eq_true rfl) (Nat.le_of_ble_eq_true rfl) ?_
  refine b_putF C (k := 12) (j := 10) (b0 := p + 22) (RX2, TX2, 13) dX2_init_81 rfl (by decide) ml_X2_41 rfl (by decide) ⟨rfl, rfl, rfl⟩ rfl ?_
  refine g_aload_n C (i := 0) dX2_init_84 rfl rfl ?_
  refine g_bipush C (16) dX2_init_85 rfl ?_
  refine b_newa_i C 16 dX2_init_87 rfl ma_int (by decide) (by decide) (by decide) (Nat.le_of_ble_eq_true rfl) (Nat.le_of_ble_eq_true rfl) ?_
  refine b_putF C (k := 12) (j := 11) (b0 := p + 23) (RX2, TX2, 13) dX2_init_89 rfl (by decide) ml_X2_44 rfl (by decide) ⟨rfl, rfl, rfl⟩ rfl ?_
  refine g_aload_n C (i := 0) dX2_init_92 rfl rfl ?_
  refine g_bipush C (16) dX2_init_93 rfl ?_
  refine b_newa_i C 16 dX2_init_95 rfl ma_int (by decide) (by decide) (by decide) (Nat.le_of_ble_eq_true rfl) (Nat.le_of_ble_eq_true rfl) ?_
  refine b_putF C (k := 12) (j := 12) (b0 := p + 24) (RX2, TX2, 13) dX2_init_97 rfl (by decide) ml_X2_47 rfl (by decide) ⟨rfl, rfl, rfl⟩ rfl ?_
  exact g_return C dX2_init_100 ⟨Nat.le_of_ble_eq_true rfl, Nat.le_of_ble_eq_true rfl⟩ (tkEnd.rf rfl rfl rfl)
theorem c_X0_init : tkCon false (.code yX0_init cX0_init 1 none) yX0_init 2 [.ref (p + 25)] (bM p 26 pT S R V) (reg p 26 zI I) (reg p 26 zL L) 2 60 (.inl none) (bM p 28 pT S (rL p R) V) (reg p 28 zI I) (reg p 28 zL L) := by
  refine tkCon.of (by decide) (Nat.le_of_ble_eq_true rfl) (fun X C => ?_)
  refine g_aload_n C (i := 0) dX0_init_0 rfl rfl ?_
  refine g_objInit C dX0_init_1 ml_X0_3 mv_objectInit mc_objectInit (by decide) (Nat.le_of_ble_eq_true rfl) ?_
  refine g_aload_n C (i := 0) dX0_init_4 rfl rfl ?_
  refine g_bipush C (30) dX0_init_5 rfl ?_
  refine b_newa_l C 30 dX0_init_7 rfl ma_long (by decide) (by decide) (by decide) (Nat.le_of_ble_eq_true rfl) (Nat.le_of_ble_eq_true rfl) ?_
  refine b_putF C (k := 25) (j := 1) (b0 := p + 26) (RX0, TX0, 3) dX0_init_9 rfl (by decide) ml_X0_9 rfl (by decide) ⟨rfl, rfl, rfl⟩ rfl ?_
  refine g_aload_n C (i := 0) dX0_init_12 rfl rfl ?_
  refine g_bipush C (30) dX0_init_13 rfl ?_
  refine b_newa_i C 30 dX0_init_15 rfl ma_int (by decide) (by decide) (by decide) (Nat.le_of_ble_eq_true rfl) (Nat.le_of_ble_eq_true rfl) ?_
  refine b_putF C (k := 25) (j := 2) (b0 := p + 27) (RX0, TX0, 3) dX0_init_17 rfl (by decide) ml_X0_15 rfl (by decide) ⟨rfl, rfl, rfl⟩ rfl ?_
  exact g_return C dX0_init_20 ⟨Nat.le_of_ble_eq_true rfl, Nat.le_of_ble_eq_true rfl⟩ (tkEnd.rf rfl rfl rfl)
theorem c_X1_init : tkCon false (.code yX1_init cX1_init 1 none) yX1_init 3 [.ref (p + 0)] (bM p 1 pT S R V) (reg p 1 zI I) (reg p 1 zL L) 27 359 (.inl none) (bM p 28 pT S (rPl p R) V) (reg p 28 zI I) (reg p 28 zL L) := by
  refine tkCon.of (by decide) (Nat.le_of_ble_eq_true rfl) (fun X C => ?_)
  refine g_aload_n C (i := 0) dX1_init_0 rfl rfl ?_
  refine g_objInit C dX1_init_1 ml_X1_1 mv_objectInit mc_objectInit (by decide) (Nat.le_of_ble_eq_true rfl) ?_
  refine g_aload_n C (i := 0) dX1_init_4 rfl rfl ?_
  refine b_new C 4 (RX4, TX4, 6) dX1_init_5 rfl ml_X1_7 mn_X4 mi_X4 rfl (Nat.le_of_ble_eq_true rfl) (Nat.le_of_ble_eq_true rfl) ?_
  refine g_dup C dX1_init_8 rfl ?_
  refine g_callIN C dX1_init_9 mm_X4_init ml_X1_9 mv_yX4_init rfl (c_X4_init) rfl ⟨by decide, Nat.le_of_ble_eq_true rfl, Nat.le_of_ble_eq_true rfl, Nat.le_of_ble_eq_true rfl⟩ (tk_retn ?_) tk_nothr
  refine b_putF C (k := 0) (j := 0) (b0 := p + 1) (RX1, TX1, 5) dX1_init_12 rfl (by decide) ml_X1_10 rfl (by decide) ⟨rfl, rfl, rfl⟩ rfl ?_
  refine g_aload_n C (i := 0) dX1_init_15 rfl rfl ?_
  refine b_new C 3 (RX3, TX3, 5) dX1_init_16 rfl ml_X1_16 mn_X3 mi_X3 rfl (Nat.le_of_ble_eq_true rfl) (Nat.le_of_ble_eq_true rfl) ?_
  refine g_dup C dX1_init_19 rfl ?_
  refine g_callIN C dX1_init_20 mm_X3_init ml_X1_18 mv_yX3_init rfl (c_X3_init) rfl ⟨by decide, Nat.le_of_ble_eq_true rfl, Nat.le_of_ble_eq_true rfl, Nat.le_of_ble_eq_true rfl⟩ (tk_retn ?_) tk_nothr
  refine b_putF C (k := 0) (j := 1) (b0 := p + 7) (RX1, TX1, 5) dX1_init_23 rfl (by decide) ml_X1_19 rfl (by decide) ⟨rfl, rfl, rfl⟩ rfl ?_
  refine g_aload_n C (i := 0) dX1_init_26 rfl rfl ?_
  refine b_new C 2 (RX2, TX2, 13) dX1_init_27 rfl ml_X1_23 mn_X2 mi_X2 rfl (Nat.le_of_ble_eq_true rfl) (Nat.le_of_ble_eq_true rfl) ?_
  refine g_dup C dX1_init_30 rfl ?_
  refine g_callIN C dX1_init_31 mm_X2_init ml_X1_25 mv_yX2_init rfl (c_X2_init) rfl ⟨by decide, Nat.le_of_ble_eq_true rfl, Nat.le_of_ble_eq_true rfl, Nat.le_of_ble_eq_true rfl⟩ (tk_retn ?_) tk_nothr
  refine b_putF C (k := 0) (j := 2) (b0 := p + 12) (RX1, TX1, 5) dX1_init_34 rfl (by decide) ml_X1_26 rfl (by decide) ⟨rfl, rfl, rfl⟩ rfl ?_
  refine g_aload_n C (i := 0) dX1_init_37 rfl rfl ?_
  refine b_new C 0 (RX0, TX0, 3) dX1_init_38 rfl ml_X1_30 mn_X0 mi_X0 rfl (Nat.le_of_ble_eq_true rfl) (Nat.le_of_ble_eq_true rfl) ?_
  refine g_dup C dX1_init_41 rfl ?_
  refine g_callIN C dX1_init_42 mm_X0_init ml_X1_32 mv_yX0_init rfl (c_X0_init) rfl ⟨by decide, Nat.le_of_ble_eq_true rfl, Nat.le_of_ble_eq_true rfl, Nat.le_of_ble_eq_true rfl⟩ (tk_retn ?_) tk_nothr
  refine b_putF C (k := 0) (j := 3) (b0 := p + 25) (RX1, TX1, 5) dX1_init_45 rfl (by decide) ml_X1_33 rfl (by decide) ⟨rfl, rfl, rfl⟩ rfl ?_
  exact g_return C dX1_init_48 ⟨Nat.le_of_ble_eq_true rfl, Nat.le_of_ble_eq_true rfl⟩ (tkEnd.rf rfl rfl rfl)
end TKINIT
end
section
section TKNEED
variable {σ : tkM} {p x t dd : Nat} {I0 v : tkI} {L0 w : tkL}
/-- the program's object: its plant, its trial, its depots -/
def tkTP (σ : tkM) (x p t dd : Nat) : Prop := σ.2.1 x = (5, 0) ∧ σ.2.2 x 0 = some p ∧ σ.2.2 x 1 = some t ∧ σ.2.2 x 2 = some dd
abbrev bad (x a b : Int32) : Prop := x < a ∨ b < x
theorem jwith_bad {x a b : Int32} (h : bad x a b) : jwith x a b = 0 := by
  unfold jwith
  split
  · rfl
  · rename_i h1
    rw [if_pos (h.resolve_left h1)]
theorem jwith_ok {x a b : Int32} (h : ¬ bad x a b) : jwith x a b = 1 := by
  unfold jwith
  rw [if_neg (fun z => h (Or.inl z)), if_neg (fun z => h (Or.inr z))]
theorem jwith_z {x a b : Int32} (h : jwith x a b = 0) : bad x a b := Decidable.byContradiction fun z => by rw [jwith_ok z] at h; exact absurd h (by decide)
theorem jwith_nz {x a b : Int32} (h : ¬ jwith x a b = 0) : ¬ bad x a b := fun z => h (jwith_bad z)
abbrev xIAE : tkOut := .inr "java/lang/IllegalArgumentException"
abbrev xISE : tkOut := .inr "java/lang/IllegalStateException"
abbrev xIOB : tkOut := .inr "java/lang/IndexOutOfBoundsException"
theorem c_X5_needTank_ok (hX : tkTP σ x p t dd) (hP : tkReg 28 pT pF σ p) (i : Int32) (h : ¬ bad i 0 (I0 1 0 - 1)) :
    tkCon false (.code yX5_needTank cX5_needTank 2 none) yX5_needTank 7 [.ref x, .int i] σ (reg p 28 I0 v) (reg p 28 L0 w) 0 0 (.inl none) σ (reg p 28 I0 v) (reg p 28 L0 w) := by
  refine tkCon.of (by decide) (Nat.le_of_ble_eq_true rfl) (fun X C => ?_)
  refine g_iload_n C (i := 1) dX5_needTank_0 rfl rfl ?_
  refine g_iconst C (0) dX5_needTank_1 rfl ?_
  refine g_aload_n C (i := 0) dX5_needTank_2 rfl rfl ?_
  refine g_getR C 5 0 (RX5, TX5, 4) dX5_needTank_3 hX.1 hX.2.1 ml_X5_10 rfl (by decide) rfl ?_
  refine g_getR C 1 0 (RX1, TX1, 5) dX5_needTank_6 (hP.1 0 (by decide)) (hP.2 0 0 1 (by decide) rfl) ml_X5_47 rfl (by decide) rfl ?_
  refine g_getI C 4 0 (RX4, TX4, 6) dX5_needTank_9 (hP.1 1 (by decide)) (reg_at (k := 1) (by decide)) ml_X5_51 rfl (by decide) (Or.inl rfl) ?_
  refine g_iconst C (1) dX5_needTank_12 rfl ?_
  refine g_isub C dX5_needTank_13 ?_
  refine g_callS C dX5_needTank_14 mm_X5_isWithin ml_X5_28 mt_yX5_isWithin (c_X5_isWithin _ _ _) rfl ⟨by decide, Nat.le_of_ble_eq_true rfl, Nat.le_of_ble_eq_true rfl, Nat.le_of_ble_eq_true rfl⟩ (tk_retv ?_) tk_nothr
  refine g_if_ne C 30 dX5_needTank_17 (by decide) (fun h17 => ?_) (fun h17 => ?_)
  · exact g_return C dX5_needTank_30 ⟨Nat.le_of_ble_eq_true rfl, Nat.le_of_ble_eq_true rfl⟩ (tkEnd.rf rfl rfl rfl)
  · exact absurd (jwith_z h17) h
theorem c_X5_needSwitch_ok (hX : tkTP σ x p t dd) (hP : tkReg 28 pT pF σ p) (i : Int32) (h : ¬ bad i 0 (I0 7 0 - 1)) :
    tkCon false (.code yX5_needSwitch cX5_needSwitch 2 none) yX5_needSwitch 7 [.ref x, .int i] σ (reg p 28 I0 v) (reg p 28 L0 w) 0 0 (.inl none) σ (reg p 28 I0 v) (reg p 28 L0 w) := by
  refine tkCon.of (by decide) (Nat.le_of_ble_eq_true rfl) (fun X C => ?_)
  refine g_iload_n C (i := 1) dX5_needSwitch_0 rfl rfl ?_
  refine g_iconst C (0) dX5_needSwitch_1 rfl ?_
  refine g_aload_n C (i := 0) dX5_needSwitch_2 rfl rfl ?_
  refine g_getR C 5 0 (RX5, TX5, 4) dX5_needSwitch_3 hX.1 hX.2.1 ml_X5_10 rfl (by decide) rfl ?_
  refine g_getR C 1 1 (RX1, TX1, 5) dX5_needSwitch_6 (hP.1 0 (by decide)) (hP.2 0 1 7 (by decide) rfl) ml_X5_74 rfl (by decide) rfl ?_
  refine g_getI C 3 0 (RX3, TX3, 5) dX5_needSwitch_9 (hP.1 7 (by decide)) (reg_at (k := 7) (by decide)) ml_X5_78 rfl (by decide) (Or.inl rfl) ?_
  refine g_iconst C (1) dX5_needSwitch_12 rfl ?_
  refine g_isub C dX5_needSwitch_13 ?_
  refine g_callS C dX5_needSwitch_14 mm_X5_isWithin ml_X5_28 mt_yX5_isWithin (c_X5_isWithin _ _ _) rfl ⟨by decide, Nat.le_of_ble_eq_true rfl, Nat.le_of_ble_eq_true rfl, Nat.le_of_ble_eq_true rfl⟩ (tk_retv ?_) tk_nothr
  refine g_if_ne C 30 dX5_needSwitch_17 (by decide) (fun h17 => ?_) (fun h17 => ?_)
  · exact g_return C dX5_needSwitch_30 ⟨Nat.le_of_ble_eq_true rfl, Nat.le_of_ble_eq_true rfl⟩ (tkEnd.rf rfl rfl rfl)
  · exact absurd (jwith_z h17) h
theorem c_X5_needPump_ok (hX : tkTP σ x p t dd) (hP : tkReg 28 pT pF σ p) (i : Int32) (h : ¬ bad i 0 (I0 12 0 - 1)) :
    tkCon false (.code yX5_needPump cX5_needPump 2 none) yX5_needPump 7 [.ref x, .int i] σ (reg p 28 I0 v) (reg p 28 L0 w) 0 0 (.inl none) σ (reg p 28 I0 v) (reg p 28 L0 w) := by
  refine tkCon.of (by decide) (Nat.le_of_ble_eq_true rfl) (fun X C => ?_)
  refine g_iload_n C (i := 1) dX5_needPump_0 rfl rfl ?_
  refine g_iconst C (0) dX5_needPump_1 rfl ?_
  refine g_aload_n C (i := 0) dX5_needPump_2 rfl rfl ?_
  refine g_getR C 5 0 (RX5, TX5, 4) dX5_needPump_3 hX.1 hX.2.1 ml_X5_10 rfl (by decide) rfl ?_
  refine g_getR C 1 2 (RX1, TX1, 5) dX5_needPump_6 (hP.1 0 (by decide)) (hP.2 0 2 12 (by decide) rfl) ml_X5_97 rfl (by decide) rfl ?_
  refine g_getI C 2 0 (RX2, TX2, 13) dX5_needPump_9 (hP.1 12 (by decide)) (reg_at (k := 12) (by decide)) ml_X5_101 rfl (by decide) (Or.inl rfl) ?_
  refine g_iconst C (1) dX5_needPump_12 rfl ?_
  refine g_isub C dX5_needPump_13 ?_
  refine g_callS C dX5_needPump_14 mm_X5_isWithin ml_X5_28 mt_yX5_isWithin (c_X5_isWithin _ _ _) rfl ⟨by decide, Nat.le_of_ble_eq_true rfl, Nat.le_of_ble_eq_true rfl, Nat.le_of_ble_eq_true rfl⟩ (tk_retv ?_) tk_nothr
  refine g_if_ne C 30 dX5_needPump_17 (by decide) (fun h17 => ?_) (fun h17 => ?_)
  · exact g_return C dX5_needPump_30 ⟨Nat.le_of_ble_eq_true rfl, Nat.le_of_ble_eq_true rfl⟩ (tkEnd.rf rfl rfl rfl)
  · exact absurd (jwith_z h17) h
theorem c_X5_needAmount_ok  (a b : Int32) (h : ¬ bad a 0 b) :
    tkCon false (.code yX5_needAmount cX5_needAmount 2 none) yX5_needAmount 7 [.int a, .int b] σ (reg p 28 I0 v) (reg p 28 L0 w) 0 0 (.inl none) σ (reg p 28 I0 v) (reg p 28 L0 w) := by
  refine tkCon.of (by decide) (Nat.le_of_ble_eq_true rfl) (fun X C => ?_)
  refine g_iload_n C (i := 0) dX5_needAmount_0 rfl rfl ?_
  refine g_iconst C (0) dX5_needAmount_1 rfl ?_
  refine g_iload_n C (i := 1) dX5_needAmount_2 rfl rfl ?_
  refine g_callS C dX5_needAmount_3 mm_X5_isWithin ml_X5_28 mt_yX5_isWithin (c_X5_isWithin _ _ _) rfl ⟨by decide, Nat.le_of_ble_eq_true rfl, Nat.le_of_ble_eq_true rfl, Nat.le_of_ble_eq_true rfl⟩ (tk_retv ?_) tk_nothr
  refine g_if_ne C 19 dX5_needAmount_6 (by decide) (fun h6 => ?_) (fun h6 => ?_)
  · exact g_return C dX5_needAmount_19 ⟨Nat.le_of_ble_eq_true rfl, Nat.le_of_ble_eq_true rfl⟩ (tkEnd.rf rfl rfl rfl)
  · exact absurd (jwith_z h6) h
theorem c_X5_needLeak_ok  (a : Int32) (h : ¬ bad a 0 1000000) :
    tkCon false (.code yX5_needLeak cX5_needLeak 1 none) yX5_needLeak 7 [.int a] σ (reg p 28 I0 v) (reg p 28 L0 w) 0 0 (.inl none) σ (reg p 28 I0 v) (reg p 28 L0 w) := by
  refine tkCon.of (by decide) (Nat.le_of_ble_eq_true rfl) (fun X C => ?_)
  refine g_iload_n C (i := 0) dX5_needLeak_0 rfl rfl ?_
  refine g_iconst C (0) dX5_needLeak_1 rfl ?_
  refine g_ldc C (1000000) dX5_needLeak_2 ml_X5_220 ?_
  refine g_callS C dX5_needLeak_4 mm_X5_isWithin ml_X5_28 mt_yX5_isWithin (c_X5_isWithin _ _ _) rfl ⟨by decide, Nat.le_of_ble_eq_true rfl, Nat.le_of_ble_eq_true rfl, Nat.le_of_ble_eq_true rfl⟩ (tk_retv ?_) tk_nothr
  refine g_if_ne C 20 dX5_needLeak_7 (by decide) (fun h7 => ?_) (fun h7 => ?_)
  · exact g_return C dX5_needLeak_20 ⟨Nat.le_of_ble_eq_true rfl, Nat.le_of_ble_eq_true rfl⟩ (tkEnd.rf rfl rfl rfl)
  · exact absurd (jwith_z h7) h
theorem c_X5_needRate_ok  (a : Int32) (h : ¬ bad a 1 1000000) :
    tkCon false (.code yX5_needRate cX5_needRate 1 none) yX5_needRate 7 [.int a] σ (reg p 28 I0 v) (reg p 28 L0 w) 0 0 (.inl none) σ (reg p 28 I0 v) (reg p 28 L0 w) := by
  refine tkCon.of (by decide) (Nat.le_of_ble_eq_true rfl) (fun X C => ?_)
  refine g_iload_n C (i := 0) dX5_needRate_0 rfl rfl ?_
  refine g_iconst C (1) dX5_needRate_1 rfl ?_
  refine g_ldc C (1000000) dX5_needRate_2 ml_X5_220 ?_
  refine g_callS C dX5_needRate_4 mm_X5_isWithin ml_X5_28 mt_yX5_isWithin (c_X5_isWithin _ _ _) rfl ⟨by decide, Nat.le_of_ble_eq_true rfl, Nat.le_of_ble_eq_true rfl, Nat.le_of_ble_eq_true rfl⟩ (tk_retv ?_) tk_nothr
  refine g_if_ne C 20 dX5_needRate_7 (by decide) (fun h7 => ?_) (fun h7 => ?_)
  · exact g_return C dX5_needRate_20 ⟨Nat.le_of_ble_eq_true rfl, Nat.le_of_ble_eq_true rfl⟩ (tkEnd.rf rfl rfl rfl)
  · exact absurd (jwith_z h7) h
theorem c_X5_needTicks_ok  (a b : Int32) (h : ¬ bad a b 5000) :
    tkCon false (.code yX5_needTicks cX5_needTicks 2 none) yX5_needTicks 7 [.int a, .int b] σ (reg p 28 I0 v) (reg p 28 L0 w) 0 0 (.inl none) σ (reg p 28 I0 v) (reg p 28 L0 w) := by
  refine tkCon.of (by decide) (Nat.le_of_ble_eq_true rfl) (fun X C => ?_)
  refine g_iload_n C (i := 0) dX5_needTicks_0 rfl rfl ?_
  refine g_iload_n C (i := 1) dX5_needTicks_1 rfl rfl ?_
  refine g_sipush C (5000) dX5_needTicks_2 rfl ?_
  refine g_callS C dX5_needTicks_5 mm_X5_isWithin ml_X5_28 mt_yX5_isWithin (c_X5_isWithin _ _ _) rfl ⟨by decide, Nat.le_of_ble_eq_true rfl, Nat.le_of_ble_eq_true rfl, Nat.le_of_ble_eq_true rfl⟩ (tk_retv ?_) tk_nothr
  refine g_if_ne C 21 dX5_needTicks_8 (by decide) (fun h8 => ?_) (fun h8 => ?_)
  · exact g_return C dX5_needTicks_21 ⟨Nat.le_of_ble_eq_true rfl, Nat.le_of_ble_eq_true rfl⟩ (tkEnd.rf rfl rfl rfl)
  · exact absurd (jwith_z h8) h
abbrev badE (i : Int32) (I : tkI) : Prop := ¬ i = -1 ∧ bad i 0 (I 1 0 - 1)
theorem c_X5_needTankOrOutside_ok (hX : tkTP σ x p t dd) (hP : tkReg 28 pT pF σ p) (i : Int32) (h : ¬ badE i I0) :
    tkCon false (.code yX5_needTankOrOutside cX5_needTankOrOutside 2 none) yX5_needTankOrOutside 8 [.ref x, .int i] σ (reg p 28 I0 v) (reg p 28 L0 w) 0 0 (.inl none) σ (reg p 28 I0 v) (reg p 28 L0 w) := by
  refine tkCon.of (by decide) (Nat.le_of_ble_eq_true rfl) (fun X C => ?_)
  refine g_iload_n C (i := 1) dX5_needTankOrOutside_0 rfl rfl ?_
  refine g_iconst C (-1) dX5_needTankOrOutside_1 rfl ?_
  refine g_icmp_eq C 10 dX5_needTankOrOutside_2 (by decide) (fun h2 => ?_) (fun h2 => ?_)
  · exact g_return C dX5_needTankOrOutside_10 ⟨Nat.le_of_ble_eq_true rfl, Nat.le_of_ble_eq_true rfl⟩ (tkEnd.rf rfl rfl rfl)
  · refine g_aload_n C (i := 0) dX5_needTankOrOutside_5 rfl rfl ?_
    refine g_iload_n C (i := 1) dX5_needTankOrOutside_6 rfl rfl ?_
    refine g_callV C (q := (RX5, TX5, 4)) (rest := _) dX5_needTankOrOutside_7 mm_X5_needTank ml_X5_65 mv_yX5_needTank ms_yX5_needTank (c_X5_needTank_ok hX hP i (fun z => h ⟨h2, z⟩)) rfl hX.1 rfl rfl ⟨by decide, Nat.le_of_ble_eq_true rfl, Nat.le_of_ble_eq_true rfl, Nat.le_of_ble_eq_true rfl⟩ (tk_retn ?_) tk_nothr
    exact g_return C dX5_needTankOrOutside_10 ⟨Nat.le_of_ble_eq_true rfl, Nat.le_of_ble_eq_true rfl⟩ (tkEnd.rf rfl rfl rfl)
end TKNEED
end
section
section TKAPI
variable {σ : tkM} {x p t dd : Nat} {I0 v : tkI} {L0 w : tkL}
theorem not_bad {n j : Nat} (hn : n < 2 ^ 30) (h : j < n) : ¬ bad (nI j) 0 (nI n - 1) := by
  rintro (z | z)
  · exact nI_pos (by omega) z
  · rw [Int32.lt_iff_toInt_lt, show (1 : Int32) = nI 1 from rfl, pk_sub_toInt hn (by omega), nI_toInt (by omega)] at z
    omega
theorem o_time (hX : tkTP σ x p t dd) (hP : tkReg 28 pT pF σ p) :
    tkCon false (.code yX5_time cX5_time 1 (some .long)) yX5_time 8 [.ref x] σ (reg p 28 I0 v) (reg p 28 L0 w) 0 0 (.inl (some (.long (L0 0 4)))) σ (reg p 28 I0 v) (reg p 28 L0 w) := by
  refine tkCon.of (by decide) (Nat.le_of_ble_eq_true rfl) (fun X C => ?_)
  refine g_aload_n C (i := 0) dX5_time_0 rfl rfl ?_
  refine g_getR C 5 0 (RX5, TX5, 4) dX5_time_1 hX.1 hX.2.1 ml_X5_10 rfl (by decide) rfl ?_
  refine g_getL C 1 4 (RX1, TX1, 5) dX5_time_4 (hP.1 0 (by decide)) (reg_at (k := 0) (by decide)) ml_X5_139 rfl (by decide) rfl ?_
  exact g_lreturn C dX5_time_7 ⟨Nat.le_of_ble_eq_true rfl, Nat.le_of_ble_eq_true rfl⟩ (tkEnd.rf rfl rfl rfl)
theorem o_changeCount (hX : tkTP σ x p t dd) (hP : tkReg 28 pT pF σ p) :
    tkCon false (.code yX5_changeCount cX5_changeCount 1 (some .long)) yX5_changeCount 8 [.ref x] σ (reg p 28 I0 v) (reg p 28 L0 w) 0 0 (.inl (some (.long (L0 25 0)))) σ (reg p 28 I0 v) (reg p 28 L0 w) := by
  refine tkCon.of (by decide) (Nat.le_of_ble_eq_true rfl) (fun X C => ?_)
  refine g_aload_n C (i := 0) dX5_changeCount_0 rfl rfl ?_
  refine g_getR C 5 0 (RX5, TX5, 4) dX5_changeCount_1 hX.1 hX.2.1 ml_X5_10 rfl (by decide) rfl ?_
  refine g_getR C 1 3 (RX1, TX1, 5) dX5_changeCount_4 (hP.1 0 (by decide)) (hP.2 0 3 25 (by decide) rfl) ml_X5_167 rfl (by decide) rfl ?_
  refine g_getL C 0 0 (RX0, TX0, 3) dX5_changeCount_7 (hP.1 25 (by decide)) (reg_at (k := 25) (by decide)) ml_X5_171 rfl (by decide) rfl ?_
  exact g_lreturn C dX5_changeCount_10 ⟨Nat.le_of_ble_eq_true rfl, Nat.le_of_ble_eq_true rfl⟩ (tkEnd.rf rfl rfl rfl)
theorem o_level (hX : tkTP σ x p t dd) (hP : tkReg 28 pT pF σ p) {n j : Nat} (hW : wTk I0 n) (hj : j < n) :
    tkCon false (.code yX5_level cX5_level 2 (some .int)) yX5_level 8 [.ref x, .int (nI j)] σ (reg p 28 I0 v) (reg p 28 L0 w) 0 0 (.inl (some (.int (I0 3 j)))) σ (reg p 28 I0 v) (reg p 28 L0 w) := by
  refine tkCon.of (by decide) (Nat.le_of_ble_eq_true rfl) (fun X C => ?_)
  have hn9 := hW.2
  have h : ¬ bad (nI j) 0 (I0 1 0 - 1) := by rw [hW.1]; exact not_bad (by omega) hj
  refine g_aload_n C (i := 0) dX5_level_0 rfl rfl ?_
  refine g_iload_n C (i := 1) dX5_level_1 rfl rfl ?_
  refine g_callV C (q := (RX5, TX5, 4)) (rest := _) dX5_level_2 mm_X5_needTank ml_X5_65 mv_yX5_needTank ms_yX5_needTank (c_X5_needTank_ok hX hP _ h) rfl hX.1 rfl rfl ⟨by decide, Nat.le_of_ble_eq_true rfl, Nat.le_of_ble_eq_true rfl, Nat.le_of_ble_eq_true rfl⟩ (tk_retn ?_) tk_nothr
  refine g_aload_n C (i := 0) dX5_level_5 rfl rfl ?_
  refine g_getR C 5 0 (RX5, TX5, 4) dX5_level_6 hX.1 hX.2.1 ml_X5_10 rfl (by decide) rfl ?_
  refine g_getR C 1 0 (RX1, TX1, 5) dX5_level_9 (hP.1 0 (by decide)) (hP.2 0 0 1 (by decide) rfl) ml_X5_47 rfl (by decide) rfl ?_
  refine g_getR C 4 2 (RX4, TX4, 6) dX5_level_12 (hP.1 1 (by decide)) (hP.2 1 2 3 (by decide) rfl) ml_X5_109 rfl (by decide) rfl ?_
  refine g_iload_n C (i := 1) dX5_level_15 rfl rfl ?_
  refine g_ia C dX5_level_16 (hP.1 3 (by decide)) (reg_at (k := 3) (by decide)) rfl (by omega) (by decide) ?_
  exact g_ireturn C dX5_level_17 ⟨Nat.le_of_ble_eq_true rfl, Nat.le_of_ble_eq_true rfl⟩ (tkEnd.rf rfl rfl rfl)
theorem o_levelSum (hX : tkTP σ x p t dd) (hP : tkReg 28 pT pF σ p) {n j : Nat} (hW : wTk I0 n) (hj : j < n) :
    tkCon false (.code yX5_levelSum cX5_levelSum 2 (some .long)) yX5_levelSum 8 [.ref x, .int (nI j)] σ (reg p 28 I0 v) (reg p 28 L0 w) 0 0 (.inl (some (.long (L0 5 j)))) σ (reg p 28 I0 v) (reg p 28 L0 w) := by
  refine tkCon.of (by decide) (Nat.le_of_ble_eq_true rfl) (fun X C => ?_)
  have hn9 := hW.2
  have h : ¬ bad (nI j) 0 (I0 1 0 - 1) := by rw [hW.1]; exact not_bad (by omega) hj
  refine g_aload_n C (i := 0) dX5_levelSum_0 rfl rfl ?_
  refine g_iload_n C (i := 1) dX5_levelSum_1 rfl rfl ?_
  refine g_callV C (q := (RX5, TX5, 4)) (rest := _) dX5_levelSum_2 mm_X5_needTank ml_X5_65 mv_yX5_needTank ms_yX5_needTank (c_X5_needTank_ok hX hP _ h) rfl hX.1 rfl rfl ⟨by decide, Nat.le_of_ble_eq_true rfl, Nat.le_of_ble_eq_true rfl, Nat.le_of_ble_eq_true rfl⟩ (tk_retn ?_) tk_nothr
  refine g_aload_n C (i := 0) dX5_levelSum_5 rfl rfl ?_
  refine g_getR C 5 0 (RX5, TX5, 4) dX5_levelSum_6 hX.1 hX.2.1 ml_X5_10 rfl (by decide) rfl ?_
  refine g_getR C 1 0 (RX1, TX1, 5) dX5_levelSum_9 (hP.1 0 (by decide)) (hP.2 0 0 1 (by decide) rfl) ml_X5_47 rfl (by decide) rfl ?_
  refine g_getR C 4 4 (RX4, TX4, 6) dX5_levelSum_12 (hP.1 1 (by decide)) (hP.2 1 4 5 (by decide) rfl) ml_X5_143 rfl (by decide) rfl ?_
  refine g_iload_n C (i := 1) dX5_levelSum_15 rfl rfl ?_
  refine g_la C dX5_levelSum_16 (hP.1 5 (by decide)) (reg_at (k := 5) (by decide)) rfl (by omega) (by decide) ?_
  exact g_lreturn C dX5_levelSum_17 ⟨Nat.le_of_ble_eq_true rfl, Nat.le_of_ble_eq_true rfl⟩ (tkEnd.rf rfl rfl rfl)
theorem o_isOn (hX : tkTP σ x p t dd) (hP : tkReg 28 pT pF σ p) {n j : Nat} (hW : wSw I0 n) (hj : j < n) :
    tkCon false (.code yX5_isOn cX5_isOn 2 (some .boolean)) yX5_isOn 8 [.ref x, .int (nI j)] σ (reg p 28 I0 v) (reg p 28 L0 w) 0 0 (.inl (some (.int (I0 11 j)))) σ (reg p 28 I0 v) (reg p 28 L0 w) := by
  refine tkCon.of (by decide) (Nat.le_of_ble_eq_true rfl) (fun X C => ?_)
  have hn9 := hW.2.1
  have h : ¬ bad (nI j) 0 (I0 7 0 - 1) := by rw [hW.1]; exact not_bad (by omega) hj
  refine g_aload_n C (i := 0) dX5_isOn_0 rfl rfl ?_
  refine g_iload_n C (i := 1) dX5_isOn_1 rfl rfl ?_
  refine g_callV C (q := (RX5, TX5, 4)) (rest := _) dX5_isOn_2 mm_X5_needSwitch ml_X5_87 mv_yX5_needSwitch ms_yX5_needSwitch (c_X5_needSwitch_ok hX hP _ h) rfl hX.1 rfl rfl ⟨by decide, Nat.le_of_ble_eq_true rfl, Nat.le_of_ble_eq_true rfl, Nat.le_of_ble_eq_true rfl⟩ (tk_retn ?_) tk_nothr
  refine g_aload_n C (i := 0) dX5_isOn_5 rfl rfl ?_
  refine g_getR C 5 0 (RX5, TX5, 4) dX5_isOn_6 hX.1 hX.2.1 ml_X5_10 rfl (by decide) rfl ?_
  refine g_getR C 1 1 (RX1, TX1, 5) dX5_isOn_9 (hP.1 0 (by decide)) (hP.2 0 1 7 (by decide) rfl) ml_X5_74 rfl (by decide) rfl ?_
  refine g_getR C 3 4 (RX3, TX3, 5) dX5_isOn_12 (hP.1 7 (by decide)) (hP.2 7 4 11 (by decide) rfl) ml_X5_147 rfl (by decide) rfl ?_
  refine g_iload_n C (i := 1) dX5_isOn_15 rfl rfl ?_
  refine g_za C dX5_isOn_16 (hP.1 11 (by decide)) (reg_at (k := 11) (by decide)) rfl (by omega) (by decide) (fun _ => ?_)
  exact g_zreturn C dX5_isOn_17 ⟨Nat.le_of_ble_eq_true rfl, Nat.le_of_ble_eq_true rfl⟩ (by first | assumption | exact Or.inl rfl | exact Or.inr rfl) (tkEnd.rf rfl rfl rfl)
theorem o_total (hX : tkTP σ x p t dd) (hP : tkReg 28 pT pF σ p) {n j : Nat} (hW : wPu I0 n) (hj : j < n) :
    tkCon false (.code yX5_total cX5_total 2 (some .long)) yX5_total 8 [.ref x, .int (nI j)] σ (reg p 28 I0 v) (reg p 28 L0 w) 0 0 (.inl (some (.long (L0 19 j)))) σ (reg p 28 I0 v) (reg p 28 L0 w) := by
  refine tkCon.of (by decide) (Nat.le_of_ble_eq_true rfl) (fun X C => ?_)
  have hn9 := hW.2.1
  have h : ¬ bad (nI j) 0 (I0 12 0 - 1) := by rw [hW.1]; exact not_bad (by omega) hj
  refine g_aload_n C (i := 0) dX5_total_0 rfl rfl ?_
  refine g_iload_n C (i := 1) dX5_total_1 rfl rfl ?_
  refine g_callV C (q := (RX5, TX5, 4)) (rest := _) dX5_total_2 mm_X5_needPump ml_X5_115 mv_yX5_needPump ms_yX5_needPump (c_X5_needPump_ok hX hP _ h) rfl hX.1 rfl rfl ⟨by decide, Nat.le_of_ble_eq_true rfl, Nat.le_of_ble_eq_true rfl, Nat.le_of_ble_eq_true rfl⟩ (tk_retn ?_) tk_nothr
  refine g_aload_n C (i := 0) dX5_total_5 rfl rfl ?_
  refine g_getR C 5 0 (RX5, TX5, 4) dX5_total_6 hX.1 hX.2.1 ml_X5_10 rfl (by decide) rfl ?_
  refine g_getR C 1 2 (RX1, TX1, 5) dX5_total_9 (hP.1 0 (by decide)) (hP.2 0 2 12 (by decide) rfl) ml_X5_97 rfl (by decide) rfl ?_
  refine g_getR C 2 7 (RX2, TX2, 13) dX5_total_12 (hP.1 12 (by decide)) (hP.2 12 7 19 (by decide) rfl) ml_X5_151 rfl (by decide) rfl ?_
  refine g_iload_n C (i := 1) dX5_total_15 rfl rfl ?_
  refine g_la C dX5_total_16 (hP.1 19 (by decide)) (reg_at (k := 19) (by decide)) rfl (by omega) (by decide) ?_
  exact g_lreturn C dX5_total_17 ⟨Nat.le_of_ble_eq_true rfl, Nat.le_of_ble_eq_true rfl⟩ (tkEnd.rf rfl rfl rfl)
theorem o_energy (hX : tkTP σ x p t dd) (hP : tkReg 28 pT pF σ p) {n j : Nat} (hW : wPu I0 n) (hj : j < n) :
    tkCon false (.code yX5_energy cX5_energy 2 (some .long)) yX5_energy 8 [.ref x, .int (nI j)] σ (reg p 28 I0 v) (reg p 28 L0 w) 0 0 (.inl (some (.long (L0 20 j)))) σ (reg p 28 I0 v) (reg p 28 L0 w) := by
  refine tkCon.of (by decide) (Nat.le_of_ble_eq_true rfl) (fun X C => ?_)
  have hn9 := hW.2.1
  have h : ¬ bad (nI j) 0 (I0 12 0 - 1) := by rw [hW.1]; exact not_bad (by omega) hj
  refine g_aload_n C (i := 0) dX5_energy_0 rfl rfl ?_
  refine g_iload_n C (i := 1) dX5_energy_1 rfl rfl ?_
  refine g_callV C (q := (RX5, TX5, 4)) (rest := _) dX5_energy_2 mm_X5_needPump ml_X5_115 mv_yX5_needPump ms_yX5_needPump (c_X5_needPump_ok hX hP _ h) rfl hX.1 rfl rfl ⟨by decide, Nat.le_of_ble_eq_true rfl, Nat.le_of_ble_eq_true rfl, Nat.le_of_ble_eq_true rfl⟩ (tk_retn ?_) tk_nothr
  refine g_aload_n C (i := 0) dX5_energy_5 rfl rfl ?_
  refine g_getR C 5 0 (RX5, TX5, 4) dX5_energy_6 hX.1 hX.2.1 ml_X5_10 rfl (by decide) rfl ?_
  refine g_getR C 1 2 (RX1, TX1, 5) dX5_energy_9 (hP.1 0 (by decide)) (hP.2 0 2 12 (by decide) rfl) ml_X5_97 rfl (by decide) rfl ?_
  refine g_getR C 2 8 (RX2, TX2, 13) dX5_energy_12 (hP.1 12 (by decide)) (hP.2 12 8 20 (by decide) rfl) ml_X5_154 rfl (by decide) rfl ?_
  refine g_iload_n C (i := 1) dX5_energy_15 rfl rfl ?_
  refine g_la C dX5_energy_16 (hP.1 20 (by decide)) (reg_at (k := 20) (by decide)) rfl (by omega) (by decide) ?_
  exact g_lreturn C dX5_energy_17 ⟨Nat.le_of_ble_eq_true rfl, Nat.le_of_ble_eq_true rfl⟩ (tkEnd.rf rfl rfl rfl)
theorem o_shortTicks (hX : tkTP σ x p t dd) (hP : tkReg 28 pT pF σ p) {n j : Nat} (hW : wPu I0 n) (hj : j < n) :
    tkCon false (.code yX5_shortTicks cX5_shortTicks 2 (some .long)) yX5_shortTicks 8 [.ref x, .int (nI j)] σ (reg p 28 I0 v) (reg p 28 L0 w) 0 0 (.inl (some (.long (L0 21 j)))) σ (reg p 28 I0 v) (reg p 28 L0 w) := by
  refine tkCon.of (by decide) (Nat.le_of_ble_eq_true rfl) (fun X C => ?_)
  have hn9 := hW.2.1
  have h : ¬ bad (nI j) 0 (I0 12 0 - 1) := by rw [hW.1]; exact not_bad (by omega) hj
  refine g_aload_n C (i := 0) dX5_shortTicks_0 rfl rfl ?_
  refine g_iload_n C (i := 1) dX5_shortTicks_1 rfl rfl ?_
  refine g_callV C (q := (RX5, TX5, 4)) (rest := _) dX5_shortTicks_2 mm_X5_needPump ml_X5_115 mv_yX5_needPump ms_yX5_needPump (c_X5_needPump_ok hX hP _ h) rfl hX.1 rfl rfl ⟨by decide, Nat.le_of_ble_eq_true rfl, Nat.le_of_ble_eq_true rfl, Nat.le_of_ble_eq_true rfl⟩ (tk_retn ?_) tk_nothr
  refine g_aload_n C (i := 0) dX5_shortTicks_5 rfl rfl ?_
  refine g_getR C 5 0 (RX5, TX5, 4) dX5_shortTicks_6 hX.1 hX.2.1 ml_X5_10 rfl (by decide) rfl ?_
  refine g_getR C 1 2 (RX1, TX1, 5) dX5_shortTicks_9 (hP.1 0 (by decide)) (hP.2 0 2 12 (by decide) rfl) ml_X5_97 rfl (by decide) rfl ?_
  refine g_getR C 2 9 (RX2, TX2, 13) dX5_shortTicks_12 (hP.1 12 (by decide)) (hP.2 12 9 21 (by decide) rfl) ml_X5_157 rfl (by decide) rfl ?_
  refine g_iload_n C (i := 1) dX5_shortTicks_15 rfl rfl ?_
  refine g_la C dX5_shortTicks_16 (hP.1 21 (by decide)) (reg_at (k := 21) (by decide)) rfl (by omega) (by decide) ?_
  exact g_lreturn C dX5_shortTicks_17 ⟨Nat.le_of_ble_eq_true rfl, Nat.le_of_ble_eq_true rfl⟩ (tkEnd.rf rfl rfl rfl)
def aTank (nt : Nat) (c l k : Int32) (q : tkI × tkL) : tkI × tkL := (tk2 (tk2 (tk2 (tk2 q.1 2 nt c) 3 nt l) 4 nt k) 1 0 (nI nt + 1), tk2 q.2 5 nt 0)
theorem o_addTank (hX : tkTP σ x p t dd) (hP : tkReg 28 pT pF σ p) {nt : Nat} (hW : wTk I0 nt) (c l k : Int32) (h0 : ¬ bad c 1 1000000000) (h1 : ¬ bad l 0 c) (h2 : ¬ bad k 0 1000000) (h3 : nt < 8) :
    tkCon false (.code yX5_addTank cX5_addTank 4 (some .int)) yX5_addTank 8 [.ref x, .int c, .int l, .int k] σ (reg p 28 I0 v) (reg p 28 L0 w) 0 0 (.inl (some (.int (nI nt)))) σ (reg p 28 (aTank nt c l k (I0, L0)).1 v) (reg p 28 (aTank nt c l k (I0, L0)).2 w) := by
  refine tkCon.of (by decide) (Nat.le_of_ble_eq_true rfl) (fun X C => ?_)
  have hn := hW.2
  unfold aTank
  refine g_iload_n C (i := 1) dX5_addTank_0 rfl rfl ?_
  refine g_iconst C (1) dX5_addTank_1 rfl ?_
  refine g_ldc C (1000000000) dX5_addTank_2 ml_X5_27 ?_
  refine g_callS C dX5_addTank_4 mm_X5_isWithin ml_X5_28 mt_yX5_isWithin (c_X5_isWithin _ _ _) rfl ⟨by decide, Nat.le_of_ble_eq_true rfl, Nat.le_of_ble_eq_true rfl, Nat.le_of_ble_eq_true rfl⟩ (tk_retv ?_) tk_nothr
  refine g_if_ne C 20 dX5_addTank_7 (by decide) (fun h7 => ?_) (fun h7 => ?_)
  · refine g_iload_n C (i := 2) dX5_addTank_20 rfl rfl ?_
    refine g_iload_n C (i := 1) dX5_addTank_21 rfl rfl ?_
    refine g_callS C dX5_addTank_22 mm_X5_needAmount ml_X5_39 mt_yX5_needAmount (c_X5_needAmount_ok (p := p) l c h1) rfl ⟨by decide, Nat.le_of_ble_eq_true rfl, Nat.le_of_ble_eq_true rfl, Nat.le_of_ble_eq_true rfl⟩ (tk_retn ?_) tk_nothr
    refine g_iload_n C (i := 3) dX5_addTank_25 rfl rfl ?_
    refine g_callS C dX5_addTank_26 mm_X5_needLeak ml_X5_43 mt_yX5_needLeak (c_X5_needLeak_ok (p := p) k h2) rfl ⟨by decide, Nat.le_of_ble_eq_true rfl, Nat.le_of_ble_eq_true rfl, Nat.le_of_ble_eq_true rfl⟩ (tk_retn ?_) tk_nothr
    refine g_aload_n C (i := 0) dX5_addTank_29 rfl rfl ?_
    refine g_getR C 5 0 (RX5, TX5, 4) dX5_addTank_30 hX.1 hX.2.1 ml_X5_10 rfl (by decide) rfl ?_
    refine g_getR C 1 0 (RX1, TX1, 5) dX5_addTank_33 (hP.1 0 (by decide)) (hP.2 0 0 1 (by decide) rfl) ml_X5_47 rfl (by decide) rfl ?_
    refine g_getI C 4 0 (RX4, TX4, 6) dX5_addTank_36 (hP.1 1 (by decide)) (reg_at (k := 1) (by decide)) ml_X5_51 rfl (by decide) (Or.inl rfl) ?_
    rw [hW.1]
    refine g_bipush C (8) dX5_addTank_39 rfl ?_
    refine g_icmp_lt C 54 dX5_addTank_41 (by decide) (fun h41 => ?_) (fun h41 => ?_)
    · refine g_aload_n C (i := 0) dX5_addTank_54 rfl rfl ?_
      refine g_getR C 5 0 (RX5, TX5, 4) dX5_addTank_55 hX.1 hX.2.1 ml_X5_10 rfl (by decide) rfl ?_
      refine g_getR C 1 0 (RX1, TX1, 5) dX5_addTank_58 (hP.1 0 (by decide)) (hP.2 0 0 1 (by decide) rfl) ml_X5_47 rfl (by decide) rfl ?_
      refine g_iload_n C (i := 1) dX5_addTank_61 rfl rfl ?_
      refine g_iload_n C (i := 2) dX5_addTank_62 rfl rfl ?_
      refine g_iload_n C (i := 3) dX5_addTank_63 rfl rfl ?_
      refine g_callV C (q := (RX4, TX4, 6)) (rest := _) dX5_addTank_64 mm_X4_append ml_X5_61 mv_yX4_append ms_yX4_append (c_X4_append hP h3 hW.1 _ _ _) rfl (hP.1 1 (by decide)) rfl rfl ⟨by decide, Nat.le_of_ble_eq_true rfl, Nat.le_of_ble_eq_true rfl, Nat.le_of_ble_eq_true rfl⟩ (tk_retv ?_) tk_nothr
      exact g_ireturn C dX5_addTank_67 ⟨Nat.le_of_ble_eq_true rfl, Nat.le_of_ble_eq_true rfl⟩ (tkEnd.rf rfl rfl rfl)
    · exact absurd (nI_lt (b := 8) h3 (by omega)) h41
  · exact absurd (jwith_z h7) h0
def aSwitch (ns : Nat) (i lo hi : Int32) (q : tkI × tkL) : tkI × tkL := (tk2 (tk2 (tk2 (tk2 (tk2 q.1 8 ns i) 9 ns lo) 10 ns hi) 11 ns 0) 7 0 (nI ns + 1), q.2)
theorem o_addSwitch (hX : tkTP σ x p t dd) (hP : tkReg 28 pT pF σ p) {nt ns j : Nat} (hT : wTk I0 nt) (hW : wSw I0 ns) (lo hi : Int32) (hj : j < nt) (h1 : ¬ lo < 0) (h2 : ¬ hi ≤ lo) (h4 : hi ≤ I0 2 j) (h3 : ns < 10) :
    tkCon false (.code yX5_addSwitch cX5_addSwitch 4 (some .int)) yX5_addSwitch 8 [.ref x, .int (nI j), .int lo, .int hi] σ (reg p 28 I0 v) (reg p 28 L0 w) 0 0 (.inl (some (.int (nI ns)))) σ (reg p 28 (aSwitch ns (nI j) lo hi (I0, L0)).1 v) (reg p 28 (aSwitch ns (nI j) lo hi (I0, L0)).2 w) := by
  refine tkCon.of (by decide) (Nat.le_of_ble_eq_true rfl) (fun X C => ?_)
  have hn := hW.2.1
  have hn2 := hT.2
  unfold aSwitch
  dsimp only
  have h : ¬ bad (nI j) 0 (I0 1 0 - 1) := by rw [hT.1]; exact not_bad (by omega) hj
  refine g_aload_n C (i := 0) dX5_addSwitch_0 rfl rfl ?_
  refine g_iload_n C (i := 1) dX5_addSwitch_1 rfl rfl ?_
  refine g_callV C (q := (RX5, TX5, 4)) (rest := _) dX5_addSwitch_2 mm_X5_needTank ml_X5_65 mv_yX5_needTank ms_yX5_needTank (c_X5_needTank_ok hX hP _ h) rfl hX.1 rfl rfl ⟨by decide, Nat.le_of_ble_eq_true rfl, Nat.le_of_ble_eq_true rfl, Nat.le_of_ble_eq_true rfl⟩ (tk_retn ?_) tk_nothr
  refine g_iload_n C (i := 2) dX5_addSwitch_5 rfl rfl ?_
  refine g_if_lt C 30 dX5_addSwitch_6 (by decide) (fun h6 => ?_) (fun h6 => ?_)
  · exact absurd h6 h1
  · refine g_iload_n C (i := 2) dX5_addSwitch_9 rfl rfl ?_
    refine g_iload_n C (i := 3) dX5_addSwitch_10 rfl rfl ?_
    refine g_icmp_ge C 30 dX5_addSwitch_11 (by decide) (fun h11 => ?_) (fun h11 => ?_)
    · exact absurd h11 h2
    · refine g_iload_n C (i := 3) dX5_addSwitch_14 rfl rfl ?_
      refine g_aload_n C (i := 0) dX5_addSwitch_15 rfl rfl ?_
      refine g_getR C 5 0 (RX5, TX5, 4) dX5_addSwitch_16 hX.1 hX.2.1 ml_X5_10 rfl (by decide) rfl ?_
      refine g_getR C 1 0 (RX1, TX1, 5) dX5_addSwitch_19 (hP.1 0 (by decide)) (hP.2 0 0 1 (by decide) rfl) ml_X5_47 rfl (by decide) rfl ?_
      refine g_getR C 4 1 (RX4, TX4, 6) dX5_addSwitch_22 (hP.1 1 (by decide)) (hP.2 1 1 2 (by decide) rfl) ml_X5_68 rfl (by decide) rfl ?_
      refine g_iload_n C (i := 1) dX5_addSwitch_25 rfl rfl ?_
      refine g_ia C dX5_addSwitch_26 (hP.1 2 (by decide)) (reg_at (k := 2) (by decide)) rfl (by omega) (by decide) ?_
      refine g_icmp_le C 40 dX5_addSwitch_27 (by decide) (fun h27 => ?_) (fun h27 => ?_)
      · refine g_aload_n C (i := 0) dX5_addSwitch_40 rfl rfl ?_
        refine g_getR C 5 0 (RX5, TX5, 4) dX5_addSwitch_41 hX.1 hX.2.1 ml_X5_10 rfl (by decide) rfl ?_
        refine g_getR C 1 1 (RX1, TX1, 5) dX5_addSwitch_44 (hP.1 0 (by decide)) (hP.2 0 1 7 (by decide) rfl) ml_X5_74 rfl (by decide) rfl ?_
        refine g_getI C 3 0 (RX3, TX3, 5) dX5_addSwitch_47 (hP.1 7 (by decide)) (reg_at (k := 7) (by decide)) ml_X5_78 rfl (by decide) (Or.inl rfl) ?_
        rw [hW.1]
        refine g_bipush C (10) dX5_addSwitch_50 rfl ?_
        refine g_icmp_lt C 65 dX5_addSwitch_52 (by decide) (fun h52 => ?_) (fun h52 => ?_)
        · refine g_aload_n C (i := 0) dX5_addSwitch_65 rfl rfl ?_
          refine g_getR C 5 0 (RX5, TX5, 4) dX5_addSwitch_66 hX.1 hX.2.1 ml_X5_10 rfl (by decide) rfl ?_
          refine g_getR C 1 1 (RX1, TX1, 5) dX5_addSwitch_69 (hP.1 0 (by decide)) (hP.2 0 1 7 (by decide) rfl) ml_X5_74 rfl (by decide) rfl ?_
          refine g_iload_n C (i := 1) dX5_addSwitch_72 rfl rfl ?_
          refine g_iload_n C (i := 2) dX5_addSwitch_73 rfl rfl ?_
          refine g_iload_n C (i := 3) dX5_addSwitch_74 rfl rfl ?_
          refine g_callV C (q := (RX3, TX3, 5)) (rest := _) dX5_addSwitch_75 mm_X3_append ml_X5_83 mv_yX3_append ms_yX3_append (c_X3_append hP h3 hW.1 _ _ _) rfl (hP.1 7 (by decide)) rfl rfl ⟨by decide, Nat.le_of_ble_eq_true rfl, Nat.le_of_ble_eq_true rfl, Nat.le_of_ble_eq_true rfl⟩ (tk_retv ?_) tk_nothr
          exact g_ireturn C dX5_addSwitch_78 ⟨Nat.le_of_ble_eq_true rfl, Nat.le_of_ble_eq_true rfl⟩ (tkEnd.rf rfl rfl rfl)
        · exact absurd (nI_lt (b := 10) h3 (by omega)) h52
      · exact absurd h4 h27
def aPump (np : Nat) (i j r l c b : Int32) (q : tkI × tkL) : tkI × tkL := (tk2 (tk2 (tk2 (tk2 (tk2 (tk2 (tk2 q.1 13 np i) 14 np j) 15 np r) 16 np l) 17 np c) 18 np b) 12 0 (nI np + 1), tk2 (tk2 (tk2 q.2 19 np 0) 20 np 0) 21 np 0)
theorem o_addPump (hX : tkTP σ x p t dd) (hP : tkReg 28 pT pF σ p) {np : Nat} (hW : wPu I0 np) (i j r l c b : Int32) (hb : b = 0 ∨ b = 1) (g1 : ¬ badE i I0) (g2 : ¬ badE j I0) (g3 : ¬ (¬ c = -1 ∧ bad c 0 (I0 7 0 - 1))) (g4 : ¬ i = j) (g5 : ¬ bad r 1 1000000) (g6 : ¬ bad l 0 100) (h3 : np < 16) :
    tkCon false (.code yX5_addPump cX5_addPump 7 (some .int)) yX5_addPump 9 [.ref x, .int i, .int j, .int r, .int l, .int c, .int b] σ (reg p 28 I0 v) (reg p 28 L0 w) 0 0 (.inl (some (.int (nI np)))) σ (reg p 28 (aPump np i j r l c b (I0, L0)).1 v) (reg p 28 (aPump np i j r l c b (I0, L0)).2 w) := by
  refine tkCon.of (by decide) (Nat.le_of_ble_eq_true rfl) (fun X C => ?_)
  have hn := hW.2.1
  unfold aPump
  dsimp only
  have J22 : tkG X (tkQ false X 0 0 (.inl (some (.int (nI np)))) σ (reg p 28 (tk2 (tk2 (tk2 (tk2 (tk2 (tk2 (tk2 I0 13 np i) 14 np j) 15 np r) 16 np l) 17 np c) 18 np b) 12 0 (nI np + 1)) v) (reg p 28 (tk2 (tk2 (tk2 L0 19 np 0) 20 np 0) 21 np 0) w)) 0 0 22 [some (.ref x), some (.int i), some (.int j), some (.int r), some (.int l), some (.int c), some (.int b)] [] σ (reg p 28 I0 v) (reg p 28 L0 w) := by
    refine g_iload_n C (i := 1) dX5_addPump_22 rfl rfl ?_
    refine g_iload_n C (i := 2) dX5_addPump_23 rfl rfl ?_
    refine g_icmp_ne C 37 dX5_addPump_24 (by decide) (fun h24 => ?_) (fun h24 => ?_)
    · refine g_iload_n C (i := 3) dX5_addPump_37 rfl rfl ?_
      refine g_callS C dX5_addPump_38 mm_X5_needRate ml_X5_92 mt_yX5_needRate (c_X5_needRate_ok (p := p) r g5) rfl ⟨by decide, Nat.le_of_ble_eq_true rfl, Nat.le_of_ble_eq_true rfl, Nat.le_of_ble_eq_true rfl⟩ (tk_retn ?_) tk_nothr
      refine g_iload C (i := 4) dX5_addPump_41 rfl ?_
      refine g_iconst C (0) dX5_addPump_43 rfl ?_
      refine g_bipush C (100) dX5_addPump_44 rfl ?_
      refine g_callS C dX5_addPump_46 mm_X5_isWithin ml_X5_28 mt_yX5_isWithin (c_X5_isWithin _ _ _) rfl ⟨by decide, Nat.le_of_ble_eq_true rfl, Nat.le_of_ble_eq_true rfl, Nat.le_of_ble_eq_true rfl⟩ (tk_retv ?_) tk_nothr
      refine g_if_ne C 62 dX5_addPump_49 (by decide) (fun h49 => ?_) (fun h49 => ?_)
      · refine g_aload_n C (i := 0) dX5_addPump_62 rfl rfl ?_
        refine g_getR C 5 0 (RX5, TX5, 4) dX5_addPump_63 hX.1 hX.2.1 ml_X5_10 rfl (by decide) rfl ?_
        refine g_getR C 1 2 (RX1, TX1, 5) dX5_addPump_66 (hP.1 0 (by decide)) (hP.2 0 2 12 (by decide) rfl) ml_X5_97 rfl (by decide) rfl ?_
        refine g_getI C 2 0 (RX2, TX2, 13) dX5_addPump_69 (hP.1 12 (by decide)) (reg_at (k := 12) (by decide)) ml_X5_101 rfl (by decide) (Or.inl rfl) ?_
        rw [hW.1]
        refine g_bipush C (16) dX5_addPump_72 rfl ?_
        refine g_icmp_lt C 87 dX5_addPump_74 (by decide) (fun h74 => ?_) (fun h74 => ?_)
        · refine g_aload_n C (i := 0) dX5_addPump_87 rfl rfl ?_
          refine g_getR C 5 0 (RX5, TX5, 4) dX5_addPump_88 hX.1 hX.2.1 ml_X5_10 rfl (by decide) rfl ?_
          refine g_getR C 1 2 (RX1, TX1, 5) dX5_addPump_91 (hP.1 0 (by decide)) (hP.2 0 2 12 (by decide) rfl) ml_X5_97 rfl (by decide) rfl ?_
          refine g_iload_n C (i := 1) dX5_addPump_94 rfl rfl ?_
          refine g_iload_n C (i := 2) dX5_addPump_95 rfl rfl ?_
          refine g_iload_n C (i := 3) dX5_addPump_96 rfl rfl ?_
          refine g_iload C (i := 4) dX5_addPump_97 rfl ?_
          refine g_iload C (i := 5) dX5_addPump_99 rfl ?_
          refine g_iload C (i := 6) dX5_addPump_101 rfl ?_
          refine g_callV C (q := (RX2, TX2, 13)) (rest := _) dX5_addPump_103 mm_X2_append ml_X5_106 mv_yX2_append ms_yX2_append (c_X2_append hP h3 hW.1 _ _ _ _ _ _ hb) rfl (hP.1 12 (by decide)) rfl rfl ⟨by decide, Nat.le_of_ble_eq_true rfl, Nat.le_of_ble_eq_true rfl, Nat.le_of_ble_eq_true rfl⟩ (tk_retv ?_) tk_nothr
          exact g_ireturn C dX5_addPump_106 ⟨Nat.le_of_ble_eq_true rfl, Nat.le_of_ble_eq_true rfl⟩ (tkEnd.rf rfl rfl rfl)
        · exact absurd (nI_lt (b := 16) h3 (by omega)) h74
      · exact absurd (jwith_z h49) g6
    · exact absurd h24 g4
  refine g_aload_n C (i := 0) dX5_addPump_0 rfl rfl ?_
  refine g_iload_n C (i := 1) dX5_addPump_1 rfl rfl ?_
  refine g_callV C (q := (RX5, TX5, 4)) (rest := _) dX5_addPump_2 mm_X5_needTankOrOutside ml_X5_84 mv_yX5_needTankOrOutside ms_yX5_needTankOrOutside (c_X5_needTankOrOutside_ok hX hP i g1) rfl hX.1 rfl rfl ⟨by decide, Nat.le_of_ble_eq_true rfl, Nat.le_of_ble_eq_true rfl, Nat.le_of_ble_eq_true rfl⟩ (tk_retn ?_) tk_nothr
  refine g_aload_n C (i := 0) dX5_addPump_5 rfl rfl ?_
  refine g_iload_n C (i := 2) dX5_addPump_6 rfl rfl ?_
  refine g_callV C (q := (RX5, TX5, 4)) (rest := _) dX5_addPump_7 mm_X5_needTankOrOutside ml_X5_84 mv_yX5_needTankOrOutside ms_yX5_needTankOrOutside (c_X5_needTankOrOutside_ok hX hP j g2) rfl hX.1 rfl rfl ⟨by decide, Nat.le_of_ble_eq_true rfl, Nat.le_of_ble_eq_true rfl, Nat.le_of_ble_eq_true rfl⟩ (tk_retn ?_) tk_nothr
  refine g_iload C (i := 5) dX5_addPump_10 rfl ?_
  refine g_iconst C (-1) dX5_addPump_12 rfl ?_
  refine g_icmp_eq C 22 dX5_addPump_13 (by decide) (fun h13 => ?_) (fun h13 => ?_)
  · skip
    exact J22
  · refine g_aload_n C (i := 0) dX5_addPump_16 rfl rfl ?_
    refine g_iload C (i := 5) dX5_addPump_17 rfl ?_
    refine g_callV C (q := (RX5, TX5, 4)) (rest := _) dX5_addPump_19 mm_X5_needSwitch ml_X5_87 mv_yX5_needSwitch ms_yX5_needSwitch (c_X5_needSwitch_ok hX hP c (fun z => g3 ⟨h13, z⟩)) rfl hX.1 rfl rfl ⟨by decide, Nat.le_of_ble_eq_true rfl, Nat.le_of_ble_eq_true rfl, Nat.le_of_ble_eq_true rfl⟩ (tk_retn ?_) tk_nothr
    exact J22
theorem o_run (hX : tkTP σ x p t dd) (hP : tkReg 28 pT pF σ p) {nt ns np B k : Nat} (hW : wAll nt ns np B (I0, L0)) (hB : B + 60000 < 2 ^ 62) (hk : k ≤ 5000) :
    tkCon false (.code yX5_run cX5_run 2 (some .int)) yX5_run 8 [.ref x, .int (nI k)] σ (reg p 28 I0 v) (reg p 28 L0 w) 0 0 (.inl (some (.int (sAdv nt ns np (nI k) k 0 ((I0, L0), 0)).2))) σ (reg p 28 (sAdv nt ns np (nI k) k 0 ((I0, L0), 0)).1.1 v) (reg p 28 (sAdv nt ns np (nI k) k 0 ((I0, L0), 0)).1.2 w) := by
  refine tkCon.of (by decide) (Nat.le_of_ble_eq_true rfl) (fun X C => ?_)
  have h : ¬ bad (nI k) 0 5000 := by
    rintro (z | z)
    · exact nI_pos (by omega) z
    · exact absurd z (nI_nlt (a := 5000) hk (by omega))
  refine g_iload_n C (i := 1) dX5_run_0 rfl rfl ?_
  refine g_iconst C (0) dX5_run_1 rfl ?_
  refine g_callS C dX5_run_2 mm_X5_needTicks ml_X5_121 mt_yX5_needTicks (c_X5_needTicks_ok (p := p) _ 0 h) rfl ⟨by decide, Nat.le_of_ble_eq_true rfl, Nat.le_of_ble_eq_true rfl, Nat.le_of_ble_eq_true rfl⟩ (tk_retn ?_) tk_nothr
  refine g_aload_n C (i := 0) dX5_run_5 rfl rfl ?_
  refine g_getR C 5 0 (RX5, TX5, 4) dX5_run_6 hX.1 hX.2.1 ml_X5_10 rfl (by decide) rfl ?_
  refine g_iload_n C (i := 1) dX5_run_9 rfl rfl ?_
  refine g_callV C (q := (RX1, TX1, 5)) (rest := _) dX5_run_10 mm_X1_advance ml_X5_124 mv_yX1_advance ms_yX1_advance (c_X1_advance hP hW hk (by omega)) rfl (hP.1 0 (by decide)) rfl rfl ⟨by decide, Nat.le_of_ble_eq_true rfl, Nat.le_of_ble_eq_true rfl, Nat.le_of_ble_eq_true rfl⟩ (tk_retv ?_) tk_nothr
  exact g_ireturn C dX5_run_13 ⟨Nat.le_of_ble_eq_true rfl, Nat.le_of_ble_eq_true rfl⟩ (tkEnd.rf rfl rfl rfl)
end TKAPI
end
section
section TKCORE
theorem cp_in {α : Type} {f g : Nat → α} {n j : Nat} (h : j < n) : va_cpy f g 0 0 n j = f j := (pk_cpy_in (Nat.zero_le _) (by omega)).trans (by rw [Nat.zero_add, Nat.sub_zero])
theorem tk2_at {α : Type} {f : Nat → Nat → α} {a i : Nat} {x : α} : tk2 f a i x a i = x := if_pos ⟨rfl, rfl⟩
theorem tk2_ne {α : Type} {f : Nat → Nat → α} {a i b j : Nat} {x : α} (h : b ≠ a) : tk2 f a i x b j = f b j := if_neg (fun z => h z.1)
end TKCORE
section TKDEPOT
variable {σ : tkM} {x p t dd : Nat} {I0 v : tkI} {L0 w : tkL}
theorem bM_0 (σ : tkM) (T : Nat → Nat × Nat) (R : Nat → Nat → Option Nat) : bM σ.1 0 T σ.2.1 R σ.2.2 = σ := by
  show (σ.1 + 0, rgS σ.1 0 T σ.2.1, reg σ.1 0 R σ.2.2) = σ
  rw [rgS_0, reg_0]
  rfl
/-- memory behind a new plant -/
def nPl (σ : tkM) : tkM := bM σ.1 28 pT σ.2.1 (rPl σ.1 (rOb 0 zR)) σ.2.2
theorem rPl_F (q : Nat) (R : Nat → Nat → Option Nat) {k j o : Nat} (h : pF k j = some o) : rPl q R k j = some (q + o) := by
  unfold pF at h
  split at h <;> first | (split at h <;> first | (cases h; rfl) | cases h) | cases h
theorem nPl_reg (σ : tkM) : tkReg 28 pT pF (nPl σ) σ.1 :=
  ⟨fun k hk => rgS_at hk, fun k j o hk h => by
    show reg σ.1 28 (rPl σ.1 (rOb 0 zR)) σ.2.2 (σ.1 + k) j = _
    rw [reg_at hk]
    exact rPl_F _ _ h⟩
theorem tkReg.old {N : Nat} {T : Nat → Nat × Nat} {F : Nat → Nat → Option Nat} {σ σ' : tkM} {p : Nat} (h : tkReg N T F σ p) (h1 : ∀ a, a < p + N → p ≤ a → σ'.2.1 a = σ.2.1 a) (h2 : ∀ a j, a < p + N → p ≤ a → σ'.2.2 a j = σ.2.2 a j) : tkReg N T F σ' p :=
  ⟨fun k hk => (h1 _ (by omega) (by omega)).trans (h.1 k hk), fun k j o hk hF => (h2 _ _ (by omega) (by omega)).trans (h.2 k j o hk hF)⟩
variable {X : tkX} {Q : State → Prop} {cc : ByteArray} {own nm : String} {nL d MC MS cs ss pc : Nat} {ret : Option FieldType} {hh : List (Nat × Nat × Nat × Nat)} {lv : List (Option Value)} {stk : List Value} {I : tkI} {L : tkL}
theorem g_newP (C : tkC X cc own nm nL ret hh d MC MS) {idx : Nat} (hd : decode cc pc = .ok (.new idx, 3)) (hw : Cond.classLink own idx RX1 ∈ tkAll) (h1 : cs + 1 ≤ MC) (h2 : ss + 5 ≤ MS)
    (kk : tkG X Q (cs + 1) (ss + 5) (pc + 3) lv (.ref (σ.1 + 0) :: stk) (bM σ.1 1 pT σ.2.1 (rOb 0 zR) σ.2.2) (reg σ.1 1 zI I) (reg σ.1 1 zL L)) : tkG X Q cs ss pc lv stk σ I L := by
  have h := b_new (p := σ.1) (n := 0) (T := pT) (S := σ.2.1) (R := zR) (V := σ.2.2) (I := I) (L := L) C 1 (RX1, TX1, 5) hd rfl hw mn_X1 mi_X1 rfl h1 h2 kk
  rw [bM_0, reg_0, reg_0] at h
  exact h
/-- memory behind the save of a new depot -/
def nDe (σ : tkM) (dd j : Nat) : tkM := bM σ.1 28 pT σ.2.1 (rPl σ.1 (rOb 0 zR)) (tk2 σ.2.2 dd j (some σ.1))
end TKDEPOT
end
section
section TKMADE
variable {σ : tkM} {x : Nat} {v : tkI} {w : tkL}
theorem nDe_x {j : Nat} (hx : σ.2.1 x = (5, 0)) (hxs : x < σ.1) : (nDe σ x j).2.1 x = (5, 0) := (rgS_off (Or.inl hxs)).trans hx
/-- memory behind the making of the program's object -/
def nX5 (σ : tkM) (x : Nat) : tkM := ((tkNw (nDe (nDe σ x 0) x 1) (14, 4)).1, (tkNw (nDe (nDe σ x 0) x 1) (14, 4)).2.1, tk2 (tkNw (nDe (nDe σ x 0) x 1) (14, 4)).2.2 x 2 (some (nDe (nDe σ x 0) x 1).1))
theorem c_X5_init (hx : σ.2.1 x = (5, 0)) (hxs : x < σ.1) :
    tkCon false (.code yX5_init cX5_init 1 none) yX5_init 4 [.ref x] σ v w 57 732 (.inl none) (nX5 σ x) (tk2 (tkZI (nDe (nDe σ x 0) x 1) (reg (nDe σ x 0).1 28 zI (reg σ.1 28 zI v))) x 3 0) (tkZL (nDe (nDe σ x 0) x 1) (reg (nDe σ x 0).1 28 zL (reg σ.1 28 zL w))) := by
  have hx2 : (nDe σ x 0).2.1 x = (5, 0) := nDe_x hx hxs
  have hs2 : x < (nDe σ x 0).1 := by show x < σ.1 + 28; omega
  have hx3 : (nDe (nDe σ x 0) x 1).2.1 x = (5, 0) := nDe_x hx2 hs2
  have hs3 : x < (nDe (nDe σ x 0) x 1).1 := by show x < σ.1 + 28 + 28; omega
  unfold nX5
  refine tkCon.of (by decide) (Nat.le_of_ble_eq_true rfl) (fun X C => ?_)
  refine g_aload_n C (i := 0) dX5_init_0 rfl rfl ?_
  refine g_objInit C dX5_init_1 ml_X5_1 mv_objectInit mc_objectInit (by decide) (Nat.le_of_ble_eq_true rfl) ?_
  refine g_aload_n C (i := 0) dX5_init_4 rfl rfl ?_
  refine g_newP C dX5_init_5 ml_X5_7 (Nat.le_of_ble_eq_true rfl) (Nat.le_of_ble_eq_true rfl) ?_
  refine g_dup C dX5_init_8 rfl ?_
  refine g_callIN C dX5_init_9 mm_X1_init ml_X5_9 mv_yX1_init rfl (c_X1_init) rfl ⟨by decide, Nat.le_of_ble_eq_true rfl, Nat.le_of_ble_eq_true rfl, Nat.le_of_ble_eq_true rfl⟩ (tk_retn ?_) tk_nothr
  refine g_putF C (r1 := reg σ.1 28 (rPl σ.1 (rOb 0 zR)) (tk2 σ.2.2 x 0 (some (σ.1 + 0)))) 5 0 (RX5, TX5, 4) dX5_init_12 (nDe_x (j := 0) hx hxs) (tk2_off (Or.inl hxs)) ml_X5_10 rfl (by decide) ⟨rfl, rfl, rfl⟩ rfl ?_
  show tkG X _ _ _ 15 _ [] (nDe σ x 0) (reg σ.1 28 zI v) (reg σ.1 28 zL w)
  generalize eσ : nDe σ x 0 = τ at *
  refine g_aload_n C (i := 0) dX5_init_15 rfl rfl ?_
  refine g_newP C dX5_init_16 ml_X5_7 (Nat.le_of_ble_eq_true rfl) (Nat.le_of_ble_eq_true rfl) ?_
  refine g_dup C dX5_init_19 rfl ?_
  refine g_callIN C dX5_init_20 mm_X1_init ml_X5_9 mv_yX1_init rfl (c_X1_init) rfl ⟨by decide, Nat.le_of_ble_eq_true rfl, Nat.le_of_ble_eq_true rfl, Nat.le_of_ble_eq_true rfl⟩ (tk_retn ?_) tk_nothr
  refine g_putF C (r1 := reg τ.1 28 (rPl τ.1 (rOb 0 zR)) (tk2 τ.2.2 x 1 (some (τ.1 + 0)))) 5 1 (RX5, TX5, 4) dX5_init_23 (nDe_x (j := 1) hx2 hs2) (tk2_off (Or.inl hs2)) ml_X5_16 rfl (by decide) ⟨rfl, rfl, rfl⟩ rfl ?_
  show tkG X _ _ _ 26 _ [] (nDe τ x 1) (reg τ.1 28 zI (reg σ.1 28 zI v)) (reg τ.1 28 zL (reg σ.1 28 zL w))
  refine g_aload_n C (i := 0) dX5_init_26 rfl rfl ?_
  refine g_iconst C (4) dX5_init_27 rfl ?_
  refine g_anewa C 4 dX5_init_28 ml_X5_7 (by decide) (by decide) (by decide) (Nat.le_of_ble_eq_true rfl) (Nat.le_of_ble_eq_true rfl) ?_
  have hx4 : (tkNw (nDe τ x 1) (14, 4)).2.1 x = (5, 0) := (if_neg (by omega)).trans hx3
  refine g_putF C (r1 := tk2 (tkNw (nDe τ x 1) (14, 4)).2.2 x 2 (some (nDe τ x 1).1)) 5 2 (RX5, TX5, 4) dX5_init_31 hx4 rfl ml_X5_19 rfl (by decide) ⟨rfl, rfl, rfl⟩ rfl ?_
  refine g_aload_n C (i := 0) dX5_init_34 rfl rfl ?_
  refine g_iconst C (0) dX5_init_35 rfl ?_
  refine g_putI C 5 3 (RX5, TX5, 4) dX5_init_36 hx4 rfl ml_X5_23 rfl (by decide) rfl rfl ?_
  exact g_return C dX5_init_39 ⟨Nat.le_of_ble_eq_true rfl, Nat.le_of_ble_eq_true rfl⟩ (tkEnd.rf rfl rfl rfl)
end TKMADE
end
section
section TKMTICK
theorem itr_s {α : Type} (f : Nat → α → α) (n : Nat) (a : α) : itr f (n + 1) a = f n (itr f n a) := rfl
def mSh (k : Nat) (q : tkI × tkL) : tkI × tkL := (tk2 q.1 19 k (q.1 19 (k + 1)), tk2 q.2 18 k (q.2 18 (k + 1)))
def mPut (i : Int32) (s : Nat) (q : tkI × tkL) : tkI × tkL := (tk2 (tk2 q.1 19 s i) 0 23 (nI (s + 1)), tk2 (tk2 q.2 18 s (q.2 0 21)) 0 22 (q.2 0 22 + 1))
def mLog (i : Int32) (lg : Nat) (q : tkI × tkL) : tkI × tkL := if lg = 30 then mPut i 29 (itr mSh 29 (tk2 q.1 0 23 (nI 29), q.2)) else mPut i lg q
def mDue (J : tkI) (i : Nat) : Int32 := if J 10 (J 2 i).toNatClampNeg ≤ J 3 i then 1 else if J 4 i ≤ J 10 (J 2 i).toNatClampNeg then 0 else if J 13 i = 0 then 0 else 1
def mFol (i : Nat) (q : (tkI × tkL) × Int32) : (tkI × tkL) × Int32 :=
  if mDue q.1.1 i = q.1.1 13 i then q else (mLog (nI i) (q.1.1 0 23).toNatClampNeg (tk2 q.1.1 13 i (mDue q.1.1 i), q.1.2), q.2 + 1)
def mA1 (J : tkI) (i : Nat) : Int32 := if J 5 i = -1 then J 14 i else jmin (J 14 i) (J 10 (J 5 i).toNatClampNeg)
def mAmt (J : tkI) (i : Nat) : Int32 := if J 6 i = -1 then mA1 J i else jmin (mA1 J i) (J 1 (J 6 i).toNatClampNeg - J 10 (J 6 i).toNatClampNeg)
def mLv1 (m : Int32) (i : Nat) (J : tkI) : tkI := if J 5 i = -1 then J else tk2 J 10 (J 5 i).toNatClampNeg (J 10 (J 5 i).toNatClampNeg - m)
def mLv2 (m : Int32) (i : Nat) (J : tkI) : tkI := if J 6 i = -1 then J else tk2 J 10 (J 6 i).toNatClampNeg (J 10 (J 6 i).toNatClampNeg + m)
def mEnt (m : Int32) (i : Nat) (J : tkI) (K : tkL) : tkL :=
  tk2 (tk2 (tk2 K 15 i (K 15 i + m.toInt64)) 16 i (K 16 i + m.toInt64 * (J 7 i).toInt64)) 17 i (K 17 i + if J 14 i ≤ m then 0 else 1)
def mPump (i : Nat) (q : tkI × tkL) : tkI × tkL :=
  if ¬ q.1 8 i = -1 ∧ q.1 13 (q.1 8 i).toNatClampNeg = q.1 9 i then q else (mLv2 (mAmt q.1 i) i (mLv1 (mAmt q.1 i) i q.1), mEnt (mAmt q.1 i) i q.1 q.2)
def mLeak (i : Nat) (J : tkI) : tkI := tk2 J 10 i (J 10 i - jmin (J 11 i) (J 10 i))
def mSum (J : tkI) (i : Nat) (K : tkL) : tkL := tk2 K 12 i (K 12 i + (J 10 i).toInt64)
def mTick (nt ns np : Nat) (q : tkI × tkL) : (tkI × tkL) × Int32 :=
  let f := itr mFol ns (q, 0)
  let g := itr mPump np f.1
  let J2 := itr mLeak nt g.1
  ((J2, itr (mSum J2) nt (tk2 g.2 0 21 (g.2 0 21 + 1))), f.2)
/-- what a tick leaves -/
def mK (J J' : tkI) : Prop := (∀ k, k ≠ 0 → k ≠ 10 → k ≠ 13 → k ≠ 19 → J' k = J k) ∧ ∀ c, c ≠ 23 → J' 0 c = J 0 c
theorem mK.rfl' (J : tkI) : mK J J := ⟨fun _ _ _ _ _ => rfl, fun _ _ => rfl⟩
theorem mK.trans {a b c : tkI} (h : mK a b) (g : mK b c) : mK a c := ⟨fun k h1 h2 h3 h4 => (g.1 k h1 h2 h3 h4).trans (h.1 k h1 h2 h3 h4), fun c h1 => (g.2 c h1).trans (h.2 c h1)⟩
theorem mK.put {J : tkI} {k i : Nat} {x : Int32} (h : (k = 0 ∧ i = 23) ∨ k = 10 ∨ k = 13 ∨ k = 19) : mK J (tk2 J k i x) :=
  ⟨fun a h1 h2 h3 h4 => by funext j; exact tk2_ne (by omega), fun c h1 => if_neg (by omega)⟩
theorem mK.itr {α : Type} {f : Nat → α → α} {g : α → tkI} (h : ∀ i a, mK (g a) (g (f i a))) : ∀ (n : Nat) (a : α), mK (g a) (g (itr f n a))
  | 0, a => mK.rfl' _
  | n + 1, a => (mK.itr h n a).trans (h n _)
theorem mSh_keep (n : Nat) (q : tkI × tkL) : mK q.1 (itr mSh n q).1 := mK.itr (g := Prod.fst) (fun _ _ => mK.put (Or.inr (Or.inr (Or.inr rfl)))) n q
theorem mPut_keep (i : Int32) (s : Nat) (q : tkI × tkL) : mK q.1 (mPut i s q).1 := (mK.put (Or.inr (Or.inr (Or.inr rfl)))).trans (mK.put (Or.inl ⟨rfl, rfl⟩))
theorem mLog_keep (i : Int32) (lg : Nat) (q : tkI × tkL) : mK q.1 (mLog i lg q).1 := by
  unfold mLog
  split
  · exact (mK.put (x := nI 29) (Or.inl ⟨rfl, rfl⟩)).trans ((mSh_keep 29 (tk2 q.1 0 23 (nI 29), q.2)).trans (mPut_keep _ _ _))
  · exact mPut_keep _ _ _
theorem mLv1_keep (m : Int32) (i : Nat) (J : tkI) : mK J (mLv1 m i J) ∧ mLv1 m i J 0 23 = J 0 23 := by
  unfold mLv1
  split
  · exact ⟨mK.rfl' _, rfl⟩
  · exact ⟨mK.put (Or.inr (Or.inl rfl)), rfl⟩
theorem mLv2_keep (m : Int32) (i : Nat) (J : tkI) : mK J (mLv2 m i J) ∧ mLv2 m i J 0 23 = J 0 23 := by
  unfold mLv2
  split
  · exact ⟨mK.rfl' _, rfl⟩
  · exact ⟨mK.put (Or.inr (Or.inl rfl)), rfl⟩
def mRun (nt ns np n : Nat) (q : tkI × tkL) : (tkI × tkL) × Int32 := itr (fun _ a => ((mTick nt ns np a.1).1, a.2 + (mTick nt ns np a.1).2)) n (q, 0)
end TKMTICK
end
section
section TKREL
/-! how the program's plant and the reference stand to each other -/
def eqR {α : Type} (n : Nat) (f g : Nat → α) : Prop := ∀ i, i < n → f i = g i
def wCt (nt ns np : Nat) (I J : tkI) : Prop := (I 1 0 = nI nt ∧ J 0 1 = nI nt ∧ nt ≤ 8) ∧ (I 7 0 = nI ns ∧ J 0 3 = nI ns ∧ ns ≤ 10) ∧ (I 12 0 = nI np ∧ J 0 7 = nI np ∧ np ≤ 16)
def wSt (nt ns np : Nat) (I J : tkI) : Prop := (eqR nt (I 2) (J 1) ∧ eqR nt (I 4) (J 11)) ∧ (eqR ns (I 8) (J 2) ∧ eqR ns (I 9) (J 3) ∧ eqR ns (I 10) (J 4)) ∧
  (eqR np (I 13) (J 5) ∧ eqR np (I 14) (J 6) ∧ eqR np (I 15) (J 14) ∧ eqR np (I 16) (J 7) ∧ eqR np (I 17) (J 8) ∧ eqR np (I 18) (J 9))
/-- the bounds of what a tick leaves -/
def wBS (nt ns np : Nat) (I : tkI) : Prop := (∀ j, j < nt → 1 ≤ (I 2 j).toInt ∧ (I 2 j).toInt ≤ 1000000000 ∧ 0 ≤ (I 4 j).toInt ∧ (I 4 j).toInt ≤ 1000000) ∧
  (∀ i, i < ns → (∃ t, t < nt ∧ I 8 i = nI t) ∧ I 9 i < I 10 i ∧ 0 ≤ (I 9 i).toInt ∧ (I 10 i).toInt ≤ 1000000000) ∧
  ∀ i, i < np → (I 13 i = -1 ∨ ∃ t, t < nt ∧ I 13 i = nI t) ∧ (I 14 i = -1 ∨ ∃ t, t < nt ∧ I 14 i = nI t) ∧ (I 17 i = -1 ∨ ∃ t, t < ns ∧ I 17 i = nI t) ∧ I 13 i ≠ I 14 i ∧ 1 ≤ (I 15 i).toInt ∧ (I 15 i).toInt ≤ 1000000
def wSS (nt ns np : Nat) (I J : tkI) : Prop := wCt nt ns np I J ∧ wSt nt ns np I J ∧ wBS nt ns np I
def wLv (nt : Nat) (I J : tkI) : Prop := eqR nt (I 3) (J 10) ∧ ∀ j, j < nt → 0 ≤ (I 3 j).toInt ∧ (I 3 j).toInt ≤ (I 2 j).toInt
def wOn (ns : Nat) (I J : tkI) : Prop := eqR ns (I 11) (J 13) ∧ ∀ i, i < ns → I 11 i = 0 ∨ I 11 i = 1
def wSm (nt : Nat) (L K : tkL) : Prop := eqR nt (L 5) (K 12)
def wLd (np : Nat) (L K : tkL) : Prop := eqR np (L 19) (K 15) ∧ eqR np (L 20) (K 16) ∧ eqR np (L 21) (K 17)
def wTm (L K : tkL) : Prop := L 0 4 = K 0 21
def wLg (c : Nat) (q m : tkI × tkL) : Prop := q.2 25 0 = lN c ∧ m.2 0 22 = lN c ∧ m.1 0 23 = nI (min c 30) ∧
  ∀ k, k < min c 30 → q.2 26 ((c - min c 30 + k) % 30) = m.2 18 k ∧ q.1 27 ((c - min c 30 + k) % 30) = m.1 19 k
def wRel (nt ns np c : Nat) (q m : tkI × tkL) : Prop := wSS nt ns np q.1 m.1 ∧ wLv nt q.1 m.1 ∧ wOn ns q.1 m.1 ∧ wSm nt q.2 m.2 ∧ wLd np q.2 m.2 ∧ wTm q.2 m.2 ∧ wLg c q m
/-- what the program's ticks leave -/
def xK (I I' : tkI) : Prop := ∀ k, k ≠ 3 → k ≠ 6 → k ≠ 11 → k ≠ 22 → k ≠ 23 → k ≠ 24 → k ≠ 27 → I' k = I k
theorem xK.rfl' (I : tkI) : xK I I := fun _ _ _ _ _ _ _ _ => rfl
theorem xK.trans {a b c : tkI} (h : xK a b) (g : xK b c) : xK a c := fun k h1 h2 h3 h4 h5 h6 h7 => (g k h1 h2 h3 h4 h5 h6 h7).trans (h k h1 h2 h3 h4 h5 h6 h7)
theorem wSS.keep {nt ns np : Nat} {I J I' J' : tkI} (h : wSS nt ns np I J) (hx : xK I I') (hm : mK J J') : wSS nt ns np I' J' := by
  have x : ∀ k, k ≠ 3 ∧ k ≠ 6 ∧ k ≠ 11 ∧ k ≠ 22 ∧ k ≠ 23 ∧ k ≠ 24 ∧ k ≠ 27 → I' k = I k := fun k z => hx k z.1 z.2.1 z.2.2.1 z.2.2.2.1 z.2.2.2.2.1 z.2.2.2.2.2.1 z.2.2.2.2.2.2
  have m : ∀ k, k ≠ 0 ∧ k ≠ 10 ∧ k ≠ 13 ∧ k ≠ 19 → J' k = J k := fun k z => hm.1 k z.1 z.2.1 z.2.2.1 z.2.2.2
  unfold wSS wCt wSt wBS at *
  rw [x 1 (by decide), x 7 (by decide), x 12 (by decide), x 2 (by decide), x 4 (by decide), x 8 (by decide), x 9 (by decide), x 10 (by decide), x 13 (by decide), x 14 (by decide), x 15 (by decide), x 16 (by decide), x 17 (by decide), x 18 (by decide),
    hm.2 1 (by decide), hm.2 3 (by decide), hm.2 7 (by decide), m 1 (by decide), m 11 (by decide), m 2 (by decide), m 3 (by decide), m 4 (by decide), m 5 (by decide), m 6 (by decide), m 14 (by decide), m 7 (by decide), m 8 (by decide), m 9 (by decide)]
  exact h
theorem itr_rel {α β : Type} {f : Nat → α → α} {g : Nat → β → β} {P : Nat → α → β → Prop} {n : Nat} (hs : ∀ i a b, i < n → P i a b → P (i + 1) (f i a) (g i b)) : ∀ {k : Nat} {a : α} {b : β}, k ≤ n → P 0 a b → P k (itr f k a) (itr g k b)
  | 0, _, _, _, h => h
  | k + 1, a, b, hk, h => hs k _ _ hk (itr_rel hs (Nat.le_of_succ_le hk) h)
/-! the log -/
theorem mSh_18 (q : tkI × tkL) : ∀ n k, (itr mSh n q).2 18 k = if k < n then q.2 18 (k + 1) else q.2 18 k
  | 0, k => by rw [if_neg (Nat.not_lt_zero k)]; rfl
  | n + 1, k => by
    rw [itr_s]
    show tk2 (itr mSh n q).2 18 n ((itr mSh n q).2 18 (n + 1)) 18 k = _
    by_cases h : k = n
    · subst h
      rw [tk2_at, mSh_18 q k (k + 1), if_neg (by omega), if_pos (by omega)]
    · rw [show tk2 (itr mSh n q).2 18 n ((itr mSh n q).2 18 (n + 1)) 18 k = (itr mSh n q).2 18 k from if_neg (fun z => h z.2), mSh_18 q n k]
      by_cases h2 : k < n
      · rw [if_pos h2, if_pos (by omega)]
      · rw [if_neg h2, if_neg (by omega)]
theorem mSh_19 (q : tkI × tkL) : ∀ n k, (itr mSh n q).1 19 k = if k < n then q.1 19 (k + 1) else q.1 19 k
  | 0, k => by rw [if_neg (Nat.not_lt_zero k)]; rfl
  | n + 1, k => by
    rw [itr_s]
    show tk2 (itr mSh n q).1 19 n ((itr mSh n q).1 19 (n + 1)) 19 k = _
    by_cases h : k = n
    · subst h
      rw [tk2_at, mSh_19 q k (k + 1), if_neg (by omega), if_pos (by omega)]
    · rw [show tk2 (itr mSh n q).1 19 n ((itr mSh n q).1 19 (n + 1)) 19 k = (itr mSh n q).1 19 k from if_neg (fun z => h z.2), mSh_19 q n k]
      by_cases h2 : k < n
      · rw [if_pos h2, if_pos (by omega)]
      · rw [if_neg h2, if_neg (by omega)]
/-- the reference's longs: a note leaves all but the log's -/
theorem mSh_K (n : Nat) (q : tkI × tkL) {k : Nat} (h : k ≠ 18) : (itr mSh n q).2 k = q.2 k :=
  itr_keep (g := fun a : tkI × tkL => a.2 k) (fun i a => by funext j; exact tk2_ne h) n q
theorem mLog_K (i : Int32) (lg : Nat) (q : tkI × tkL) {k : Nat} (h0 : k ≠ 0) (h : k ≠ 18) : (mLog i lg q).2 k = q.2 k := by
  have e : ∀ s q1, (mPut i s q1).2 k = q1.2 k := fun s q1 => by
    funext j
    exact (tk2_ne h0).trans (tk2_ne h)
  unfold mLog
  split
  · rw [e, mSh_K _ _ h]
  · exact e _ _
theorem mLog_21 (i : Int32) (lg : Nat) (q : tkI × tkL) : (mLog i lg q).2 0 21 = q.2 0 21 := by
  have e : ∀ s q1, (mPut i s q1).2 0 21 = q1.2 0 21 := fun s q1 => rfl
  unfold mLog
  split
  · rw [e, mSh_K _ _ (by decide)]
  · exact e _ _
theorem note_log {c : Nat} {q m : tkI × tkL} (h : wLg c q m) (hc : c < 2 ^ 62) (ht : wTm q.2 m.2) (i : Int32) : wLg (c + 1) (sNote (q.2 0 4) i q) (mLog i (min c 30) m) := by
  obtain ⟨h1, h2, h3, h4⟩ := h
  have hs : lgSlot (q.2 25 0) = c % 30 := by rw [h1]; exact lgSlot_lN (by omega)
  unfold sNote
  rw [hs]
  have ht : q.2 0 4 = m.2 0 21 := ht
  by_cases h30 : c < 30
  · have e : min c 30 = c := by omega
    have e1 : min (c + 1) 30 = c + 1 := by omega
    rw [e] at h3 h4 ⊢
    unfold mLog
    rw [if_neg (by omega)]
    refine ⟨?_, ?_, ?_, fun k hk => ?_⟩
    · show tk2 (tk2 q.2 26 (c % 30) (q.2 0 4)) 25 0 (q.2 25 0 + 1) 25 0 = _
      rw [tk2_at, h1, lN_1]
    · show tk2 (tk2 m.2 18 c (m.2 0 21)) 0 22 (m.2 0 22 + 1) 0 22 = _
      rw [tk2_at, h2, lN_1]
    · show tk2 (tk2 m.1 19 c i) 0 23 (nI (c + 1)) 0 23 = _
      rw [tk2_at, e1]
    · rw [e1] at hk ⊢
      rw [show (c + 1 - (c + 1) + k) % 30 = k by omega]
      have hk4 := h4 k
      rw [show (c - c + k) % 30 = k by omega] at hk4
      show tk2 q.2 26 (c % 30) (q.2 0 4) 26 k = tk2 m.2 18 c (m.2 0 21) 18 k ∧ tk2 q.1 27 (c % 30) i 27 k = tk2 m.1 19 c i 19 k
      rw [show c % 30 = c by omega]
      by_cases hkc : k = c
      · subst hkc
        rw [tk2_at, tk2_at, tk2_at, tk2_at]
        exact ⟨ht, rfl⟩
      · have hne : ∀ (α : Type) (f : Nat → Nat → α) a x, tk2 f a c x a k = f a k := fun α f a x => if_neg (fun z => hkc z.2)
        rw [hne, hne, hne, hne]
        exact hk4 (by omega)
  · have e : min c 30 = 30 := by omega
    have e1 : min (c + 1) 30 = 30 := by omega
    rw [e] at h3 h4 ⊢
    unfold mLog
    rw [if_pos rfl]
    have k18 := mSh_18 (tk2 m.1 0 23 (nI 29), m.2) 29
    have k19 := mSh_19 (tk2 m.1 0 23 (nI 29), m.2) 29
    have k0 : (itr mSh 29 (tk2 m.1 0 23 (nI 29), m.2)).2 0 = m.2 0 := mSh_K 29 (tk2 m.1 0 23 (nI 29), m.2) (by decide)
    generalize itr mSh 29 (tk2 m.1 0 23 (nI 29), m.2) = p at *
    obtain ⟨J1, K1⟩ := p
    dsimp only at k18 k19 k0 ⊢
    refine ⟨?_, ?_, ?_, fun k hk => ?_⟩
    · show tk2 (tk2 q.2 26 (c % 30) (q.2 0 4)) 25 0 (q.2 25 0 + 1) 25 0 = _
      rw [tk2_at, h1, lN_1]
    · show tk2 (tk2 K1 18 29 (K1 0 21)) 0 22 (K1 0 22 + 1) 0 22 = _
      rw [tk2_at, k0, h2, lN_1]
    · show tk2 (tk2 J1 19 29 i) 0 23 (nI (29 + 1)) 0 23 = _
      rw [tk2_at, e1]
    · rw [e1] at hk ⊢
      have hk4 := h4 (k + 1)
      show tk2 q.2 26 (c % 30) (q.2 0 4) 26 ((c + 1 - 30 + k) % 30) = tk2 K1 18 29 (K1 0 21) 18 k ∧ tk2 q.1 27 (c % 30) i 27 ((c + 1 - 30 + k) % 30) = tk2 J1 19 29 i 19 k
      by_cases hkc : k = 29
      · subst hkc
        rw [show (c + 1 - 30 + 29) % 30 = c % 30 by omega, tk2_at, tk2_at, tk2_at, tk2_at, k0]
        exact ⟨ht, rfl⟩
      · have hne : ∀ (α : Type) (f : Nat → Nat → α) a x, tk2 f a 29 x a k = f a k := fun α f a x => if_neg (fun z => hkc z.2)
        have hne2 : ∀ (α : Type) (f : Nat → Nat → α) a x, tk2 f a (c % 30) x a ((c + 1 - 30 + k) % 30) = f a ((c + 1 - 30 + k) % 30) := fun α f a x => if_neg (fun z => by have := z.2; omega)
        rw [hne, hne, hne2, hne2, k18 k, k19 k, if_pos (show k < 29 by omega), if_pos (show k < 29 by omega), show (c + 1 - 30 + k) % 30 = (c - 30 + (k + 1)) % 30 by omega]
        exact hk4 (by omega)
/-! the switches follow -/
theorem due_eq {I J : tkI} {i : Nat} (e2 : J 2 i = I 8 i) (e3 : J 3 i = I 9 i) (e4 : J 4 i = I 10 i) (e13 : J 13 i = I 11 i) (e10 : J 10 (I 8 i).toNatClampNeg = I 3 (I 8 i).toNatClampNeg) (hlt : I 9 i < I 10 i) : mDue J i = sDue I i := by
  unfold mDue sDue
  rw [e2, e3, e4, e13, e10]
  generalize I 3 (I 8 i).toNatClampNeg = x
  rw [Int32.lt_iff_toInt_lt] at hlt
  by_cases h0 : I 11 i = 0
  · rw [if_pos h0, if_pos h0]
    by_cases h1 : x ≤ I 9 i
    · rw [if_pos h1, if_neg (Int32.not_lt.mpr h1)]
    · rw [if_neg h1, if_pos (Int32.not_le.mp h1)]
      split <;> rfl
  · rw [if_neg h0, if_neg h0]
    by_cases h1 : x ≤ I 9 i
    · have h2 : ¬ I 10 i ≤ x := fun z => by
        rw [Int32.le_iff_toInt_le] at h1 z
        omega
      rw [if_pos h1, if_neg h2]
    · rw [if_neg h1]
end TKREL
end
section
section TKSIM
theorem i32_sub {x y : Int32} (h1 : -2147483648 ≤ x.toInt - y.toInt) (h2 : x.toInt - y.toInt ≤ 2147483647) : (x - y).toInt = x.toInt - y.toInt := by
  rw [Int32.toInt_sub]
  exact Int.bmod_eq_of_le (by omega) (by omega)
theorem i32_add {x y : Int32} (h1 : -2147483648 ≤ x.toInt + y.toInt) (h2 : x.toInt + y.toInt ≤ 2147483647) : (x + y).toInt = x.toInt + y.toInt := by
  rw [Int32.toInt_add]
  exact Int.bmod_eq_of_le (by omega) (by omega)
theorem jmin_Z (x y : Int32) : (jmin x y).toInt = min x.toInt y.toInt := by
  unfold jmin
  split <;> (rename_i h; rw [Int32.lt_iff_toInt_lt] at h; omega)
theorem mLog_J (i : Int32) (lg : Nat) (q : tkI × tkL) {k : Nat} (h0 : k ≠ 0) (h : k ≠ 19) : (mLog i lg q).1 k = q.1 k := by
  have e : ∀ s q1, (mPut i s q1).1 k = q1.1 k := fun s q1 => by
    funext j
    exact (tk2_ne h0).trans (tk2_ne h)
  unfold mLog
  split
  · rw [e, itr_keep (g := fun a : tkI × tkL => a.1 k) (fun i a => by funext j; exact tk2_ne h)]
    funext j
    exact tk2_ne h0
  · exact e _ _
theorem sNote_I (now : Int64) (i : Int32) (q : tkI × tkL) {k : Nat} (h : k ≠ 27) : (sNote now i q).1 k = q.1 k := by
  unfold sNote
  funext j
  exact tk2_ne h
theorem wRel.fol {nt ns np c i : Nat} {q m : tkI × tkL} (h : wRel nt ns np c q m) (hc : c < 2 ^ 62) (hi : i < ns) (n : Int32) (now : Int64) (hn : now = q.2 0 4) :
    (sFol now i (q, n)).2 = (mFol i (m, n)).2 ∧ ∃ c', c ≤ c' ∧ c' ≤ c + 1 ∧ wRel nt ns np c' (sFol now i (q, n)).1 (mFol i (m, n)).1 ∧ (sFol now i (q, n)).1.2 0 4 = q.2 0 4 := by
  obtain ⟨hS, hLv, hOn, hSm, hLd, hTm, hLg⟩ := h
  obtain ⟨⟨t, ht, et⟩, hlt, -, -⟩ := hS.2.2.2.1 i hi
  have hnt := hS.1.1.2.2
  have etc : (q.1 8 i).toNatClampNeg = t := by rw [et]; exact nI_clamp (by omega)
  have hd : mDue m.1 i = sDue q.1 i := due_eq (hS.2.1.2.1.1 i hi).symm (hS.2.1.2.1.2.1 i hi).symm (hS.2.1.2.1.2.2 i hi).symm (hOn.1 i hi).symm (by rw [etc]; exact (hLv.1 t ht).symm) hlt
  unfold sFol mFol
  dsimp only
  rw [hd, ← hOn.1 i hi]
  by_cases h1 : sDue q.1 i = q.1 11 i
  · rw [if_pos h1, if_pos h1]
    exact ⟨rfl, c, Nat.le_refl _, by omega, ⟨hS, hLv, hOn, hSm, hLd, hTm, hLg⟩, rfl⟩
  · rw [if_neg h1, if_neg h1]
    have elc : (m.1 0 23).toNatClampNeg = min c 30 := by rw [hLg.2.2.1]; exact nI_clamp (by omega)
    rw [elc, hn]
    have hb := sDue_01 q.1 i
    generalize sDue q.1 i = d at *
    have hLg' : wLg c (tk2 q.1 11 i d, q.2) (tk2 m.1 13 i d, m.2) := hLg
    have hl := note_log hLg' hc hTm (nI i)
    have jK := mLog_keep (nI i) (min c 30) (tk2 m.1 13 i d, m.2)
    have jJ : ∀ k, k ≠ 0 → k ≠ 19 → (mLog (nI i) (min c 30) (tk2 m.1 13 i d, m.2)).1 k = tk2 m.1 13 i d k := fun k a b => mLog_J _ _ _ a b
    have kK : ∀ k, k ≠ 0 → k ≠ 18 → (mLog (nI i) (min c 30) (tk2 m.1 13 i d, m.2)).2 k = m.2 k := fun k a b => mLog_K _ _ _ a b
    have k21 := mLog_21 (nI i) (min c 30) (tk2 m.1 13 i d, m.2)
    generalize mLog (nI i) (min c 30) (tk2 m.1 13 i d, m.2) = p at *
    have xx : ∀ k, k ≠ 11 → k ≠ 27 → (sNote (q.2 0 4) (nI i) (tk2 q.1 11 i d, q.2)).1 k = q.1 k := fun k a b => by
      funext j
      exact (tk2_ne b).trans (tk2_ne a)
    have x11 : (sNote (q.2 0 4) (nI i) (tk2 q.1 11 i d, q.2)).1 11 = tk2 q.1 11 i d 11 := by
      exact sNote_I _ _ _ (by decide)
    have xl : ∀ k, k ≠ 25 → k ≠ 26 → (sNote (q.2 0 4) (nI i) (tk2 q.1 11 i d, q.2)).2 k = q.2 k := fun k a b => by
      funext j
      exact (tk2_ne a).trans (tk2_ne b)
    generalize sNote (q.2 0 4) (nI i) (tk2 q.1 11 i d, q.2) = y at *
    have m10 : p.1 10 = m.1 10 := (jJ 10 (by decide) (by decide)).trans (by funext j; exact tk2_ne (by decide))
    refine ⟨rfl, c + 1, by omega, Nat.le_refl _, ⟨hS.keep (fun k _ _ h11 _ _ _ h27 => xx k h11 h27) ((mK.put (Or.inr (Or.inr (Or.inl rfl)))).trans jK), ?_, ?_, ?_, ?_, ?_, hl⟩, by rw [xl 0 (by decide) (by decide)]⟩
    · unfold wLv
      rw [m10, xx 3 (by decide) (by decide), xx 2 (by decide) (by decide)]
      exact hLv
    · unfold wOn
      rw [x11, jJ 13 (by decide) (by decide)]
      refine ⟨fun j hj => ?_, fun j hj => ?_⟩
      · by_cases e : j = i
        · rw [e, tk2_at, tk2_at]
        · rw [show tk2 q.1 11 i d 11 j = q.1 11 j from if_neg (fun z => e z.2), show tk2 m.1 13 i d 13 j = m.1 13 j from if_neg (fun z => e z.2)]
          exact hOn.1 j hj
      · by_cases e : j = i
        · rw [e, tk2_at]
          exact hb
        · rw [show tk2 q.1 11 i d 11 j = q.1 11 j from if_neg (fun z => e z.2)]
          exact hOn.2 j hj
    · unfold wSm
      rw [xl 5 (by decide) (by decide), kK 12 (by decide) (by decide)]
      exact hSm
    · unfold wLd
      rw [xl 19 (by decide) (by decide), xl 20 (by decide) (by decide), xl 21 (by decide) (by decide), kK 15 (by decide) (by decide), kK 16 (by decide) (by decide), kK 17 (by decide) (by decide)]
      exact hLd
    · unfold wTm
      rw [xl 0 (by decide) (by decide), k21]
      exact hTm
/-! the pumps -/
def amt (fr to rt : Int32) (f cp : Nat → Int32) : Int32 := if to = -1 then (if fr = -1 then rt else jmin rt (f fr.toNatClampNeg)) else jmin (if fr = -1 then rt else jmin rt (f fr.toNatClampNeg)) (cp to.toNatClampNeg - f to.toNatClampNeg)
def mv1 (fr m : Int32) (f : Nat → Int32) : Nat → Int32 := if fr = -1 then f else fun j => if j = fr.toNatClampNeg then f fr.toNatClampNeg - m else f j
def mv2 (to m : Int32) (f : Nat → Int32) : Nat → Int32 := if to = -1 then f else fun j => if j = to.toNatClampNeg then f to.toNatClampNeg + m else f j
theorem sMove_22 (i : Nat) (I : tkI) : sMove i I 22 i = amt (I 13 i) (I 14 i) (I 15 i) (I 3) (I 2) := tk2_at
theorem sMove_3 (i : Nat) (I : tkI) : sMove i I 3 = mv2 (I 14 i) (amt (I 13 i) (I 14 i) (I 15 i) (I 3) (I 2)) (mv1 (I 13 i) (amt (I 13 i) (I 14 i) (I 15 i) (I 3) (I 2)) (I 3)) := by
  have e : sMove i I = tk2 (if I 14 i = -1 then (if I 13 i = -1 then I else tk2 (tk2 I 3 (I 13 i).toNatClampNeg (I 3 (I 13 i).toNatClampNeg - amt (I 13 i) (I 14 i) (I 15 i) (I 3) (I 2))) 23 i (tk2 I 3 (I 13 i).toNatClampNeg (I 3 (I 13 i).toNatClampNeg - amt (I 13 i) (I 14 i) (I 15 i) (I 3) (I 2)) 3 (I 13 i).toNatClampNeg)) else
    (fun I1 : tkI => tk2 (tk2 I1 3 (I 14 i).toNatClampNeg (I1 3 (I 14 i).toNatClampNeg + amt (I 13 i) (I 14 i) (I 15 i) (I 3) (I 2))) 24 i (tk2 I1 3 (I 14 i).toNatClampNeg (I1 3 (I 14 i).toNatClampNeg + amt (I 13 i) (I 14 i) (I 15 i) (I 3) (I 2)) 2 (I 14 i).toNatClampNeg - tk2 I1 3 (I 14 i).toNatClampNeg (I1 3 (I 14 i).toNatClampNeg + amt (I 13 i) (I 14 i) (I 15 i) (I 3) (I 2)) 3 (I 14 i).toNatClampNeg))
      (if I 13 i = -1 then I else tk2 (tk2 I 3 (I 13 i).toNatClampNeg (I 3 (I 13 i).toNatClampNeg - amt (I 13 i) (I 14 i) (I 15 i) (I 3) (I 2))) 23 i (tk2 I 3 (I 13 i).toNatClampNeg (I 3 (I 13 i).toNatClampNeg - amt (I 13 i) (I 14 i) (I 15 i) (I 3) (I 2)) 3 (I 13 i).toNatClampNeg))) 22 i (amt (I 13 i) (I 14 i) (I 15 i) (I 3) (I 2)) := rfl
  rw [e]
  generalize amt (I 13 i) (I 14 i) (I 15 i) (I 3) (I 2) = a
  unfold mv1 mv2
  funext j
  by_cases h14 : I 14 i = -1 <;> by_cases h13 : I 13 i = -1 <;> simp [tk2, h13, h14]
theorem mLv_10 (a : Int32) (i : Nat) (J : tkI) : mLv2 a i (mLv1 a i J) 10 = mv2 (J 6 i) a (mv1 (J 5 i) a (J 10)) := by
  unfold mLv1 mLv2 mv1 mv2
  funext j
  by_cases h14 : J 6 i = -1 <;> by_cases h13 : J 5 i = -1 <;> simp [tk2, h13, h14]
theorem mAmt_eq (J : tkI) (i : Nat) : mAmt J i = amt (J 5 i) (J 6 i) (J 14 i) (J 10) (J 1) := rfl
/-- an end of a pump: outside, or a tank -/
def end_ (nt : Nat) (x : Int32) : Prop := x = -1 ∨ ∃ t, t < nt ∧ x = nI t
theorem end_.at {nt : Nat} {x : Int32} (hn : nt ≤ 8) (h : end_ nt x) (h1 : ¬ x = -1) : x.toNatClampNeg < nt := by
  obtain ⟨t, ht, rfl⟩ := h.resolve_left h1
  rw [nI_clamp (by omega)]
  exact ht
theorem amt_congr {nt : Nat} {fr to rt : Int32} {f g cp cp' : Nat → Int32} (hn : nt ≤ 8) (h1 : end_ nt fr) (h2 : end_ nt to) (hf : eqR nt f g) (hc : eqR nt cp cp') : amt fr to rt f cp = amt fr to rt g cp' := by
  unfold amt
  by_cases a : fr = -1 <;> by_cases b : to = -1
  · simp only [a, b, if_true]
  · simp only [a, b, if_true, if_false]
    rw [hf _ (h2.at hn b), hc _ (h2.at hn b)]
  · simp only [a, b, if_true, if_false]
    rw [hf _ (h1.at hn a)]
  · simp only [a, b, if_false]
    rw [hf _ (h2.at hn b), hc _ (h2.at hn b), hf _ (h1.at hn a)]
theorem mv1_congr {nt : Nat} {fr a : Int32} {f g : Nat → Int32} (hn : nt ≤ 8) (h1 : end_ nt fr) (hf : eqR nt f g) : eqR nt (mv1 fr a f) (mv1 fr a g) := by
  intro j hj
  unfold mv1
  by_cases h : fr = -1
  · simp only [h, if_true]
    exact hf j hj
  · simp only [h, if_false]
    rw [hf _ (h1.at hn h), hf j hj]
theorem mv2_congr {nt : Nat} {fr a : Int32} {f g : Nat → Int32} (hn : nt ≤ 8) (h1 : end_ nt fr) (hf : eqR nt f g) : eqR nt (mv2 fr a f) (mv2 fr a g) := by
  intro j hj
  unfold mv2
  by_cases h : fr = -1
  · simp only [h, if_true]
    exact hf j hj
  · simp only [h, if_false]
    rw [hf _ (h1.at hn h), hf j hj]
/-- levels within their tanks -/
def lvB (nt : Nat) (f cp : Nat → Int32) : Prop := ∀ j, j < nt → 0 ≤ (f j).toInt ∧ (f j).toInt ≤ (cp j).toInt ∧ (cp j).toInt ≤ 1000000000
theorem amt_Z {nt : Nat} {fr to rt : Int32} {f cp : Nat → Int32} (hn : nt ≤ 8) (h2 : end_ nt to) (hb : lvB nt f cp) :
    (amt fr to rt f cp).toInt = if to = -1 then (if fr = -1 then rt.toInt else min rt.toInt (f fr.toNatClampNeg).toInt) else min (if fr = -1 then rt.toInt else min rt.toInt (f fr.toNatClampNeg).toInt) ((cp to.toNatClampNeg).toInt - (f to.toNatClampNeg).toInt) := by
  unfold amt
  have e1 : (if fr = -1 then rt else jmin rt (f fr.toNatClampNeg)).toInt = if fr = -1 then rt.toInt else min rt.toInt (f fr.toNatClampNeg).toInt := by
    split
    · rfl
    · exact jmin_Z _ _
  by_cases b : to = -1
  · rw [if_pos b, if_pos b, e1]
  · obtain ⟨z1, z2, z3⟩ := hb _ (h2.at hn b)
    rw [if_neg b, if_neg b, jmin_Z, e1, i32_sub (by omega) (by omega)]
theorem mv_Z {nt : Nat} {fr to a : Int32} {f cp : Nat → Int32} (hn : nt ≤ 8) (h1 : end_ nt fr) (h2 : end_ nt to) (hne : fr ≠ to) (hb : lvB nt f cp) (ha0 : 0 ≤ a.toInt) (ha1 : ¬ fr = -1 → a.toInt ≤ (f fr.toNatClampNeg).toInt) (ha2 : ¬ to = -1 → a.toInt ≤ (cp to.toNatClampNeg).toInt - (f to.toNatClampNeg).toInt) {j : Nat} (hj : j < nt) :
    (mv2 to a (mv1 fr a f) j).toInt = (f j).toInt - (if ¬ fr = -1 ∧ j = fr.toNatClampNeg then a.toInt else 0) + (if ¬ to = -1 ∧ j = to.toNatClampNeg then a.toInt else 0) := by
  have hst : ¬ fr = -1 → ¬ to = -1 → fr.toNatClampNeg ≠ to.toNatClampNeg := by
    intro a b e
    obtain ⟨s, hs, rfl⟩ := h1.resolve_left a
    obtain ⟨t, ht, rfl⟩ := h2.resolve_left b
    rw [nI_clamp (by omega), nI_clamp (by omega)] at e
    exact hne (by rw [e])
  obtain ⟨z1, z2, z3⟩ := hb j hj
  unfold mv1 mv2
  by_cases p : fr = -1 <;> by_cases r : to = -1
  · simp only [p, r, if_true, not_true_eq_false, false_and, if_false]
    omega
  · simp only [p, r, if_true, not_true_eq_false, false_and, if_false, not_false_eq_true, true_and]
    have := ha2 r
    by_cases e : j = to.toNatClampNeg
    · subst e
      simp only [if_true]
      rw [i32_add (by omega) (by omega)]
      omega
    · simp only [e, if_false]
      omega
  · simp only [p, r, if_true, not_true_eq_false, false_and, if_false, not_false_eq_true, true_and]
    have := ha1 p
    by_cases e : j = fr.toNatClampNeg
    · subst e
      simp only [if_true]
      rw [i32_sub (by omega) (by omega)]
      omega
    · simp only [e, if_false]
      omega
  · simp only [p, r, if_false, not_false_eq_true, true_and]
    have w1 := ha1 p
    have w2 := ha2 r
    have w3 := hst p r
    by_cases e : j = to.toNatClampNeg
    · subst e
      have e2 : ¬ to.toNatClampNeg = fr.toNatClampNeg := fun z => w3 z.symm
      simp only [e2, if_true, if_false]
      rw [i32_add (by omega) (by omega)]
      omega
    · by_cases e2 : j = fr.toNatClampNeg
      · subst e2
        simp only [e, if_true, if_false]
        rw [i32_sub (by omega) (by omega)]
        omega
      · simp only [e, e2, if_false]
        omega
theorem mv_B {nt : Nat} {fr to rt : Int32} {f cp : Nat → Int32} (hn : nt ≤ 8) (h1 : end_ nt fr) (h2 : end_ nt to) (hne : fr ≠ to) (hb : lvB nt f cp) (hr : 1 ≤ rt.toInt) :
    (0 ≤ (amt fr to rt f cp).toInt ∧ (amt fr to rt f cp).toInt ≤ rt.toInt ∧ (¬ fr = -1 → (amt fr to rt f cp).toInt ≤ (f fr.toNatClampNeg).toInt) ∧ (¬ to = -1 → (amt fr to rt f cp).toInt ≤ (cp to.toNatClampNeg).toInt - (f to.toNatClampNeg).toInt)) ∧
    lvB nt (mv2 to (amt fr to rt f cp) (mv1 fr (amt fr to rt f cp) f)) cp := by
  have e := amt_Z (fr := fr) (rt := rt) hn h2 hb
  have k : 0 ≤ (amt fr to rt f cp).toInt ∧ (amt fr to rt f cp).toInt ≤ rt.toInt ∧ (¬ fr = -1 → (amt fr to rt f cp).toInt ≤ (f fr.toNatClampNeg).toInt) ∧ (¬ to = -1 → (amt fr to rt f cp).toInt ≤ (cp to.toNatClampNeg).toInt - (f to.toNatClampNeg).toInt) := by
    generalize (amt fr to rt f cp).toInt = a at e ⊢
    by_cases p : fr = -1 <;> by_cases r : to = -1
    · simp only [p, r, if_true] at e
      exact ⟨by omega, by omega, fun z => absurd p z, fun z => absurd r z⟩
    · simp only [p, r, if_true, if_false] at e
      have := hb _ (h2.at hn r)
      exact ⟨by omega, by omega, fun z => absurd p z, fun z => by omega⟩
    · simp only [p, r, if_true, if_false] at e
      have := hb _ (h1.at hn p)
      exact ⟨by omega, by omega, fun z => by omega, fun z => absurd r z⟩
    · simp only [p, r, if_false] at e
      have := hb _ (h1.at hn p)
      have := hb _ (h2.at hn r)
      exact ⟨by omega, by omega, fun z => by omega, fun z => by omega⟩
  refine ⟨k, fun j hj => ?_⟩
  rw [mv_Z hn h1 h2 hne hb k.1 k.2.2.1 k.2.2.2 hj]
  obtain ⟨z1, z2, z3⟩ := hb j hj
  generalize (amt fr to rt f cp).toInt = a at *
  obtain ⟨k0, k1, k2, k3⟩ := k
  have hst : ¬ fr = -1 → ¬ to = -1 → fr.toNatClampNeg ≠ to.toNatClampNeg := by
    intro a b e
    obtain ⟨s, hs, rfl⟩ := h1.resolve_left a
    obtain ⟨t, ht, rfl⟩ := h2.resolve_left b
    rw [nI_clamp (by omega), nI_clamp (by omega)] at e
    exact hne (by rw [e])
  by_cases p : ¬ fr = -1 ∧ j = fr.toNatClampNeg
  · rw [if_pos p]
    have := k2 p.1
    rw [← p.2] at this
    by_cases r : ¬ to = -1 ∧ j = to.toNatClampNeg
    · exact absurd (p.2.symm.trans r.2) (hst p.1 r.1)
    · rw [if_neg r]
      omega
  · rw [if_neg p]
    by_cases r : ¬ to = -1 ∧ j = to.toNatClampNeg
    · rw [if_pos r]
      have := k3 r.1
      rw [← r.2] at this
      omega
    · rw [if_neg r]
      omega
end TKSIM
end
section
section TKTICKSIM
theorem wLg.keep {c : Nat} {q m q' m' : tkI × tkL} (h : wLg c q m) (h27 : q'.1 27 = q.1 27) (h25 : q'.2 25 = q.2 25) (h26 : q'.2 26 = q.2 26) (k22 : m'.2 0 22 = m.2 0 22) (k18 : m'.2 18 = m.2 18) (j23 : m'.1 0 23 = m.1 0 23) (j19 : m'.1 19 = m.1 19) : wLg c q' m' := by
  unfold wLg
  rw [h27, h25, h26, k22, k18, j23, j19]
  exact h
theorem mLv_J (a : Int32) (i : Nat) (J : tkI) {k : Nat} (h : k ≠ 10) : mLv2 a i (mLv1 a i J) k = J k := by
  unfold mLv1 mLv2
  funext j
  split <;> split <;> simp [tk2, h]
theorem mEnt_K (a : Int32) (i : Nat) (J : tkI) (K : tkL) {k : Nat} (h15 : k ≠ 15) (h16 : k ≠ 16) (h17 : k ≠ 17) : mEnt a i J K k = K k := by
  unfold mEnt
  funext j
  rw [tk2_ne h17, tk2_ne h16, tk2_ne h15]
theorem mEnt_15 (a : Int32) (i : Nat) (J : tkI) (K : tkL) (j : Nat) : mEnt a i J K 15 j = if j = i then K 15 i + a.toInt64 else K 15 j := by
  unfold mEnt
  simp [tk2]
theorem mEnt_16 (a : Int32) (i : Nat) (J : tkI) (K : tkL) (j : Nat) : mEnt a i J K 16 j = if j = i then K 16 i + a.toInt64 * (J 7 i).toInt64 else K 16 j := by
  unfold mEnt
  simp [tk2]
theorem mEnt_17 (a : Int32) (i : Nat) (J : tkI) (K : tkL) (j : Nat) : mEnt a i J K 17 j = if j = i then K 17 i + (if J 14 i ≤ a then 0 else 1) else K 17 j := by
  unfold mEnt
  simp [tk2]
theorem sEnter_19 (t : Int32) (i : Nat) (I : tkI) (L : tkL) (j : Nat) : sEnter t i I L 19 j = if j = i then L 19 i + (I 22 i).toInt64 * t.toInt64 else L 19 j := by
  unfold sEnter
  split <;> simp [tk2]
theorem sEnter_20 (t : Int32) (i : Nat) (I : tkI) (L : tkL) (j : Nat) : sEnter t i I L 20 j = if j = i then L 20 i + (I 22 i).toInt64 * t.toInt64 * (I 16 i).toInt64 else L 20 j := by
  unfold sEnter
  split <;> simp [tk2]
theorem sEnter_21 (t : Int32) (i : Nat) (I : tkI) (L : tkL) (j : Nat) : sEnter t i I L 21 j = if j = i then L 21 i + (if I 15 i ≤ I 22 i then 0 else t.toInt64) else L 21 j := by
  unfold sEnter
  by_cases h : I 15 i ≤ I 22 i
  · simp only [h, if_true, Int64.add_zero]
    by_cases e : j = i
    · simp [tk2, e]
    · simp [tk2, e]
  · simp only [h, if_false]
    simp [tk2]
theorem act_iff {I J : tkI} {i : Nat} (e17 : J 8 i = I 17 i) (e18 : J 9 i = I 18 i) (e11 : ¬ I 17 i = -1 → J 13 (I 17 i).toNatClampNeg = I 11 (I 17 i).toNatClampNeg) : sAct I i = 0 ↔ ¬ J 8 i = -1 ∧ J 13 (J 8 i).toNatClampNeg = J 9 i := by
  unfold sAct
  rw [e17, e18]
  by_cases h : I 17 i = -1
  · rw [if_pos h]
    exact ⟨fun z => absurd z (by decide), fun z => absurd h z.1⟩
  · rw [if_neg h, e11 h]
    by_cases h2 : I 11 (I 17 i).toNatClampNeg = I 18 i
    · rw [if_pos h2]
      exact ⟨fun _ => ⟨h, h2⟩, fun _ => rfl⟩
    · rw [if_neg h2]
      exact ⟨fun z => absurd z (by decide), fun z => absurd z.2 h2⟩
theorem wRel.lvB {nt ns np c : Nat} {q m : tkI × tkL} (h : wRel nt ns np c q m) : lvB nt (q.1 3) (q.1 2) := fun j hj => ⟨(h.2.1.2 j hj).1, (h.2.1.2 j hj).2, (h.1.2.2.1 j hj).2.1⟩
theorem wSS.act {nt ns np i : Nat} {I J : tkI} (h : wSS nt ns np I J) (hOn : wOn ns I J) (hi : i < np) : sAct I i = 0 ↔ ¬ J 8 i = -1 ∧ J 13 (J 8 i).toNatClampNeg = J 9 i := by
  obtain ⟨-, -, hk, -⟩ := h.2.2.2.2 i hi
  have hns := h.1.2.1.2.2
  refine act_iff (h.2.1.2.2.2.2.2.2.1 i hi).symm (h.2.1.2.2.2.2.2.2.2 i hi).symm (fun z => ?_)
  obtain ⟨t, ht, et⟩ := hk.resolve_left z
  rw [et, nI_clamp (by omega)]
  exact (hOn.1 t ht).symm
theorem wSS.amt {nt ns np i : Nat} {I J : tkI} (h : wSS nt ns np I J) (hL : eqR nt (I 3) (J 10)) (hi : i < np) : mAmt J i = amt (I 13 i) (I 14 i) (I 15 i) (I 3) (I 2) := by
  obtain ⟨hf, ht, -⟩ := h.2.2.2.2 i hi
  obtain ⟨⟨e2, -⟩, -, e13, e14, e15, -⟩ := h.2.1
  rw [mAmt_eq, ← e13 i hi, ← e14 i hi, ← e15 i hi]
  exact (amt_congr h.1.1.2.2 hf ht hL e2).symm
theorem wRel.pump {nt ns np c i : Nat} {q m : tkI × tkL} (h : wRel nt ns np c q m) (hi : i < np) : wRel nt ns np c (sMv i q) (mPump i m) := by
  have hB := h.lvB
  obtain ⟨hS, hLv, hOn, hSm, hLd, hTm, hLg⟩ := h
  have ha := hS.act hOn hi
  have eA := hS.amt hLv.1 hi
  have hn := hS.1.1.2.2
  obtain ⟨hf, ht, -, hne, hr, -⟩ := hS.2.2.2.2 i hi
  obtain ⟨-, -, e13, e14, e15, e16, -, -⟩ := hS.2.1
  unfold sMv mPump
  by_cases h0 : sAct q.1 i = 0
  · rw [if_pos h0, if_pos (ha.mp h0)]
    exact ⟨hS, hLv, hOn, hSm, hLd, hTm, hLg⟩
  · rw [if_neg h0, if_neg (fun z => h0 (ha.mpr z)), eA]
    have kx : xK q.1 (sMove i q.1) := fun k h3 h6 h11 h22 h23 h24 h27 => sMove_keep i q.1 h3 h22 h23 h24
    have x3 := sMove_3 i q.1
    have x22 := sMove_22 i q.1
    have xr : ∀ k, k ≠ 3 → k ≠ 22 → k ≠ 23 → k ≠ 24 → sMove i q.1 k = q.1 k := fun k a b d e => sMove_keep i q.1 a b d e
    have hmv := mv_B (fr := q.1 13 i) (to := q.1 14 i) (rt := q.1 15 i) hn hf ht hne hB hr
    have km : mK m.1 (mLv2 (amt (q.1 13 i) (q.1 14 i) (q.1 15 i) (q.1 3) (q.1 2)) i (mLv1 (amt (q.1 13 i) (q.1 14 i) (q.1 15 i) (q.1 3) (q.1 2)) i m.1)) := (mLv1_keep _ i _).1.trans (mLv2_keep _ i _).1
    generalize sMove i q.1 = I1 at *
    generalize amt (q.1 13 i) (q.1 14 i) (q.1 15 i) (q.1 3) (q.1 2) = a at *
    have el : ∀ k, k ≠ 19 → k ≠ 20 → k ≠ 21 → sEnter 1 i I1 q.2 k = q.2 k := fun k a b d => sEnter_25 1 i I1 q.2 a b d
    have one : (1 : Int32).toInt64 = 1 := by decide
    refine ⟨hS.keep kx km, ?_, ?_, ?_, ⟨fun j hj => ?_, fun j hj => ?_, fun j hj => ?_⟩, ?_, ?_⟩
    · refine ⟨?_, fun j hj => ?_⟩
      · dsimp only
        rw [x3, mLv_10, ← e13 i hi, ← e14 i hi]
        exact mv2_congr hn ht (mv1_congr hn hf hLv.1)
      · dsimp only
        rw [x3, xr 2 (by decide) (by decide) (by decide) (by decide)]
        exact ⟨(hmv.2 j hj).1, (hmv.2 j hj).2.1⟩
    · unfold wOn
      dsimp only
      rw [xr 11 (by decide) (by decide) (by decide) (by decide), mLv_J _ _ _ (by decide)]
      exact hOn
    · unfold wSm
      dsimp only
      rw [el 5 (by decide) (by decide) (by decide), mEnt_K _ _ _ _ (by decide) (by decide) (by decide)]
      exact hSm
    · dsimp only
      rw [sEnter_19, mEnt_15, x22, one, Int64.mul_one, hLd.1 i hi, hLd.1 j hj]
    · dsimp only
      rw [sEnter_20, mEnt_16, x22, one, Int64.mul_one, xr 16 (by decide) (by decide) (by decide) (by decide), e16 i hi, hLd.2.1 i hi, hLd.2.1 j hj]
    · dsimp only
      rw [sEnter_21, mEnt_17, x22, one, xr 15 (by decide) (by decide) (by decide) (by decide), e15 i hi, hLd.2.2 i hi, hLd.2.2 j hj]
    · unfold wTm
      dsimp only
      rw [el 0 (by decide) (by decide) (by decide), mEnt_K _ _ _ _ (by decide) (by decide) (by decide)]
      exact hTm
    · exact hLg.keep (xr 27 (by decide) (by decide) (by decide) (by decide)) (el 25 (by decide) (by decide) (by decide)) (el 26 (by decide) (by decide) (by decide)) (congrFun (mEnt_K (k := 0) a i m.1 m.2 (by decide) (by decide) (by decide)) 22) (mEnt_K (k := 18) a i m.1 m.2 (by decide) (by decide) (by decide)) (congrFun (mLv_J (k := 0) a i m.1 (by decide)) 23) (mLv_J (k := 19) a i m.1 (by decide))
/-! leaks and sums -/
theorem mLeak_at (J : tkI) : ∀ n, (∀ j, itr mLeak n J 10 j = if j < n then J 10 j - jmin (J 11 j) (J 10 j) else J 10 j) ∧ ∀ k, k ≠ 10 → itr mLeak n J k = J k
  | 0 => ⟨fun j => by rw [if_neg (Nat.not_lt_zero j)]; rfl, fun k _ => rfl⟩
  | n + 1 => by
    obtain ⟨h1, h2⟩ := mLeak_at J n
    rw [itr_s]
    generalize itr mLeak n J = A at *
    unfold mLeak
    refine ⟨fun j => ?_, fun k hk => ?_⟩
    · by_cases e : j = n
      · subst e
        rw [tk2_at, h1 j, if_neg (Nat.lt_irrefl j), h2 11 (by decide), if_pos (Nat.lt_succ_self j)]
      · rw [show ∀ x, tk2 A 10 n x 10 j = A 10 j from fun x => if_neg (fun z => e z.2), h1 j]
        by_cases h : j < n
        · rw [if_pos h, if_pos (by omega)]
        · rw [if_neg h, if_neg (by omega)]
    · rw [← h2 k hk]
      funext j
      exact tk2_ne hk
theorem mSum_at (J : tkI) (K : tkL) : ∀ n, (∀ j, itr (mSum J) n K 12 j = if j < n then K 12 j + (J 10 j).toInt64 else K 12 j) ∧ ∀ k, k ≠ 12 → itr (mSum J) n K k = K k
  | 0 => ⟨fun j => by rw [if_neg (Nat.not_lt_zero j)]; rfl, fun k _ => rfl⟩
  | n + 1 => by
    obtain ⟨h1, h2⟩ := mSum_at J K n
    rw [itr_s]
    unfold mSum
    refine ⟨fun j => ?_, fun k hk => ?_⟩
    · by_cases e : j = n
      · subst e
        rw [tk2_at, show itr (fun i K => tk2 K 12 i (K 12 i + (J 10 i).toInt64)) j K = itr (mSum J) j K from rfl, h1 j, if_neg (Nat.lt_irrefl j), if_pos (Nat.lt_succ_self j)]
      · rw [show ∀ x, tk2 (itr (fun i K => tk2 K 12 i (K 12 i + (J 10 i).toInt64)) n K) 12 n x 12 j = itr (mSum J) n K 12 j from fun x => if_neg (fun z => e z.2), h1 j]
        by_cases h : j < n
        · rw [if_pos h, if_pos (by omega)]
        · rw [if_neg h, if_neg (by omega)]
    · rw [← h2 k hk]
      funext j
      exact tk2_ne hk
theorem sLeak_at (q : tkI × tkL) : ∀ n, (∀ j, (itr sLeak n q).1 3 j = if j < n then q.1 3 j - jmin (q.1 4 j) (q.1 3 j) else q.1 3 j) ∧ (∀ j, (itr sLeak n q).2 5 j = if j < n then q.2 5 j + (q.1 3 j - jmin (q.1 4 j) (q.1 3 j)).toInt64 else q.2 5 j) ∧ (∀ k, k ≠ 3 → (itr sLeak n q).1 k = q.1 k) ∧ ∀ k, k ≠ 5 → (itr sLeak n q).2 k = q.2 k
  | 0 => ⟨fun j => by rw [if_neg (Nat.not_lt_zero j)]; rfl, fun j => by rw [if_neg (Nat.not_lt_zero j)]; rfl, fun k _ => rfl, fun k _ => rfl⟩
  | n + 1 => by
    obtain ⟨h1, h2, h3, h4⟩ := sLeak_at q n
    rw [itr_s]
    generalize itr sLeak n q = a at *
    unfold sLeak
    refine ⟨fun j => ?_, fun j => ?_, fun k hk => ?_, fun k hk => ?_⟩
    · dsimp only
      by_cases e : j = n
      · subst e
        rw [tk2_at, h1 j, if_neg (Nat.lt_irrefl j), h3 4 (by decide), if_pos (Nat.lt_succ_self j)]
      · rw [show ∀ x, tk2 a.1 3 n x 3 j = a.1 3 j from fun x => if_neg (fun z => e z.2), h1 j]
        by_cases h : j < n
        · rw [if_pos h, if_pos (by omega)]
        · rw [if_neg h, if_neg (by omega)]
    · dsimp only
      by_cases e : j = n
      · subst e
        rw [tk2_at, tk2_at, h2 j, if_neg (Nat.lt_irrefl j), h1 j, if_neg (Nat.lt_irrefl j), h3 4 (by decide), if_pos (Nat.lt_succ_self j)]
      · rw [show ∀ x, tk2 a.2 5 n x 5 j = a.2 5 j from fun x => if_neg (fun z => e z.2), h2 j]
        by_cases h : j < n
        · rw [if_pos h, if_pos (by omega)]
        · rw [if_neg h, if_neg (by omega)]
    · rw [← h3 k hk]
      funext j
      exact tk2_ne hk
    · rw [← h4 k hk]
      funext j
      exact tk2_ne hk
/-- one tick on either side -/
theorem wRel.tick {nt ns np c : Nat} {q m : tkI × tkL} (h : wRel nt ns np c q m) (hc : c + 10 < 2 ^ 62) :
    (sTick nt ns np q).2 = (mTick nt ns np m).2 ∧ ∃ c', c ≤ c' ∧ c' ≤ c + 10 ∧ wRel nt ns np c' (sTick nt ns np q).1 (mTick nt ns np m).1 := by
  have hns := h.1.1.2.1.2.2
  have h0 : wRel nt ns np c (sBef q.1, q.2) m := h
  have hf := itr_rel (f := sFol (q.2 0 4)) (g := mFol) (n := ns) (P := fun i a b => a.2 = b.2 ∧ ∃ c', c ≤ c' ∧ c' ≤ c + i ∧ wRel nt ns np c' a.1 b.1 ∧ a.1.2 0 4 = q.2 0 4) (fun i a b hi hp => by
    obtain ⟨qa, n1⟩ := a
    obtain ⟨mb, n2⟩ := b
    obtain ⟨e, c', h1, h2, h3, h4⟩ := hp
    dsimp only at e h3 h4
    subst e
    obtain ⟨e1, c2, g1, g2, g3, g4⟩ := h3.fol (by omega) hi n1 (q.2 0 4) h4.symm
    exact ⟨e1, c2, by omega, by omega, g3, g4.trans h4⟩) (k := ns) (Nat.le_refl _) (a := ((sBef q.1, q.2), 0)) (b := (m, 0)) ⟨rfl, c, Nat.le_refl _, by omega, h0, rfl⟩
  unfold sTick mTick
  dsimp only
  generalize itr (sFol (q.2 0 4)) ns ((sBef q.1, q.2), 0) = f at *
  generalize itr mFol ns (m, 0) = g at *
  obtain ⟨e, c', h1, h2, h3, -⟩ := hf
  refine ⟨e, c', h1, by omega, ?_⟩
  have hp := itr_rel (f := sMv) (g := mPump) (n := np) (P := fun _ a b => wRel nt ns np c' a b) (fun i a b hi hp => hp.pump hi) (k := np) (Nat.le_refl _) (a := f.1) (b := g.1) h3
  generalize itr sMv np f.1 = a at *
  generalize itr mPump np g.1 = b at *
  have hB := hp.lvB
  obtain ⟨hS, hLv, hOn, hSm, hLd, hTm, hLg⟩ := hp
  obtain ⟨s1, s2, s3, s4⟩ := sLeak_at a nt
  obtain ⟨l1, l2⟩ := mLeak_at b.1 nt
  obtain ⟨u1, u2⟩ := mSum_at (itr mLeak nt b.1) (tk2 b.2 0 21 (b.2 0 21 + 1)) nt
  have mk : mK b.1 (itr mLeak nt b.1) := ⟨fun k _ h10 _ _ => l2 k h10, fun c _ => congrFun (l2 0 (by decide)) c⟩
  generalize itr (mSum (itr mLeak nt b.1)) nt (tk2 b.2 0 21 (b.2 0 21 + 1)) = K at *
  generalize itr mLeak nt b.1 = J at *
  generalize itr sLeak nt a = r at *
  obtain ⟨I, L⟩ := r
  dsimp only at *
  have xl : ∀ k, k ≠ 5 → k ≠ 0 → tk2 L 0 4 (L 0 4 + 1) k = a.2 k := fun k h5 h0 => by
    rw [← s4 k h5]
    funext j
    exact tk2_ne h0
  have ul : ∀ k, k ≠ 12 → k ≠ 0 → K k = b.2 k := fun k h12 h0 => by
    rw [u2 k h12]
    funext j
    exact tk2_ne h0
  refine ⟨hS.keep (fun k h3 _ _ _ _ _ _ => s3 k h3) mk, ⟨fun j hj => ?_, fun j hj => ?_⟩, ?_, ?_, ⟨?_, ?_, ?_⟩, ?_, ?_⟩
  · dsimp only
    rw [s1 j, l1 j, if_pos hj, if_pos hj, hLv.1 j hj, hS.2.1.1.2 j hj]
  · dsimp only
    obtain ⟨b1, b2, b3⟩ := hB j hj
    obtain ⟨-, -, b4, b5⟩ := hS.2.2.1 j hj
    have e := jmin_Z (a.1 4 j) (a.1 3 j)
    rw [s1 j, if_pos hj, s3 2 (by decide), i32_sub (by omega) (by omega), e]
    omega
  · unfold wOn
    dsimp only
    rw [s3 11 (by decide), l2 13 (by decide)]
    exact hOn
  · intro j hj
    dsimp only
    rw [show tk2 L 0 4 (L 0 4 + 1) 5 j = L 5 j from tk2_ne (by decide), s2 j, u1 j, if_pos hj, if_pos hj, l1 j, if_pos hj, hLv.1 j hj, hS.2.1.1.2 j hj, hSm j hj]
    rw [show tk2 b.2 0 21 (b.2 0 21 + 1) 12 j = b.2 12 j from tk2_ne (by decide)]
  · dsimp only
    rw [xl 19 (by decide) (by decide), ul 15 (by decide) (by decide)]
    exact hLd.1
  · dsimp only
    rw [xl 20 (by decide) (by decide), ul 16 (by decide) (by decide)]
    exact hLd.2.1
  · dsimp only
    rw [xl 21 (by decide) (by decide), ul 17 (by decide) (by decide)]
    exact hLd.2.2
  · unfold wTm
    dsimp only
    rw [tk2_at, u2 0 (by decide), tk2_at, s4 0 (by decide), show a.2 0 4 = b.2 0 21 from hTm]
  · exact hLg.keep (s3 27 (by decide)) (xl 25 (by decide) (by decide)) (xl 26 (by decide) (by decide)) ((congrFun (u2 0 (by decide)) 22).trans rfl) (ul 18 (by decide) (by decide)) (congrFun (l2 0 (by decide)) 23) (l2 19 (by decide))
end TKTICKSIM
end
section
section TKTRACE
/-- one pump in the last tick: levels f before, f' behind it -/
def trStep (I : tkI) (i : Nat) (f f' : Nat → Int32) : Prop :=
  if sAct I i = 0 then f' = f else f' = mv2 (I 14 i) (I 22 i) (mv1 (I 13 i) (I 22 i) f) ∧ I 22 i = amt (I 13 i) (I 14 i) (I 15 i) f (I 2) ∧ (¬ I 13 i = -1 → I 23 i = f' (I 13 i).toNatClampNeg) ∧ (¬ I 14 i = -1 → I 24 i = I 2 (I 14 i).toNatClampNeg - f' (I 14 i).toNatClampNeg)
/-- what the scratch rows tell of the last tick -/
def wTr (nt np : Nat) (I : tkI) : Prop := ∃ f : Nat → Nat → Int32, eqR nt (I 6) (f 0) ∧ (∀ i, i ≤ np → lvB nt (f i) (I 2)) ∧ (∀ i, i < np → trStep I i (f i) (f (i + 1))) ∧ ∀ j, j < nt → I 3 j = f np j - jmin (I 4 j) (f np j)
theorem sMove_23 {i : Nat} {I : tkI} (h13 : ¬ I 13 i = -1) (hne : ¬ I 14 i = -1 → (I 13 i).toNatClampNeg ≠ (I 14 i).toNatClampNeg) : sMove i I 23 i = sMove i I 3 (I 13 i).toNatClampNeg := by
  rw [sMove_3]
  have e : sMove i I 23 i = I 3 (I 13 i).toNatClampNeg - amt (I 13 i) (I 14 i) (I 15 i) (I 3) (I 2) := by
    rw [← sMove_22]
    unfold sMove
    by_cases h14 : I 14 i = -1 <;> simp [tk2, h13, h14]
  rw [e]
  unfold mv1 mv2
  by_cases h14 : I 14 i = -1
  · simp [h13, h14]
  · have := hne h14
    simp [h13, h14, this]
theorem sMove_24 {i : Nat} {I : tkI} (h14 : ¬ I 14 i = -1) : sMove i I 24 i = I 2 (I 14 i).toNatClampNeg - sMove i I 3 (I 14 i).toNatClampNeg := by
  unfold sMove
  by_cases h13 : I 13 i = -1 <;> simp [tk2, h13, h14]
theorem sMv_own {k i : Nat} (h : i ≠ k) (q : tkI × tkL) : (sMv k q).1 22 i = q.1 22 i ∧ (sMv k q).1 23 i = q.1 23 i ∧ (sMv k q).1 24 i = q.1 24 i := by
  unfold sMv
  split
  · exact ⟨rfl, rfl, rfl⟩
  · unfold sMove
    refine ⟨?_, ?_, ?_⟩ <;> (dsimp only; split <;> split <;> simp [tk2, h])
theorem sMv_own_itr {i : Nat} (q : tkI × tkL) : ∀ n, i < n → (itr sMv n q).1 22 i = (itr sMv (i + 1) q).1 22 i ∧ (itr sMv n q).1 23 i = (itr sMv (i + 1) q).1 23 i ∧ (itr sMv n q).1 24 i = (itr sMv (i + 1) q).1 24 i
  | 0, h => absurd h (Nat.not_lt_zero i)
  | n + 1, h => by
    by_cases e : i = n
    · subst e
      exact ⟨rfl, rfl, rfl⟩
    · obtain ⟨a, b, c⟩ := sMv_own_itr (i := i) q n (by omega)
      rw [itr_s sMv n q]
      obtain ⟨a1, b1, c1⟩ := sMv_own e (itr sMv n q)
      exact ⟨a1.trans a, b1.trans b, c1.trans c⟩
theorem sAct_congr {I I' : tkI} (h17 : I' 17 = I 17) (h18 : I' 18 = I 18) (h11 : I' 11 = I 11) (i : Nat) : sAct I' i = sAct I i := by
  unfold sAct
  rw [h17, h18, h11]
theorem sMv_pMv {q : tkI × tkL} : ∀ n, pMv q.1 (itr sMv n q)
  | 0 => fun _ _ _ _ _ => rfl
  | n + 1 => sMv_keep (sMv_pMv n)
theorem wRel.trace {nt ns np c : Nat} {q m : tkI × tkL} (h : wRel nt ns np c q m) (hc : c + 10 < 2 ^ 62) : wTr nt np (sTick nt ns np q).1.1 := by
  have hns := h.1.1.2.1.2.2
  have h0 : wRel nt ns np c (sBef q.1, q.2) m := h
  have hf := itr_rel (f := sFol (q.2 0 4)) (g := mFol) (n := ns) (P := fun i a b => a.2 = b.2 ∧ ∃ c', c ≤ c' ∧ c' ≤ c + i ∧ wRel nt ns np c' a.1 b.1 ∧ a.1.2 0 4 = q.2 0 4) (fun i a b hi hp => by
    obtain ⟨qa, n1⟩ := a
    obtain ⟨mb, n2⟩ := b
    obtain ⟨e, c', h1, h2, h3, h4⟩ := hp
    dsimp only at e h3 h4
    subst e
    obtain ⟨e1, c2, g1, g2, g3, g4⟩ := h3.fol (by omega) hi n1 (q.2 0 4) h4.symm
    exact ⟨e1, c2, by omega, by omega, g3, g4.trans h4⟩) (k := ns) (Nat.le_refl _) (a := ((sBef q.1, q.2), 0)) (b := (m, 0)) ⟨rfl, c, Nat.le_refl _, by omega, h0, rfl⟩
  have f6 : (itr (sFol (q.2 0 4)) ns ((sBef q.1, q.2), 0)).1.1 6 = sBef q.1 6 := itr_keep (g := fun a : (tkI × tkL) × Int32 => a.1.1 6) (fun i a => sFol_keep (k := 6) _ i a (by decide) (by decide)) ns ((sBef q.1, q.2), 0)
  have f3 : (itr (sFol (q.2 0 4)) ns ((sBef q.1, q.2), 0)).1.1 3 = sBef q.1 3 := itr_keep (g := fun a : (tkI × tkL) × Int32 => a.1.1 3) (fun i a => sFol_keep (k := 3) _ i a (by decide) (by decide)) ns ((sBef q.1, q.2), 0)
  unfold sTick
  dsimp only
  generalize itr (sFol (q.2 0 4)) ns ((sBef q.1, q.2), 0) = fq at *
  generalize itr mFol ns (m, 0) = g at *
  obtain ⟨-, c', -, -, h3, -⟩ := hf
  have hp : ∀ i, i ≤ np → wRel nt ns np c' (itr sMv i fq.1) (itr mPump i g.1) := fun i hi => itr_rel (f := sMv) (g := mPump) (n := np) (P := fun _ a b => wRel nt ns np c' a b) (fun i a b hi hp => hp.pump hi) (k := i) hi (a := fq.1) (b := g.1) h3
  have hk : ∀ i k, k ≠ 3 → k ≠ 22 → k ≠ 23 → k ≠ 24 → (itr sMv i fq.1).1 k = fq.1.1 k := fun i => sMv_pMv i
  obtain ⟨s1, -, s3, -⟩ := sLeak_at (itr sMv np fq.1) nt
  generalize itr sLeak nt (itr sMv np fq.1) = r at *
  obtain ⟨I, L⟩ := r
  dsimp only at *
  have ik : ∀ k, k ≠ 3 → k ≠ 22 → k ≠ 23 → k ≠ 24 → I k = fq.1.1 k := fun k a b d e => (s3 k a).trans (hk np k a b d e)
  have hnt := h.1.1.1.2.2
  have hS := h3.1
  refine ⟨fun i => (itr sMv i fq.1).1 3, fun j hj => ?_, fun i hi => ?_, fun i hi => ?_, fun j hj => ?_⟩
  · show I 6 j = fq.1.1 3 j
    rw [ik 6 (by decide) (by decide) (by decide) (by decide), f6, f3]
    show tk1 q.1 6 (va_cpy (q.1 3) (q.1 6) 0 0 8) 6 j = tk1 q.1 6 (va_cpy (q.1 3) (q.1 6) 0 0 8) 3 j
    have e1 : tk1 q.1 6 (va_cpy (q.1 3) (q.1 6) 0 0 8) 6 = va_cpy (q.1 3) (q.1 6) 0 0 8 := if_pos rfl
    have e2 : tk1 q.1 6 (va_cpy (q.1 3) (q.1 6) 0 0 8) 3 = q.1 3 := if_neg (by decide)
    rw [e1, e2]
    exact cp_in (by omega)
  · have := (hp i hi).lvB
    rw [hk i 2 (by decide) (by decide) (by decide) (by decide)] at this
    rw [ik 2 (by decide) (by decide) (by decide) (by decide)]
    exact this
  · obtain ⟨o1, o2, o3⟩ := sMv_own_itr (i := i) fq.1 np hi
    have hA : sAct I i = sAct (itr sMv i fq.1).1 i := sAct_congr ((ik 17 (by decide) (by decide) (by decide) (by decide)).trans (hk i 17 (by decide) (by decide) (by decide) (by decide)).symm) ((ik 18 (by decide) (by decide) (by decide) (by decide)).trans (hk i 18 (by decide) (by decide) (by decide) (by decide)).symm) ((ik 11 (by decide) (by decide) (by decide) (by decide)).trans (hk i 11 (by decide) (by decide) (by decide) (by decide)).symm) i
    unfold trStep
    dsimp only
    rw [itr_s sMv i fq.1] at o1 o2 o3 ⊢
    rw [hA, s3 22 (by decide), s3 23 (by decide), s3 24 (by decide), o1, o2, o3]
    have q13 := (hk i 13 (by decide) (by decide) (by decide) (by decide)).trans (ik 13 (by decide) (by decide) (by decide) (by decide)).symm
    have q14 := (hk i 14 (by decide) (by decide) (by decide) (by decide)).trans (ik 14 (by decide) (by decide) (by decide) (by decide)).symm
    have q15 := (hk i 15 (by decide) (by decide) (by decide) (by decide)).trans (ik 15 (by decide) (by decide) (by decide) (by decide)).symm
    have q2 := (hk i 2 (by decide) (by decide) (by decide) (by decide)).trans (ik 2 (by decide) (by decide) (by decide) (by decide)).symm
    obtain ⟨hfr, hto, -, hne, -⟩ := (hp i (by omega)).1.2.2.2.2 i hi
    generalize itr sMv i fq.1 = a at *
    unfold sMv
    by_cases h0 : sAct a.1 i = 0
    · rw [if_pos h0, if_pos h0]
    · rw [if_neg h0, if_neg h0]
      dsimp only
      have hst : ¬ a.1 14 i = -1 → ¬ a.1 13 i = -1 → (a.1 13 i).toNatClampNeg ≠ (a.1 14 i).toNatClampNeg := by
        intro b d e
        obtain ⟨t, ht, et⟩ := hto.resolve_left b
        obtain ⟨s, hs, es⟩ := hfr.resolve_left d
        rw [es, et, nI_clamp (by omega), nI_clamp (by omega)] at e
        exact hne (by rw [es, et, e])
      rw [← q13, ← q14, ← q15, ← q2]
      exact ⟨by rw [sMove_22]; exact sMove_3 i a.1, sMove_22 i a.1, fun z => sMove_23 z (fun y => hst y z), fun z => sMove_24 z⟩
  · rw [s1 j, if_pos hj, ik 4 (by decide) (by decide) (by decide) (by decide), hk np 4 (by decide) (by decide) (by decide) (by decide)]
end TKTRACE
end
section
section TKSTEADY
theorem nTw_ok {a b : Int} {m κ : Nat} (h0 : 0 < nTw a b m) (hk : κ ≤ nTw a b m) : 0 ≤ a + κ * b := by
  unfold nTw at *
  by_cases ha : 0 ≤ a
  · rw [if_pos ha] at h0 hk
    by_cases hb : b < 0
    · rw [if_pos hb] at h0 hk
      have h1 : (κ : Int) ≤ a / -b := by
        have := Int.ediv_nonneg ha (show (0 : Int) ≤ -b by omega)
        omega
      have h2 : (κ : Int) * -b ≤ a / -b * -b := Int.mul_le_mul_of_nonneg_right h1 (by omega)
      have h3 : a / -b * -b ≤ a := Int.ediv_mul_le a (by omega)
      have h4 : (κ : Int) * -b = -(κ * b) := Int.mul_neg _ _
      omega
    · have : 0 ≤ (κ : Int) * b := Int.mul_nonneg (by omega) (by omega)
      omega
  · rw [if_neg ha] at h0
    omega
/-- a limit of the form f: at most the limit, and if above 0, C holds for all ticks within -/
def stp (f : Int32 → Int32) (C : Nat → Prop) : Prop := ∀ m, m < 2 ^ 31 → ∃ r, r ≤ m ∧ f (nI m) = nI r ∧ (0 < r → ∀ κ, κ ≤ r → C κ)
theorem stp.itr {f : Nat → Int32 → Int32} {C : Nat → Nat → Prop} : ∀ {n : Nat}, (∀ i, i < n → stp (f i) (C i)) → stp (itr f n) (fun κ => ∀ i, i < n → C i κ)
  | 0, _ => fun m _ => ⟨m, Nat.le_refl _, rfl, fun _ κ _ i hi => absurd hi (Nat.not_lt_zero i)⟩
  | n + 1, h => fun m hm => by
    obtain ⟨r, h1, h2, h3⟩ := stp.itr (n := n) (fun i hi => h i (Nat.lt_succ_of_lt hi)) m hm
    obtain ⟨s, g1, g2, g3⟩ := h n (Nat.lt_succ_self n) r (by omega)
    refine ⟨s, by omega, ?_, fun h0 κ hκ i hi => ?_⟩
    · rw [itr_s, h2, g2]
    · by_cases e : i = n
      · subst e
        exact g3 h0 κ hκ
      · exact h3 (by omega) κ (by omega) i (by omega)
theorem stp.comp {f g : Int32 → Int32} {C D : Nat → Prop} (hf : stp f C) (hg : stp g D) : stp (fun x => g (f x)) (fun κ => C κ ∧ D κ) := fun m hm => by
  obtain ⟨r, h1, h2, h3⟩ := hf m hm
  obtain ⟨s, g1, g2, g3⟩ := hg r (by omega)
  exact ⟨s, by omega, by dsimp only; rw [h2, g2], fun h0 κ hκ => ⟨h3 (by omega) κ (by omega), g3 h0 κ hκ⟩⟩
theorem stp.jtw {a : Int64} {b : Int32} {A B : Int} (ha : a.toInt = A) (hb : b.toInt = B) : stp (jtw a b.toInt64) (fun κ => 0 ≤ A + κ * B) := fun m hm =>
  ⟨_, nTw_le _ _ _, jtw_val hm, fun h0 κ hκ => by rw [← ha, ← hb]; exact nTw_ok h0 hκ⟩
theorem stp.pos {f : Int32 → Int32} {C : Nat → Prop} (hf : stp f C) : stp (fun st => if 0 < st then f st else st) C := fun m hm => by
  by_cases h : 0 < m
  · obtain ⟨r, h1, h2, h3⟩ := hf m hm
    exact ⟨r, h1, by dsimp only; rw [if_pos (show (0 : Int32) < nI m from nI_lt (a := 0) h hm), h2], h3⟩
  · obtain rfl : m = 0 := by omega
    exact ⟨0, Nat.le_refl _, by dsimp only; rw [if_neg (show ¬ (0 : Int32) < nI 0 from nI_nlt (a := 0) (b := 0) (Nat.le_refl _) (by omega))], fun z => absurd z (Nat.lt_irrefl _)⟩
theorem stp.triv {f : Int32 → Int32} (hf : ∀ x, f x = x) : stp f (fun _ => True) := fun m hm => ⟨m, Nat.le_refl _, hf _, fun _ _ _ => trivial⟩
theorem stp.mono {f : Int32 → Int32} {C D : Nat → Prop} (hf : stp f C) (h : ∀ κ, C κ → D κ) : stp f D := fun m hm => by
  obtain ⟨r, h1, h2, h3⟩ := hf m hm
  exact ⟨r, h1, h2, fun h0 κ hκ => h κ (h3 h0 κ hκ)⟩
theorem i32_neg {x : Int32} (h : -2147483647 ≤ x.toInt) (h2 : x.toInt ≤ 2147483647) : (-x).toInt = -x.toInt := by
  rw [Int32.toInt_neg]
  exact Int.bmod_eq_of_le (by omega) (by omega)
/-- a tank's drift in the last tick -/
def dr (I : tkI) (j : Nat) : Int := (I 3 j).toInt - (I 6 j).toInt
/-- levels before and behind the last tick -/
def lv2 (nt : Nat) (I : tkI) : Prop := lvB nt (I 3) (I 2) ∧ lvB nt (I 6) (I 2)
theorem lv2_dr {nt : Nat} {I : tkI} (h : lv2 nt I) {j : Nat} (hj : j < nt) : (I 3 j - I 6 j).toInt = dr I j ∧ -1000000000 ≤ dr I j ∧ dr I j ≤ 1000000000 ∧ (-(I 3 j - I 6 j)).toInt = -dr I j := by
  obtain ⟨a1, a2, a3⟩ := h.1 j hj
  obtain ⟨b1, b2, b3⟩ := h.2 j hj
  have e : (I 3 j - I 6 j).toInt = (I 3 j).toInt - (I 6 j).toInt := i32_sub (by omega) (by omega)
  unfold dr
  exact ⟨e, by omega, by omega, by rw [i32_neg (by omega) (by omega), e]⟩
def cSw (I : tkI) (i κ : Nat) : Prop := (I 11 i = 0 → 0 ≤ (I 6 (I 8 i).toNatClampNeg).toInt - (I 9 i).toInt - 1 + κ * dr I (I 8 i).toNatClampNeg) ∧ (¬ I 11 i = 0 → 0 ≤ (I 10 i).toInt - 1 - (I 6 (I 8 i).toNatClampNeg).toInt + κ * -dr I (I 8 i).toNatClampNeg)
theorem stp.sw {nt ns np i : Nat} {I : tkI} (hB : wBS nt ns np I) (h2 : lv2 nt I) (hn : nt ≤ 8) (hi : i < ns) : stp (sSst I i) (cSw I i) := by
  obtain ⟨⟨t, ht, et⟩, hlt, hlo, hhi⟩ := hB.2.1 i hi
  obtain ⟨d1, d2, d3, d4⟩ := lv2_dr h2 ht
  obtain ⟨b1, b2, b3⟩ := h2.2 t ht
  rw [Int32.lt_iff_toInt_lt] at hlt
  have one : (1 : Int32).toInt = 1 := by decide
  unfold sSst cSw
  dsimp only
  rw [et, nI_clamp (by omega)]
  refine stp.pos ?_
  by_cases h : I 11 i = 0
  · simp only [h, if_true]
    have e1 : (I 6 t - I 9 i).toInt = (I 6 t).toInt - (I 9 i).toInt := i32_sub (by omega) (by omega)
    have e2 : (I 6 t - I 9 i - 1).toInt64.toInt = (I 6 t).toInt - (I 9 i).toInt - 1 := by rw [Int32.toInt_toInt64, i32_sub (by omega) (by omega), e1, one]
    exact (stp.jtw e2 d1).mono fun κ z => ⟨fun _ => z, fun y => absurd trivial y⟩
  · simp only [h, if_false]
    have e1 : (I 10 i - 1).toInt = (I 10 i).toInt - 1 := by rw [i32_sub (by omega) (by omega), one]
    have e2 : (I 10 i - 1 - I 6 t).toInt64.toInt = (I 10 i).toInt - 1 - (I 6 t).toInt := by rw [Int32.toInt_toInt64, i32_sub (by omega) (by omega), e1]
    exact (stp.jtw e2 d4).mono fun κ z => ⟨fun y => y.elim, fun _ => z⟩
def cTk (I : tkI) (j κ : Nat) : Prop := 0 ≤ (I 3 j).toInt + κ * dr I j
theorem stp.tk {nt j : Nat} {I : tkI} (h2 : lv2 nt I) (hj : j < nt) : stp (sTst I j) (cTk I j) := by
  unfold sTst
  exact stp.pos (stp.jtw (Int32.toInt_toInt64 _) (lv2_dr h2 hj).1)
/-- what holds of a pump's source and target -/
def cPu (I : tkI) (i κ : Nat) : Prop := ¬ sAct I i = 0 → (¬ I 13 i = -1 → 0 ≤ (I 23 i).toInt + κ * dr I (I 13 i).toNatClampNeg) ∧ (¬ I 14 i = -1 → 0 ≤ (I 24 i).toInt + κ * -dr I (I 14 i).toNatClampNeg) ∧
  (I 22 i = I 15 i ∨ (¬ I 13 i = -1 ∧ I 23 i = 0 ∧ dr I (I 13 i).toNatClampNeg = 0) ∨ (¬ I 14 i = -1 ∧ I 24 i = 0 ∧ dr I (I 14 i).toNatClampNeg = 0))
theorem sHeld_1 {h left d : Int32} (z : ¬ sHeld h left d = 0) : ¬ h = 0 ∨ (left = 0 ∧ d = 0) := by
  unfold sHeld at z
  by_cases h0 : h = 0
  · rw [if_pos h0] at z
    by_cases h1 : left = 0
    · rw [if_pos h1] at z
      by_cases h2 : d = 0
      · exact Or.inr ⟨h1, h2⟩
      · rw [if_neg h2] at z
        exact absurd rfl z
    · rw [if_neg h1] at z
      exact absurd rfl z
  · exact Or.inl h0
theorem stp.pu {nt ns np i : Nat} {I : tkI} (hB : wBS nt ns np I) (h2 : lv2 nt I) (hn : nt ≤ 8) (hi : i < np) : stp (sPst I i) (cPu I i) := by
  obtain ⟨hf, ht, -, hne, -⟩ := hB.2.2 i hi
  unfold sPst cPu
  refine stp.pos ?_
  by_cases h0 : sAct I i = 0
  · simp only [h0, if_true, not_true_eq_false, false_implies]
    exact stp.triv fun _ => rfl
  · simp only [h0, if_false, not_false_eq_true, true_implies]
    have z0 : (0 : Int32).toInt = 0 := by decide
    have k1 : stp (fun lim => (sOf1 I i lim).1) (fun κ => ¬ I 13 i = -1 → 0 ≤ (I 23 i).toInt + κ * dr I (I 13 i).toNatClampNeg) := by
      unfold sOf1
      dsimp only
      by_cases a : I 13 i = -1
      · simp only [a, if_true, not_true_eq_false, false_implies]
        exact stp.triv fun _ => rfl
      · simp only [a, if_false, not_false_eq_true, true_implies]
        exact stp.jtw (Int32.toInt_toInt64 _) (lv2_dr h2 (end_.at hn hf a)).1
    have k2 : ∀ hd, stp (fun lim => (sOf2 I i (lim, hd)).1) (fun κ => ¬ I 14 i = -1 → 0 ≤ (I 24 i).toInt + κ * -dr I (I 14 i).toNatClampNeg) := fun hd => by
      unfold sOf2
      dsimp only
      by_cases a : I 14 i = -1
      · simp only [a, if_true, not_true_eq_false, false_implies]
        exact stp.triv fun _ => rfl
      · simp only [a, if_false, not_false_eq_true, true_implies]
        exact stp.jtw (Int32.toInt_toInt64 _) (lv2_dr h2 (end_.at hn ht a)).2.2.2
    have hd1 : ∀ lim, (sOf1 I i lim).2 = (sOf1 I i 0).2 := fun lim => by
      unfold sOf1
      dsimp only
      split <;> rfl
    have hd2 : ∀ a b hd, (sOf2 I i (a, hd)).2 = (sOf2 I i (b, hd)).2 := fun a b hd => by
      unfold sOf2
      dsimp only
      split <;> rfl
    have eOf : ∀ lim, sOf I i lim = if (sOf2 I i (0, (sOf1 I i 0).2)).2 = 0 then 0 else (sOf2 I i ((sOf1 I i lim).1, (sOf1 I i 0).2)).1 := fun lim => by
      unfold sOf
      rw [show sOf1 I i lim = ((sOf1 I i lim).1, (sOf1 I i 0).2) by rw [← hd1 lim], hd2 _ 0]
    have kc := k1.comp (k2 (sOf1 I i 0).2)
    by_cases hh : (sOf2 I i (0, (sOf1 I i 0).2)).2 = 0
    · intro m hm
      exact ⟨0, Nat.zero_le _, by show sOf I i (nI m) = nI 0; rw [eOf, if_pos hh]; rfl, fun z => absurd z (Nat.lt_irrefl _)⟩
    · intro m hm
      obtain ⟨r, g1, g2, g3⟩ := kc m hm
      refine ⟨r, g1, by show sOf I i (nI m) = nI r; rw [eOf, if_neg hh]; exact g2, fun h0 κ hκ => ⟨(g3 h0 κ hκ).1, (g3 h0 κ hκ).2, ?_⟩⟩
      unfold sOf2 sOf1 at hh
      dsimp only at hh
      have hz : ¬ (if I 22 i = I 15 i then (1 : Int32) else 0) = 0 → I 22 i = I 15 i := fun z => Decidable.byContradiction fun y => z (if_neg y)
      have dz : ∀ j, j < nt → I 3 j - I 6 j = 0 → dr I j = 0 := fun j hj e => by
        rw [← (lv2_dr h2 hj).1, e]
        exact z0
      by_cases b : I 14 i = -1
      · rw [if_pos b] at hh
        by_cases a : I 13 i = -1
        · rw [if_pos a] at hh
          exact Or.inl (hz hh)
        · rw [if_neg a] at hh
          rcases sHeld_1 hh with y | ⟨y1, y2⟩
          · exact Or.inl (hz y)
          · exact Or.inr (Or.inl ⟨a, y1, dz _ (end_.at hn hf a) y2⟩)
      · rw [if_neg b] at hh
        rcases sHeld_1 hh with y | ⟨y1, y2⟩
        · by_cases a : I 13 i = -1
          · rw [if_pos a] at y
            exact Or.inl (hz y)
          · rw [if_neg a] at y
            rcases sHeld_1 y with y | ⟨y1, y2⟩
            · exact Or.inl (hz y)
            · exact Or.inr (Or.inl ⟨a, y1, dz _ (end_.at hn hf a) y2⟩)
        · exact Or.inr (Or.inr ⟨b, y1, dz _ (end_.at hn ht b) y2⟩)
theorem stp.steady {nt ns np : Nat} {I : tkI} (hB : wBS nt ns np I) (h2 : lv2 nt I) (hn : nt ≤ 8) : stp (sSteady nt ns np I) (fun κ => (∀ i, i < ns → cSw I i κ) ∧ (∀ i, i < np → cPu I i κ) ∧ ∀ j, j < nt → cTk I j κ) := by
  unfold sSteady
  exact ((stp.itr (fun i hi => stp.sw hB h2 hn hi)).comp ((stp.itr (fun i hi => stp.pu hB h2 hn hi)).comp (stp.itr (fun j hj => stp.tk h2 hj))))
end TKSTEADY
end
section
section TKBULK
/-- k more ticks like the last one, in one step -/
def bulk (nt np k : Nat) (q : tkI × tkL) : tkI × tkL :=
  ((itr (sRep (nI k)) nt (q.1, itr (sPrep q.1 (nI k)) np q.2)).1, tk2 (itr (sRep (nI k)) nt (q.1, itr (sPrep q.1 (nI k)) np q.2)).2 0 4 ((itr (sRep (nI k)) nt (q.1, itr (sPrep q.1 (nI k)) np q.2)).2 0 4 + (nI k).toInt64))
theorem sRep_at (t : Int32) (q : tkI × tkL) : ∀ n, (∀ j, (itr (sRep t) n q).1 3 j = if j < n then q.1 3 j + (q.1 3 j - q.1 6 j) * t else q.1 3 j) ∧
    (∀ j, (itr (sRep t) n q).2 5 j = if j < n then q.2 5 j + ((q.1 3 j).toInt64 * t.toInt64 + (q.1 3 j - q.1 6 j).toInt64 * (t.toInt64 * (t + 1).toInt64 / 2)) else q.2 5 j) ∧ (∀ k, k ≠ 3 → (itr (sRep t) n q).1 k = q.1 k) ∧ ∀ k, k ≠ 5 → (itr (sRep t) n q).2 k = q.2 k
  | 0 => ⟨fun j => by rw [if_neg (Nat.not_lt_zero j)]; rfl, fun j => by rw [if_neg (Nat.not_lt_zero j)]; rfl, fun k _ => rfl, fun k _ => rfl⟩
  | n + 1 => by
    obtain ⟨h1, h2, h3, h4⟩ := sRep_at t q n
    rw [itr_s]
    generalize itr (sRep t) n q = a at *
    unfold sRep
    refine ⟨fun j => ?_, fun j => ?_, fun k hk => ?_, fun k hk => ?_⟩
    · dsimp only
      by_cases e : j = n
      · subst e
        rw [tk2_at, h1 j, if_neg (Nat.lt_irrefl j), h3 6 (by decide), if_pos (Nat.lt_succ_self j)]
      · rw [show ∀ x, tk2 a.1 3 n x 3 j = a.1 3 j from fun x => if_neg (fun z => e z.2), h1 j]
        by_cases h : j < n
        · rw [if_pos h, if_pos (by omega)]
        · rw [if_neg h, if_neg (by omega)]
    · dsimp only
      by_cases e : j = n
      · subst e
        rw [tk2_at, h2 j, if_neg (Nat.lt_irrefl j), h1 j, if_neg (Nat.lt_irrefl j), h3 6 (by decide), if_pos (Nat.lt_succ_self j)]
      · rw [show ∀ x, tk2 a.2 5 n x 5 j = a.2 5 j from fun x => if_neg (fun z => e z.2), h2 j]
        by_cases h : j < n
        · rw [if_pos h, if_pos (by omega)]
        · rw [if_neg h, if_neg (by omega)]
    · rw [← h3 k hk]
      funext j
      exact tk2_ne hk
    · rw [← h4 k hk]
      funext j
      exact tk2_ne hk
theorem sPrep_at (I : tkI) (t : Int32) (L : tkL) : ∀ n, (∀ j, itr (sPrep I t) n L 19 j = if j < n ∧ ¬ sAct I j = 0 then L 19 j + (I 22 j).toInt64 * t.toInt64 else L 19 j) ∧
    (∀ j, itr (sPrep I t) n L 20 j = if j < n ∧ ¬ sAct I j = 0 then L 20 j + (I 22 j).toInt64 * t.toInt64 * (I 16 j).toInt64 else L 20 j) ∧
    (∀ j, itr (sPrep I t) n L 21 j = if j < n ∧ ¬ sAct I j = 0 then L 21 j + (if I 15 j ≤ I 22 j then 0 else t.toInt64) else L 21 j)
  | 0 => ⟨fun j => by rw [if_neg (fun z => Nat.not_lt_zero j z.1)]; rfl, fun j => by rw [if_neg (fun z => Nat.not_lt_zero j z.1)]; rfl, fun j => by rw [if_neg (fun z => Nat.not_lt_zero j z.1)]; rfl⟩
  | n + 1 => by
    obtain ⟨h1, h2, h3⟩ := sPrep_at I t L n
    rw [itr_s]
    generalize itr (sPrep I t) n L = a at *
    unfold sPrep
    by_cases h0 : sAct I n = 0
    · rw [if_pos h0]
      have e : ∀ j, (j < n + 1 ∧ ¬ sAct I j = 0) ↔ (j < n ∧ ¬ sAct I j = 0) := fun j => ⟨fun z => ⟨by
        have : j ≠ n := fun y => z.2 (by rw [y]; exact h0)
        omega, z.2⟩, fun z => ⟨by omega, z.2⟩⟩
      simp only [e]
      exact ⟨h1, h2, h3⟩
    · rw [if_neg h0]
      refine ⟨fun j => ?_, fun j => ?_, fun j => ?_⟩
      · rw [sEnter_19]
        by_cases e : j = n
        · subst e
          rw [if_pos rfl, if_pos (show j < j + 1 ∧ ¬ sAct I j = 0 from ⟨Nat.lt_succ_self _, h0⟩), h1, if_neg (show ¬ (j < j ∧ ¬ sAct I j = 0) from fun z => Nat.lt_irrefl _ z.1)]
        · rw [if_neg e, h1]
          by_cases z : j < n ∧ ¬ sAct I j = 0
          · rw [if_pos z, if_pos (show j < n + 1 ∧ ¬ sAct I j = 0 from ⟨by omega, z.2⟩)]
          · rw [if_neg z, if_neg (show ¬ (j < n + 1 ∧ ¬ sAct I j = 0) from fun y => z ⟨by omega, y.2⟩)]
      · rw [sEnter_20]
        by_cases e : j = n
        · subst e
          rw [if_pos rfl, if_pos (show j < j + 1 ∧ ¬ sAct I j = 0 from ⟨Nat.lt_succ_self _, h0⟩), h2, if_neg (show ¬ (j < j ∧ ¬ sAct I j = 0) from fun z => Nat.lt_irrefl _ z.1)]
        · rw [if_neg e, h2]
          by_cases z : j < n ∧ ¬ sAct I j = 0
          · rw [if_pos z, if_pos (show j < n + 1 ∧ ¬ sAct I j = 0 from ⟨by omega, z.2⟩)]
          · rw [if_neg z, if_neg (show ¬ (j < n + 1 ∧ ¬ sAct I j = 0) from fun y => z ⟨by omega, y.2⟩)]
      · rw [sEnter_21]
        by_cases e : j = n
        · subst e
          rw [if_pos rfl, if_pos (show j < j + 1 ∧ ¬ sAct I j = 0 from ⟨Nat.lt_succ_self _, h0⟩), h3, if_neg (show ¬ (j < j ∧ ¬ sAct I j = 0) from fun z => Nat.lt_irrefl _ z.1)]
        · rw [if_neg e, h3]
          by_cases z : j < n ∧ ¬ sAct I j = 0
          · rw [if_pos z, if_pos (show j < n + 1 ∧ ¬ sAct I j = 0 from ⟨by omega, z.2⟩)]
          · rw [if_neg z, if_neg (show ¬ (j < n + 1 ∧ ¬ sAct I j = 0) from fun y => z ⟨by omega, y.2⟩)]
/-- the rows of the bulk -/
theorem bulk_rows (nt np k : Nat) (q : tkI × tkL) : (∀ j, (bulk nt np k q).1 3 j = if j < nt then q.1 3 j + (q.1 3 j - q.1 6 j) * nI k else q.1 3 j) ∧ (∀ r, r ≠ 3 → (bulk nt np k q).1 r = q.1 r) ∧
    (∀ j, (bulk nt np k q).2 5 j = if j < nt then q.2 5 j + ((q.1 3 j).toInt64 * (nI k).toInt64 + (q.1 3 j - q.1 6 j).toInt64 * ((nI k).toInt64 * (nI k + 1).toInt64 / 2)) else q.2 5 j) ∧
    (∀ j, (bulk nt np k q).2 19 j = if j < np ∧ ¬ sAct q.1 j = 0 then q.2 19 j + (q.1 22 j).toInt64 * (nI k).toInt64 else q.2 19 j) ∧
    (∀ j, (bulk nt np k q).2 20 j = if j < np ∧ ¬ sAct q.1 j = 0 then q.2 20 j + (q.1 22 j).toInt64 * (nI k).toInt64 * (q.1 16 j).toInt64 else q.2 20 j) ∧
    (∀ j, (bulk nt np k q).2 21 j = if j < np ∧ ¬ sAct q.1 j = 0 then q.2 21 j + (if q.1 15 j ≤ q.1 22 j then 0 else (nI k).toInt64) else q.2 21 j) ∧
    (bulk nt np k q).2 0 4 = q.2 0 4 + (nI k).toInt64 ∧ ∀ r, r ≠ 0 → r ≠ 5 → r ≠ 19 → r ≠ 20 → r ≠ 21 → (bulk nt np k q).2 r = q.2 r := by
  obtain ⟨h1, h2, h3, h4⟩ := sRep_at (nI k) (q.1, itr (sPrep q.1 (nI k)) np q.2) nt
  obtain ⟨g1, g2, g3⟩ := sPrep_at q.1 (nI k) q.2 np
  have g4 : ∀ r, r ≠ 19 → r ≠ 20 → r ≠ 21 → itr (sPrep q.1 (nI k)) np q.2 r = q.2 r := fun r a b c => itr_keep (g := fun a : tkL => a r) (fun i x => sPrep_L q.1 _ i x a b c) np q.2
  unfold bulk
  generalize itr (sRep (nI k)) nt (q.1, itr (sPrep q.1 (nI k)) np q.2) = a at *
  generalize itr (sPrep q.1 (nI k)) np q.2 = b at *
  dsimp only at *
  refine ⟨h1, h3, fun j => ?_, fun j => ?_, fun j => ?_, fun j => ?_, ?_, fun r a0 a5 a19 a20 a21 => ?_⟩
  · rw [tk2_ne (by decide), h2 j, g4 5 (by decide) (by decide) (by decide)]
  · rw [tk2_ne (by decide), h4 19 (by decide), g1]
  · rw [tk2_ne (by decide), h4 20 (by decide), g2]
  · rw [tk2_ne (by decide), h4 21 (by decide), g3]
  · rw [tk2_at, h4 0 (by decide), g4 0 (by decide) (by decide) (by decide)]
  · rw [← g4 r a19 a20 a21, ← h4 r a5]
    funext j
    exact tk2_ne a0
theorem wRel.congr {nt ns np c : Nat} {q q' m : tkI × tkL} (h : wRel nt ns np c q m) (hx : xK q.1 q'.1) (h3 : eqR nt (q'.1 3) (q.1 3)) (h11 : eqR ns (q'.1 11) (q.1 11)) (h27 : q'.1 27 = q.1 27) (l5 : eqR nt (q'.2 5) (q.2 5))
    (l19 : eqR np (q'.2 19) (q.2 19)) (l20 : eqR np (q'.2 20) (q.2 20)) (l21 : eqR np (q'.2 21) (q.2 21)) (l0 : q'.2 0 4 = q.2 0 4) (l25 : q'.2 25 = q.2 25) (l26 : q'.2 26 = q.2 26) : wRel nt ns np c q' m := by
  obtain ⟨hS, hLv, hOn, hSm, hLd, hTm, hLg⟩ := h
  have e2 : q'.1 2 = q.1 2 := hx 2 (by decide) (by decide) (by decide) (by decide) (by decide) (by decide) (by decide)
  refine ⟨hS.keep hx (mK.rfl' _), ⟨fun j hj => (h3 j hj).trans (hLv.1 j hj), fun j hj => ?_⟩, ⟨fun j hj => (h11 j hj).trans (hOn.1 j hj), fun j hj => ?_⟩, fun j hj => (l5 j hj).trans (hSm j hj), ⟨fun j hj => (l19 j hj).trans (hLd.1 j hj), fun j hj => (l20 j hj).trans (hLd.2.1 j hj), fun j hj => (l21 j hj).trans (hLd.2.2 j hj)⟩, l0.trans hTm, hLg.keep h27 l25 l26 rfl rfl rfl rfl⟩
  · rw [h3 j hj, e2]
    exact hLv.2 j hj
  · rw [h11 j hj]
    exact hOn.2 j hj
/-! arithmetic -/
theorem i64_of (x : Int32) : x.toInt64 = Int64.ofInt x.toInt := by
  refine Int64.toInt_inj.mp ?_
  have h1 := x.le_toInt
  have h2 := x.toInt_lt
  rw [Int32.toInt_toInt64, Int64.toInt_ofInt_of_le (by omega) (by omega)]
theorem lN_of (n : Nat) : Int64.ofInt (n : Int) = lN n := rfl
theorem steps_eq {k : Nat} (hk : k ≤ 5000) : (nI k).toInt64 * (nI k + 1).toInt64 / 2 = lN (k * (k + 1) / 2) := by
  have h1 : k * (k + 1) ≤ 5000 * 5001 := Nat.mul_le_mul hk (by omega)
  rw [nI_1, nI_l (by omega), nI_l (by omega), lN_mul]
  refine Int64.toInt_inj.mp ?_
  rw [Int64.toInt_div_of_ne_right _ _ (by decide), lN_toInt (by omega), lN_toInt (by omega), show (2 : Int64).toInt = 2 by decide, Int.tdiv_eq_ediv_of_nonneg (by omega)]
  omega
theorem tri (k : Nat) : (k + 1) * (k + 1 + 1) / 2 = k * (k + 1) / 2 + (k + 1) := by
  have : (k + 1) * (k + 1 + 1) = k * (k + 1) + 2 * (k + 1) := by
    rw [Nat.mul_add (k + 1) (k + 1) 1, Nat.add_mul k 1 (k + 1)]
    omega
  omega
theorem sum_step (S : Int64) (lv d : Int) (k : Nat) : S + (Int64.ofInt lv * lN k + Int64.ofInt d * lN (k * (k + 1) / 2)) + Int64.ofInt (lv + (k + 1 : Nat) * d) = S + (Int64.ofInt lv * lN (k + 1) + Int64.ofInt d * lN ((k + 1) * (k + 1 + 1) / 2)) := by
  rw [tri, ← lN_add (k * (k + 1) / 2) (k + 1), Int64.ofInt_add, Int64.ofInt_mul, lN_of, ← lN_1 k]
  rw [Int64.mul_comm (lN k + 1) (Int64.ofInt d), Int64.mul_add (a := Int64.ofInt d) (b := lN (k * (k + 1) / 2)), Int64.mul_add (a := Int64.ofInt lv), Int64.mul_one]
  ac_rfl
theorem nmul_succ (k : Nat) (d : Int) : ((k + 1 : Nat) : Int) * d = k * d + d := by
  rw [show ((k + 1 : Nat) : Int) = (k : Int) + 1 by omega, Int.add_mul, Int.one_mul]
/-- the levels in a tick that starts shifted by κ drifts -/
theorem shift_amt {nt : Nat} {I : tkI} {i κ : Nat} {f f' g : Nat → Int32} (hn : nt ≤ 8) (h1 : end_ nt (I 13 i)) (h2 : end_ nt (I 14 i)) (hne : I 13 i ≠ I 14 i) (hr : 1 ≤ (I 15 i).toInt) (hf : lvB nt f (I 2)) (hg : lvB nt g (I 2)) (h0 : ¬ sAct I i = 0) (hT : trStep I i f f') (hC : cPu I i κ) (hs : ∀ j, j < nt → (g j).toInt = (f j).toInt + κ * dr I j) :
    amt (I 13 i) (I 14 i) (I 15 i) g (I 2) = I 22 i ∧ ∀ j, j < nt → (mv2 (I 14 i) (I 22 i) (mv1 (I 13 i) (I 22 i) g) j).toInt = (f' j).toInt + κ * dr I j := by
  unfold trStep at hT
  rw [if_neg h0] at hT
  obtain ⟨t1, t2, t3, t4⟩ := hT
  obtain ⟨c1, c2, c3⟩ := hC h0
  obtain ⟨⟨a0, a1, a2, a3⟩, -⟩ := mv_B (fr := I 13 i) (to := I 14 i) (rt := I 15 i) hn h1 h2 hne hf hr
  have eF := amt_Z (fr := I 13 i) (rt := I 15 i) hn h2 hf
  have eG := amt_Z (fr := I 13 i) (rt := I 15 i) hn h2 hg
  have zF := fun j (hj : j < nt) => mv_Z (fr := I 13 i) (to := I 14 i) (a := amt (I 13 i) (I 14 i) (I 15 i) f (I 2)) hn h1 h2 hne hf a0 a2 a3 hj
  rw [← t2] at a0 a1 a2 a3 eF zF
  rw [← t1] at zF
  have z0 : (0 : Int32).toInt = 0 := by decide
  have hst : ¬ I 13 i = -1 → ¬ I 14 i = -1 → (I 13 i).toNatClampNeg ≠ (I 14 i).toNatClampNeg := by
    intro a b e
    obtain ⟨s, hs, es⟩ := h1.resolve_left a
    obtain ⟨t, ht, et⟩ := h2.resolve_left b
    rw [es, et, nI_clamp (by omega), nI_clamp (by omega)] at e
    exact hne (by rw [es, et, e])
  have s23 : ¬ I 13 i = -1 → (I 23 i).toInt = (f (I 13 i).toNatClampNeg).toInt - (I 22 i).toInt := fun p => by
    rw [t3 p, zF _ (h1.at hn p), if_pos ⟨p, rfl⟩, if_neg (fun z => hst p z.1 z.2)]
    omega
  have s24 : ¬ I 14 i = -1 → (I 24 i).toInt = (I 2 (I 14 i).toNatClampNeg).toInt - (f (I 14 i).toNatClampNeg).toInt - (I 22 i).toInt := fun p => by
    have e := zF _ (h2.at hn p)
    rw [if_neg (fun z => hst z.1 p z.2.symm), if_pos ⟨p, rfl⟩] at e
    have b := hf _ (h2.at hn p)
    have := a3 p
    rw [t4 p, i32_sub (by omega) (by omega), e]
    omega
  have eA : amt (I 13 i) (I 14 i) (I 15 i) g (I 2) = I 22 i := by
    refine Int32.toInt_inj.mp ?_
    rw [eG]
    by_cases p : I 13 i = -1
    · by_cases r : I 14 i = -1
      · rw [if_pos r, if_pos p]
        rw [if_pos r, if_pos p] at eF
        exact eF.symm
      · rw [if_neg r, if_pos p]
        have := c2 r
        have e4 := s24 r
        have b := a3 r
        rw [hs _ (h2.at hn r)]
        rcases c3 with c | c | c
        · rw [← c] at a1 ⊢
          rw [Int.mul_neg] at this
          omega
        · exact absurd p c.1
        · rw [c.2.1, z0] at e4
          rw [c.2.2, Int.mul_zero]
          omega
    · by_cases r : I 14 i = -1
      · rw [if_pos r, if_neg p]
        have := c1 p
        have e3 := s23 p
        have b := a2 p
        rw [hs _ (h1.at hn p)]
        rcases c3 with c | c | c
        · rw [← c] at a1 ⊢
          omega
        · rw [c.2.1, z0] at e3
          rw [c.2.2, Int.mul_zero]
          omega
        · exact absurd r c.1
      · rw [if_neg r, if_neg p]
        have w1 := c1 p
        have w2 := c2 r
        have e3 := s23 p
        have e4 := s24 r
        have b := a2 p
        have b3 := a3 r
        rw [hs _ (h1.at hn p), hs _ (h2.at hn r)]
        rw [Int.mul_neg] at w2
        rcases c3 with c | c | c
        · rw [← c] at a1 ⊢
          omega
        · rw [c.2.1, z0] at e3
          rw [c.2.2, Int.mul_zero]
          omega
        · rw [c.2.1, z0] at e4
          rw [c.2.2, Int.mul_zero]
          omega
  refine ⟨eA, fun j hj => ?_⟩
  obtain ⟨⟨g0, g1, g2, g3⟩, -⟩ := mv_B (fr := I 13 i) (to := I 14 i) (rt := I 15 i) hn h1 h2 hne hg hr
  rw [eA] at g0 g1 g2 g3
  rw [mv_Z hn h1 h2 hne hg g0 g2 g3 hj, zF j hj, hs j hj]
  omega
end TKBULK
end
section
section TKBULKB
theorem nI_l1 {k : Nat} (hk : k ≤ 5000) : (nI (k + 1)).toInt64 = (nI k).toInt64 + 1 := by
  rw [nI_l (by omega), nI_l (by omega), lN_1]
theorem i32_lin {x y : Int32} {k : Nat} (h1 : -2147483648 ≤ x.toInt + k * y.toInt) (h2 : x.toInt + k * y.toInt ≤ 2147483647) : (x + y * nI k).toInt = x.toInt + k * y.toInt := by
  have e : x + y * nI k = Int32.ofInt (x.toInt + k * y.toInt) := by
    rw [Int32.ofInt_add, Int32.ofInt_mul, Int32.ofInt_toInt, Int32.ofInt_toInt, Int32.mul_comm]
    rfl
  rw [e]
  exact Int32.toInt_ofInt_of_le (by omega) (by omega)
/-- no switch changes -/
theorem fol_same {q : tkI × tkL} {now : Int64} {ns : Nat} (h : ∀ i, i < ns → sDue q.1 i = q.1 11 i) : ∀ n, n ≤ ns → itr (sFol now) n (q, 0) = (q, 0)
  | 0, _ => rfl
  | n + 1, hn => by
    rw [itr_s, fol_same h n (by omega)]
    unfold sFol
    dsimp only
    exact if_pos (h n (by omega))
theorem due_same {nt ns np i κ : Nat} {I I' : tkI} (hB : wBS nt ns np I) (hn : nt ≤ 8) (hOn : I 11 i = 0 ∨ I 11 i = 1) (hi : i < ns) (hC : cSw I i κ)
    (h8 : I' 8 = I 8) (h9 : I' 9 = I 9) (h10 : I' 10 = I 10) (h11 : I' 11 = I 11) (h3 : ∀ j, j < nt → (I' 3 j).toInt = (I 6 j).toInt + κ * dr I j) : sDue I' i = I' 11 i := by
  obtain ⟨⟨t, ht, et⟩, -, -, -⟩ := hB.2.1 i hi
  have etc : (I 8 i).toNatClampNeg = t := by rw [et]; exact nI_clamp (by omega)
  obtain ⟨c1, c2⟩ := hC
  unfold sDue
  rw [h8, h9, h10, h11]
  rw [etc] at c1 c2 ⊢
  have e3 := h3 t ht
  rcases hOn with h | h
  · have c1 := c1 h
    rw [if_pos h, h, if_pos]
    rw [Int32.lt_iff_toInt_lt]
    omega
  · have h0 : ¬ I 11 i = 0 := by rw [h]; decide
    have c2 := c2 h0
    rw [Int.mul_neg] at c2
    rw [if_neg h0, h, if_neg]
    rw [Int32.le_iff_toInt_le]
    omega
/-- the pumps of a tick that starts κ drifts on -/
def pTr (nt κ : Nat) (I : tkI) (M : tkL) (f : Nat → Int32) (i : Nat) (a : tkI × tkL) : Prop :=
  (∀ k, k ≠ 3 → k ≠ 6 → k ≠ 22 → k ≠ 23 → k ≠ 24 → a.1 k = I k) ∧ (∀ j, j < nt → (a.1 3 j).toInt = (f j).toInt + κ * dr I j) ∧ lvB nt (a.1 3) (I 2) ∧
  (∀ j, a.2 19 j = if j < i ∧ ¬ sAct I j = 0 then M 19 j + (I 22 j).toInt64 else M 19 j) ∧
  (∀ j, a.2 20 j = if j < i ∧ ¬ sAct I j = 0 then M 20 j + (I 22 j).toInt64 * (I 16 j).toInt64 else M 20 j) ∧
  (∀ j, a.2 21 j = if j < i ∧ ¬ sAct I j = 0 then M 21 j + (if I 15 j ≤ I 22 j then 0 else 1) else M 21 j) ∧
  ∀ k, k ≠ 19 → k ≠ 20 → k ≠ 21 → a.2 k = M k
theorem row_skip {c : Prop} [Decidable c] {i j : Nat} {x y : Int64} (h : ¬ (j = i ∧ c)) : (if j < i + 1 ∧ c then x else y) = if j < i ∧ c then x else y := by
  by_cases z : j < i ∧ c
  · rw [if_pos z, if_pos ⟨by omega, z.2⟩]
  · rw [if_neg z, if_neg (fun y => z ⟨by have := y.1; by_cases e : j = i; exact absurd ⟨e, y.2⟩ h; omega, y.2⟩)]
theorem pTr.step {nt ns np κ i : Nat} {I : tkI} {M : tkL} {f f' : Nat → Int32} {a : tkI × tkL} (hB : wBS nt ns np I) (hn : nt ≤ 8) (hi : i < np) (hf : lvB nt f (I 2)) (hT : trStep I i f f') (hC : cPu I i κ) (h : pTr nt κ I M f i a) : pTr nt κ I M f' (i + 1) (sMv i a) := by
  obtain ⟨h1, h2, h3, h4, h5, h6, h7⟩ := h
  obtain ⟨hfr, hto, -, hne, hr, -⟩ := hB.2.2 i hi
  have hA : sAct a.1 i = sAct I i := sAct_congr (h1 17 (by decide) (by decide) (by decide) (by decide) (by decide)) (h1 18 (by decide) (by decide) (by decide) (by decide) (by decide)) (h1 11 (by decide) (by decide) (by decide) (by decide) (by decide)) i
  unfold sMv
  rw [hA]
  by_cases h0 : sAct I i = 0
  · rw [if_pos h0]
    have ef : f' = f := by unfold trStep at hT; rw [if_pos h0] at hT; exact hT
    subst ef
    have sk : ∀ j, ¬ (j = i ∧ ¬ sAct I j = 0) := fun j z => z.2 (by rw [z.1]; exact h0)
    exact ⟨h1, h2, h3, fun j => (h4 j).trans (row_skip (sk j)).symm, fun j => (h5 j).trans (row_skip (sk j)).symm, fun j => (h6 j).trans (row_skip (sk j)).symm, h7⟩
  · rw [if_neg h0]
    obtain ⟨s1, s2⟩ := shift_amt (g := a.1 3) hn hfr hto hne hr hf h3 h0 hT hC h2
    have e13 := h1 13 (by decide) (by decide) (by decide) (by decide) (by decide)
    have e14 := h1 14 (by decide) (by decide) (by decide) (by decide) (by decide)
    have e15 := h1 15 (by decide) (by decide) (by decide) (by decide) (by decide)
    have e16 := h1 16 (by decide) (by decide) (by decide) (by decide) (by decide)
    have e2 := h1 2 (by decide) (by decide) (by decide) (by decide) (by decide)
    have x22 := sMove_22 i a.1
    have x3 := sMove_3 i a.1
    rw [e13, e14, e15, e2, s1] at x22 x3
    have hmv := (mv_B (fr := I 13 i) (to := I 14 i) (rt := I 15 i) hn hfr hto hne h3 hr).2
    rw [s1] at hmv
    have xr : ∀ k, k ≠ 3 → k ≠ 22 → k ≠ 23 → k ≠ 24 → sMove i a.1 k = a.1 k := fun k p q r s => sMove_keep i a.1 p q r s
    have one : (1 : Int32).toInt64 = 1 := by decide
    have z16 := (xr 16 (by decide) (by decide) (by decide) (by decide)).trans e16
    have z15 := (xr 15 (by decide) (by decide) (by decide) (by decide)).trans e15
    generalize sMove i a.1 = I1 at *
    refine ⟨fun k k3 k6 k22 k23 k24 => (xr k k3 k22 k23 k24).trans (h1 k k3 k6 k22 k23 k24), fun j hj => ?_, ?_, fun j => ?_, fun j => ?_, fun j => ?_, fun k k19 k20 k21 => (sEnter_25 1 i I1 a.2 k19 k20 k21).trans (h7 k k19 k20 k21)⟩
    · dsimp only
      rw [x3]
      exact s2 j hj
    · dsimp only
      rw [x3]
      exact hmv
    · dsimp only
      rw [sEnter_19, x22, one, Int64.mul_one]
      by_cases e : j = i
      · subst e
        rw [if_pos (show j = j from rfl), if_pos (show j < j + 1 ∧ ¬ sAct I j = 0 from ⟨Nat.lt_succ_self _, h0⟩), h4, if_neg (show ¬ (j < j ∧ ¬ sAct I j = 0) from fun z => Nat.lt_irrefl _ z.1)]
      · rw [if_neg e, h4 j]
        exact (row_skip (fun z => e z.1)).symm
    · dsimp only
      rw [sEnter_20, x22, z16, one, Int64.mul_one]
      by_cases e : j = i
      · subst e
        rw [if_pos (show j = j from rfl), if_pos (show j < j + 1 ∧ ¬ sAct I j = 0 from ⟨Nat.lt_succ_self _, h0⟩), h5, if_neg (show ¬ (j < j ∧ ¬ sAct I j = 0) from fun z => Nat.lt_irrefl _ z.1)]
      · rw [if_neg e, h5 j]
        exact (row_skip (fun z => e z.1)).symm
    · dsimp only
      rw [sEnter_21, x22, z15, one]
      by_cases e : j = i
      · subst e
        rw [if_pos (show j = j from rfl), if_pos (show j < j + 1 ∧ ¬ sAct I j = 0 from ⟨Nat.lt_succ_self _, h0⟩), h6, if_neg (show ¬ (j < j ∧ ¬ sAct I j = 0) from fun z => Nat.lt_irrefl _ z.1)]
      · rw [if_neg e, h6 j]
        exact (row_skip (fun z => e z.1)).symm
theorem pTr.all {nt ns np κ : Nat} {I : tkI} {M : tkL} {f : Nat → Nat → Int32} {a : tkI × tkL} (hB : wBS nt ns np I) (hn : nt ≤ 8) (hf : ∀ i, i ≤ np → lvB nt (f i) (I 2)) (hT : ∀ i, i < np → trStep I i (f i) (f (i + 1))) (hC : ∀ i, i < np → cPu I i κ) (h : pTr nt κ I M (f 0) 0 a) : ∀ i, i ≤ np → pTr nt κ I M (f i) i (itr sMv i a)
  | 0, _ => h
  | i + 1, hi => by
    rw [itr_s]
    exact pTr.step hB hn (by omega) (hf i (by omega)) (hT i (by omega)) (hC i (by omega)) (pTr.all hB hn hf hT hC h i (by omega))
/-- a leak in a tick that starts κ drifts on -/
theorem leak_shift {l x g lk X d b : Int} (hx : l = x - min lk x) (hd : d = l - b) (hb : 0 ≤ b) (hX0 : 0 ≤ l + X) (hXd : d ≤ 0 → X ≤ 0) (hg : g = x + X) : g - min lk g = l + X := by
  omega
theorem wBS.rows {nt ns np : Nat} {I I' : tkI} (h : wBS nt ns np I) (hx : xK I I') : wBS nt ns np I' := by
  have x : ∀ k, k ≠ 3 ∧ k ≠ 6 ∧ k ≠ 11 ∧ k ≠ 22 ∧ k ≠ 23 ∧ k ≠ 24 ∧ k ≠ 27 → I' k = I k := fun k z => hx k z.1 z.2.1 z.2.2.1 z.2.2.2.1 z.2.2.2.2.1 z.2.2.2.2.2.1 z.2.2.2.2.2.2
  unfold wBS at *
  rw [x 2 (by decide), x 4 (by decide), x 8 (by decide), x 9 (by decide), x 10 (by decide), x 13 (by decide), x 14 (by decide), x 15 (by decide), x 17 (by decide)]
  exact h
theorem bulk_next {nt ns np c k : Nat} {q m : tkI × tkL} (hk : k + 1 ≤ 5000) (hc : c + 10 < 2 ^ 62) (hT : wTr nt np q.1)
    (hC : (∀ i, i < ns → cSw q.1 i (k + 1)) ∧ (∀ i, i < np → cPu q.1 i (k + 1)) ∧ ∀ j, j < nt → cTk q.1 j (k + 1)) (h : wRel nt ns np c (bulk nt np k q) m)
    (hl : ∀ j, j < nt → ((bulk nt np k q).1 3 j).toInt = (q.1 3 j).toInt + k * dr q.1 j) :
    (mTick nt ns np m).2 = 0 ∧ wRel nt ns np c (bulk nt np (k + 1) q) (mTick nt ns np m).1 ∧ ∀ j, j < nt → ((bulk nt np (k + 1) q).1 3 j).toInt = (q.1 3 j).toInt + (k + 1 : Nat) * dr q.1 j := by
  obtain ⟨e1, c', g1, g2, g3⟩ := h.tick hc
  obtain ⟨b3, bI, b5, b19, b20, b21, b4, bL⟩ := bulk_rows nt np k q
  obtain ⟨d3, dI, d5, d19, d20, d21, d4, dL⟩ := bulk_rows nt np (k + 1) q
  obtain ⟨f, t0, t1, t2, t3⟩ := hT
  have hn : nt ≤ 8 := h.1.1.1.2.2
  have hB : wBS nt ns np q.1 := h.1.2.2.rows (fun k a _ _ _ _ _ _ => (bI k a).symm)
  have hOn : ∀ i, i < ns → q.1 11 i = 0 ∨ q.1 11 i = 1 := fun i hi => by have z := h.2.2.1.2 i hi; rw [bI 11 (by decide)] at z; exact z
  have hLv := h.2.1.2
  have h25 : (bulk nt np k q).2 25 0 = lN c := h.2.2.2.2.2.2.1
  generalize bulk nt np k q = P at *
  have s6 : ∀ k, k ≠ 6 → sBef P.1 k = P.1 k := fun k z => sBef_keep P.1 z
  have r2 : P.1 2 = q.1 2 := bI 2 (by decide)
  have sh : ∀ j, j < nt → (P.1 3 j).toInt = (f 0 j).toInt + (k + 1 : Nat) * dr q.1 j := fun j hj => by
    rw [hl j hj, nmul_succ, ← t0 j hj]
    unfold dr
    omega
  have hfol : itr (sFol (P.2 0 4)) ns ((sBef P.1, P.2), 0) = ((sBef P.1, P.2), 0) := fol_same (q := (sBef P.1, P.2)) (ns := ns) (fun i hi => due_same (I' := sBef P.1) hB hn (hOn i hi) hi (hC.1 i hi) ((s6 8 (by decide)).trans (bI 8 (by decide))) ((s6 9 (by decide)).trans (bI 9 (by decide))) ((s6 10 (by decide)).trans (bI 10 (by decide))) ((s6 11 (by decide)).trans (bI 11 (by decide))) (fun j hj => by
    rw [s6 3 (by decide), sh j hj, t0 j hj])) ns (Nat.le_refl _)
  have hp := pTr.all (a := (sBef P.1, P.2)) (M := P.2) hB hn t1 t2 hC.2.1 ⟨fun r a3 a6 _ _ _ => (s6 r a6).trans (bI r a3), fun j hj => by dsimp only; rw [s6 3 (by decide)]; exact sh j hj, by
      dsimp only
      rw [s6 3 (by decide), ← r2]
      exact h.lvB, fun j => by rw [if_neg (fun z => Nat.not_lt_zero j z.1)], fun j => by rw [if_neg (fun z => Nat.not_lt_zero j z.1)], fun j => by rw [if_neg (fun z => Nat.not_lt_zero j z.1)], fun _ _ _ _ => rfl⟩ np (Nat.le_refl _)
  unfold sTick at e1 g3
  dsimp only at e1 g3
  rw [hfol] at e1 g3
  dsimp only at e1 g3
  generalize itr sMv np (sBef P.1, P.2) = a at *
  obtain ⟨p1, p2, p3, p4, p5, p6, p7⟩ := hp
  obtain ⟨l1, l2, l3, l4⟩ := sLeak_at a nt
  generalize itr sLeak nt a = r at *
  have lvl : ∀ j, j < nt → (a.1 3 j - jmin (a.1 4 j) (a.1 3 j)).toInt = (q.1 3 j).toInt + (k + 1 : Nat) * dr q.1 j := fun j hj => by
    obtain ⟨b1, b2, b3'⟩ := p3 j hj
    obtain ⟨v1, v2, v3⟩ := t1 np (Nat.le_refl _) j hj
    obtain ⟨u1, u2, u3⟩ := t1 0 (Nat.zero_le _) j hj
    obtain ⟨-, -, w1, w2⟩ := hB.1 j hj
    have e4 : a.1 4 = q.1 4 := p1 4 (by decide) (by decide) (by decide) (by decide) (by decide)
    have hc3 := hC.2.2 j hj
    unfold cTk at hc3
    have e3 : (q.1 3 j).toInt = (f np j).toInt - min (q.1 4 j).toInt (f np j).toInt := by
      rw [t3 j hj, i32_sub (by rw [jmin_Z]; omega) (by rw [jmin_Z]; omega), jmin_Z]
    rw [e4, i32_sub (by rw [jmin_Z]; omega) (by rw [jmin_Z]; omega), jmin_Z]
    refine leak_shift (x := (f np j).toInt) (d := dr q.1 j) (b := (f 0 j).toInt) e3 (by unfold dr; rw [t0 j hj]) u1 hc3 (fun z => ?_) (p2 j hj)
    have := Int.mul_nonneg (show (0 : Int) ≤ ((k + 1 : Nat) : Int) by omega) (show (0 : Int) ≤ -dr q.1 j by omega)
    rw [Int.mul_neg] at this
    omega
  have lvb : ∀ j, j < nt → -1000000000 ≤ (q.1 3 j).toInt + (k + 1 : Nat) * dr q.1 j ∧ (q.1 3 j).toInt + (k + 1 : Nat) * dr q.1 j ≤ 1000000000 := fun j hj => by
    rw [← lvl j hj]
    have e := g3.2.1.2 j hj
    have e2 := g3.1.2.2.1 j hj
    dsimp only at e e2
    rw [l1 j, if_pos hj] at e
    omega
  have h2 : lv2 nt q.1 := by
    refine ⟨fun j hj => ?_, fun j hj => ?_⟩
    · obtain ⟨v1, v2, v3⟩ := t1 np (Nat.le_refl _) j hj
      obtain ⟨-, -, w1, w2⟩ := hB.1 j hj
      rw [t3 j hj, i32_sub (by rw [jmin_Z]; omega) (by rw [jmin_Z]; omega), jmin_Z]
      omega
    · rw [t0 j hj]
      exact t1 0 (Nat.zero_le _) j hj
  have new : ∀ j, j < nt → (q.1 3 j + (q.1 3 j - q.1 6 j) * nI (k + 1)).toInt = (q.1 3 j).toInt + (k + 1 : Nat) * dr q.1 j := fun j hj => by
    have b := lvb j hj
    rw [← (lv2_dr h2 hj).1] at b ⊢
    exact i32_lin (by omega) (by omega)
  have eqc : c' = c := by
    have e := g3.2.2.2.2.2.2.1
    dsimp only at e
    rw [tk_time25, l4 25 (by decide), p7 25 (by decide) (by decide) (by decide), h25] at e
    have e := congrArg Int64.toInt e
    rw [pk_lT (by omega), pk_lT (by omega)] at e
    omega
  subst eqc
  refine ⟨e1.symm, g3.congr (fun r a3 a6 a11 a22 a23 a24 _ => ?_) (fun j hj => ?_) (fun j hj => ?_) ?_ (fun j hj => ?_) (fun j hj => ?_) (fun j hj => ?_) (fun j hj => ?_) ?_ ?_ ?_, fun j hj => ?_⟩
  · dsimp only
    rw [dI r a3, l3 r a3, p1 r a3 a6 a22 a23 a24]
  · dsimp only
    rw [d3 j, if_pos hj, l1 j, if_pos hj]
    refine Int32.toInt_inj.mp ?_
    rw [new j hj, lvl j hj]
  · dsimp only
    rw [dI 11 (by decide), l3 11 (by decide), p1 11 (by decide) (by decide) (by decide) (by decide) (by decide)]
  · dsimp only
    rw [dI 27 (by decide), l3 27 (by decide), p1 27 (by decide) (by decide) (by decide) (by decide) (by decide)]
  · dsimp only
    rw [tk2_ne (by decide), d5 j, if_pos hj, l2 j, if_pos hj, p7 5 (by decide) (by decide) (by decide), b5 j, if_pos hj, i64_of (a.1 3 j - _), lvl j hj, i64_of (q.1 3 j), i64_of (q.1 3 j - q.1 6 j), (lv2_dr h2 hj).1, steps_eq (by omega), steps_eq (by omega), nI_l (by omega), nI_l (by omega)]
    exact (sum_step (q.2 5 j) _ _ k).symm
  · dsimp only
    rw [tk2_ne (by decide), d19 j, l4 19 (by decide), p4 j, b19 j]
    by_cases z : j < np ∧ ¬ sAct q.1 j = 0
    · rw [if_pos z, if_pos z, if_pos z, nI_l1 (by omega), Int64.mul_add, Int64.mul_one, Int64.add_assoc]
    · rw [if_neg z, if_neg z, if_neg z]
  · dsimp only
    rw [tk2_ne (by decide), d20 j, l4 20 (by decide), p5 j, b20 j]
    by_cases z : j < np ∧ ¬ sAct q.1 j = 0
    · rw [if_pos z, if_pos z, if_pos z, nI_l1 (by omega), Int64.mul_add, Int64.mul_one, Int64.add_mul, Int64.add_assoc]
    · rw [if_neg z, if_neg z, if_neg z]
  · dsimp only
    rw [tk2_ne (by decide), d21 j, l4 21 (by decide), p6 j, b21 j]
    by_cases z : j < np ∧ ¬ sAct q.1 j = 0
    · rw [if_pos z, if_pos z, if_pos z, nI_l1 (by omega), Int64.add_assoc]
      by_cases y : q.1 15 j ≤ q.1 22 j
      · rw [if_pos y, if_pos y, if_pos y]
        rfl
      · rw [if_neg y, if_neg y, if_neg y]
    · rw [if_neg z, if_neg z, if_neg z]
  · dsimp only
    rw [tk2_at, d4, l4 0 (by decide), p7 0 (by decide) (by decide) (by decide), b4, nI_l1 (by omega), Int64.add_assoc]
  · dsimp only
    funext j
    rw [tk2_ne (by decide), dL 25 (by decide) (by decide) (by decide) (by decide) (by decide), l4 25 (by decide), p7 25 (by decide) (by decide) (by decide), bL 25 (by decide) (by decide) (by decide) (by decide) (by decide)]
  · dsimp only
    funext j
    rw [tk2_ne (by decide), dL 26 (by decide) (by decide) (by decide) (by decide) (by decide), l4 26 (by decide), p7 26 (by decide) (by decide) (by decide), bL 26 (by decide) (by decide) (by decide) (by decide) (by decide)]
  · rw [d3 j, if_pos hj]
    exact new j hj
end TKBULKB
end
section
section TKRUNS
/-- n ticks of the reference -/
def mTk (nt ns np n : Nat) (m : tkI × tkL) : tkI × tkL := itr (fun _ a => (mTick nt ns np a).1) n m
theorem mTk_add (nt ns np a : Nat) (m : tkI × tkL) : ∀ b, mTk nt ns np (a + b) m = mTk nt ns np b (mTk nt ns np a m)
  | 0 => rfl
  | b + 1 => congrArg (fun x => (mTick nt ns np x).1) (mTk_add nt ns np a m b)
theorem mTk_1 (nt ns np : Nat) (m : tkI × tkL) : mTk nt ns np 1 m = (mTick nt ns np m).1 := rfl
theorem wTr.lv2 {nt ns np : Nat} {I : tkI} (hB : wBS nt ns np I) (h : wTr nt np I) : lv2 nt I := by
  obtain ⟨f, t0, t1, t2, t3⟩ := h
  refine ⟨fun j hj => ?_, fun j hj => ?_⟩
  · obtain ⟨v1, v2, v3⟩ := t1 np (Nat.le_refl _) j hj
    obtain ⟨-, -, w1, w2⟩ := hB.1 j hj
    rw [t3 j hj, i32_sub (by rw [jmin_Z]; omega) (by rw [jmin_Z]; omega), jmin_Z]
    omega
  · rw [t0 j hj]
    exact t1 0 (Nat.zero_le _) j hj
theorem bulk_zero {nt ns np c : Nat} {q m : tkI × tkL} (h : wRel nt ns np c q m) : wRel nt ns np c (bulk nt np 0 q) m ∧ ∀ j, j < nt → (bulk nt np 0 q).1 3 j = q.1 3 j := by
  obtain ⟨b3, bI, b5, b19, b20, b21, b4, bL⟩ := bulk_rows nt np 0 q
  have z : (nI 0).toInt64 = 0 := by decide
  have st := steps_eq (k := 0) (by omega)
  have st : (nI 0).toInt64 * (nI 0 + 1).toInt64 / 2 = 0 := st
  have e3 : ∀ j, j < nt → (bulk nt np 0 q).1 3 j = q.1 3 j := fun j hj => by rw [b3 j, if_pos hj, nI_0, Int32.mul_zero, Int32.add_zero]
  refine ⟨h.congr (fun r a3 _ _ _ _ _ _ => bI r a3) e3 (fun j hj => by rw [bI 11 (by decide)]) (bI 27 (by decide)) (fun j hj => ?_) (fun j hj => ?_) (fun j hj => ?_) (fun j hj => ?_) ?_ (bL 25 (by decide) (by decide) (by decide) (by decide) (by decide)) (bL 26 (by decide) (by decide) (by decide) (by decide) (by decide)), e3⟩
  · rw [b5 j, if_pos hj, st, z, Int64.mul_zero, Int64.mul_zero, Int64.add_zero, Int64.add_zero]
  · rw [b19 j, z, Int64.mul_zero, Int64.add_zero, ite_self]
  · rw [b20 j, z, Int64.mul_zero, Int64.zero_mul, Int64.add_zero, ite_self]
  · rw [b21 j, z, ite_self, Int64.add_zero, ite_self]
  · rw [b4, z, Int64.add_zero]
def cAll (nt ns np : Nat) (I : tkI) (κ : Nat) : Prop := (∀ i, i < ns → cSw I i κ) ∧ (∀ i, i < np → cPu I i κ) ∧ ∀ j, j < nt → cTk I j κ
theorem bulk_many {nt ns np c r : Nat} {q m : tkI × tkL} (hr : r ≤ 5000) (hc : c + 10 < 2 ^ 62) (h : wRel nt ns np c q m) (hT : wTr nt np q.1) (hC : ∀ κ, κ ≤ r → cAll nt ns np q.1 κ) :
    ∀ k, k ≤ r → (∀ i, i < k → (mTick nt ns np (mTk nt ns np i m)).2 = 0) ∧ wRel nt ns np c (bulk nt np k q) (mTk nt ns np k m) ∧ ∀ j, j < nt → ((bulk nt np k q).1 3 j).toInt = (q.1 3 j).toInt + k * dr q.1 j
  | 0, _ => by
    obtain ⟨h1, h2⟩ := bulk_zero h
    refine ⟨fun i hi => absurd hi (Nat.not_lt_zero i), h1, fun j hj => ?_⟩
    rw [h2 j hj]
    show _ = _ + (0 : Int) * _
    rw [Int.zero_mul, Int.add_zero]
  | k + 1, hk => by
    obtain ⟨h1, h2, h3⟩ := bulk_many hr hc h hT hC k (by omega)
    obtain ⟨g1, g2, g3⟩ := bulk_next (by omega) hc hT (hC (k + 1) hk) h2 h3
    refine ⟨fun i hi => ?_, g2, g3⟩
    by_cases e : i = k
    · rw [e]; exact g1
    · exact h1 i (by omega)
/-- the step over many ticks: r of them, each without a change -/
theorem last_rel {nt ns np c lim : Nat} {q m : tkI × tkL} (hl : lim ≤ 5000) (hc : c + 10 < 2 ^ 62) (h : wRel nt ns np c q m) (hT : wTr nt np q.1) :
    ∃ r, r ≤ lim ∧ (sLast nt ns np (nI lim) q).2 = nI r ∧ wRel nt ns np c (sLast nt ns np (nI lim) q).1 (mTk nt ns np r m) ∧ (∀ i, i < r → (mTick nt ns np (mTk nt ns np i m)).2 = 0) ∧
      ∀ κ, κ ≤ r → ∀ j, j < nt → ((mTk nt ns np κ m).1 10 j).toInt = (q.1 3 j).toInt + κ * dr q.1 j := by
  have hB := h.1.2.2
  obtain ⟨r, h1, h2, h3⟩ := stp.steady hB (hT.lv2 hB) h.1.1.1.2.2 lim (by omega)
  have e : sLast nt ns np (nI lim) q = if 0 < nI r then (bulk nt np r q, nI r) else (q, 0) := by
    unfold sLast
    dsimp only
    rw [h2]
    rfl
  rw [e]
  by_cases h0 : 0 < r
  · rw [if_pos (show (0 : Int32) < nI r from nI_lt (a := 0) h0 (by omega))]
    have hm := bulk_many (r := r) (by omega) hc h hT (h3 h0)
    refine ⟨r, h1, rfl, (hm r (Nat.le_refl _)).2.1, (hm r (Nat.le_refl _)).1, fun κ hκ j hj => ?_⟩
    obtain ⟨-, g2, g3⟩ := hm κ hκ
    rw [← g3 j hj]
    exact congrArg Int32.toInt (g2.2.1.1 j hj).symm
  · obtain rfl : r = 0 := by omega
    rw [if_neg (show ¬ (0 : Int32) < nI 0 from nI_nlt (a := 0) (b := 0) (Nat.le_refl _) (by omega))]
    refine ⟨0, Nat.zero_le _, rfl, h, fun i hi => absurd hi (Nat.not_lt_zero i), fun κ hκ j hj => ?_⟩
    obtain rfl : κ = 0 := by omega
    show (m.1 10 j).toInt = (q.1 3 j).toInt + (0 : Int) * _
    rw [Int.zero_mul, Int.add_zero]
    exact congrArg Int32.toInt (h.2.1.1 j hj).symm
/-! run -/
theorem mRun_1 (nt ns np : Nat) (m : tkI × tkL) : ∀ n, (mRun nt ns np n m).1 = mTk nt ns np n m
  | 0 => rfl
  | n + 1 => by
    show (mTick nt ns np (mRun nt ns np n m).1).1 = (mTick nt ns np (mTk nt ns np n m)).1
    rw [mRun_1 nt ns np m n]
theorem mRun_2 (nt ns np n : Nat) (m : tkI × tkL) : (mRun nt ns np (n + 1) m).2 = (mRun nt ns np n m).2 + (mTick nt ns np (mTk nt ns np n m)).2 := by
  rw [← mRun_1]
  rfl
theorem mRun_skip (nt ns np n : Nat) (m : tkI × tkL) : ∀ r, (∀ i, i < r → (mTick nt ns np (mTk nt ns np i (mTk nt ns np n m))).2 = 0) → (mRun nt ns np (n + r) m).2 = (mRun nt ns np n m).2
  | 0, _ => rfl
  | r + 1, h => by
    rw [show n + (r + 1) = n + r + 1 from rfl, mRun_2, mRun_skip nt ns np n m r (fun i hi => h i (by omega)), mTk_add, h r (by omega), Int32.add_zero]
theorem adv_rel {nt ns np n : Nat} {m0 : tkI × tkL} (hn : n ≤ 5000) : ∀ (k i c : Nat) (q : tkI × tkL) (cnt : Int32), n ≤ i + k → i ≤ n → c + 10 * (n - i) + 10 < 2 ^ 62 → wRel nt ns np c q (mTk nt ns np i m0) → cnt = (mRun nt ns np i m0).2 →
    (sAdv nt ns np (nI n) k (nI i) (q, cnt)).2 = (mRun nt ns np n m0).2 ∧ ∃ c', c ≤ c' ∧ c' ≤ c + 10 * (n - i) ∧ wRel nt ns np c' (sAdv nt ns np (nI n) k (nI i) (q, cnt)).1 (mTk nt ns np n m0) := by
  intro k
  induction k with
  | zero =>
    intro i c q cnt h1 h2 h3 h4 h5
    obtain rfl : i = n := by omega
    exact ⟨h5, c, Nat.le_refl _, by omega, h4⟩
  | succ k ih =>
    intro i c q cnt h1 h2 h3 h4 h5
    unfold sAdv
    by_cases hlt : i < n
    · rw [if_pos (nI_lt hlt (by omega))]
      dsimp only
      obtain ⟨e, c1, g1, g2, g3⟩ := h4.tick (by omega)
      have hT := h4.trace (by omega)
      generalize sTick nt ns np q = t at *
      have el : nI n - nI i - 1 = nI (n - i - 1) := by
        rw [pk_sub (by omega), show (1 : Int32) = nI 1 from rfl, pk_sub (by omega)]
      rw [el]
      obtain ⟨r, r1, r2, r3, r4, -⟩ := last_rel (lim := n - i - 1) (by omega) (by omega) g3 hT
      rw [r2, nI_add, nI_1]
      have em : mTk nt ns np (i + r + 1) m0 = mTk nt ns np r (mTick nt ns np (mTk nt ns np i m0)).1 := by
        rw [show i + r + 1 = (i + 1) + r by omega, mTk_add]
        rfl
      rw [← em] at r3
      obtain ⟨a1, c2, a2, a3, a4⟩ := ih (i + r + 1) c1 _ (cnt + t.2) (by omega) (by omega) (by omega) r3 (by
        rw [show i + r + 1 = (i + 1) + r by omega, mRun_skip nt ns np (i + 1) m0 r r4, mRun_2, h5, e])
      exact ⟨a1, c2, by omega, by omega, a4⟩
    · obtain rfl : i = n := by omega
      rw [if_neg (nI_nlt (Nat.le_refl _) (by omega))]
      exact ⟨h5, c, Nat.le_refl _, by omega, h4⟩
end TKRUNS
end
section
section TKLAWR
variable {X : tkX} {Q : State → Prop} {cc : ByteArray} {own nm : String} {nL d MC MS cs ss pc : Nat} {ret : Option FieldType} {hh : List (Nat × Nat × Nat × Nat)} {lv : List (Option Value)} {stk : List Value} {σ : tkM} {I : tkI} {L : tkL}
/-- the script, a cell that stands before the memory -/
def lwX (X : tkX) (b n : Nat) (xs : Nat → Int32) : Prop := match X with
  | (p, l, e, R, s, m, args, below, meth, c, base, D) => va_X b n xs s s.heap ∧ b < s.heap.size ∧ ¬ base ≤ b
theorem g_scr (C : tkC X cc own nm nL ret hh d MC MS) {b n j : Nat} {xs : Nat → Int32} {i : Int32} (S : lwX X b n xs) (hd : decode cc pc = .ok (.iaload, 1)) (hi : i = nI j) (hj : j < n) (hn : n < 2 ^ 31) (k : tkG X Q cs ss (pc + 1) lv (.int (xs j) :: stk) σ I L) : tkG X Q cs ss pc lv (.int i :: .ref b :: stk) σ I L := by
  obtain ⟨p, l, e, R, s, m, args, below, meth, c, base, D⟩ := X
  obtain ⟨hx, hb, hml, hown, hts, hK, hE, hlocks, hr, hnm, hhh, hfr, hlo, hRc, hRs, hst⟩ := C
  intro H locs ls hSS hR hl
  subst hi
  refine va_sld hx hb S.1 S.2.1 S.2.2 hSS (vp_in_nI hj hn) hd ?_
  rw [nI_clamp (by omega)]
  exact k H locs ls hSS hR hl
theorem g_slen (C : tkC X cc own nm nL ret hh d MC MS) {b n : Nat} {xs : Nat → Int32} (S : lwX X b n xs) (hd : decode cc pc = .ok (.arraylength, 1)) (k : tkG X Q cs ss (pc + 1) lv (.int (nI n) :: stk) σ I L) : tkG X Q cs ss pc lv (.ref b :: stk) σ I L := by
  obtain ⟨p, l, e, R, s, m, args, below, meth, c, base, D⟩ := X
  obtain ⟨hx, hb, hml, hown, hts, hK, hE, hlocks, hr, hnm, hhh, hfr, hlo, hRc, hRs, hst⟩ := C
  intro H locs ls hSS hR hl
  exact va_slen hx hb S.1 S.2.1 S.2.2 hSS hd (k H locs ls hSS hR hl)
/-- room rounded up -/
theorem g_wid {cs' ss' : Nat} (h1 : cs ≤ cs') (h2 : ss ≤ ss') (k : tkG X Q cs' ss' pc lv stk σ I L) : tkG X Q cs ss pc lv stk σ I L := by
  obtain ⟨p, l, e, R, s, m, args, below, meth, c, base, D⟩ := X
  intro H locs ls hSS hR hl
  exact W.widen h1 h2 (k H locs ls hSS hR hl)
theorem g_ishr (C : tkC X cc own nm nL ret hh d MC MS) {x y : Int32} (hd : decode cc pc = .ok (.ishr, 1)) (k : tkG X Q cs ss (pc + 1) lv (.int (x >>> (y &&& 31)) :: stk) σ I L) : tkG X Q cs ss pc lv (.int y :: .int x :: stk) σ I L := by
  obtain ⟨p, l, e, R, s, m, args, below, meth, c, base, D⟩ := X
  obtain ⟨hx, hb, hml, hown, hts, hK, hE, hlocks, hr, hnm, hhh, hfr, hlo, hRc, hRs, hst⟩ := C
  intro H locs ls hS hR hl
  exact lv_ishr hx hb hd (k H locs ls hS hR hl)
theorem g_irem (C : tkC X cc own nm nL ret hh d MC MS) {x y : Int32} (hd : decode cc pc = .ok (.irem, 1)) (hne : ¬ y = 0) (k : tkG X Q cs ss (pc + 1) lv (.int (x - x / y * y) :: stk) σ I L) : tkG X Q cs ss pc lv (.int y :: .int x :: stk) σ I L := by
  obtain ⟨p, l, e, R, s, m, args, below, meth, c, base, D⟩ := X
  obtain ⟨hx, hb, hml, hown, hts, hK, hE, hlocks, hr, hnm, hhh, hfr, hlo, hRc, hRs, hst⟩ := C
  intro H locs ls hS hR hl
  exact lv_irem hx hb hd hne (k H locs ls hS hR hl)
def jmax (x y : Int32) : Int32 := if x < y then y else x
theorem mz_max : Cond.code Lib.Math.max.name Lib.Math.max.code 2 (some .int) ∈ tkAll := tk_at 507 (by decide +kernel) (by decide +kernel)
theorem g_max (C : tkC X cc own nm nL ret hh d MC MS) {idx : Nat} {x y : Int32} (hd : decode cc pc = .ok (.invokestatic idx, 3)) (hw : Cond.methodLink own idx yJ9_max_7cf53 ∈ tkAll) (h1 : 1 ≤ d) (h2 : cs ≤ MC) (h3 : ss ≤ MS) (hst : (stk.map fun v => v.category).sum ≤ 8) (k : tkG X Q cs ss (pc + 3) lv (.int (jmax x y) :: stk) σ I L) : tkG X Q cs ss pc lv (.int y :: .int x :: stk) σ I L := by
  obtain ⟨p, l, e, R, s, m, args, below, meth, c, base, D⟩ := X
  obtain ⟨hx, hb, hml, hown, hts, hK, hE, hlocks, hr, hnm, hhh, hfr, hlo, hRc, hRs, hst9⟩ := C
  intro H locs ls hSS hR hl
  exact va_mmax hx hb (by exact hl.1.symm) hown (hts _ hw) (hts _ mt_yJ9_max_7cf53) (hts _ mi_J9) (hts _ mz_max) (by omega) (by omega) (by rw [hRc]; exact h2) (by rw [hRs]; exact h3) hd (k H locs ls hSS hR hl)
/-! the script read in a method of its own -/
def tkPcS (sb n : Nat) (xs : Nat → Int32) (base : Nat) (D : va_G) (a : List Value) (σ : tkM) (I : tkI) (L : tkL) : Array Value → State → Prop := fun v U => tkPc base D a σ I L v U ∧ va_X sb n xs U U.heap ∧ sb < U.heap.size ∧ ¬ base ≤ sb
theorem tkPcS.blind {sb n base : Nat} {xs : Nat → Int32} {D : va_G} {a : List Value} : FrameBlind (tkPcS sb n xs base D a σ I L) := by
  intro v U g mk h
  exact ⟨tkPc.blind v U g mk h.1, va_X.moved (u := U) (U := U.calling g mk v) (Vm.Alike.refl U.vm) h.2.1, h.2.2.1, h.2.2.2⟩
theorem tkPcS.go {sb n base : Nat} {xs : Nat → Int32} {D : va_G} {a : List Value} {s : State} {H : Heap} {locs : List Loc} (hK : tkK D s) (hE : tkE base s s.heap) (hS : va_S (fun q => base ≤ q) s.heap H locs) (hR : tkRel D base σ I L H) (hX : va_X sb n xs s s.heap ∧ sb < s.heap.size ∧ ¬ base ≤ sb) : ∀ U : State, U.heap = H → s.WarmedH U.vm → tkPcS sb n xs base D a σ I L a.toArray U := by
  intro U hU hW
  refine ⟨tkPc.go hK hE hS hR U hU hW, ?_, by rw [hU]; exact Nat.lt_of_lt_of_le hX.2.1 hS.1, hX.2.2⟩
  rw [hU]
  exact (hX.1.kept (hS.2.1 sb hX.2.1 hX.2.2)).moved hW.alike
end TKLAWR
end
section
section TKBELOW
variable {X : tkX} {Q : State → Prop} {cc : ByteArray} {own nm : String} {nL d MC MS cs ss pc : Nat} {ret : Option FieldType} {hh : List (Nat × Nat × Nat × Nat)} {lv : List (Option Value)} {stk : List Value} {σ : tkM} {I : tkI} {L : tkL}
def jbel (v n : Int32) : Int32 := (v &&& 2147483647) - (v &&& 2147483647) / n * n
theorem jbel_in (v : Int32) {n : Nat} (h0 : 0 < n) (hn : n < 2 ^ 31) : ∃ r, r < n ∧ jbel v (nI n) = nI r := by
  obtain ⟨a, ha, ea⟩ := pk_andE v (m := 2147483647) 31 (by decide)
  refine ⟨a % n, Nat.mod_lt _ h0, ?_⟩
  unfold jbel
  rw [ea]
  exact pk_rem (by omega) h0 hn
theorem c_L_below (v n : Int32) (hne : ¬ n = 0) : tkCon false (.code yL_below cL_below 2 (some .int)) yL_below 1 [.int v, .int n] σ I L 0 0 (.inl (some (.int (jbel v n)))) σ I L := by
  refine tkCon.of (by decide) (Nat.le_of_ble_eq_true rfl) (fun X C => ?_)
  refine g_iload_n C (i := 0) dL_below_0 rfl rfl ?_
  refine g_ldc C (2147483647) dL_below_1 ml_L_7 ?_
  refine g_iand C dL_below_3 ?_
  refine g_iload_n C (i := 1) dL_below_4 rfl rfl ?_
  refine g_irem C dL_below_5 hne ?_
  exact g_ireturn C dL_below_6 ⟨Nat.le_of_ble_eq_true rfl, Nat.le_of_ble_eq_true rfl⟩ (tkEnd.rf rfl rfl rfl)
def jcell (xs : Nat → Int32) (n k : Nat) : Int32 := if k < n then xs k else 790386105 * (nI k + 3)
theorem cell_body {sb n k : Nat} {xs : Nat → Int32} (hn : n ≤ 260) (hk : k < 1000) (C : tkC X cL_cell RL nm 2 (some .int) [] 1 0 0) (S : lwX X sb n xs) : tkG X (tkQ false X 0 0 (.inl (some (.int (jcell xs n k)))) σ I L) 0 0 0 [some (.ref sb), some (.int (nI k))] [] σ I L := by
  have hn9 : n < 2 ^ 31 := by omega
  have J18 : ∀ x, x = jcell xs n k → tkG X (tkQ false X 0 0 (.inl (some (.int (jcell xs n k)))) σ I L) 0 0 18 [some (.ref sb), some (.int (nI k))] [.int x] σ I L := by
    intro x hx
    subst hx
    exact g_ireturn C dL_cell_18 ⟨Nat.le_of_ble_eq_true rfl, Nat.le_of_ble_eq_true rfl⟩ (tkEnd.rf rfl rfl rfl)
  refine g_iload_n C (i := 1) dL_cell_0 rfl rfl ?_
  refine g_aload_n C (i := 0) dL_cell_1 rfl rfl ?_
  refine g_slen C S dL_cell_2 ?_
  refine g_icmp_ge C 12 dL_cell_3 (by decide) (fun h3 => ?_) (fun h3 => ?_)
  · refine g_ldc C (790386105) dL_cell_12 ml_L_8 ?_
    refine g_iload_n C (i := 1) dL_cell_14 rfl rfl ?_
    refine g_iconst C (3) dL_cell_15 rfl ?_
    refine g_iadd C dL_cell_16 ?_
    refine g_imul C dL_cell_17 ?_
    exact J18 _ (if_neg (fun z => absurd h3 (nI_ge z hn9))).symm
  · have hlt : k < n := Nat.lt_of_not_le fun z => h3 (nI_le z (by omega))
    refine g_aload_n C (i := 0) dL_cell_6 rfl rfl ?_
    refine g_iload_n C (i := 1) dL_cell_7 rfl rfl ?_
    refine g_scr C S dL_cell_8 rfl hlt hn9 ?_
    refine g_goto C 18 dL_cell_9 (by decide) ?_
    exact J18 _ (if_pos hlt).symm
theorem c_L_cell {l : Launch} (hl : l.stackTraces = false) (base : Nat) (D : va_G) {sb n k : Nat} {xs : Nat → Int32} (hn : n ≤ 260) (hk : k < 1000) :
    vx_Met l yL_cell (Cond.code yL_cell cL_cell 2 (some .int) :: tkAll) (tkRm 1 0 0) (tkPcS sb n xs base D [.ref sb, .int (nI k)] σ I L) (tkQc false base D (.inl (some (.int (jcell xs n k)))) σ I L) (tkXC base D (.inl (some (.int (jcell xs n k)))) σ I L) 0 0 (fun q => base ≤ q) := by
  refine vx_ofW (cc := cL_cell) (maxL := 2) (ret := some .int) (by decide) rfl ?_
  intro p e s m args below meth c s₁ B hml ht hv
  obtain ⟨⟨rfl, hK, hE, hR⟩, hX, hb, hnb⟩ := hv
  have hts0 := atoms_spec (ws := Cond.code yL_cell cL_cell 2 (some .int) :: tkAll) B.pre
  have C : tkC (p, l, e, tkRm 1 0 0, s, m, ([.ref sb, .int (nI k)] : List Value).toArray, below, meth, c, base, D) cL_cell yL_cell.cls yL_cell.name 2 (some .int) [] 1 0 0 :=
    ⟨B.exec, B.bytes, hml, findClass_of_methodNamed B.named, fun w hw => hts0 w (List.mem_cons_of_mem _ hw), hK, hE, B.notSynchronized, B.returns, (name_of_methodNamed B.named B.method).1, List.eq_nil_iff_forall_not_mem.mpr ht, Nat.le_refl _, Nat.le_refl _, rfl, rfl, hl⟩
  exact tkG.entry rfl hml (Nat.le_of_ble_eq_true rfl) hR (cell_body hn hk C ⟨hX, hb, hnb⟩)
theorem g_cell (C : tkC X cc own nm nL ret hh d MC MS) {sb n k idx : Nat} {xs : Nat → Int32} {i : Int32} (S : lwX X sb n xs) (hd : decode cc pc = .ok (.invokestatic idx, 3)) (hl1 : Cond.methodLink own idx yL_cell ∈ tkAll) (hi : i = nI k) (hn : n ≤ 260) (hk : k < 1000) (h1 : 2 ≤ d) (h2 : cs ≤ MC) (h3 : ss ≤ MS) (h4 : (stk.map fun v => v.category).sum ≤ 8)
    (kk : tkG X Q cs ss (pc + 3) lv (.int (jcell xs n k) :: stk) σ I L) : tkG X Q cs ss pc lv (.int i :: .ref sb :: stk) σ I L := by
  obtain ⟨p, l, e, R, s, m, args, below, meth, c, base, D⟩ := X
  obtain ⟨hx, hb, hml, hown, hts, hK, hE, hlocks, hr, hnm, hhh, hfr, hlo, hRc, hRs, hst⟩ := C
  intro H locs ls hSS hR hl
  subst hi
  have hM := mm_L_cell
  have hR2 := tk_room (mc := 0) (ms := 0) h1 hM.2.2.1 hfr hlo
  exact tk_after (vx_runS (As := [.ref sb, .int (nI k)]) (rest := stk) (nL := nL) (n := 2) (bytes := cL_cell) (maxL := 2) (ret := some .int) (rm := tkRm 1 0 0) ⟨hx, hb, hml, hown, hts⟩ (c_L_cell hst base D hn hk)
    ⟨⟨rfl, rfl, hR2.1, hR2.2, tk_words hts hM.1, List.mem_cons_self, hts _ hM.1, hts _ hM.2.1, ⟨hM.2.2.2.1, hM.2.2.2.2.1⟩, hM.len, hts _ hl1⟩, hts _ mt_yL_cell⟩
    ⟨tkPcS.blind, tkPcS.go hK hE hSS hR S⟩ rfl rfl (by rw [← hml]; exact hl.1) rfl (lv_room h4) hd ⟨by rw [hRc]; exact h2, by rw [hRs]; exact h3⟩) hSS hl (tk_retv kk) tk_nothr
end TKBELOW
end
section
section TKLSPEC
/-- the law's rows: capacities, levels, leaks, sums; watched, lows, highs, areOn; froms, tos, rates, controls, areInverted, totals, shorts -/
def lT (k : Nat) : Nat × Nat := match k with
  | 0 => (10, 3) | 1 => (10, 3) | 2 => (10, 3) | 3 => (11, 3)
  | 4 => (10, 2) | 5 => (10, 2) | 6 => (10, 2) | 7 => (12, 2)
  | 8 => (10, 4) | 9 => (10, 4) | 10 => (10, 4) | 11 => (10, 4) | 12 => (12, 4) | 13 => (11, 4) | 14 => (11, 4) | _ => (99, 0)
def lF : Nat → Nat → Option Nat := fun _ _ => none
/-- what the making of the program's object leaves -/
def lwP5 (B : Nat) (σ : tkM) : Prop := tkTP σ B (B + 1) (B + 29) (B + 57) ∧ tkReg 28 pT pF σ (B + 1)
def lwP (B q n : Nat) (σ : tkM) : Prop := lwP5 B σ ∧ tkReg n lT lF σ q ∧ σ.1 = q + n ∧ B + 58 ≤ q
/-- memory: the law's rows J from q on, the plant's rows P from B + 1 on -/
def mI (B q : Nat) (J P : tkI) : tkI := reg q 15 J (reg (B + 1) 28 P zI)
def mL (B q : Nat) (K L : tkL) : tkL := reg q 15 K (reg (B + 1) 28 L zL)
theorem reg_swap {α : Type} {p N q M : Nat} {f g v : Nat → Nat → α} (h : p + N ≤ q) : reg q M g (reg p N f v) = reg p N f (reg q M g v) := by
  funext a
  simp only [reg]
  by_cases h1 : q ≤ a ∧ a < q + M
  · rw [if_pos h1, if_neg (by omega), if_pos h1]
  · rw [if_neg h1]
    by_cases h2 : p ≤ a ∧ a < p + N
    · rw [if_pos h2, if_pos h2]
    · rw [if_neg h2, if_neg h2, if_neg h1]
theorem mI_swap {B q : Nat} (h : B + 58 ≤ q) (J P : tkI) : mI B q J P = reg (B + 1) 28 P (reg q 15 J zI) := reg_swap (by omega)
theorem mL_swap {B q : Nat} (h : B + 58 ≤ q) (K L : tkL) : mL B q K L = reg (B + 1) 28 L (reg q 15 K zL) := reg_swap (by omega)
/-- the law's locals, from the first run on -/
def lvM (sb B q : Nat) (c17 c18 : Int32) (l19 l20 l21 l22 l23 : Option Value) : List (Option Value) :=
  [some (.ref sb), some (.ref B), some (.ref (q + 0)), some (.ref (q + 1)), some (.ref (q + 2)), some (.ref (q + 3)), some (.ref (q + 4)), some (.ref (q + 5)), some (.ref (q + 6)), some (.ref (q + 7)), some (.ref (q + 8)), some (.ref (q + 9)), some (.ref (q + 10)), some (.ref (q + 11)), some (.ref (q + 12)), some (.ref (q + 13)), some (.ref (q + 14)),
   some (.int c17), some (.int c18), l19, l20, l21, l22, l23]
/-! the law's tick -/
def lDue (J : tkI) (k : Nat) : Int32 := if J 1 (J 4 k).toNatClampNeg ≤ J 5 k then 1 else if J 6 k ≤ J 1 (J 4 k).toNatClampNeg then 0 else J 7 k
def lFol (k : Nat) (a : tkI × Int32) : tkI × Int32 := (tk2 a.1 7 k (lDue a.1 k), a.2 + if lDue a.1 k = a.1 7 k then 0 else 1)
def lA1 (J : tkI) (k : Nat) : Int32 := if J 8 k < 0 then J 10 k else jmin (J 10 k) (J 1 (J 8 k).toNatClampNeg)
def lAmt (J : tkI) (k : Nat) : Int32 := if J 9 k < 0 then lA1 J k else jmin (lA1 J k) (J 0 (J 9 k).toNatClampNeg - J 1 (J 9 k).toNatClampNeg)
def lMv1 (m : Int32) (k : Nat) (J : tkI) : tkI := if J 8 k < 0 then J else tk2 J 1 (J 8 k).toNatClampNeg (J 1 (J 8 k).toNatClampNeg - m)
def lMv2 (m : Int32) (k : Nat) (J : tkI) : tkI := if J 9 k < 0 then J else tk2 J 1 (J 9 k).toNatClampNeg (J 1 (J 9 k).toNatClampNeg + m)
def lEnt (m : Int32) (k : Nat) (J : tkI) (K : tkL) : tkL := (fun K1 : tkL => tk2 K1 14 k (K1 14 k + if J 10 k ≤ m then 0 else 1)) (tk2 K 13 k (K 13 k + m.toInt64))
def lPump (k : Nat) (a : tkI × tkL) : tkI × tkL :=
  if ¬ a.1 11 k < 0 ∧ a.1 7 (a.1 11 k).toNatClampNeg = a.1 12 k then a else (lMv2 (lAmt a.1 k) k (lMv1 (lAmt a.1 k) k a.1), lEnt (lAmt a.1 k) k (lMv2 (lAmt a.1 k) k (lMv1 (lAmt a.1 k) k a.1)) a.2)
def lLeak (t : Nat) (a : tkI × tkL) : tkI × tkL := (fun J1 : tkI => (J1, tk2 a.2 3 t (a.2 3 t + (J1 1 t).toInt64))) (tk2 a.1 1 t (jmax (a.1 1 t - a.1 2 t) 0))
def lTick (a : (tkI × tkL) × Int32) : (tkI × tkL) × Int32 := (itr lLeak 3 (itr lPump 4 ((itr lFol 2 (a.1.1, a.2)).1, a.1.2)), (itr lFol 2 (a.1.1, a.2)).2)
def lTks (n : Nat) (a : (tkI × tkL) × Int32) : (tkI × tkL) × Int32 := itr (fun _ => lTick) n a
/-! which rows a tick leaves -/
theorem lFol_keep (k : Nat) (a : tkI × Int32) {r : Nat} (h : r ≠ 7) : (lFol k a).1 r = a.1 r := by
  funext j
  exact tk2_ne h
theorem lMv1_keep (m : Int32) (k : Nat) (J : tkI) {r : Nat} (h : r ≠ 1) : lMv1 m k J r = J r := by
  unfold lMv1
  split
  · rfl
  · funext j
    exact tk2_ne h
theorem lMv2_keep (m : Int32) (k : Nat) (J : tkI) {r : Nat} (h : r ≠ 1) : lMv2 m k J r = J r := by
  unfold lMv2
  split
  · rfl
  · funext j
    exact tk2_ne h
theorem lPump_keep (k : Nat) (a : tkI × tkL) {r : Nat} (h : r ≠ 1) : (lPump k a).1 r = a.1 r := by
  unfold lPump
  split
  · rfl
  · exact (lMv2_keep _ _ _ h).trans (lMv1_keep _ _ _ h)
theorem lLeak_keep (t : Nat) (a : tkI × tkL) {r : Nat} (h : r ≠ 1) : (lLeak t a).1 r = a.1 r := by
  funext j
  exact tk2_ne h
theorem lTick_keep (a : (tkI × tkL) × Int32) {r : Nat} (h1 : r ≠ 1) (h7 : r ≠ 7) : (lTick a).1.1 r = a.1.1 r := by
  unfold lTick
  dsimp only
  rw [itr_keep (g := fun x : tkI × tkL => x.1 r) (fun i x => lLeak_keep i x h1), itr_keep (g := fun x : tkI × tkL => x.1 r) (fun i x => lPump_keep i x h1)]
  exact itr_keep (g := fun x : tkI × Int32 => x.1 r) (fun i x => lFol_keep i x h7) 2 (a.1.1, a.2)
theorem lTks_keep (n : Nat) (a : (tkI × tkL) × Int32) {r : Nat} (h1 : r ≠ 1) (h7 : r ≠ 7) : (lTks n a).1.1 r = a.1.1 r :=
  itr_keep (g := fun x : (tkI × tkL) × Int32 => x.1.1 r) (fun _ x => lTick_keep x h1 h7) n a
/-- the rows that name others are in order -/
def wl (J : tkI) : Prop := (∀ k, k < 2 → ∃ j, j < 3 ∧ J 4 k = nI j) ∧ ∀ k, k < 4 → (J 8 k = -1 ∨ ∃ j, j < 3 ∧ J 8 k = nI j) ∧ (J 9 k = -1 ∨ ∃ j, j < 3 ∧ J 9 k = nI j) ∧ (J 11 k = -1 ∨ ∃ j, j < 2 ∧ J 11 k = nI j)
theorem wl.keep {J J' : tkI} (h : wl J) (h4 : J' 4 = J 4) (h8 : J' 8 = J 8) (h9 : J' 9 = J 9) (h11 : J' 11 = J 11) : wl J' := by
  unfold wl at *
  rw [h4, h8, h9, h11]
  exact h
theorem wl_end {x : Int32} {n : Nat} (h : x = -1 ∨ ∃ j, j < n ∧ x = nI j) (h2 : ¬ x < 0) : ∃ j, j < n ∧ x = nI j := by
  rcases h with h | h
  · exact absurd (by rw [h]; decide) h2
  · exact h
theorem wl.fol {x : tkI × Int32} {k : Nat} (h : wl x.1) : wl (lFol k x).1 := h.keep (lFol_keep _ _ (by decide)) (lFol_keep _ _ (by decide)) (lFol_keep _ _ (by decide)) (lFol_keep _ _ (by decide))
theorem wl.pump {a : tkI × tkL} {k : Nat} (h : wl a.1) : wl (lPump k a).1 := h.keep (lPump_keep _ _ (by decide)) (lPump_keep _ _ (by decide)) (lPump_keep _ _ (by decide)) (lPump_keep _ _ (by decide))
theorem wl.tick {a : (tkI × tkL) × Int32} (h : wl a.1.1) : wl (lTick a).1.1 := h.keep (lTick_keep _ (by decide) (by decide)) (lTick_keep _ (by decide) (by decide)) (lTick_keep _ (by decide) (by decide)) (lTick_keep _ (by decide) (by decide))
end TKLSPEC
end
section
section TKLSW
variable {X : tkX} {Q : State → Prop} {nm : String} {hh : List (Nat × Nat × Nat × Nat)} {cs ss : Nat} {σ : tkM} {sb B q : Nat} {J P : tkI} {K L : tkL} {c17 c18 t19 many t21 : Int32}
/-- one switch of a tick -/
theorem law_sw1 (C : tkC X cL_law RL nm 24 (some .boolean) hh 10 161 1460) (hcs : cs ≤ 161 ∧ ss ≤ 1460) (hP : lwP B q 15 σ) {i : Nat} {l23 : Option Value} (hw : wl J) (hi : i < 2)
    (kk : ∀ l, tkG X Q cs ss 482 (lvM sb B q c17 c18 (some (.int t19)) (some (.int (lFol i (J, many)).2)) (some (.int t21)) (some (.int (nI (i + 1)))) l) [] σ (mI B q (lFol i (J, many)).1 P) (mL B q K L)) :
    tkG X Q cs ss 482 (lvM sb B q c17 c18 (some (.int t19)) (some (.int many)) (some (.int t21)) (some (.int (nI i))) l23) [] σ (mI B q J P) (mL B q K L) := by
  obtain ⟨j, hj, ej⟩ := hw.1 i hi
  have hL := hP.2.1
  have ejc : (J 4 i).toNatClampNeg = j := by rw [ej]; exact nI_clamp (by omega)
  have J531 : ∀ x, x = lDue J i → (x = 0 ∨ x = 1) → tkG X Q cs ss 531 (lvM sb B q c17 c18 (some (.int t19)) (some (.int many)) (some (.int t21)) (some (.int (nI i))) l23) [.int x] σ (mI B q J P) (mL B q K L) := by
    intro x hx h01
    unfold lFol at kk
    dsimp only at kk
    rw [← hx] at kk
    refine g_istore C (i := 23) dL_law_531 (by decide) ?_
    refine g_iload C (i := 20) dL_law_533 rfl ?_
    refine g_iload C (i := 23) dL_law_535 rfl ?_
    refine g_aload C (i := 9) dL_law_537 rfl ?_
    refine g_iload C (i := 22) dL_law_539 rfl ?_
    refine g_za C dL_law_541 (hL.1 7 (by decide)) (reg_at (k := 7) (by decide)) rfl (by omega) (by decide) (fun _ => ?_)
    refine g_icmp_ne C 549 dL_law_542 (by decide) (fun h542 => ?_) (fun h542 => ?_)
    · rw [if_neg h542] at kk
      refine g_iconst C (1) dL_law_549 rfl ?_
      refine g_iadd C dL_law_550 ?_
      refine g_istore C (i := 20) dL_law_551 (by decide) ?_
      refine g_aload C (i := 9) dL_law_553 rfl ?_
      refine g_iload C (i := 22) dL_law_555 rfl ?_
      refine g_iload C (i := 23) dL_law_557 rfl ?_
      refine g_zs C dL_law_559 (hL.1 7 (by decide)) (tk2_reg (k := 7) (by decide)) rfl (by omega) (by decide) (by first | assumption | exact Or.inl rfl | exact Or.inr rfl) ?_
      refine g_iinc C (i := 22) (nI (i + 1)) dL_law_560 rfl (nI_1 i) (by decide) ?_
      refine g_goto C 482 dL_law_563 (by decide) ?_
      exact kk _
    · rw [if_pos h542] at kk
      refine g_iconst C (0) dL_law_545 rfl ?_
      refine g_goto C 550 dL_law_546 (by decide) ?_
      refine g_iadd C dL_law_550 ?_
      refine g_istore C (i := 20) dL_law_551 (by decide) ?_
      refine g_aload C (i := 9) dL_law_553 rfl ?_
      refine g_iload C (i := 22) dL_law_555 rfl ?_
      refine g_iload C (i := 23) dL_law_557 rfl ?_
      refine g_zs C dL_law_559 (hL.1 7 (by decide)) (tk2_reg (k := 7) (by decide)) rfl (by omega) (by decide) (by first | assumption | exact Or.inl rfl | exact Or.inr rfl) ?_
      refine g_iinc C (i := 22) (nI (i + 1)) dL_law_560 rfl (nI_1 i) (by decide) ?_
      refine g_goto C 482 dL_law_563 (by decide) ?_
      exact kk _
  refine g_iload C (i := 22) dL_law_482 rfl ?_
  refine g_iconst C (2) dL_law_484 rfl ?_
  refine g_icmp_ge C 566 dL_law_485 (by decide) (fun h485 => ?_) (fun h485 => ?_)
  · exact absurd h485 (nI_ge (a := i) (b := 2) hi (by omega))
  · refine g_aload_n C (i := 3) dL_law_488 rfl rfl ?_
    refine g_aload C (i := 6) dL_law_489 rfl ?_
    refine g_iload C (i := 22) dL_law_491 rfl ?_
    refine g_ia C dL_law_493 (hL.1 4 (by decide)) (reg_at (k := 4) (by decide)) rfl (by omega) (by decide) ?_
    refine g_ia C dL_law_494 (hL.1 1 (by decide)) (reg_at (k := 1) (by decide)) ej hj (by decide) ?_
    refine g_aload C (i := 7) dL_law_495 rfl ?_
    refine g_iload C (i := 22) dL_law_497 rfl ?_
    refine g_ia C dL_law_499 (hL.1 5 (by decide)) (reg_at (k := 5) (by decide)) rfl (by omega) (by decide) ?_
    refine g_icmp_gt C 507 dL_law_500 (by decide) (fun h500 => ?_) (fun h500 => ?_)
    · refine g_aload_n C (i := 3) dL_law_507 rfl rfl ?_
      refine g_aload C (i := 6) dL_law_508 rfl ?_
      refine g_iload C (i := 22) dL_law_510 rfl ?_
      refine g_ia C dL_law_512 (hL.1 4 (by decide)) (reg_at (k := 4) (by decide)) rfl (by omega) (by decide) ?_
      refine g_ia C dL_law_513 (hL.1 1 (by decide)) (reg_at (k := 1) (by decide)) ej hj (by decide) ?_
      refine g_aload C (i := 8) dL_law_514 rfl ?_
      refine g_iload C (i := 22) dL_law_516 rfl ?_
      refine g_ia C dL_law_518 (hL.1 6 (by decide)) (reg_at (k := 6) (by decide)) rfl (by omega) (by decide) ?_
      refine g_icmp_lt C 526 dL_law_519 (by decide) (fun h519 => ?_) (fun h519 => ?_)
      · refine g_aload C (i := 9) dL_law_526 rfl ?_
        refine g_iload C (i := 22) dL_law_528 rfl ?_
        refine g_za C dL_law_530 (hL.1 7 (by decide)) (reg_at (k := 7) (by decide)) rfl (by omega) (by decide) (fun h01 => ?_)
        exact J531 _ (by unfold lDue; rw [ejc, if_neg (Int32.not_le.mpr h500), if_neg (Int32.not_le.mpr h519)]) h01
      · refine g_iconst C (0) dL_law_522 rfl ?_
        refine g_goto C 531 dL_law_523 (by decide) ?_
        exact J531 _ (by unfold lDue; rw [ejc, if_neg (Int32.not_le.mpr h500), if_pos (Int32.not_lt.mp h519)]) (Or.inl rfl)
    · refine g_iconst C (1) dL_law_503 rfl ?_
      refine g_goto C 531 dL_law_504 (by decide) ?_
      exact J531 _ (by unfold lDue; rw [ejc, if_pos (Int32.not_lt.mp h500)]) (Or.inr rfl)
theorem law_sw (C : tkC X cL_law RL nm 24 (some .boolean) hh 10 161 1460) (hcs : cs ≤ 161 ∧ ss ≤ 1460) (hP : lwP B q 15 σ) {l23 : Option Value} (hw : wl J)
    (kk : ∀ l, tkG X Q cs ss 566 (lvM sb B q c17 c18 (some (.int t19)) (some (.int (itr lFol 2 (J, many)).2)) (some (.int t21)) (some (.int (nI 2))) l) [] σ (mI B q (itr lFol 2 (J, many)).1 P) (mL B q K L)) :
    tkG X Q cs ss 482 (lvM sb B q c17 c18 (some (.int t19)) (some (.int many)) (some (.int t21)) (some (.int (nI 0))) l23) [] σ (mI B q J P) (mL B q K L) := by
  refine law_sw1 C hcs hP hw (i := 0) (by omega) fun l1 => ?_
  refine law_sw1 C hcs hP (wl.fol (x := (J, many)) hw) (i := 1) (by omega) fun l2 => ?_
  refine g_iload C (i := 22) dL_law_482 rfl ?_
  refine g_iconst C (2) dL_law_484 rfl ?_
  refine g_icmp_ge C 566 dL_law_485 (by decide) (fun h485 => ?_) (fun h485 => ?_)
  · skip
    exact kk _
  · exact absurd (Int32.le_refl _) h485
end TKLSW
end
section
section TKLPU
variable {X : tkX} {Q : State → Prop} {nm : String} {hh : List (Nat × Nat × Nat × Nat)} {cs ss : Nat} {σ : tkM} {sb B q : Nat} {J P : tkI} {K L : tkL} {c17 c18 t19 many t21 : Int32}
/-- one pump of a tick -/
theorem law_pu1 (C : tkC X cL_law RL nm 24 (some .boolean) hh 10 161 1460) (hcs : cs ≤ 161 ∧ ss ≤ 1460) (hP : lwP B q 15 σ) {i : Nat} {l23 : Option Value} (hw : wl J) (hi : i < 4)
    (kk : ∀ l, tkG X Q cs ss 569 (lvM sb B q c17 c18 (some (.int t19)) (some (.int many)) (some (.int t21)) (some (.int (nI (i + 1)))) l) [] σ (mI B q (lPump i (J, K)).1 P) (mL B q (lPump i (J, K)).2 L)) :
    tkG X Q cs ss 569 (lvM sb B q c17 c18 (some (.int t19)) (some (.int many)) (some (.int t21)) (some (.int (nI i))) l23) [] σ (mI B q J P) (mL B q K L) := by
  obtain ⟨w8, w9, w11⟩ := hw.2 i hi
  have hL := hP.2.1
  have J701 : ∀ (J2 : tkI) (m : Int32), lPump i (J, K) = (J2, lEnt m i J2 K) → tkG X Q cs ss 701 (lvM sb B q c17 c18 (some (.int t19)) (some (.int many)) (some (.int t21)) (some (.int (nI i))) (some (.int m))) [] σ (mI B q J2 P) (mL B q K L) := by
    intro J2 m e
    rw [e] at kk
    unfold lEnt at kk
    dsimp only at kk
    refine g_aload C (i := 15) dL_law_701 rfl ?_
    refine g_iload C (i := 22) dL_law_703 rfl ?_
    refine g_dup2 C dL_law_705 rfl rfl ?_
    refine g_la C dL_law_706 (hL.1 13 (by decide)) (reg_at (k := 13) (by decide)) rfl (by omega) (by decide) ?_
    refine g_iload C (i := 23) dL_law_707 rfl ?_
    refine g_i2l C dL_law_709 ?_
    refine g_ladd C dL_law_710 ?_
    refine g_ls C dL_law_711 (hL.1 13 (by decide)) (tk2_reg (k := 13) (by decide)) rfl (by omega) (by decide) ?_
    refine g_aload C (i := 16) dL_law_712 rfl ?_
    refine g_iload C (i := 22) dL_law_714 rfl ?_
    refine g_dup2 C dL_law_716 rfl rfl ?_
    refine g_la C dL_law_717 (hL.1 14 (by decide)) (reg_at (k := 14) (by decide)) rfl (by omega) (by decide) ?_
    refine g_iload C (i := 23) dL_law_718 rfl ?_
    refine g_aload C (i := 12) dL_law_720 rfl ?_
    refine g_iload C (i := 22) dL_law_722 rfl ?_
    refine g_ia C dL_law_724 (hL.1 10 (by decide)) (reg_at (k := 10) (by decide)) rfl (by omega) (by decide) ?_
    refine g_icmp_ge C 732 dL_law_725 (by decide) (fun h725 => ?_) (fun h725 => ?_)
    · rw [if_pos h725] at kk
      refine g_lconst C 0 dL_law_732 rfl ?_
      refine g_ladd C dL_law_733 ?_
      refine g_ls C dL_law_734 (hL.1 14 (by decide)) (tk2_reg (k := 14) (by decide)) rfl (by omega) (by decide) ?_
      refine g_iinc C (i := 22) (nI (i + 1)) dL_law_735 rfl (nI_1 i) (by decide) ?_
      refine g_goto C 569 dL_law_738 (by decide) ?_
      exact kk _
    · rw [if_neg h725] at kk
      refine g_lconst C 1 dL_law_728 rfl ?_
      refine g_goto C 733 dL_law_729 (by decide) ?_
      refine g_ladd C dL_law_733 ?_
      refine g_ls C dL_law_734 (hL.1 14 (by decide)) (tk2_reg (k := 14) (by decide)) rfl (by omega) (by decide) ?_
      refine g_iinc C (i := 22) (nI (i + 1)) dL_law_735 rfl (nI_1 i) (by decide) ?_
      refine g_goto C 569 dL_law_738 (by decide) ?_
      exact kk _
  have J681 : ∀ (J1 : tkI) (m : Int32), J1 9 = J 9 → lPump i (J, K) = (lMv2 m i J1, lEnt m i (lMv2 m i J1) K) → tkG X Q cs ss 681 (lvM sb B q c17 c18 (some (.int t19)) (some (.int many)) (some (.int t21)) (some (.int (nI i))) (some (.int m))) [] σ (mI B q J1 P) (mL B q K L) := by
    intro J1 m e9 e
    rw [← e9] at w9
    refine g_aload C (i := 11) dL_law_681 rfl ?_
    refine g_iload C (i := 22) dL_law_683 rfl ?_
    refine g_ia C dL_law_685 (hL.1 9 (by decide)) (reg_at (k := 9) (by decide)) rfl (by omega) (by decide) ?_
    refine g_if_lt C 701 dL_law_686 (by decide) (fun h686 => ?_) (fun h686 => ?_)
    · rw [show lMv2 m i J1 = J1 from if_pos h686] at e
      skip
      exact J701 _ _ e
    · obtain ⟨s, hs, es⟩ := wl_end w9 h686
      have esc : (J1 9 i).toNatClampNeg = s := by rw [es]; exact nI_clamp (by omega)
      rw [show lMv2 m i J1 = tk2 J1 1 s (J1 1 s + m) by unfold lMv2; rw [if_neg h686, esc]] at e
      refine g_aload_n C (i := 3) dL_law_689 rfl rfl ?_
      refine g_aload C (i := 11) dL_law_690 rfl ?_
      refine g_iload C (i := 22) dL_law_692 rfl ?_
      refine g_ia C dL_law_694 (hL.1 9 (by decide)) (reg_at (k := 9) (by decide)) rfl (by omega) (by decide) ?_
      refine g_dup2 C dL_law_695 rfl rfl ?_
      refine g_ia C dL_law_696 (hL.1 1 (by decide)) (reg_at (k := 1) (by decide)) es hs (by decide) ?_
      refine g_iload C (i := 23) dL_law_697 rfl ?_
      refine g_iadd C dL_law_699 ?_
      refine g_is C dL_law_700 (hL.1 1 (by decide)) (tk2_reg (k := 1) (by decide)) es hs (by decide) ?_
      exact J701 _ _ e
  have J661 : tkG X Q cs ss 661 (lvM sb B q c17 c18 (some (.int t19)) (some (.int many)) (some (.int t21)) (some (.int (nI i))) (some (.int (lAmt J i)))) [] σ (mI B q J P) (mL B q K L) ∨ (¬ J 11 i < 0 ∧ J 7 (J 11 i).toNatClampNeg = J 12 i) := by
    by_cases hoff : ¬ J 11 i < 0 ∧ J 7 (J 11 i).toNatClampNeg = J 12 i
    · exact Or.inr hoff
    · refine Or.inl ?_
      have e : lPump i (J, K) = (lMv2 (lAmt J i) i (lMv1 (lAmt J i) i J), lEnt (lAmt J i) i (lMv2 (lAmt J i) i (lMv1 (lAmt J i) i J)) K) := if_neg hoff
      generalize lAmt J i = m at e ⊢
      have e9 := lMv1_keep m i J (r := 9) (by decide)
      refine g_aload C (i := 10) dL_law_661 rfl ?_
      refine g_iload C (i := 22) dL_law_663 rfl ?_
      refine g_ia C dL_law_665 (hL.1 8 (by decide)) (reg_at (k := 8) (by decide)) rfl (by omega) (by decide) ?_
      refine g_if_lt C 681 dL_law_666 (by decide) (fun h666 => ?_) (fun h666 => ?_)
      · rw [show lMv1 m i J = J from if_pos h666] at e
        skip
        exact J681 _ _ rfl e
      · obtain ⟨s, hs, es⟩ := wl_end w8 h666
        have esc : (J 8 i).toNatClampNeg = s := by rw [es]; exact nI_clamp (by omega)
        have e1 : lMv1 m i J = tk2 J 1 s (J 1 s - m) := by unfold lMv1; rw [if_neg h666, esc]
        rw [e1] at e e9
        refine g_aload_n C (i := 3) dL_law_669 rfl rfl ?_
        refine g_aload C (i := 10) dL_law_670 rfl ?_
        refine g_iload C (i := 22) dL_law_672 rfl ?_
        refine g_ia C dL_law_674 (hL.1 8 (by decide)) (reg_at (k := 8) (by decide)) rfl (by omega) (by decide) ?_
        refine g_dup2 C dL_law_675 rfl rfl ?_
        refine g_ia C dL_law_676 (hL.1 1 (by decide)) (reg_at (k := 1) (by decide)) es hs (by decide) ?_
        refine g_iload C (i := 23) dL_law_677 rfl ?_
        refine g_isub C dL_law_679 ?_
        refine g_is C dL_law_680 (hL.1 1 (by decide)) (tk2_reg (k := 1) (by decide)) es hs (by decide) ?_
        exact J681 _ _ e9 e
  have J631 : ¬ (¬ J 11 i < 0 ∧ J 7 (J 11 i).toNatClampNeg = J 12 i) → tkG X Q cs ss 631 (lvM sb B q c17 c18 (some (.int t19)) (some (.int many)) (some (.int t21)) (some (.int (nI i))) (some (.int (lA1 J i)))) [] σ (mI B q J P) (mL B q K L) := by
    intro hon
    have h661 := J661.resolve_right hon
    refine g_aload C (i := 11) dL_law_631 rfl ?_
    refine g_iload C (i := 22) dL_law_633 rfl ?_
    refine g_ia C dL_law_635 (hL.1 9 (by decide)) (reg_at (k := 9) (by decide)) rfl (by omega) (by decide) ?_
    refine g_if_lt C 661 dL_law_636 (by decide) (fun h636 => ?_) (fun h636 => ?_)
    · have e : lAmt J i = lA1 J i := if_pos h636
      rw [e] at h661
      skip
      exact h661
    · obtain ⟨s, hs, es⟩ := wl_end w9 h636
      have esc : (J 9 i).toNatClampNeg = s := by rw [es]; exact nI_clamp (by omega)
      have e : lAmt J i = jmin (lA1 J i) (J 0 s - J 1 s) := by unfold lAmt; rw [if_neg h636, esc]
      rw [e] at h661
      refine g_iload C (i := 23) dL_law_639 rfl ?_
      refine g_aload_n C (i := 2) dL_law_641 rfl rfl ?_
      refine g_aload C (i := 11) dL_law_642 rfl ?_
      refine g_iload C (i := 22) dL_law_644 rfl ?_
      refine g_ia C dL_law_646 (hL.1 9 (by decide)) (reg_at (k := 9) (by decide)) rfl (by omega) (by decide) ?_
      refine g_ia C dL_law_647 (hL.1 0 (by decide)) (reg_at (k := 0) (by decide)) es hs (by decide) ?_
      refine g_aload_n C (i := 3) dL_law_648 rfl rfl ?_
      refine g_aload C (i := 11) dL_law_649 rfl ?_
      refine g_iload C (i := 22) dL_law_651 rfl ?_
      refine g_ia C dL_law_653 (hL.1 9 (by decide)) (reg_at (k := 9) (by decide)) rfl (by omega) (by decide) ?_
      refine g_ia C dL_law_654 (hL.1 1 (by decide)) (reg_at (k := 1) (by decide)) es hs (by decide) ?_
      refine g_isub C dL_law_655 ?_
      refine g_min C dL_law_656 ml_L_33 (by decide) (by omega) (by omega) (Nat.le_of_ble_eq_true rfl) ?_
      refine g_istore C (i := 23) dL_law_659 (by decide) ?_
      exact h661
  have J602 : ¬ (¬ J 11 i < 0 ∧ J 7 (J 11 i).toNatClampNeg = J 12 i) → tkG X Q cs ss 602 (lvM sb B q c17 c18 (some (.int t19)) (some (.int many)) (some (.int t21)) (some (.int (nI i))) l23) [] σ (mI B q J P) (mL B q K L) := by
    intro hon
    have h631 := J631 hon
    refine g_aload C (i := 12) dL_law_602 rfl ?_
    refine g_iload C (i := 22) dL_law_604 rfl ?_
    refine g_ia C dL_law_606 (hL.1 10 (by decide)) (reg_at (k := 10) (by decide)) rfl (by omega) (by decide) ?_
    refine g_istore C (i := 23) dL_law_607 (by decide) ?_
    refine g_aload C (i := 10) dL_law_609 rfl ?_
    refine g_iload C (i := 22) dL_law_611 rfl ?_
    refine g_ia C dL_law_613 (hL.1 8 (by decide)) (reg_at (k := 8) (by decide)) rfl (by omega) (by decide) ?_
    refine g_if_lt C 631 dL_law_614 (by decide) (fun h614 => ?_) (fun h614 => ?_)
    · have e : lA1 J i = J 10 i := if_pos h614
      rw [e] at h631
      skip
      exact h631
    · obtain ⟨s, hs, es⟩ := wl_end w8 h614
      have esc : (J 8 i).toNatClampNeg = s := by rw [es]; exact nI_clamp (by omega)
      have e : lA1 J i = jmin (J 10 i) (J 1 s) := by unfold lA1; rw [if_neg h614, esc]
      rw [e] at h631
      refine g_iload C (i := 23) dL_law_617 rfl ?_
      refine g_aload_n C (i := 3) dL_law_619 rfl rfl ?_
      refine g_aload C (i := 10) dL_law_620 rfl ?_
      refine g_iload C (i := 22) dL_law_622 rfl ?_
      refine g_ia C dL_law_624 (hL.1 8 (by decide)) (reg_at (k := 8) (by decide)) rfl (by omega) (by decide) ?_
      refine g_ia C dL_law_625 (hL.1 1 (by decide)) (reg_at (k := 1) (by decide)) es hs (by decide) ?_
      refine g_min C dL_law_626 ml_L_33 (by decide) (by omega) (by omega) (Nat.le_of_ble_eq_true rfl) ?_
      refine g_istore C (i := 23) dL_law_629 (by decide) ?_
      exact h631
  refine g_iload C (i := 22) dL_law_569 rfl ?_
  refine g_iconst C (4) dL_law_571 rfl ?_
  refine g_icmp_ge C 741 dL_law_572 (by decide) (fun h572 => ?_) (fun h572 => ?_)
  · exact absurd h572 (nI_ge (a := i) (b := 4) hi (by omega))
  · refine g_aload C (i := 13) dL_law_575 rfl ?_
    refine g_iload C (i := 22) dL_law_577 rfl ?_
    refine g_ia C dL_law_579 (hL.1 11 (by decide)) (reg_at (k := 11) (by decide)) rfl (by omega) (by decide) ?_
    refine g_if_lt C 602 dL_law_580 (by decide) (fun h580 => ?_) (fun h580 => ?_)
    · skip
      exact J602 (fun z => z.1 h580)
    · obtain ⟨s, hs, es⟩ := wl_end w11 h580
      have esc : (J 11 i).toNatClampNeg = s := by rw [es]; exact nI_clamp (by omega)
      refine g_aload C (i := 9) dL_law_583 rfl ?_
      refine g_aload C (i := 13) dL_law_585 rfl ?_
      refine g_iload C (i := 22) dL_law_587 rfl ?_
      refine g_ia C dL_law_589 (hL.1 11 (by decide)) (reg_at (k := 11) (by decide)) rfl (by omega) (by decide) ?_
      refine g_za C dL_law_590 (hL.1 7 (by decide)) (reg_at (k := 7) (by decide)) es hs (by decide) (fun _ => ?_)
      refine g_aload C (i := 14) dL_law_591 rfl ?_
      refine g_iload C (i := 22) dL_law_593 rfl ?_
      refine g_za C dL_law_595 (hL.1 12 (by decide)) (reg_at (k := 12) (by decide)) rfl (by omega) (by decide) (fun _ => ?_)
      refine g_icmp_ne C 602 dL_law_596 (by decide) (fun h596 => ?_) (fun h596 => ?_)
      · skip
        exact J602 (fun z => h596 (by rw [← esc]; exact z.2))
      · have e : lPump i (J, K) = (J, K) := if_pos ⟨h580, by rw [esc]; exact h596⟩
        rw [e] at kk
        refine g_goto C 735 dL_law_599 (by decide) ?_
        refine g_iinc C (i := 22) (nI (i + 1)) dL_law_735 rfl (nI_1 i) (by decide) ?_
        refine g_goto C 569 dL_law_738 (by decide) ?_
        exact kk _
theorem law_pu (C : tkC X cL_law RL nm 24 (some .boolean) hh 10 161 1460) (hcs : cs ≤ 161 ∧ ss ≤ 1460) (hP : lwP B q 15 σ) {l23 : Option Value} {a : tkI × tkL} (hw : wl a.1)
    (kk : ∀ l, tkG X Q cs ss 741 (lvM sb B q c17 c18 (some (.int t19)) (some (.int many)) (some (.int t21)) (some (.int (nI 4))) l) [] σ (mI B q (itr lPump 4 a).1 P) (mL B q (itr lPump 4 a).2 L)) :
    tkG X Q cs ss 569 (lvM sb B q c17 c18 (some (.int t19)) (some (.int many)) (some (.int t21)) (some (.int (nI 0))) l23) [] σ (mI B q a.1 P) (mL B q a.2 L) := by
  refine law_pu1 C hcs hP (J := a.1) (K := a.2) hw (i := 0) (by omega) fun l1 => ?_
  refine law_pu1 C hcs hP (J := (lPump 0 a).1) (K := (lPump 0 a).2) hw.pump (i := 1) (by omega) fun l2 => ?_
  refine law_pu1 C hcs hP (J := (lPump 1 (lPump 0 a)).1) (K := (lPump 1 (lPump 0 a)).2) hw.pump.pump (i := 2) (by omega) fun l3 => ?_
  refine law_pu1 C hcs hP (J := (lPump 2 (lPump 1 (lPump 0 a))).1) (K := (lPump 2 (lPump 1 (lPump 0 a))).2) hw.pump.pump.pump (i := 3) (by omega) fun l4 => ?_
  refine g_iload C (i := 22) dL_law_569 rfl ?_
  refine g_iconst C (4) dL_law_571 rfl ?_
  refine g_icmp_ge C 741 dL_law_572 (by decide) (fun h572 => ?_) (fun h572 => ?_)
  · skip
    exact kk _
  · exact absurd (Int32.le_refl _) h572
end TKLPU
end
section
section TKLLK
variable {X : tkX} {Q : State → Prop} {nm : String} {hh : List (Nat × Nat × Nat × Nat)} {cs ss : Nat} {σ : tkM} {sb B q : Nat} {J P : tkI} {K L : tkL} {c17 c18 t19 many t21 : Int32}
/-- one tank of a tick -/
theorem law_lk1 (C : tkC X cL_law RL nm 24 (some .boolean) hh 10 161 1460) (hcs : cs ≤ 161 ∧ ss ≤ 1460) (hP : lwP B q 15 σ) {i : Nat} {l23 : Option Value} (hi : i < 3)
    (kk : tkG X Q cs ss 744 (lvM sb B q c17 c18 (some (.int t19)) (some (.int many)) (some (.int t21)) (some (.int (nI (i + 1)))) l23) [] σ (mI B q (lLeak i (J, K)).1 P) (mL B q (lLeak i (J, K)).2 L)) :
    tkG X Q cs ss 744 (lvM sb B q c17 c18 (some (.int t19)) (some (.int many)) (some (.int t21)) (some (.int (nI i))) l23) [] σ (mI B q J P) (mL B q K L) := by
  have hL := hP.2.1
  refine g_iload C (i := 22) dL_law_744 rfl ?_
  refine g_iconst C (3) dL_law_746 rfl ?_
  refine g_icmp_ge C 787 dL_law_747 (by decide) (fun h747 => ?_) (fun h747 => ?_)
  · exact absurd h747 (nI_ge (a := i) (b := 3) hi (by omega))
  · refine g_aload_n C (i := 3) dL_law_750 rfl rfl ?_
    refine g_iload C (i := 22) dL_law_751 rfl ?_
    refine g_aload_n C (i := 3) dL_law_753 rfl rfl ?_
    refine g_iload C (i := 22) dL_law_754 rfl ?_
    refine g_ia C dL_law_756 (hL.1 1 (by decide)) (reg_at (k := 1) (by decide)) rfl (by omega) (by decide) ?_
    refine g_aload C (i := 4) dL_law_757 rfl ?_
    refine g_iload C (i := 22) dL_law_759 rfl ?_
    refine g_ia C dL_law_761 (hL.1 2 (by decide)) (reg_at (k := 2) (by decide)) rfl (by omega) (by decide) ?_
    refine g_isub C dL_law_762 ?_
    refine g_iconst C (0) dL_law_763 rfl ?_
    refine g_max C dL_law_764 ml_L_38 (by decide) (by omega) (by omega) (Nat.le_of_ble_eq_true rfl) ?_
    refine g_is C dL_law_767 (hL.1 1 (by decide)) (tk2_reg (k := 1) (by decide)) rfl (by omega) (by decide) ?_
    refine g_aload C (i := 5) dL_law_768 rfl ?_
    refine g_iload C (i := 22) dL_law_770 rfl ?_
    refine g_dup2 C dL_law_772 rfl rfl ?_
    refine g_la C dL_law_773 (hL.1 3 (by decide)) (reg_at (k := 3) (by decide)) rfl (by omega) (by decide) ?_
    refine g_aload_n C (i := 3) dL_law_774 rfl rfl ?_
    refine g_iload C (i := 22) dL_law_775 rfl ?_
    refine g_ia C dL_law_777 (hL.1 1 (by decide)) (reg_at (k := 1) (by decide)) rfl (by omega) (by decide) ?_
    refine g_i2l C dL_law_778 ?_
    refine g_ladd C dL_law_779 ?_
    refine g_ls C dL_law_780 (hL.1 3 (by decide)) (tk2_reg (k := 3) (by decide)) rfl (by omega) (by decide) ?_
    refine g_iinc C (i := 22) (nI (i + 1)) dL_law_781 rfl (nI_1 i) (by decide) ?_
    refine g_goto C 744 dL_law_784 (by decide) ?_
    exact kk
theorem law_lk (C : tkC X cL_law RL nm 24 (some .boolean) hh 10 161 1460) (hcs : cs ≤ 161 ∧ ss ≤ 1460) (hP : lwP B q 15 σ) {l23 : Option Value} {a : tkI × tkL}
    (kk : tkG X Q cs ss 787 (lvM sb B q c17 c18 (some (.int t19)) (some (.int many)) (some (.int t21)) (some (.int (nI 3))) l23) [] σ (mI B q (itr lLeak 3 a).1 P) (mL B q (itr lLeak 3 a).2 L)) :
    tkG X Q cs ss 744 (lvM sb B q c17 c18 (some (.int t19)) (some (.int many)) (some (.int t21)) (some (.int (nI 0))) l23) [] σ (mI B q a.1 P) (mL B q a.2 L) := by
  refine law_lk1 C hcs hP (J := a.1) (K := a.2) (i := 0) (by omega) ?_
  refine law_lk1 C hcs hP (J := (lLeak 0 a).1) (K := (lLeak 0 a).2) (i := 1) (by omega) ?_
  refine law_lk1 C hcs hP (J := (lLeak 1 (lLeak 0 a)).1) (K := (lLeak 1 (lLeak 0 a)).2) (i := 2) (by omega) ?_
  refine g_iload C (i := 22) dL_law_744 rfl ?_
  refine g_iconst C (3) dL_law_746 rfl ?_
  refine g_icmp_ge C 787 dL_law_747 (by decide) (fun h747 => ?_) (fun h747 => ?_)
  · skip
    exact kk
  · exact absurd (Int32.le_refl _) h747
/-- the ticks of a run -/
theorem law_ticks (C : tkC X cL_law RL nm 24 (some .boolean) hh 10 161 1460) (hcs : cs ≤ 161 ∧ ss ≤ 1460) (hP : lwP B q 15 σ) {n : Nat} (hn : n < 1000)
    (kk : ∀ a t21 l22 l23, a = lTks n ((J, K), 0) → tkG X Q cs ss 793 (lvM sb B q c17 c18 (some (.int (nI n))) (some (.int a.2)) (some (.int t21)) l22 l23) [] σ (mI B q a.1.1 P) (mL B q a.1.2 L)) :
    ∀ (f k : Nat) (a : (tkI × tkL) × Int32) (l22 l23 : Option Value), k + f = n → wl a.1.1 → itr (fun _ => lTick) k ((J, K), 0) = a → tkG X Q cs ss 472 (lvM sb B q c17 c18 (some (.int (nI n))) (some (.int a.2)) (some (.int (nI k))) l22 l23) [] σ (mI B q a.1.1 P) (mL B q a.1.2 L)
  | 0, k, a, l22, l23, hk, hw, e => by
    obtain rfl : k = n := hk
    refine g_iload C (i := 21) dL_law_472 rfl ?_
    refine g_iload C (i := 19) dL_law_474 rfl ?_
    refine g_icmp_ge C 793 dL_law_476 (by decide) (fun h476 => ?_) (fun h476 => ?_)
    · skip
      exact kk a _ _ _ e.symm
    · exact absurd (Int32.le_refl _) h476
  | f + 1, k, a, l22, l23, hk, hw, e => by
    have ih := law_ticks C hcs hP hn kk f (k + 1) (lTick a) (some (.int (nI 3)))
    refine g_iload C (i := 21) dL_law_472 rfl ?_
    refine g_iload C (i := 19) dL_law_474 rfl ?_
    refine g_icmp_ge C 793 dL_law_476 (by decide) (fun h476 => ?_) (fun h476 => ?_)
    · exact absurd h476 (nI_ge (by omega) (by omega))
    · refine g_iconst C (0) dL_law_479 rfl ?_
      refine g_istore C (i := 22) dL_law_480 (by decide) ?_
      refine law_sw C hcs hP (J := a.1.1) (K := a.1.2) (many := a.2) hw fun l1 => ?_
      refine g_iconst C (0) dL_law_566 rfl ?_
      refine g_istore C (i := 22) dL_law_567 (by decide) ?_
      refine law_pu C hcs hP (a := ((itr lFol 2 (a.1.1, a.2)).1, a.1.2)) ((wl.fol (x := (a.1.1, a.2)) (k := 0) hw).fol (k := 1)) fun l2 => ?_
      refine g_iconst C (0) dL_law_741 rfl ?_
      refine g_istore C (i := 22) dL_law_742 (by decide) ?_
      refine law_lk C hcs hP (a := itr lPump 4 ((itr lFol 2 (a.1.1, a.2)).1, a.1.2)) ?_
      refine g_iinc C (i := 21) (nI (k + 1)) dL_law_787 rfl (nI_1 k) (by decide) ?_
      refine g_goto C 472 dL_law_790 (by decide) ?_
      exact ih _ (by omega) hw.tick (by rw [← e]; rfl)
end TKLLK
end
section
section TKLMATH
/-- the law's rows that no tick writes, beside those of the plain plant -/
def lSt (J M : tkI) : Prop := (eqR 3 (M 1) (J 0) ∧ eqR 3 (M 11) (J 2)) ∧ (eqR 2 (M 2) (J 4) ∧ eqR 2 (M 3) (J 5) ∧ eqR 2 (M 4) (J 6)) ∧
  (eqR 4 (M 5) (J 8) ∧ eqR 4 (M 6) (J 9) ∧ eqR 4 (M 14) (J 10) ∧ eqR 4 (M 8) (J 11) ∧ eqR 4 (M 9) (J 12) ∧ ∀ k, k < 4 → M 7 k = 2)
/-- their bounds -/
def lB (M : tkI) : Prop := (∀ j, j < 3 → 0 ≤ (M 11 j).toInt ∧ (M 11 j).toInt ≤ 1000000) ∧ (∀ i, i < 2 → ∃ t, t < 3 ∧ M 2 i = nI t) ∧
  ∀ i, i < 4 → end_ 3 (M 5 i) ∧ end_ 3 (M 6 i) ∧ (M 8 i = -1 ∨ ∃ t, t < 2 ∧ M 8 i = nI t) ∧ M 5 i ≠ M 6 i ∧ 1 ≤ (M 14 i).toInt
def lR (a b : tkI × tkL) : Prop := lSt a.1 b.1 ∧ lB b.1 ∧ (eqR 3 (b.1 10) (a.1 1) ∧ lvB 3 (b.1 10) (b.1 1)) ∧ (eqR 2 (b.1 13) (a.1 7) ∧ ∀ i, i < 2 → b.1 13 i = 0 ∨ b.1 13 i = 1) ∧
  eqR 3 (b.2 12) (a.2 3) ∧ eqR 4 (b.2 15) (a.2 13) ∧ (∀ k, k < 4 → b.2 16 k = 2 * a.2 13 k) ∧ eqR 4 (b.2 17) (a.2 14)
def lK (J J' : tkI) : Prop := ∀ r, r ≠ 1 → r ≠ 7 → J' r = J r
def mK9 (M M' : tkI) : Prop := ∀ r, r ≠ 0 → r ≠ 10 → r ≠ 13 → r ≠ 19 → M' r = M r
theorem lSt.keep {J J' M M' : tkI} (h : lSt J M) (hx : lK J J') (hm : mK9 M M') : lSt J' M' := by
  unfold lSt at *
  rw [hx 0 (by decide) (by decide), hx 2 (by decide) (by decide), hx 4 (by decide) (by decide), hx 5 (by decide) (by decide), hx 6 (by decide) (by decide), hx 8 (by decide) (by decide), hx 9 (by decide) (by decide), hx 10 (by decide) (by decide), hx 11 (by decide) (by decide), hx 12 (by decide) (by decide),
    hm 1 (by decide) (by decide) (by decide) (by decide), hm 11 (by decide) (by decide) (by decide) (by decide), hm 2 (by decide) (by decide) (by decide) (by decide), hm 3 (by decide) (by decide) (by decide) (by decide), hm 4 (by decide) (by decide) (by decide) (by decide), hm 5 (by decide) (by decide) (by decide) (by decide), hm 6 (by decide) (by decide) (by decide) (by decide), hm 14 (by decide) (by decide) (by decide) (by decide), hm 8 (by decide) (by decide) (by decide) (by decide), hm 9 (by decide) (by decide) (by decide) (by decide), hm 7 (by decide) (by decide) (by decide) (by decide)]
  exact h
theorem lB.keep {M M' : tkI} (h : lB M) (hm : mK9 M M') : lB M' := by
  unfold lB at *
  rw [hm 11 (by decide) (by decide) (by decide) (by decide), hm 2 (by decide) (by decide) (by decide) (by decide), hm 5 (by decide) (by decide) (by decide) (by decide), hm 6 (by decide) (by decide) (by decide) (by decide), hm 8 (by decide) (by decide) (by decide) (by decide), hm 14 (by decide) (by decide) (by decide) (by decide)]
  exact h
theorem x_neg {x : Int32} {n : Nat} (hn : n ≤ 8) (h : x = -1 ∨ ∃ t, t < n ∧ x = nI t) : x < 0 ↔ x = -1 := by
  rcases h with h | ⟨t, ht, h⟩
  · exact ⟨fun _ => h, fun _ => by rw [h]; decide⟩
  · exact ⟨fun z => absurd z (by rw [h]; exact nI_pos (by omega)), fun z => by rw [z]; decide⟩
theorem mLog_22 (i : Int32) (lg : Nat) (q : tkI × tkL) : (mLog i lg q).2 0 22 = q.2 0 22 + 1 := by
  have e : ∀ s q1, (mPut i s q1).2 0 22 = q1.2 0 22 + 1 := fun s q1 => by
    show tk2 (tk2 q1.2 18 s (q1.2 0 21)) 0 22 (q1.2 0 22 + 1) 0 22 = _
    exact tk2_at
  unfold mLog
  split
  · rw [e, mSh_K _ _ (by decide)]
  · exact e _ _
/-! the switches -/
def lF2 (J0 : tkI) (m0 : tkI × tkL) (c0 : Int32) (i : Nat) (a : tkI × Int32) (b : (tkI × tkL) × Int32) : Prop :=
  ∃ d, d ≤ i ∧ b.2 = nI d ∧ a.2 = c0 + nI d ∧ b.1.2 0 22 = m0.2 0 22 + lN d ∧ b.1.2 0 21 = m0.2 0 21 ∧ (∀ r, r ≠ 0 → r ≠ 13 → r ≠ 19 → b.1.1 r = m0.1 r) ∧ (∀ r, r ≠ 0 → r ≠ 18 → b.1.2 r = m0.2 r) ∧ (∀ r, r ≠ 7 → a.1 r = J0 r) ∧
    eqR 2 (b.1.1 13) (a.1 7) ∧ ∀ i, i < 2 → b.1.1 13 i = 0 ∨ b.1.1 13 i = 1
theorem lF2.step {J0 : tkI} {K0 : tkL} {m0 : tkI × tkL} {c0 : Int32} (h : lR (J0, K0) m0) {i : Nat} (hi : i < 2) {a : tkI × Int32} {b : (tkI × tkL) × Int32} (p : lF2 J0 m0 c0 i a b) : lF2 J0 m0 c0 (i + 1) (lFol i a) (mFol i b) := by
  obtain ⟨qa, n1⟩ := a
  obtain ⟨mb, n2⟩ := b
  obtain ⟨d, hd, e1, e2, e3, e4, e5, e6, e7, e8, e9⟩ := p
  obtain ⟨hS, hB, ⟨hLv, hlb⟩, hOn, -⟩ := h
  dsimp only at *
  have hdue : mDue mb.1 i = lDue qa i := by
    obtain ⟨t, ht, et⟩ := hB.2.1 i hi
    have etc : (m0.1 2 i).toNatClampNeg = t := by rw [et]; exact nI_clamp (by omega)
    have hz : (if mb.1 13 i = 0 then (0 : Int32) else 1) = mb.1 13 i := by rcases e9 i hi with z | z <;> rw [z] <;> decide
    unfold mDue lDue
    rw [hz, e5 10 (by decide) (by decide) (by decide), e5 2 (by decide) (by decide) (by decide), e5 3 (by decide) (by decide) (by decide), e5 4 (by decide) (by decide) (by decide), e7 1 (by decide), e7 4 (by decide), e7 5 (by decide), e7 6 (by decide),
      ← hS.2.1.1 i hi, ← hS.2.1.2.1 i hi, ← hS.2.1.2.2 i hi, etc, hLv t ht, e8 i hi]
  have hb : lDue qa i = 0 ∨ lDue qa i = 1 := by
    rw [← hdue]
    unfold mDue
    split
    · exact Or.inr rfl
    · split
      · exact Or.inl rfl
      · split
        · exact Or.inl rfl
        · exact Or.inr rfl
  have k1 : (lFol i (qa, n1)).1 = tk2 qa 7 i (lDue qa i) := rfl
  have k2 : (lFol i (qa, n1)).2 = n1 + if lDue qa i = qa 7 i then 0 else 1 := rfl
  have k7 : ∀ r, r ≠ 7 → tk2 qa 7 i (lDue qa i) r = J0 r := fun r hr => by
    rw [← e7 r hr]
    funext j
    exact tk2_ne hr
  unfold lF2
  rw [k1, k2]
  unfold mFol
  dsimp only
  rw [hdue, e8 i hi]
  by_cases h1 : lDue qa i = qa 7 i
  · rw [if_pos h1, if_pos h1]
    refine ⟨d, by omega, e1, by rw [Int32.add_zero]; exact e2, e3, e4, e5, e6, k7, fun j hj => ?_, e9⟩
    by_cases e : j = i
    · rw [e, tk2_at, h1]
      exact e8 i hi
    · rw [show tk2 qa 7 i (lDue qa i) 7 j = qa 7 j from if_neg (fun z => e z.2)]
      exact e8 j hj
  · rw [if_neg h1, if_neg h1]
    dsimp only
    have jJ : ∀ k, k ≠ 0 → k ≠ 19 → (mLog (nI i) (mb.1 0 23).toNatClampNeg (tk2 mb.1 13 i (lDue qa i), mb.2)).1 k = tk2 mb.1 13 i (lDue qa i) k := fun k x y => mLog_J _ _ _ x y
    have kK : ∀ k, k ≠ 0 → k ≠ 18 → (mLog (nI i) (mb.1 0 23).toNatClampNeg (tk2 mb.1 13 i (lDue qa i), mb.2)).2 k = mb.2 k := fun k x y => mLog_K _ _ _ x y
    have k21 := mLog_21 (nI i) (mb.1 0 23).toNatClampNeg (tk2 mb.1 13 i (lDue qa i), mb.2)
    have k22 := mLog_22 (nI i) (mb.1 0 23).toNatClampNeg (tk2 mb.1 13 i (lDue qa i), mb.2)
    generalize mLog (nI i) (mb.1 0 23).toNatClampNeg (tk2 mb.1 13 i (lDue qa i), mb.2) = y at *
    dsimp only at *
    refine ⟨d + 1, by omega, by rw [e1, nI_1], by rw [e2, Int32.add_assoc, nI_1], by rw [k22, e3, Int64.add_assoc, lN_1], k21.trans e4, fun r r0 r13 r19 => ?_, fun r r0 r18 => (kK r r0 r18).trans (e6 r r0 r18), k7, fun j hj => ?_, fun j hj => ?_⟩
    · rw [jJ r r0 r19, ← e5 r r0 r13 r19]
      funext j
      exact tk2_ne r13
    · rw [jJ 13 (by decide) (by decide)]
      by_cases e : j = i
      · rw [e, tk2_at, tk2_at]
      · rw [show tk2 qa 7 i (lDue qa i) 7 j = qa 7 j from if_neg (fun z => e z.2), show tk2 mb.1 13 i (lDue qa i) 13 j = mb.1 13 j from if_neg (fun z => e z.2)]
        exact e8 j hj
    · rw [jJ 13 (by decide) (by decide)]
      by_cases e : j = i
      · rw [e, tk2_at]
        exact hb
      · rw [show tk2 mb.1 13 i (lDue qa i) 13 j = mb.1 13 j from if_neg (fun z => e z.2)]
        exact e9 j hj
/-! the pumps -/
theorem lAmt_eq {J : tkI} {i : Nat} (h8 : J 8 i < 0 ↔ J 8 i = -1) (h9 : J 9 i < 0 ↔ J 9 i = -1) : lAmt J i = amt (J 8 i) (J 9 i) (J 10 i) (J 1) (J 0) := by
  unfold lAmt lA1 amt
  simp only [h8, h9]
theorem lMv_1 {J : tkI} {m : Int32} {i : Nat} (h8 : J 8 i < 0 ↔ J 8 i = -1) (h9 : J 9 i < 0 ↔ J 9 i = -1) : lMv2 m i (lMv1 m i J) 1 = mv2 (J 9 i) m (mv1 (J 8 i) m (J 1)) := by
  unfold lMv1 lMv2 mv1 mv2
  simp only [h8]
  funext j
  by_cases a : J 8 i = -1
  · simp only [a, if_true, h9]
    by_cases b : J 9 i = -1
    · simp [b]
    · simp [b, tk2]
  · simp only [a, if_false]
    have e9 : ∀ x y, tk2 J 1 x y 9 i = J 9 i := fun x y => tk2_ne (by decide)
    simp only [e9, h9]
    by_cases b : J 9 i = -1
    · simp [b, tk2]
    · simp [b, tk2]
theorem lEnt_13 (m : Int32) (k : Nat) (J : tkI) (K : tkL) (j : Nat) : lEnt m k J K 13 j = if j = k then K 13 k + m.toInt64 else K 13 j := by
  unfold lEnt
  simp [tk2]
theorem lEnt_14 (m : Int32) (k : Nat) (J : tkI) (K : tkL) (j : Nat) : lEnt m k J K 14 j = if j = k then K 14 k + (if J 10 k ≤ m then 0 else 1) else K 14 j := by
  unfold lEnt
  simp [tk2]
theorem lEnt_3 (m : Int32) (k : Nat) (J : tkI) (K : tkL) : lEnt m k J K 3 = K 3 := by
  unfold lEnt
  funext j
  simp [tk2]
theorem lR.pump {a b : tkI × tkL} (h : lR a b) {i : Nat} (hi : i < 4) : lR (lPump i a) (mPump i b) := by
  obtain ⟨hS, hB, ⟨hLv, hlb⟩, ⟨hOn, hO1⟩, h12, h15, h16, h17⟩ := h
  obtain ⟨f5, f6, f8, fne, fr⟩ := hB.2.2 i hi
  obtain ⟨s5, s6, s14, s8, s9, s7⟩ := hS.2.2
  have e8 := s5 i hi
  have e9 := s6 i hi
  have e10 := s14 i hi
  have e11 := s8 i hi
  have e12 := s9 i hi
  have n8 : a.1 8 i < 0 ↔ a.1 8 i = -1 := by rw [← e8]; exact x_neg (by decide) f5
  have n9 : a.1 9 i < 0 ↔ a.1 9 i = -1 := by rw [← e9]; exact x_neg (by decide) f6
  have n11 : a.1 11 i < 0 ↔ a.1 11 i = -1 := by rw [← e11]; exact x_neg (by decide) f8
  have hoff : (¬ a.1 11 i < 0 ∧ a.1 7 (a.1 11 i).toNatClampNeg = a.1 12 i) ↔ (¬ b.1 8 i = -1 ∧ b.1 13 (b.1 8 i).toNatClampNeg = b.1 9 i) := by
    rw [n11, ← e11, ← e12]
    refine and_congr_right fun z => ?_
    obtain ⟨t, ht, et⟩ := f8.resolve_left z
    rw [et, nI_clamp (by omega), hOn t ht]
  unfold lPump mPump
  by_cases h0 : ¬ b.1 8 i = -1 ∧ b.1 13 (b.1 8 i).toNatClampNeg = b.1 9 i
  · rw [if_pos h0, if_pos (hoff.mpr h0)]
    exact ⟨hS, hB, ⟨hLv, hlb⟩, ⟨hOn, hO1⟩, h12, h15, h16, h17⟩
  · rw [if_neg h0, if_neg (fun z => h0 (hoff.mp z))]
    have eA : lAmt a.1 i = mAmt b.1 i := by
      rw [lAmt_eq n8 n9, mAmt_eq, ← e8, ← e9, ← e10]
      exact (amt_congr (by decide) f5 f6 hLv hS.1.1).symm
    have hmv := mv_B (fr := b.1 5 i) (to := b.1 6 i) (rt := b.1 14 i) (by decide) f5 f6 fne hlb fr
    rw [← mAmt_eq] at hmv
    rw [eA]
    generalize mAmt b.1 i = m at *
    have l1 := lMv_1 (m := m) n8 n9
    have l2 := mLv_10 m i b.1
    have kl : ∀ r, r ≠ 1 → lMv2 m i (lMv1 m i a.1) r = a.1 r := fun r hr => (lMv2_keep _ _ _ hr).trans (lMv1_keep _ _ _ hr)
    have km : ∀ r, r ≠ 10 → mLv2 m i (mLv1 m i b.1) r = b.1 r := fun r hr => mLv_J m i b.1 hr
    generalize lMv2 m i (lMv1 m i a.1) = J at *
    generalize mLv2 m i (mLv1 m i b.1) = M at *
    have m9 : mK9 b.1 M := fun r _ r10 _ _ => km r r10
    refine ⟨hS.keep (fun r r1 _ => kl r r1) m9, hB.keep m9, ⟨?_, ?_⟩, ⟨?_, ?_⟩, ?_, fun j hj => ?_, fun j hj => ?_, fun j hj => ?_⟩
    · dsimp only
      rw [l1, l2, ← e8, ← e9]
      exact mv2_congr (by decide) f6 (mv1_congr (by decide) f5 hLv)
    · dsimp only
      rw [l2, km 1 (by decide)]
      exact hmv.2
    · dsimp only
      rw [km 13 (by decide), kl 7 (by decide)]
      exact hOn
    · dsimp only
      rw [km 13 (by decide)]
      exact hO1
    · dsimp only
      rw [lEnt_3, mEnt_K _ _ _ _ (by decide) (by decide) (by decide)]
      exact h12
    · dsimp only
      rw [lEnt_13, mEnt_15, h15 i hi, h15 j hj]
    · dsimp only
      rw [lEnt_13, mEnt_16, s7 i hi, h16 i hi, h16 j hj]
      by_cases e : j = i
      · rw [if_pos e, if_pos e, Int64.mul_add, Int64.mul_comm m.toInt64]
        rfl
      · rw [if_neg e, if_neg e]
    · dsimp only
      rw [lEnt_14, mEnt_17, kl 10 (by decide), ← e10, h17 i hi, h17 j hj]
/-! leaks and sums -/
theorem jmax_Z (x y : Int32) : (jmax x y).toInt = max x.toInt y.toInt := by
  unfold jmax
  split <;> (rename_i h; rw [Int32.lt_iff_toInt_lt] at h; omega)
theorem lLeak_at (q : tkI × tkL) : ∀ n, (∀ j, (itr lLeak n q).1 1 j = if j < n then jmax (q.1 1 j - q.1 2 j) 0 else q.1 1 j) ∧ (∀ j, (itr lLeak n q).2 3 j = if j < n then q.2 3 j + (jmax (q.1 1 j - q.1 2 j) 0).toInt64 else q.2 3 j) ∧ (∀ k, k ≠ 1 → (itr lLeak n q).1 k = q.1 k) ∧ ∀ k, k ≠ 3 → (itr lLeak n q).2 k = q.2 k
  | 0 => ⟨fun j => by rw [if_neg (Nat.not_lt_zero j)]; rfl, fun j => by rw [if_neg (Nat.not_lt_zero j)]; rfl, fun k _ => rfl, fun k _ => rfl⟩
  | n + 1 => by
    obtain ⟨h1, h2, h3, h4⟩ := lLeak_at q n
    rw [itr_s]
    generalize itr lLeak n q = a at *
    unfold lLeak
    refine ⟨fun j => ?_, fun j => ?_, fun k hk => ?_, fun k hk => ?_⟩
    · dsimp only
      by_cases e : j = n
      · subst e
        rw [tk2_at, h1 j, if_neg (Nat.lt_irrefl j), h3 2 (by decide), if_pos (Nat.lt_succ_self j)]
      · rw [show ∀ x, tk2 a.1 1 n x 1 j = a.1 1 j from fun x => if_neg (fun z => e z.2), h1 j]
        by_cases h : j < n
        · rw [if_pos h, if_pos (by omega)]
        · rw [if_neg h, if_neg (by omega)]
    · dsimp only
      by_cases e : j = n
      · subst e
        rw [tk2_at, tk2_at, h2 j, if_neg (Nat.lt_irrefl j), h1 j, if_neg (Nat.lt_irrefl j), h3 2 (by decide), if_pos (Nat.lt_succ_self j)]
      · rw [show ∀ x, tk2 a.2 3 n x 3 j = a.2 3 j from fun x => if_neg (fun z => e z.2), h2 j]
        by_cases h : j < n
        · rw [if_pos h, if_pos (by omega)]
        · rw [if_neg h, if_neg (by omega)]
    · rw [← h3 k hk]
      funext j
      exact tk2_ne hk
    · rw [← h4 k hk]
      funext j
      exact tk2_ne hk
/-- one tick of the law beside one of the plain plant -/
theorem lR.tick {a m : tkI × tkL} (h : lR a m) (c0 : Int32) : lR (lTick (a, c0)).1 (mTick 3 2 4 m).1 ∧ ∃ d, d ≤ 2 ∧ (mTick 3 2 4 m).2 = nI d ∧ (lTick (a, c0)).2 = c0 + nI d ∧ (mTick 3 2 4 m).1.2 0 22 = m.2 0 22 + lN d ∧ (mTick 3 2 4 m).1.2 0 21 = m.2 0 21 + 1 := by
  obtain ⟨J0, K0⟩ := a
  have hf := itr_rel (f := lFol) (g := mFol) (n := 2) (P := lF2 J0 m c0) (fun i a b hi hp => hp.step h hi) (k := 2) (Nat.le_refl _) (a := (J0, c0)) (b := (m, 0)) ⟨0, Nat.le_refl _, rfl, (Int32.add_zero _).symm, (Int64.add_zero _).symm, rfl, fun _ _ _ _ => rfl, fun _ _ _ => rfl, fun _ _ => rfl, h.2.2.2.1.1, h.2.2.2.1.2⟩
  unfold lTick mTick
  dsimp only
  generalize itr lFol 2 (J0, c0) = f at *
  generalize itr mFol 2 (m, 0) = g at *
  obtain ⟨d, hd, e1, e2, e3, e4, e5, e6, e7, e8, e9⟩ := hf
  have hR : lR (f.1, K0) g.1 := by
    obtain ⟨hS, hB, ⟨hLv, hlb⟩, ⟨hOn, hO1⟩, h12, h15, h16, h17⟩ := h
    have m9 : mK9 m.1 g.1.1 := fun r r0 _ r13 r19 => e5 r r0 r13 r19
    refine ⟨hS.keep (fun r _ r7 => e7 r r7) m9, hB.keep m9, ⟨?_, ?_⟩, ⟨e8, e9⟩, ?_, ?_, ?_, ?_⟩
    · dsimp only
      rw [e5 10 (by decide) (by decide) (by decide), e7 1 (by decide)]
      exact hLv
    · rw [e5 10 (by decide) (by decide) (by decide), e5 1 (by decide) (by decide) (by decide)]
      exact hlb
    · rw [e6 12 (by decide) (by decide)]
      exact h12
    · rw [e6 15 (by decide) (by decide)]
      exact h15
    · rw [e6 16 (by decide) (by decide)]
      exact h16
    · rw [e6 17 (by decide) (by decide)]
      exact h17
  have m0 : ∀ (i : Nat) (b : tkI × tkL), (mPump i b).2 0 = b.2 0 := fun i b => by
    unfold mPump
    split
    · rfl
    · exact mEnt_K (k := 0) (mAmt b.1 i) i b.1 b.2 (by decide) (by decide) (by decide)
  have p0 : (itr mPump 4 g.1).2 0 = g.1.2 0 := itr_keep (g := fun b : tkI × tkL => b.2 0) m0 4 g.1
  have hp := itr_rel (f := lPump) (g := mPump) (n := 4) (P := fun _ a b => lR a b) (fun i a b hi hp => hp.pump hi) (k := 4) (Nat.le_refl _) (a := (f.1, K0)) (b := g.1) hR
  generalize itr lPump 4 (f.1, K0) = x at *
  generalize itr mPump 4 g.1 = y at *
  obtain ⟨hS, hB, ⟨hLv, hlb⟩, ⟨hOn, hO1⟩, h12, h15, h16, h17⟩ := hp
  obtain ⟨a1, a2, a3, a4⟩ := lLeak_at x 3
  obtain ⟨l1, l2⟩ := mLeak_at y.1 3
  obtain ⟨u1, u2⟩ := mSum_at (itr mLeak 3 y.1) (tk2 y.2 0 21 (y.2 0 21 + 1)) 3
  generalize itr (mSum (itr mLeak 3 y.1)) 3 (tk2 y.2 0 21 (y.2 0 21 + 1)) = K at *
  generalize itr mLeak 3 y.1 = J at *
  generalize itr lLeak 3 x = r at *
  have m9 : mK9 y.1 J := fun r _ r10 _ _ => l2 r r10
  have lv : ∀ j, j < 3 → J 10 j = r.1 1 j ∧ 0 ≤ (J 10 j).toInt ∧ (J 10 j).toInt ≤ (y.1 1 j).toInt := fun j hj => by
    obtain ⟨b1, b2, b3⟩ := hlb j hj
    obtain ⟨b4, b5⟩ := hB.1 j hj
    have z0 : (0 : Int32).toInt = 0 := by decide
    have q1 : (J 10 j).toInt = (y.1 10 j).toInt - min (y.1 11 j).toInt (y.1 10 j).toInt := by
      rw [l1 j, if_pos hj, i32_sub (by rw [jmin_Z]; omega) (by rw [jmin_Z]; omega), jmin_Z]
    have q2 : (r.1 1 j).toInt = max ((y.1 10 j).toInt - (y.1 11 j).toInt) 0 := by
      rw [a1 j, if_pos hj, ← hLv j hj, ← hS.1.2 j hj, jmax_Z, i32_sub (by omega) (by omega), z0]
    exact ⟨Int32.toInt_inj.mp (by rw [q1, q2]; omega), by rw [q1]; omega, by rw [q1]; omega⟩
  have ul : ∀ k, k ≠ 12 → k ≠ 0 → K k = y.2 k := fun k h12 h0 => by
    rw [u2 k h12]
    funext j
    exact tk2_ne h0
  refine ⟨⟨hS.keep (fun r r1 _ => a3 r r1) m9, hB.keep m9, ⟨fun j hj => (lv j hj).1, fun j hj => ⟨(lv j hj).2.1, ?_, ?_⟩⟩, ⟨?_, ?_⟩, fun j hj => ?_, ?_, ?_, ?_⟩, d, hd, e1, e2, ?_, ?_⟩
  · dsimp only
    rw [l2 1 (by decide)]
    exact (lv j hj).2.2
  · dsimp only
    rw [l2 1 (by decide)]
    exact (hlb j hj).2.2
  · dsimp only
    rw [l2 13 (by decide), a3 7 (by decide)]
    exact hOn
  · dsimp only
    rw [l2 13 (by decide)]
    exact hO1
  · dsimp only
    rw [u1 j, if_pos hj, (lv j hj).1, a1 j, if_pos hj, a2 j, if_pos hj, show tk2 y.2 0 21 (y.2 0 21 + 1) 12 j = y.2 12 j from tk2_ne (by decide), h12 j hj]
  · dsimp only
    rw [ul 15 (by decide) (by decide), a4 13 (by decide)]
    exact h15
  · dsimp only
    rw [ul 16 (by decide) (by decide), a4 13 (by decide)]
    exact h16
  · dsimp only
    rw [ul 17 (by decide) (by decide), a4 14 (by decide)]
    exact h17
  · rw [u2 0 (by decide), show tk2 y.2 0 21 (y.2 0 21 + 1) 0 22 = y.2 0 22 from if_neg (fun z => absurd z.2 (by decide)), p0, e3]
  · rw [u2 0 (by decide), tk2_at, p0, e4]
/-- n ticks -/
theorem lR.ticks {a m : tkI × tkL} (h : lR a m) : ∀ n, lR (lTks n (a, 0)).1 (mTk 3 2 4 n m) ∧ ∃ D, D ≤ 2 * n ∧ (mRun 3 2 4 n m).2 = nI D ∧ (lTks n (a, 0)).2 = nI D ∧ (mTk 3 2 4 n m).2 0 22 = m.2 0 22 + lN D ∧ (mTk 3 2 4 n m).2 0 21 = m.2 0 21 + lN n
  | 0 => ⟨h, 0, Nat.le_refl _, rfl, rfl, (Int64.add_zero _).symm, (Int64.add_zero _).symm⟩
  | n + 1 => by
    obtain ⟨h1, D, hD, e1, e2, e3, e4⟩ := lR.ticks h n
    obtain ⟨g1, d, hd, f1, f2, f3, f4⟩ := h1.tick (lTks n (a, 0)).2
    refine ⟨g1, D + d, by omega, ?_, ?_, ?_, ?_⟩
    · rw [mRun_2, e1, f1, nI_add]
    · rw [show (lTks (n + 1) (a, 0)).2 = (lTick ((lTks n (a, 0)).1, (lTks n (a, 0)).2)).2 from rfl, f2, e2, nI_add]
    · rw [show mTk 3 2 4 (n + 1) m = (mTick 3 2 4 (mTk 3 2 4 n m)).1 from rfl, f3, e3, Int64.add_assoc, lN_add]
    · rw [show mTk 3 2 4 (n + 1) m = (mTick 3 2 4 (mTk 3 2 4 n m)).1 from rfl, f4, e4, Int64.add_assoc, lN_1]
end TKLMATH
end
section
section TKLCMP
variable {X : tkX} {Q : State → Prop} {nm : String} {hh : List (Nat × Nat × Nat × Nat)} {cs ss : Nat} {σ : tkM} {sb B q n : Nat} {J P : tkI} {K L : tkL} {c17 c18 t19 many t21 : Int32}
theorem wRel.all {c : Nat} {x m : tkI × tkL} (h : wRel 3 2 4 c x m) : wAll 3 2 4 c x := by
  obtain ⟨-, hB2, hB3⟩ := h.1.2.2
  refine ⟨⟨h.1.1.1.1, by decide⟩, ⟨h.1.1.2.1.1, by decide, fun i hi => ?_⟩, ⟨h.1.1.2.2.1, by decide, fun i hi => ?_⟩, c, Nat.le_refl _, h.2.2.2.2.2.2.1⟩
  · obtain ⟨⟨t, ht, et⟩, -⟩ := hB2 i hi
    exact ⟨t, by omega, et⟩
  · obtain ⟨h1, h2, h3, -⟩ := hB3 i hi
    exact ⟨h1.imp id (fun ⟨t, ht, et⟩ => ⟨t, by omega, et⟩), h2.imp id (fun ⟨t, ht, et⟩ => ⟨t, by omega, et⟩), h3.imp id (fun ⟨t, ht, et⟩ => ⟨t, by omega, et⟩)⟩
/-! the calls, beside the law's rows -/
theorem k_run (hP : lwP B q n σ) {b k : Nat} (hW : wAll 3 2 4 b (P, L)) (hB : b + 60000 < 2 ^ 62) (hk : k ≤ 5000) :
    tkCon false (.code yX5_run cX5_run 2 (some .int)) yX5_run 8 [.ref B, .int (nI k)] σ (mI B q J P) (mL B q K L) 0 0 (.inl (some (.int (sAdv 3 2 4 (nI k) k 0 ((P, L), 0)).2))) σ (mI B q J (sAdv 3 2 4 (nI k) k 0 ((P, L), 0)).1.1) (mL B q K (sAdv 3 2 4 (nI k) k 0 ((P, L), 0)).1.2) := by
  simp only [mI_swap hP.2.2.2, mL_swap hP.2.2.2]
  exact o_run hP.1.1 hP.1.2 hW hB hk
theorem k_time (hP : lwP B q n σ) : tkCon false (.code yX5_time cX5_time 1 (some .long)) yX5_time 8 [.ref B] σ (mI B q J P) (mL B q K L) 0 0 (.inl (some (.long (L 0 4)))) σ (mI B q J P) (mL B q K L) := by
  simp only [mI_swap hP.2.2.2, mL_swap hP.2.2.2]
  exact o_time hP.1.1 hP.1.2
theorem k_changeCount (hP : lwP B q n σ) : tkCon false (.code yX5_changeCount cX5_changeCount 1 (some .long)) yX5_changeCount 8 [.ref B] σ (mI B q J P) (mL B q K L) 0 0 (.inl (some (.long (L 25 0)))) σ (mI B q J P) (mL B q K L) := by
  simp only [mI_swap hP.2.2.2, mL_swap hP.2.2.2]
  exact o_changeCount hP.1.1 hP.1.2
theorem k_level (hP : lwP B q n σ) {j : Nat} (hW : wTk P 3) (hj : j < 3) : tkCon false (.code yX5_level cX5_level 2 (some .int)) yX5_level 8 [.ref B, .int (nI j)] σ (mI B q J P) (mL B q K L) 0 0 (.inl (some (.int (P 3 j)))) σ (mI B q J P) (mL B q K L) := by
  simp only [mI_swap hP.2.2.2, mL_swap hP.2.2.2]
  exact o_level hP.1.1 hP.1.2 hW hj
theorem k_levelSum (hP : lwP B q n σ) {j : Nat} (hW : wTk P 3) (hj : j < 3) : tkCon false (.code yX5_levelSum cX5_levelSum 2 (some .long)) yX5_levelSum 8 [.ref B, .int (nI j)] σ (mI B q J P) (mL B q K L) 0 0 (.inl (some (.long (L 5 j)))) σ (mI B q J P) (mL B q K L) := by
  simp only [mI_swap hP.2.2.2, mL_swap hP.2.2.2]
  exact o_levelSum hP.1.1 hP.1.2 hW hj
theorem k_isOn (hP : lwP B q n σ) {j : Nat} (hW : wSw P 2) (hj : j < 2) : tkCon false (.code yX5_isOn cX5_isOn 2 (some .boolean)) yX5_isOn 8 [.ref B, .int (nI j)] σ (mI B q J P) (mL B q K L) 0 0 (.inl (some (.int (P 11 j)))) σ (mI B q J P) (mL B q K L) := by
  simp only [mI_swap hP.2.2.2, mL_swap hP.2.2.2]
  exact o_isOn hP.1.1 hP.1.2 hW hj
theorem k_total (hP : lwP B q n σ) {j : Nat} (hW : wPu P 4) (hj : j < 4) : tkCon false (.code yX5_total cX5_total 2 (some .long)) yX5_total 8 [.ref B, .int (nI j)] σ (mI B q J P) (mL B q K L) 0 0 (.inl (some (.long (L 19 j)))) σ (mI B q J P) (mL B q K L) := by
  simp only [mI_swap hP.2.2.2, mL_swap hP.2.2.2]
  exact o_total hP.1.1 hP.1.2 hW hj
theorem k_energy (hP : lwP B q n σ) {j : Nat} (hW : wPu P 4) (hj : j < 4) : tkCon false (.code yX5_energy cX5_energy 2 (some .long)) yX5_energy 8 [.ref B, .int (nI j)] σ (mI B q J P) (mL B q K L) 0 0 (.inl (some (.long (L 20 j)))) σ (mI B q J P) (mL B q K L) := by
  simp only [mI_swap hP.2.2.2, mL_swap hP.2.2.2]
  exact o_energy hP.1.1 hP.1.2 hW hj
theorem k_shortTicks (hP : lwP B q n σ) {j : Nat} (hW : wPu P 4) (hj : j < 4) : tkCon false (.code yX5_shortTicks cX5_shortTicks 2 (some .long)) yX5_shortTicks 8 [.ref B, .int (nI j)] σ (mI B q J P) (mL B q K L) 0 0 (.inl (some (.long (L 21 j)))) σ (mI B q J P) (mL B q K L) := by
  simp only [mI_swap hP.2.2.2, mL_swap hP.2.2.2]
  exact o_shortTicks hP.1.1 hP.1.2 hW hj
/-! what is compared behind a run -/
theorem law_ct1 (C : tkC X cL_law RL nm 24 (some .boolean) hh 10 161 1460) (hcs : cs ≤ 161 ∧ ss ≤ 1460) (hP : lwP B q 15 σ) {i : Nat} {l22 l23 : Option Value} (hW : wTk P 3) (hi : i < 3) (e1 : P 3 i = J 1 i) (e2 : L 5 i = K 3 i)
    (kk : tkG X Q cs ss 827 (lvM sb B q c17 c18 (some (.int t19)) (some (.int many)) (some (.int (nI (i + 1)))) l22 l23) [] σ (mI B q J P) (mL B q K L)) :
    tkG X Q cs ss 827 (lvM sb B q c17 c18 (some (.int t19)) (some (.int many)) (some (.int (nI i))) l22 l23) [] σ (mI B q J P) (mL B q K L) := by
  have hL := hP.2.1
  have hB : σ.2.1 B = (5, 0) := hP.1.1.1
  refine g_iload C (i := 21) dL_law_827 rfl ?_
  refine g_iconst C (3) dL_law_829 rfl ?_
  refine g_icmp_ge C 869 dL_law_830 (by decide) (fun h830 => ?_) (fun h830 => ?_)
  · exact absurd h830 (nI_ge (a := i) (b := 3) hi (by omega))
  · refine g_aload_n C (i := 1) dL_law_833 rfl rfl ?_
    refine g_iload C (i := 21) dL_law_834 rfl ?_
    refine g_callV C (q := (RX5, TX5, 4)) (rest := _) dL_law_836 mm_X5_level ml_L_49 mv_yX5_level ms_yX5_level (k_level hP hW hi) rfl hB rfl rfl ⟨by decide, by omega, by omega, Nat.le_of_ble_eq_true rfl⟩ (tk_retv ?_) tk_nothr
    refine g_aload_n C (i := 3) dL_law_839 rfl rfl ?_
    refine g_iload C (i := 21) dL_law_840 rfl ?_
    refine g_ia C dL_law_842 (hL.1 1 (by decide)) (reg_at (k := 1) (by decide)) rfl (by omega) (by decide) ?_
    refine g_icmp_ne C 861 dL_law_843 (by decide) (fun h843 => ?_) (fun h843 => ?_)
    · exact absurd e1 h843
    · refine g_aload_n C (i := 1) dL_law_846 rfl rfl ?_
      refine g_iload C (i := 21) dL_law_847 rfl ?_
      refine g_callV C (q := (RX5, TX5, 4)) (rest := _) dL_law_849 mm_X5_levelSum ml_L_52 mv_yX5_levelSum ms_yX5_levelSum (k_levelSum hP hW hi) rfl hB rfl rfl ⟨by decide, by omega, by omega, Nat.le_of_ble_eq_true rfl⟩ (tk_retv ?_) tk_nothr
      refine g_aload C (i := 5) dL_law_852 rfl ?_
      refine g_iload C (i := 21) dL_law_854 rfl ?_
      refine g_la C dL_law_856 (hL.1 3 (by decide)) (reg_at (k := 3) (by decide)) rfl (by omega) (by decide) ?_
      refine g_lcmp C dL_law_857 ?_
      refine g_if_eq C 863 dL_law_858 (by decide) (fun h858 => ?_) (fun h858 => ?_)
      · refine g_iinc C (i := 21) (nI (i + 1)) dL_law_863 rfl (nI_1 i) (by decide) ?_
        refine g_goto C 827 dL_law_866 (by decide) ?_
        exact kk
      · exact absurd ((lg_cmp_eq _ _).mpr e2) h858
theorem law_cs1 (C : tkC X cL_law RL nm 24 (some .boolean) hh 10 161 1460) (hcs : cs ≤ 161 ∧ ss ≤ 1460) (hP : lwP B q 15 σ) {i : Nat} {l22 l23 : Option Value} (hW : wSw P 2) (hi : i < 2) (e1 : P 11 i = J 7 i)
    (kk : tkG X Q cs ss 872 (lvM sb B q c17 c18 (some (.int t19)) (some (.int many)) (some (.int (nI (i + 1)))) l22 l23) [] σ (mI B q J P) (mL B q K L)) :
    tkG X Q cs ss 872 (lvM sb B q c17 c18 (some (.int t19)) (some (.int many)) (some (.int (nI i))) l22 l23) [] σ (mI B q J P) (mL B q K L) := by
  have hL := hP.2.1
  have hB : σ.2.1 B = (5, 0) := hP.1.1.1
  refine g_iload C (i := 21) dL_law_872 rfl ?_
  refine g_iconst C (2) dL_law_874 rfl ?_
  refine g_icmp_ge C 900 dL_law_875 (by decide) (fun h875 => ?_) (fun h875 => ?_)
  · exact absurd h875 (nI_ge (a := i) (b := 2) hi (by omega))
  · refine g_aload_n C (i := 1) dL_law_878 rfl rfl ?_
    refine g_iload C (i := 21) dL_law_879 rfl ?_
    refine g_callV C (q := (RX5, TX5, 4)) (rest := _) dL_law_881 mm_X5_isOn ml_L_56 mv_yX5_isOn ms_yX5_isOn (k_isOn hP hW hi) rfl hB rfl rfl ⟨by decide, by omega, by omega, Nat.le_of_ble_eq_true rfl⟩ (tk_retv ?_) tk_nothr
    refine g_aload C (i := 9) dL_law_884 rfl ?_
    refine g_iload C (i := 21) dL_law_886 rfl ?_
    refine g_za C dL_law_888 (hL.1 7 (by decide)) (reg_at (k := 7) (by decide)) rfl (by omega) (by decide) (fun _ => ?_)
    refine g_icmp_eq C 894 dL_law_889 (by decide) (fun h889 => ?_) (fun h889 => ?_)
    · refine g_iinc C (i := 21) (nI (i + 1)) dL_law_894 rfl (nI_1 i) (by decide) ?_
      refine g_goto C 872 dL_law_897 (by decide) ?_
      exact kk
    · exact absurd e1 h889
theorem law_cp1 (C : tkC X cL_law RL nm 24 (some .boolean) hh 10 161 1460) (hcs : cs ≤ 161 ∧ ss ≤ 1460) (hP : lwP B q 15 σ) {i : Nat} {l22 l23 : Option Value} (hW : wPu P 4) (hi : i < 4) (e1 : L 19 i = K 13 i) (e2 : L 20 i = 2 * K 13 i) (e3 : L 21 i = K 14 i)
    (kk : tkG X Q cs ss 903 (lvM sb B q c17 c18 (some (.int t19)) (some (.int many)) (some (.int (nI (i + 1)))) l22 l23) [] σ (mI B q J P) (mL B q K L)) :
    tkG X Q cs ss 903 (lvM sb B q c17 c18 (some (.int t19)) (some (.int many)) (some (.int (nI i))) l22 l23) [] σ (mI B q J P) (mL B q K L) := by
  have hL := hP.2.1
  have hB : σ.2.1 B = (5, 0) := hP.1.1.1
  refine g_iload C (i := 21) dL_law_903 rfl ?_
  refine g_iconst C (4) dL_law_905 rfl ?_
  refine g_icmp_ge C 966 dL_law_906 (by decide) (fun h906 => ?_) (fun h906 => ?_)
  · exact absurd h906 (nI_ge (a := i) (b := 4) hi (by omega))
  · refine g_aload_n C (i := 1) dL_law_909 rfl rfl ?_
    refine g_iload C (i := 21) dL_law_910 rfl ?_
    refine g_callV C (q := (RX5, TX5, 4)) (rest := _) dL_law_912 mm_X5_total ml_L_60 mv_yX5_total ms_yX5_total (k_total hP hW hi) rfl hB rfl rfl ⟨by decide, by omega, by omega, Nat.le_of_ble_eq_true rfl⟩ (tk_retv ?_) tk_nothr
    refine g_aload C (i := 15) dL_law_915 rfl ?_
    refine g_iload C (i := 21) dL_law_917 rfl ?_
    refine g_la C dL_law_919 (hL.1 13 (by decide)) (reg_at (k := 13) (by decide)) rfl (by omega) (by decide) ?_
    refine g_lcmp C dL_law_920 ?_
    refine g_if_ne C 958 dL_law_921 (by decide) (fun h921 => ?_) (fun h921 => ?_)
    · exact absurd ((lg_cmp_eq _ _).mpr e1) h921
    · refine g_aload_n C (i := 1) dL_law_924 rfl rfl ?_
      refine g_iload C (i := 21) dL_law_925 rfl ?_
      refine g_callV C (q := (RX5, TX5, 4)) (rest := _) dL_law_927 mm_X5_energy ml_L_63 mv_yX5_energy ms_yX5_energy (k_energy hP hW hi) rfl hB rfl rfl ⟨by decide, by omega, by omega, Nat.le_of_ble_eq_true rfl⟩ (tk_retv ?_) tk_nothr
      refine g_ldc2 C (2) dL_law_930 ml_L_66 ?_
      refine g_aload C (i := 15) dL_law_933 rfl ?_
      refine g_iload C (i := 21) dL_law_935 rfl ?_
      refine g_la C dL_law_937 (hL.1 13 (by decide)) (reg_at (k := 13) (by decide)) rfl (by omega) (by decide) ?_
      refine g_lmul C dL_law_938 ?_
      refine g_lcmp C dL_law_939 ?_
      refine g_if_ne C 958 dL_law_940 (by decide) (fun h940 => ?_) (fun h940 => ?_)
      · exact absurd ((lg_cmp_eq _ _).mpr e2) h940
      · refine g_aload_n C (i := 1) dL_law_943 rfl rfl ?_
        refine g_iload C (i := 21) dL_law_944 rfl ?_
        refine g_callV C (q := (RX5, TX5, 4)) (rest := _) dL_law_946 mm_X5_shortTicks ml_L_68 mv_yX5_shortTicks ms_yX5_shortTicks (k_shortTicks hP hW hi) rfl hB rfl rfl ⟨by decide, by omega, by omega, Nat.le_of_ble_eq_true rfl⟩ (tk_retv ?_) tk_nothr
        refine g_aload C (i := 16) dL_law_949 rfl ?_
        refine g_iload C (i := 21) dL_law_951 rfl ?_
        refine g_la C dL_law_953 (hL.1 14 (by decide)) (reg_at (k := 14) (by decide)) rfl (by omega) (by decide) ?_
        refine g_lcmp C dL_law_954 ?_
        refine g_if_eq C 960 dL_law_955 (by decide) (fun h955 => ?_) (fun h955 => ?_)
        · refine g_iinc C (i := 21) (nI (i + 1)) dL_law_960 rfl (nI_1 i) (by decide) ?_
          refine g_goto C 903 dL_law_963 (by decide) ?_
          exact kk
        · exact absurd ((lg_cmp_eq _ _).mpr e3) h955
/-- from the first comparison of the levels to the next run -/
theorem law_cmp (C : tkC X cL_law RL nm 24 (some .boolean) hh 10 161 1460) (hcs : cs ≤ 161 ∧ ss ≤ 1460) (hP : lwP B q 15 σ) {c : Nat} {m : tkI × tkL} {l21 l22 l23 : Option Value} (hR : wRel 3 2 4 c (P, L) m) (hl : lR (J, K) m)
    (kk : ∀ t21, tkG X Q cs ss 966 (lvM sb B q c17 c18 (some (.int t19)) (some (.int many)) (some (.int t21)) l22 l23) [] σ (mI B q J P) (mL B q K L)) :
    tkG X Q cs ss 824 (lvM sb B q c17 c18 (some (.int t19)) (some (.int many)) l21 l22 l23) [] σ (mI B q J P) (mL B q K L) := by
  obtain ⟨hW1, hW2, hW3, -⟩ := hR.all
  obtain ⟨-, ⟨r3, -⟩, ⟨r11, -⟩, r5, ⟨r19, r20, r21⟩, -⟩ := hR
  obtain ⟨-, -, ⟨l10, -⟩, ⟨l13, -⟩, l12, l15, l16, l17⟩ := hl
  dsimp only at *
  have t3 : ∀ i, i < 3 → P 3 i = J 1 i := fun i hi => (r3 i hi).trans (l10 i hi)
  have t5 : ∀ i, i < 3 → L 5 i = K 3 i := fun i hi => (r5 i hi).trans (l12 i hi)
  have t11 : ∀ i, i < 2 → P 11 i = J 7 i := fun i hi => (r11 i hi).trans (l13 i hi)
  have t19' : ∀ i, i < 4 → L 19 i = K 13 i := fun i hi => (r19 i hi).trans (l15 i hi)
  have t20 : ∀ i, i < 4 → L 20 i = 2 * K 13 i := fun i hi => (r20 i hi).trans (l16 i hi)
  have t21' : ∀ i, i < 4 → L 21 i = K 14 i := fun i hi => (r21 i hi).trans (l17 i hi)
  refine g_iconst C (0) dL_law_824 rfl ?_
  refine g_istore C (i := 21) dL_law_825 (by decide) ?_
  refine law_ct1 C hcs hP (i := 0) hW1 (by omega) (t3 _ (by omega)) (t5 _ (by omega)) ?_
  refine law_ct1 C hcs hP (i := 1) hW1 (by omega) (t3 _ (by omega)) (t5 _ (by omega)) ?_
  refine law_ct1 C hcs hP (i := 2) hW1 (by omega) (t3 _ (by omega)) (t5 _ (by omega)) ?_
  refine g_iload C (i := 21) dL_law_827 rfl ?_
  refine g_iconst C (3) dL_law_829 rfl ?_
  refine g_icmp_ge C 869 dL_law_830 (by decide) (fun h830 => ?_) (fun h830 => ?_)
  · refine g_iconst C (0) dL_law_869 rfl ?_
    refine g_istore C (i := 21) dL_law_870 (by decide) ?_
    refine law_cs1 C hcs hP (i := 0) hW2 (by omega) (t11 _ (by omega)) ?_
    refine law_cs1 C hcs hP (i := 1) hW2 (by omega) (t11 _ (by omega)) ?_
    refine g_iload C (i := 21) dL_law_872 rfl ?_
    refine g_iconst C (2) dL_law_874 rfl ?_
    refine g_icmp_ge C 900 dL_law_875 (by decide) (fun h875 => ?_) (fun h875 => ?_)
    · refine g_iconst C (0) dL_law_900 rfl ?_
      refine g_istore C (i := 21) dL_law_901 (by decide) ?_
      refine law_cp1 C hcs hP (i := 0) hW3 (by omega) (t19' _ (by omega)) (t20 _ (by omega)) (t21' _ (by omega)) ?_
      refine law_cp1 C hcs hP (i := 1) hW3 (by omega) (t19' _ (by omega)) (t20 _ (by omega)) (t21' _ (by omega)) ?_
      refine law_cp1 C hcs hP (i := 2) hW3 (by omega) (t19' _ (by omega)) (t20 _ (by omega)) (t21' _ (by omega)) ?_
      refine law_cp1 C hcs hP (i := 3) hW3 (by omega) (t19' _ (by omega)) (t20 _ (by omega)) (t21' _ (by omega)) ?_
      refine g_iload C (i := 21) dL_law_903 rfl ?_
      refine g_iconst C (4) dL_law_905 rfl ?_
      refine g_icmp_ge C 966 dL_law_906 (by decide) (fun h906 => ?_) (fun h906 => ?_)
      · skip
        exact kk _
      · exact absurd (Int32.le_refl _) h906
    · exact absurd (Int32.le_refl _) h875
  · exact absurd (Int32.le_refl _) h830
end TKLCMP
end
section
section TKLMAIN
variable {X : tkX} {Q : State → Prop} {nm : String} {hh : List (Nat × Nat × Nat × Nat)} {cs ss : Nat} {σ : tkM} {sb B q n : Nat} {xs : Nat → Int32}
/-- between two runs: the class's rows, the law's, and the plain plant's that both follow -/
def lInv (tm : Nat) (J P : tkI) (K L : tkL) (chg : Int32) : Prop := ∃ (m : tkI × tkL) (c T : Nat), wRel 3 2 4 c (P, L) m ∧ lR (J, K) m ∧ wl J ∧ chg = nI c ∧ m.2 0 21 = lN T ∧ T ≤ 250 * tm ∧ c ≤ 500 * tm
theorem lInv.run {tm k : Nat} {J P : tkI} {K L : tkL} {chg : Int32} (h : lInv tm J P K L chg) (htm : tm < 5) (hk : k < 250) {a : (tkI × tkL) × Int32} (ha : a = lTks k ((J, K), 0)) :
    (sAdv 3 2 4 (nI k) k 0 ((P, L), 0)).2 = a.2 ∧ (sAdv 3 2 4 (nI k) k 0 ((P, L), 0)).1.2 25 0 = (chg + a.2).toInt64 ∧ (∃ b, b ≤ 2500 ∧ wAll 3 2 4 b (P, L)) ∧
    (∃ c m, wRel 3 2 4 c (sAdv 3 2 4 (nI k) k 0 ((P, L), 0)).1 m ∧ lR a.1 m) ∧ lInv (tm + 1) a.1.1 (sAdv 3 2 4 (nI k) k 0 ((P, L), 0)).1.1 a.1.2 (sAdv 3 2 4 (nI k) k 0 ((P, L), 0)).1.2 (chg + a.2) := by
  obtain ⟨m, c, T, hR, hl, hw, hc, hT, hT2, hc2⟩ := h
  obtain ⟨g1, D, hD, d1, d2, d3, d4⟩ := hl.ticks k
  rw [← ha] at g1 d2
  have hA := adv_rel (nt := 3) (ns := 2) (np := 4) (n := k) (m0 := m) (by omega) k 0 c (P, L) 0 (by omega) (by omega) (by omega) hR rfl
  rw [nI_0] at hA
  obtain ⟨f1, c', f2, f3, f4⟩ := hA
  have h25 : (sAdv 3 2 4 (nI k) k 0 ((P, L), 0)).1.2 25 0 = lN c' := f4.2.2.2.2.2.2.1
  have h22 : (mTk 3 2 4 k m).2 0 22 = lN c' := f4.2.2.2.2.2.2.2.1
  have m22 : m.2 0 22 = lN c := hR.2.2.2.2.2.2.2.1
  have ec : c' = c + D := by
    rw [d3, m22, lN_add] at h22
    exact ((pk_lEQ (by omega) (by omega)).mp h22).symm
  have hww : wl a.1.1 := by
    rw [ha]
    exact hw.keep (lTks_keep _ _ (by decide) (by decide)) (lTks_keep _ _ (by decide) (by decide)) (lTks_keep _ _ (by decide) (by decide)) (lTks_keep _ _ (by decide) (by decide))
  have es : chg + a.2 = nI c' := by rw [hc, d2, nI_add, ec]
  refine ⟨by rw [f1, d1, d2], by rw [h25, es, nI_l (by omega)], ⟨c, by omega, hR.all⟩, ⟨c', _, f4, g1⟩, mTk 3 2 4 k m, c', T + k, f4, g1, hww, es, by rw [d4, hT, lN_add], by omega, by omega⟩
/-- the runs from the tm-th on -/
theorem law_main (C : tkC X cL_law RL nm 24 (some .boolean) hh 10 161 1460) (S : lwX X sb n xs) (hn : n ≤ 260) (hcs : cs ≤ 161 ∧ ss ≤ 1460) (hP : lwP B q 15 σ) (hend : ∀ cs ss lv σ I L, cs ≤ 161 → ss ≤ 1460 → tkG X Q cs ss 986 lv [.int 1] σ I L) :
    ∀ (f tm : Nat) (J P : tkI) (K L : tkL) (chg : Int32) (l19 l20 l21 l22 l23 : Option Value), tm + f = 5 → lInv tm J P K L chg → tkG X Q cs ss 443 (lvM sb B q chg (nI tm) l19 l20 l21 l22 l23) [] σ (mI B q J P) (mL B q K L)
  | 0, tm, J, P, K, L, chg, l19, l20, l21, l22, l23, hf, hI => by
    obtain rfl : tm = 5 := hf
    obtain ⟨m, c, T, hR, hl, hw, hc, hT, hT2, hc2⟩ := hI
    have hTm : L 0 4 = lN T := (show L 0 4 = m.2 0 21 from hR.2.2.2.2.2.1).trans hT
    have hB : σ.2.1 B = (5, 0) := hP.1.1.1
    refine g_iload C (i := 18) dL_law_443 rfl ?_
    refine g_iconst C (5) dL_law_445 rfl ?_
    refine g_icmp_ge C 972 dL_law_446 (by decide) (fun h446 => ?_) (fun h446 => ?_)
    · refine g_aload_n C (i := 1) dL_law_972 rfl rfl ?_
      refine g_callV C (q := (RX5, TX5, 4)) (rest := _) dL_law_973 mm_X5_time ml_L_71 mv_yX5_time ms_yX5_time (k_time hP) rfl hB rfl rfl ⟨by decide, by omega, by omega, Nat.le_of_ble_eq_true rfl⟩ (tk_retv ?_) tk_nothr
      refine g_lconst C 0 dL_law_976 rfl ?_
      refine g_lcmp C dL_law_977 ?_
      refine g_if_lt C 985 dL_law_978 (by decide) (fun h978 => ?_) (fun h978 => ?_)
      · refine absurd ((lg_cmp_lt _ _).mp h978) ?_
        rw [hTm]
        exact fun z => absurd ((pk_lLT (a := T) (b := 0) (by omega) (by omega)).mp z) (Nat.not_lt_zero _)
      · refine g_iconst C (1) dL_law_981 rfl ?_
        refine g_goto C 986 dL_law_982 (by decide) ?_
        exact hend _ _ _ _ _ _ hcs.1 hcs.2
    · exact absurd (Int32.le_refl _) h446
  | f + 1, tm, J, P, K, L, chg, l19, l20, l21, l22, l23, hf, hI => by
    have hB : σ.2.1 B = (5, 0) := hP.1.1.1
    have ih := law_main C S hn hcs hP hend f (tm + 1)
    refine g_iload C (i := 18) dL_law_443 rfl ?_
    refine g_iconst C (5) dL_law_445 rfl ?_
    refine g_icmp_ge C 972 dL_law_446 (by decide) (fun h446 => ?_) (fun h446 => ?_)
    · exact absurd h446 (nI_ge (a := tm) (b := 5) (by omega) (by omega))
    · refine g_aload_n C (i := 0) dL_law_449 rfl rfl ?_
      refine g_bipush C (9) dL_law_450 rfl ?_
      refine g_iload C (i := 18) dL_law_452 rfl ?_
      refine g_iadd C dL_law_454 ?_
      refine g_cell C S dL_law_455 ml_L_12 (nI_add 9 tm) hn (by omega) (by decide) hcs.1 hcs.2 (Nat.le_of_ble_eq_true rfl) ?_
      refine g_sipush C (250) dL_law_458 rfl ?_
      refine g_callS C dL_law_461 mm_L_below ml_L_18 mt_yL_below (c_L_below _ _ (by decide)) rfl ⟨by decide, by omega, by omega, Nat.le_of_ble_eq_true rfl⟩ (tk_retv ?_) tk_nothr
      obtain ⟨k, hk, ek⟩ := jbel_in (jcell xs n (9 + tm)) (n := 250) (by omega) (by omega)
      have ek' : jbel (jcell xs n (9 + tm)) 250 = nI k := ek
      rw [ek']
      refine g_istore C (i := 19) dL_law_464 (by decide) ?_
      refine g_iconst C (0) dL_law_466 rfl ?_
      refine g_istore C (i := 20) dL_law_467 (by decide) ?_
      refine g_iconst C (0) dL_law_469 rfl ?_
      refine g_istore C (i := 21) dL_law_470 (by decide) ?_
      have hw : wl J := by
        obtain ⟨m, c, T, hR, hl, hw, -⟩ := hI
        exact hw
      refine law_ticks C hcs hP (n := k) (by omega) (fun a t21 l22 l23 ha => ?_) k 0 ((J, K), 0) _ _ (by omega) hw rfl
      obtain ⟨e1, e2, ⟨b, hb, hW⟩, ⟨c', m', hR', hl'⟩, hI'⟩ := hI.run (by omega) hk ha
      have hrun := k_run (J := a.1.1) (K := a.1.2) hP hW (by omega) (k := k) (by omega)
      generalize sAdv 3 2 4 (nI k) k 0 ((P, L), 0) = y at *
      obtain ⟨⟨P', L'⟩, rv⟩ := y
      obtain ⟨⟨J', K'⟩, ch⟩ := a
      dsimp only at *
      refine g_iload C (i := 17) dL_law_793 rfl ?_
      refine g_iload C (i := 20) dL_law_795 rfl ?_
      refine g_iadd C dL_law_797 ?_
      refine g_istore C (i := 17) dL_law_798 (by decide) ?_
      refine g_aload_n C (i := 1) dL_law_800 rfl rfl ?_
      refine g_iload C (i := 19) dL_law_801 rfl ?_
      refine g_callV C (q := (RX5, TX5, 4)) (rest := _) dL_law_803 mm_X5_run ml_L_41 mv_yX5_run ms_yX5_run (hrun) rfl hB rfl rfl ⟨by decide, by omega, by omega, Nat.le_of_ble_eq_true rfl⟩ (tk_retv ?_) tk_nothr
      refine g_iload C (i := 20) dL_law_806 rfl ?_
      refine g_icmp_ne C 822 dL_law_808 (by decide) (fun h808 => ?_) (fun h808 => ?_)
      · exact absurd e1 h808
      · refine g_aload_n C (i := 1) dL_law_811 rfl rfl ?_
        refine g_callV C (q := (RX5, TX5, 4)) (rest := _) dL_law_812 mm_X5_changeCount ml_L_45 mv_yX5_changeCount ms_yX5_changeCount (k_changeCount hP) rfl hB rfl rfl ⟨by decide, by omega, by omega, Nat.le_of_ble_eq_true rfl⟩ (tk_retv ?_) tk_nothr
        refine g_iload C (i := 17) dL_law_815 rfl ?_
        refine g_i2l C dL_law_817 ?_
        refine g_lcmp C dL_law_818 ?_
        refine g_if_eq C 824 dL_law_819 (by decide) (fun h819 => ?_) (fun h819 => ?_)
        · skip
          refine law_cmp C hcs hP hR' hl' fun t21 => ?_
          refine g_iinc C (i := 18) (nI (tm + 1)) dL_law_966 rfl (nI_1 tm) (by decide) ?_
          refine g_goto C 443 dL_law_969 (by decide) ?_
          exact ih J' P' K' L' _ _ _ _ _ _ (by omega) hI'
        · exact absurd ((lg_cmp_eq _ _).mpr e2) h819
end TKLMAIN
end
section
section TKLBUILD
/-- while the plant is made: the class's rows are the law's; their ranges -/
def bR (nt ns np : Nat) (J P : tkI) : Prop :=
  (P 1 0 = nI nt ∧ P 7 0 = nI ns ∧ P 12 0 = nI np) ∧
  (∀ j, j < nt → P 2 j = J 0 j ∧ P 3 j = J 1 j ∧ P 4 j = J 2 j ∧ ∃ a b c, J 0 j = nI a ∧ J 1 j = nI b ∧ J 2 j = nI c ∧ 10 ≤ a ∧ a < 510 ∧ b ≤ a ∧ c < 4) ∧
  (∀ k, k < ns → P 8 k = J 4 k ∧ P 9 k = J 5 k ∧ P 10 k = J 6 k ∧ P 11 k = 0 ∧ ∃ t lo hi, t < 3 ∧ J 4 k = nI t ∧ J 5 k = nI lo ∧ J 6 k = nI hi ∧ lo < hi ∧ hi < 510) ∧
  (∀ k, k < np → P 13 k = J 8 k ∧ P 14 k = J 9 k ∧ P 15 k = J 10 k ∧ P 16 k = 2 ∧ P 17 k = J 11 k ∧ P 18 k = J 12 k ∧ end_ 3 (J 8 k) ∧ end_ 3 (J 9 k) ∧ J 8 k ≠ J 9 k ∧ (∃ r, 1 ≤ r ∧ r < 16 ∧ J 10 k = nI r) ∧ (J 11 k = -1 ∨ ∃ t, t < 2 ∧ J 11 k = nI t)) ∧
  ∀ j, J 7 j = 0
theorem tk2_zL (a i : Nat) : tk2 zL a i 0 = zL := by
  funext b j
  simp only [tk2, zL]
  split <;> rfl
theorem aTank_L (nt : Nat) (c l k : Int32) (P : tkI) : (aTank nt c l k (P, zL)).2 = zL := tk2_zL _ _
theorem aPump_L (np : Nat) (i j r l c b : Int32) (P : tkI) : (aPump np i j r l c b (P, zL)).2 = zL := by
  show tk2 (tk2 (tk2 zL 19 np 0) 20 np 0) 21 np 0 = zL
  rw [tk2_zL, tk2_zL, tk2_zL]
theorem lt_succ_cases {j t : Nat} (h : j < t + 1) : j < t ∨ j = t := by omega
theorem bR.tank {t : Nat} {J J1 P : tkI} (h : bR t 0 0 J P) {a b c : Nat} (h0 : J1 0 t = nI a) (h1 : J1 1 t = nI b) (h2 : J1 2 t = nI c) (ha : 10 ≤ a) (ha2 : a < 510) (hb : b ≤ a) (hc : c < 4)
    (ho : ∀ j, j ≠ t → J1 0 j = J 0 j ∧ J1 1 j = J 1 j ∧ J1 2 j = J 2 j) (hr : ∀ r, r ≠ 0 → r ≠ 1 → r ≠ 2 → J1 r = J r) : bR (t + 1) 0 0 J1 (aTank t (nI a) (nI b) (nI c) (P, zL)).1 := by
  obtain ⟨⟨c1, c7, c12⟩, hT, -, -, hz⟩ := h
  have p2 : ∀ j, (aTank t (nI a) (nI b) (nI c) (P, zL)).1 2 j = if j = t then nI a else P 2 j := fun j => by simp [aTank, tk2]
  have p3 : ∀ j, (aTank t (nI a) (nI b) (nI c) (P, zL)).1 3 j = if j = t then nI b else P 3 j := fun j => by simp [aTank, tk2]
  have p4 : ∀ j, (aTank t (nI a) (nI b) (nI c) (P, zL)).1 4 j = if j = t then nI c else P 4 j := fun j => by simp [aTank, tk2]
  have p1 : (aTank t (nI a) (nI b) (nI c) (P, zL)).1 1 0 = nI (t + 1) := by
    rw [← nI_1]
    simp [aTank, tk2]
  have p7 : (aTank t (nI a) (nI b) (nI c) (P, zL)).1 7 0 = P 7 0 := by simp [aTank, tk2]
  have p12 : (aTank t (nI a) (nI b) (nI c) (P, zL)).1 12 0 = P 12 0 := by simp [aTank, tk2]
  refine ⟨⟨p1, p7.trans c7, p12.trans c12⟩, fun j hj => ?_, fun k hk => absurd hk (Nat.not_lt_zero _), fun k hk => absurd hk (Nat.not_lt_zero _), fun j => by rw [hr 7 (by decide) (by decide) (by decide)]; exact hz j⟩
  rw [p2, p3, p4]
  rcases lt_succ_cases hj with e | e
  · obtain ⟨o0, o1, o2⟩ := ho j (by omega)
    rw [if_neg (by omega), if_neg (by omega), if_neg (by omega), o0, o1, o2]
    exact hT j e
  · subst e
    rw [if_pos rfl, if_pos rfl, if_pos rfl]
    exact ⟨h0.symm, h1.symm, h2.symm, a, b, c, h0, h1, h2, ha, ha2, hb, hc⟩
theorem bR.switch {k : Nat} {J J1 P : tkI} (h : bR 3 k 0 J P) {t lo hi : Nat} (h4 : J1 4 k = nI t) (h5 : J1 5 k = nI lo) (h6 : J1 6 k = nI hi) (ht : t < 3) (hl : lo < hi) (hh : hi < 510)
    (ho : ∀ j, j ≠ k → J1 4 j = J 4 j ∧ J1 5 j = J 5 j ∧ J1 6 j = J 6 j) (hr : ∀ r, r ≠ 4 → r ≠ 5 → r ≠ 6 → J1 r = J r) : bR 3 (k + 1) 0 J1 (aSwitch k (nI t) (nI lo) (nI hi) (P, zL)).1 := by
  obtain ⟨⟨c1, c7, c12⟩, hT, hS, -, hz⟩ := h
  have p8 : ∀ j, (aSwitch k (nI t) (nI lo) (nI hi) (P, zL)).1 8 j = if j = k then nI t else P 8 j := fun j => by simp [aSwitch, tk2]
  have p9 : ∀ j, (aSwitch k (nI t) (nI lo) (nI hi) (P, zL)).1 9 j = if j = k then nI lo else P 9 j := fun j => by simp [aSwitch, tk2]
  have p10 : ∀ j, (aSwitch k (nI t) (nI lo) (nI hi) (P, zL)).1 10 j = if j = k then nI hi else P 10 j := fun j => by simp [aSwitch, tk2]
  have p11 : ∀ j, (aSwitch k (nI t) (nI lo) (nI hi) (P, zL)).1 11 j = if j = k then 0 else P 11 j := fun j => by simp [aSwitch, tk2]
  have p7 : (aSwitch k (nI t) (nI lo) (nI hi) (P, zL)).1 7 0 = nI (k + 1) := by
    rw [← nI_1]
    simp [aSwitch, tk2]
  have pr : ∀ r, r ≠ 7 → r ≠ 8 → r ≠ 9 → r ≠ 10 → r ≠ 11 → (aSwitch k (nI t) (nI lo) (nI hi) (P, zL)).1 r = P r := fun r a b c d e => by
    funext j
    simp [aSwitch, tk2, a, b, c, d, e]
  refine ⟨⟨by rw [pr 1 (by decide) (by decide) (by decide) (by decide) (by decide)]; exact c1, p7, by rw [pr 12 (by decide) (by decide) (by decide) (by decide) (by decide)]; exact c12⟩, fun j hj => ?_, fun j hj => ?_, fun k hk => absurd hk (Nat.not_lt_zero _), fun j => by rw [hr 7 (by decide) (by decide) (by decide)]; exact hz j⟩
  · rw [pr 2 (by decide) (by decide) (by decide) (by decide) (by decide), pr 3 (by decide) (by decide) (by decide) (by decide) (by decide), pr 4 (by decide) (by decide) (by decide) (by decide) (by decide), hr 0 (by decide) (by decide) (by decide), hr 1 (by decide) (by decide) (by decide), hr 2 (by decide) (by decide) (by decide)]
    exact hT j hj
  · rw [p8, p9, p10, p11]
    rcases lt_succ_cases hj with e | e
    · obtain ⟨o0, o1, o2⟩ := ho j (by omega)
      rw [if_neg (by omega), if_neg (by omega), if_neg (by omega), if_neg (by omega), o0, o1, o2]
      exact hS j e
    · subst e
      rw [if_pos rfl, if_pos rfl, if_pos rfl, if_pos rfl]
      exact ⟨h4.symm, h5.symm, h6.symm, rfl, t, lo, hi, ht, h4, h5, h6, hl, hh⟩
theorem bR.pump {k : Nat} {J J1 P : tkI} (h : bR 3 2 k J P) {fr to rt ct b : Int32} (h8 : J1 8 k = fr) (h9 : J1 9 k = to) (h10 : J1 10 k = rt) (h11 : J1 11 k = ct) (h12 : J1 12 k = b) (q8 : end_ 3 fr) (q9 : end_ 3 to) (qn : fr ≠ to) (qr : ∃ r, 1 ≤ r ∧ r < 16 ∧ rt = nI r) (qc : ct = -1 ∨ ∃ t, t < 2 ∧ ct = nI t)
    (ho : ∀ j, j ≠ k → J1 8 j = J 8 j ∧ J1 9 j = J 9 j ∧ J1 10 j = J 10 j ∧ J1 11 j = J 11 j ∧ J1 12 j = J 12 j) (hr : ∀ r, r ≠ 8 → r ≠ 9 → r ≠ 10 → r ≠ 11 → r ≠ 12 → J1 r = J r) : bR 3 2 (k + 1) J1 (aPump k fr to rt 2 ct b (P, zL)).1 := by
  obtain ⟨⟨c1, c7, c12⟩, hT, hS, hU, hz⟩ := h
  have p13 : ∀ j, (aPump k fr to rt 2 ct b (P, zL)).1 13 j = if j = k then fr else P 13 j := fun j => by simp [aPump, tk2]
  have p14 : ∀ j, (aPump k fr to rt 2 ct b (P, zL)).1 14 j = if j = k then to else P 14 j := fun j => by simp [aPump, tk2]
  have p15 : ∀ j, (aPump k fr to rt 2 ct b (P, zL)).1 15 j = if j = k then rt else P 15 j := fun j => by simp [aPump, tk2]
  have p16 : ∀ j, (aPump k fr to rt 2 ct b (P, zL)).1 16 j = if j = k then 2 else P 16 j := fun j => by simp [aPump, tk2]
  have p17 : ∀ j, (aPump k fr to rt 2 ct b (P, zL)).1 17 j = if j = k then ct else P 17 j := fun j => by simp [aPump, tk2]
  have p18 : ∀ j, (aPump k fr to rt 2 ct b (P, zL)).1 18 j = if j = k then b else P 18 j := fun j => by simp [aPump, tk2]
  have p12 : (aPump k fr to rt 2 ct b (P, zL)).1 12 0 = nI (k + 1) := by
    rw [← nI_1]
    simp [aPump, tk2]
  have pr : ∀ r, r < 12 → (aPump k fr to rt 2 ct b (P, zL)).1 r = P r := fun r hr => by
    funext j
    have a : r ≠ 12 := by omega
    have b : r ≠ 13 := by omega
    have c : r ≠ 14 := by omega
    have d : r ≠ 15 := by omega
    have e : r ≠ 16 := by omega
    have f : r ≠ 17 := by omega
    have g : r ≠ 18 := by omega
    simp [aPump, tk2, a, b, c, d, e, f, g]
  have jr : ∀ r, r < 8 → J1 r = J r := fun r h => hr r (by omega) (by omega) (by omega) (by omega) (by omega)
  refine ⟨⟨by rw [pr 1 (by decide)]; exact c1, by rw [pr 7 (by decide)]; exact c7, p12⟩, fun j hj => ?_, fun j hj => ?_, fun j hj => ?_, fun j => by rw [jr 7 (by decide)]; exact hz j⟩
  · rw [pr 2 (by decide), pr 3 (by decide), pr 4 (by decide), jr 0 (by decide), jr 1 (by decide), jr 2 (by decide)]
    exact hT j hj
  · rw [pr 8 (by decide), pr 9 (by decide), pr 10 (by decide), pr 11 (by decide), jr 4 (by decide), jr 5 (by decide), jr 6 (by decide)]
    exact hS j hj
  · rw [p13, p14, p15, p16, p17, p18]
    rcases lt_succ_cases hj with e | e
    · obtain ⟨o0, o1, o2, o3, o4⟩ := ho j (by omega)
      rw [if_neg (by omega), if_neg (by omega), if_neg (by omega), if_neg (by omega), if_neg (by omega), if_neg (by omega), o0, o1, o2, o3, o4]
      exact hU j e
    · subst e
      rw [if_pos rfl, if_pos rfl, if_pos rfl, if_pos rfl, if_pos rfl, if_pos rfl]
      exact ⟨h8.symm, h9.symm, h10.symm, rfl, h11.symm, h12.symm, by rw [h8]; exact q8, by rw [h9]; exact q9, by rw [h8, h9]; exact qn, by rw [h10]; exact qr, by rw [h11]; exact qc⟩
/-- rows that are yet to come -/
theorem bR.zero {nt ns np n : Nat} {J P : tkI} (h : bR nt ns np J P) (hn : 4 ≤ n) (h4 : n < 8 → ns = 0) (hp : np = 0) : bR nt ns np (tk1 J n (fun _ => 0)) P := by
  obtain ⟨hc, hT, hS, hU, hz⟩ := h
  have e : ∀ r, r ≠ n → tk1 J n (fun _ => 0) r = J r := fun r hr => if_neg hr
  refine ⟨hc, fun j hj => ?_, fun k hk => ?_, fun k hk => absurd hk (by omega), fun j => ?_⟩
  · rw [e 0 (by omega), e 1 (by omega), e 2 (by omega)]
    exact hT j hj
  · have : 8 ≤ n := by
      rcases Nat.lt_or_ge n 8 with q | q
      · rw [h4 q] at hk
        exact absurd hk (Nat.not_lt_zero _)
      · exact q
    rw [e 4 (by omega), e 5 (by omega), e 6 (by omega)]
    exact hS k hk
  · by_cases q : 7 = n
    · rw [← q]
      exact congrFun (if_pos rfl : tk1 J 7 (fun _ => 0) 7 = fun _ => 0) j
    · rw [e 7 q]
      exact hz j
/-- the plain plant at its start -/
def lM0 (J : tkI) : tkI × tkL := (fun r => match r with
  | 0 => (fun c => match c with | 1 => nI 3 | 3 => nI 2 | 7 => nI 4 | _ => 0)
  | 1 => J 0 | 2 => J 4 | 3 => J 5 | 4 => J 6 | 5 => J 8 | 6 => J 9 | 7 => (fun _ => 2) | 8 => J 11 | 9 => J 12 | 10 => J 1 | 11 => J 2 | 13 => J 7 | 14 => J 10 | _ => (fun _ => 0), zL)
theorem bR.wl {J P : tkI} (h : bR 3 2 4 J P) : wl J := by
  obtain ⟨-, -, hS, hU, -⟩ := h
  refine ⟨fun k hk => ?_, fun k hk => ?_⟩
  · obtain ⟨-, -, -, -, t, lo, hi, ht, e, -⟩ := hS k hk
    exact ⟨t, ht, e⟩
  · obtain ⟨-, -, -, -, -, -, e8, e9, -, -, e11⟩ := hU k hk
    exact ⟨e8, e9, e11⟩
theorem bR.inv {J P : tkI} (h : bR 3 2 4 J P) : lInv 0 J P zL zL 0 := by
  have hw := h.wl
  obtain ⟨⟨c1, c7, c12⟩, hT, hS, hU, hz⟩ := h
  have tb : ∀ j, j < 3 → 10 ≤ (J 0 j).toInt ∧ (J 0 j).toInt < 510 ∧ 0 ≤ (J 1 j).toInt ∧ (J 1 j).toInt ≤ (J 0 j).toInt ∧ 0 ≤ (J 2 j).toInt ∧ (J 2 j).toInt < 4 := fun j hj => by
    obtain ⟨-, -, -, a, b, c, ea, eb, ec, h1, h2, h3, h4⟩ := hT j hj
    rw [ea, eb, ec, nI_toInt (by omega), nI_toInt (by omega), nI_toInt (by omega)]
    omega
  refine ⟨lM0 J, 0, 0, ⟨⟨⟨⟨c1, rfl, by decide⟩, ⟨c7, rfl, by decide⟩, ⟨c12, rfl, by decide⟩⟩, ⟨⟨fun j hj => (hT j hj).1, fun j hj => (hT j hj).2.2.1⟩, ⟨fun k hk => (hS k hk).1, fun k hk => (hS k hk).2.1, fun k hk => (hS k hk).2.2.1⟩, fun k hk => (hU k hk).1, fun k hk => (hU k hk).2.1, fun k hk => (hU k hk).2.2.1, fun k hk => (hU k hk).2.2.2.1, fun k hk => (hU k hk).2.2.2.2.1, fun k hk => (hU k hk).2.2.2.2.2.1⟩, fun j hj => ?_, fun k hk => ?_, fun k hk => ?_⟩,
    ⟨fun j hj => (hT j hj).2.1, fun j hj => ?_⟩, ⟨fun k hk => ?_, fun k hk => Or.inl (hS k hk).2.2.2.1⟩, fun _ _ => rfl, ⟨fun _ _ => rfl, fun _ _ => rfl, fun _ _ => rfl⟩, rfl, rfl, rfl, rfl, fun k hk => absurd hk (by simp)⟩,
    ⟨⟨⟨fun _ _ => rfl, fun _ _ => rfl⟩, ⟨fun _ _ => rfl, fun _ _ => rfl, fun _ _ => rfl⟩, fun _ _ => rfl, fun _ _ => rfl, fun _ _ => rfl, fun _ _ => rfl, fun _ _ => rfl, fun _ _ => rfl⟩, ⟨fun j hj => ?_, fun k hk => ?_, fun k hk => ?_⟩, ⟨fun _ _ => rfl, fun j hj => ?_⟩, ⟨fun _ _ => rfl, fun k hk => Or.inl (hz k)⟩, fun _ _ => rfl, fun _ _ => rfl, fun _ _ => ?_, fun _ _ => rfl⟩, hw, rfl, rfl, Nat.zero_le _, Nat.zero_le _⟩
  · dsimp only
    rw [(hT j hj).1, (hT j hj).2.2.1]
    have := tb j hj
    omega
  · obtain ⟨e8, e9, e10, -, t, lo, hi, ht, j4, j5, j6, hlh, hhi⟩ := hS k hk
    dsimp only
    rw [e8, e9, e10, j4, j5, j6, nI_toInt (by omega), nI_toInt (by omega)]
    exact ⟨⟨t, ht, rfl⟩, nI_lt hlh (by omega), by omega, by omega⟩
  · obtain ⟨e13, e14, e15, -, e17, -, q8, q9, qn, ⟨r, hr1, hr2, er⟩, qc⟩ := hU k hk
    dsimp only
    rw [e13, e14, e15, e17, er, nI_toInt (by omega)]
    exact ⟨q8, q9, qc, qn, by omega, by omega⟩
  · dsimp only
    rw [(hT j hj).2.1, (hT j hj).1]
    have := tb j hj
    omega
  · dsimp only
    rw [(hS k hk).2.2.2.1]
    exact (hz k).symm
  · show 0 ≤ (J 2 j).toInt ∧ (J 2 j).toInt ≤ 1000000
    have := tb j hj
    omega
  · obtain ⟨-, -, -, -, t, lo, hi, ht, j4, -⟩ := hS k hk
    exact ⟨t, ht, j4⟩
  · obtain ⟨-, -, -, -, -, -, q8, q9, qn, ⟨r, hr1, hr2, er⟩, qc⟩ := hU k hk
    refine ⟨q8, q9, qc, qn, ?_⟩
    show 1 ≤ (J 10 k).toInt
    rw [er, nI_toInt (by omega)]
    omega
  · show 0 ≤ (J 1 j).toInt ∧ (J 1 j).toInt ≤ (J 0 j).toInt ∧ (J 0 j).toInt ≤ 1000000000
    have := tb j hj
    omega
  · show (0 : Int64) = 2 * 0
    decide
end TKLBUILD
end
section
section TKBTANK
variable {X : tkX} {Q : State → Prop} {nm : String} {hh : List (Nat × Nat × Nat × Nat)} {cs ss : Nat} {σ : tkM} {sb B q n : Nat} {xs : Nat → Int32} {J P : tkI} {K L : tkL}
/-- the law's locals while tanks, switches, pumps are made -/
def lvA (sb B q : Nat) (l6 l7 : Option Value) : List (Option Value) :=
  [some (.ref sb), some (.ref B), some (.ref (q + 0)), some (.ref (q + 1)), some (.ref (q + 2)), some (.ref (q + 3)), l6, l7, none, none, none, none, none, none, none, none, none, none, none, none, none, none, none, none]
def lvSw (sb B q : Nat) (l10 l11 : Option Value) : List (Option Value) :=
  [some (.ref sb), some (.ref B), some (.ref (q + 0)), some (.ref (q + 1)), some (.ref (q + 2)), some (.ref (q + 3)), some (.ref (q + 4)), some (.ref (q + 5)), some (.ref (q + 6)), some (.ref (q + 7)), l10, l11, none, none, none, none, none, none, none, none, none, none, none, none]
def lvC (sb B q : Nat) (l17 l18 : Option Value) : List (Option Value) :=
  [some (.ref sb), some (.ref B), some (.ref (q + 0)), some (.ref (q + 1)), some (.ref (q + 2)), some (.ref (q + 3)), some (.ref (q + 4)), some (.ref (q + 5)), some (.ref (q + 6)), some (.ref (q + 7)), some (.ref (q + 8)), some (.ref (q + 9)), some (.ref (q + 10)), some (.ref (q + 11)), some (.ref (q + 12)), some (.ref (q + 13)), some (.ref (q + 14)),
   l17, l18, none, none, none, none, none]
theorem k_addTank (hP : lwP B q n σ) {nt : Nat} (hW : wTk P nt) (c l k : Int32) (h0 : ¬ bad c 1 1000000000) (h1 : ¬ bad l 0 c) (h2 : ¬ bad k 0 1000000) (h3 : nt < 8) :
    tkCon false (.code yX5_addTank cX5_addTank 4 (some .int)) yX5_addTank 8 [.ref B, .int c, .int l, .int k] σ (mI B q J P) (mL B q K L) 0 0 (.inl (some (.int (nI nt)))) σ (mI B q J (aTank nt c l k (P, L)).1) (mL B q K (aTank nt c l k (P, L)).2) := by
  simp only [mI_swap hP.2.2.2, mL_swap hP.2.2.2]
  exact o_addTank hP.1.1 hP.1.2 hW c l k h0 h1 h2 h3
theorem k_addSwitch (hP : lwP B q n σ) {nt ns j : Nat} (hT : wTk P nt) (hW : wSw P ns) (lo hi : Int32) (hj : j < nt) (h1 : ¬ lo < 0) (h2 : ¬ hi ≤ lo) (h4 : hi ≤ P 2 j) (h3 : ns < 10) :
    tkCon false (.code yX5_addSwitch cX5_addSwitch 4 (some .int)) yX5_addSwitch 8 [.ref B, .int (nI j), .int lo, .int hi] σ (mI B q J P) (mL B q K L) 0 0 (.inl (some (.int (nI ns)))) σ (mI B q J (aSwitch ns (nI j) lo hi (P, L)).1) (mL B q K (aSwitch ns (nI j) lo hi (P, L)).2) := by
  simp only [mI_swap hP.2.2.2, mL_swap hP.2.2.2]
  exact o_addSwitch hP.1.1 hP.1.2 hT hW lo hi hj h1 h2 h4 h3
theorem k_addPump (hP : lwP B q n σ) {np : Nat} (hW : wPu P np) (i j r l c b : Int32) (hb : b = 0 ∨ b = 1) (g1 : ¬ badE i P) (g2 : ¬ badE j P) (g3 : ¬ (¬ c = -1 ∧ bad c 0 (P 7 0 - 1))) (g4 : ¬ i = j) (g5 : ¬ bad r 1 1000000) (g6 : ¬ bad l 0 100) (h3 : np < 16) :
    tkCon false (.code yX5_addPump cX5_addPump 7 (some .int)) yX5_addPump 9 [.ref B, .int i, .int j, .int r, .int l, .int c, .int b] σ (mI B q J P) (mL B q K L) 0 0 (.inl (some (.int (nI np)))) σ (mI B q J (aPump np i j r l c b (P, L)).1) (mL B q K (aPump np i j r l c b (P, L)).2) := by
  simp only [mI_swap hP.2.2.2, mL_swap hP.2.2.2]
  exact o_addPump hP.1.1 hP.1.2 hW i j r l c b hb g1 g2 g3 g4 g5 g6 h3
theorem nI_bad {a lo hi : Nat} (h1 : lo ≤ a) (h2 : a ≤ hi) (hh : hi < 2 ^ 31) : ¬ bad (nI a) (nI lo) (nI hi) := by
  rintro (z | z)
  · exact nI_nlt h1 (by omega) z
  · exact nI_nlt h2 (by omega) z
/-- one tank is made -/
theorem law_bt1 (C : tkC X cL_law RL nm 24 (some .boolean) hh 10 161 1460) (S : lwX X sb n xs) (hn : n ≤ 260) (hcs : cs ≤ 161 ∧ ss ≤ 1460) (hP : lwP B q 4 σ) {t : Nat} (ht : t < 3) {l7 : Option Value} (hb : bR t 0 0 J P)
    (kk : ∀ J1 P1 l, bR (t + 1) 0 0 J1 P1 → tkG X Q cs ss 29 (lvA sb B q (some (.int (nI (t + 1)))) l) [] σ (mI B q J1 P1) (mL B q zL zL)) :
    tkG X Q cs ss 29 (lvA sb B q (some (.int (nI t))) l7) [] σ (mI B q J P) (mL B q zL zL) := by
  have hL := hP.2.1
  have hB : σ.2.1 B = (5, 0) := hP.1.1.1
  have hW : wTk P t := ⟨hb.1.1, by omega⟩
  refine g_iload C (i := 6) dL_law_29 rfl ?_
  refine g_iconst C (3) dL_law_31 rfl ?_
  refine g_icmp_ge C 120 dL_law_32 (by decide) (fun h32 => ?_) (fun h32 => ?_)
  · exact absurd h32 (nI_ge (a := t) (b := 3) ht (by omega))
  · refine g_aload_n C (i := 0) dL_law_35 rfl rfl ?_
    refine g_iload C (i := 6) dL_law_36 rfl ?_
    refine g_cell C S dL_law_38 ml_L_12 rfl hn (by omega) (by decide) hcs.1 hcs.2 (Nat.le_of_ble_eq_true rfl) ?_
    generalize jcell xs n t = c
    obtain ⟨r, hr, er⟩ := jbel_in c (n := 500) (by omega) (by omega)
    have er' : (10 : Int32) + jbel c 500 = nI (10 + r) := (congrArg (fun z => nI 10 + z) er).trans (nI_add 10 r)
    obtain ⟨s, hs, es⟩ := jbel_in (c >>> (9 &&& 31)) (n := 10 + r + 1) (by omega) (by omega)
    obtain ⟨u, hu, eu⟩ := jbel_in (c >>> (18 &&& 31)) (n := 4) (by omega) (by omega)
    have eu' : jbel (c >>> (18 &&& 31)) 4 = nI u := eu
    refine g_istore C (i := 7) dL_law_41 (by decide) ?_
    refine g_aload_n C (i := 2) dL_law_43 rfl rfl ?_
    refine g_iload C (i := 6) dL_law_44 rfl ?_
    refine g_bipush C (10) dL_law_46 rfl ?_
    refine g_iload C (i := 7) dL_law_48 rfl ?_
    refine g_sipush C (500) dL_law_50 rfl ?_
    refine g_callS C dL_law_53 mm_L_below ml_L_18 mt_yL_below (c_L_below _ _ (by decide)) rfl ⟨by decide, by omega, by omega, Nat.le_of_ble_eq_true rfl⟩ (tk_retv ?_) tk_nothr
    refine g_iadd C dL_law_56 ?_
    rw [er']
    refine g_is C dL_law_57 (hL.1 0 (by decide)) (tk2_reg (k := 0) (by decide)) rfl (by omega) (by decide) ?_
    refine g_aload_n C (i := 3) dL_law_58 rfl rfl ?_
    refine g_iload C (i := 6) dL_law_59 rfl ?_
    refine g_iload C (i := 7) dL_law_61 rfl ?_
    refine g_bipush C (9) dL_law_63 rfl ?_
    refine g_ishr C dL_law_65 ?_
    refine g_aload_n C (i := 2) dL_law_66 rfl rfl ?_
    refine g_iload C (i := 6) dL_law_67 rfl ?_
    refine g_ia C dL_law_69 (hL.1 0 (by decide)) (reg_at (k := 0) (by decide)) rfl (by omega) (by decide) ?_
    rw [tk2_at]
    refine g_iconst C (1) dL_law_70 rfl ?_
    refine g_iadd C dL_law_71 ?_
    rw [nI_1 (10 + r)]
    refine g_callS C dL_law_72 mm_L_below ml_L_18 mt_yL_below (c_L_below _ _ (nI_ne0 (by omega) (by omega))) rfl ⟨by decide, by omega, by omega, Nat.le_of_ble_eq_true rfl⟩ (tk_retv ?_) tk_nothr
    rw [es]
    refine g_is C dL_law_75 (hL.1 1 (by decide)) (tk2_reg (k := 1) (by decide)) rfl (by omega) (by decide) ?_
    refine g_aload C (i := 4) dL_law_76 rfl ?_
    refine g_iload C (i := 6) dL_law_78 rfl ?_
    refine g_iload C (i := 7) dL_law_80 rfl ?_
    refine g_bipush C (18) dL_law_82 rfl ?_
    refine g_ishr C dL_law_84 ?_
    refine g_iconst C (4) dL_law_85 rfl ?_
    refine g_callS C dL_law_86 mm_L_below ml_L_18 mt_yL_below (c_L_below _ _ (by decide)) rfl ⟨by decide, by omega, by omega, Nat.le_of_ble_eq_true rfl⟩ (tk_retv ?_) tk_nothr
    rw [eu']
    refine g_is C dL_law_89 (hL.1 2 (by decide)) (tk2_reg (k := 2) (by decide)) rfl (by omega) (by decide) ?_
    show tkG X Q cs ss 90 _ _ _ (mI B q (tk2 (tk2 (tk2 J 0 t (nI (10 + r))) 1 t (nI s)) 2 t (nI u)) P) (mL B q zL zL)
    have j0 : tk2 (tk2 (tk2 J 0 t (nI (10 + r))) 1 t (nI s)) 2 t (nI u) 0 t = nI (10 + r) := by simp [tk2]
    have j1 : tk2 (tk2 (tk2 J 0 t (nI (10 + r))) 1 t (nI s)) 2 t (nI u) 1 t = nI s := by simp [tk2]
    have j2 : tk2 (tk2 (tk2 J 0 t (nI (10 + r))) 1 t (nI s)) 2 t (nI u) 2 t = nI u := by simp [tk2]
    have jo : ∀ j, j ≠ t → tk2 (tk2 (tk2 J 0 t (nI (10 + r))) 1 t (nI s)) 2 t (nI u) 0 j = J 0 j ∧ tk2 (tk2 (tk2 J 0 t (nI (10 + r))) 1 t (nI s)) 2 t (nI u) 1 j = J 1 j ∧ tk2 (tk2 (tk2 J 0 t (nI (10 + r))) 1 t (nI s)) 2 t (nI u) 2 j = J 2 j := fun j hj => by simp [tk2, hj]
    have jr : ∀ k, k ≠ 0 → k ≠ 1 → k ≠ 2 → tk2 (tk2 (tk2 J 0 t (nI (10 + r))) 1 t (nI s)) 2 t (nI u) k = J k := fun k a b d => by
      funext j
      simp [tk2, a, b, d]
    generalize tk2 (tk2 (tk2 J 0 t (nI (10 + r))) 1 t (nI s)) 2 t (nI u) = J1 at *
    have hbt := hb.tank (J1 := J1) j0 j1 j2 (by omega) (by omega) (by omega) (by omega) jo jr
    have hcon := k_addTank (J := J1) (K := zL) (L := zL) hP hW (nI (10 + r)) (nI s) (nI u) (nI_bad (lo := 1) (hi := 1000000000) (by omega) (by omega) (by omega)) (nI_bad (lo := 0) (by omega) (by omega) (by omega)) (nI_bad (lo := 0) (hi := 1000000) (by omega) (by omega) (by omega)) (by omega)
    rw [aTank_L] at hcon
    refine g_aload_n C (i := 1) dL_law_90 rfl rfl ?_
    refine g_aload_n C (i := 2) dL_law_91 rfl rfl ?_
    refine g_iload C (i := 6) dL_law_92 rfl ?_
    refine g_ia C dL_law_94 (hL.1 0 (by decide)) (reg_at (k := 0) (by decide)) rfl (by omega) (by decide) ?_
    refine g_aload_n C (i := 3) dL_law_95 rfl rfl ?_
    refine g_iload C (i := 6) dL_law_96 rfl ?_
    refine g_ia C dL_law_98 (hL.1 1 (by decide)) (reg_at (k := 1) (by decide)) rfl (by omega) (by decide) ?_
    refine g_aload C (i := 4) dL_law_99 rfl ?_
    refine g_iload C (i := 6) dL_law_101 rfl ?_
    refine g_ia C dL_law_103 (hL.1 2 (by decide)) (reg_at (k := 2) (by decide)) rfl (by omega) (by decide) ?_
    rw [j0, j1, j2]
    refine g_callV C (q := (RX5, TX5, 4)) (rest := _) dL_law_104 mm_X5_addTank ml_L_22 mv_yX5_addTank ms_yX5_addTank (hcon) rfl hB rfl rfl ⟨by decide, by omega, by omega, Nat.le_of_ble_eq_true rfl⟩ (tk_retv ?_) tk_nothr
    refine g_iload C (i := 6) dL_law_107 rfl ?_
    refine g_icmp_eq C 114 dL_law_109 (by decide) (fun h109 => ?_) (fun h109 => ?_)
    · refine g_iinc C (i := 6) (nI (t + 1)) dL_law_114 rfl (nI_1 t) (by decide) ?_
      refine g_goto C 29 dL_law_117 (by decide) ?_
      exact kk _ _ _ hbt
    · exact absurd rfl h109
end TKBTANK
end
section
section TKBSW
variable {X : tkX} {Q : State → Prop} {nm : String} {hh : List (Nat × Nat × Nat × Nat)} {cs ss : Nat} {σ : tkM} {sb B q n : Nat} {xs : Nat → Int32} {J P : tkI}
theorem bR.sw {k : Nat} (h : bR 3 k 0 J P) (hk : k ≤ 2) : wSw P k := ⟨h.1.2.1, by omega, fun i hi => by
  obtain ⟨e, -, -, -, t, lo, hi, ht, j4, -⟩ := h.2.2.1 i hi
  exact ⟨t, by omega, e.trans j4⟩⟩
/-- one switch is made -/
theorem law_bs1 (C : tkC X cL_law RL nm 24 (some .boolean) hh 10 161 1460) (S : lwX X sb n xs) (hn : n ≤ 260) (hcs : cs ≤ 161 ∧ ss ≤ 1460) (hP : lwP B q 8 σ) {k : Nat} (hk : k < 2) {l11 : Option Value} (hb : bR 3 k 0 J P)
    (kk : ∀ J1 P1 l, bR 3 (k + 1) 0 J1 P1 → tkG X Q cs ss 143 (lvSw sb B q (some (.int (nI (k + 1)))) l) [] σ (mI B q J1 P1) (mL B q zL zL)) :
    tkG X Q cs ss 143 (lvSw sb B q (some (.int (nI k))) l11) [] σ (mI B q J P) (mL B q zL zL) := by
  have hL := hP.2.1
  have hB : σ.2.1 B = (5, 0) := hP.1.1.1
  have hT : wTk P 3 := ⟨hb.1.1, by omega⟩
  have hW : wSw P k := hb.sw (by omega)
  refine g_iload C (i := 10) dL_law_143 rfl ?_
  refine g_iconst C (2) dL_law_145 rfl ?_
  refine g_icmp_ge C 249 dL_law_146 (by decide) (fun h146 => ?_) (fun h146 => ?_)
  · exact absurd h146 (nI_ge (a := k) (b := 2) hk (by omega))
  · refine g_aload_n C (i := 0) dL_law_149 rfl rfl ?_
    refine g_iconst C (3) dL_law_150 rfl ?_
    refine g_iload C (i := 10) dL_law_151 rfl ?_
    refine g_iadd C dL_law_153 ?_
    refine g_cell C S dL_law_154 ml_L_12 (nI_add 3 k) hn (by omega) (by decide) hcs.1 hcs.2 (Nat.le_of_ble_eq_true rfl) ?_
    generalize jcell xs n (3 + k) = c
    obtain ⟨w, hw, ew⟩ := jbel_in c (n := 3) (by omega) (by omega)
    have ew' : jbel c 3 = nI w := ew
    obtain ⟨lo, hlo, el⟩ := jbel_in (c >>> (2 &&& 31)) (n := 6) (by omega) (by omega)
    have el' : jbel (c >>> (2 &&& 31)) 6 = nI lo := el
    obtain ⟨p2, -, -, a, b9, c9, ja, -, -, ha, ha2, -, -⟩ := hb.2.1 w hw
    obtain ⟨h, hh1, eh⟩ := jbel_in (c >>> (5 &&& 31)) (n := a - lo) (by omega) (by omega)
    refine g_istore C (i := 11) dL_law_157 (by decide) ?_
    refine g_aload C (i := 6) dL_law_159 rfl ?_
    refine g_iload C (i := 10) dL_law_161 rfl ?_
    refine g_iload C (i := 11) dL_law_163 rfl ?_
    refine g_iconst C (3) dL_law_165 rfl ?_
    refine g_callS C dL_law_166 mm_L_below ml_L_18 mt_yL_below (c_L_below _ _ (by decide)) rfl ⟨by decide, by omega, by omega, Nat.le_of_ble_eq_true rfl⟩ (tk_retv ?_) tk_nothr
    rw [ew']
    refine g_is C dL_law_169 (hL.1 4 (by decide)) (tk2_reg (k := 4) (by decide)) rfl (by omega) (by decide) ?_
    refine g_aload C (i := 7) dL_law_170 rfl ?_
    refine g_iload C (i := 10) dL_law_172 rfl ?_
    refine g_iload C (i := 11) dL_law_174 rfl ?_
    refine g_iconst C (2) dL_law_176 rfl ?_
    refine g_ishr C dL_law_177 ?_
    refine g_bipush C (6) dL_law_178 rfl ?_
    refine g_callS C dL_law_180 mm_L_below ml_L_18 mt_yL_below (c_L_below _ _ (by decide)) rfl ⟨by decide, by omega, by omega, Nat.le_of_ble_eq_true rfl⟩ (tk_retv ?_) tk_nothr
    rw [el']
    refine g_is C dL_law_183 (hL.1 5 (by decide)) (tk2_reg (k := 5) (by decide)) rfl (by omega) (by decide) ?_
    show tkG X Q cs ss 184 _ _ _ (mI B q (tk2 (tk2 J 4 k (nI w)) 5 k (nI lo)) P) (mL B q zL zL)
    have j4 : tk2 (tk2 J 4 k (nI w)) 5 k (nI lo) 4 k = nI w := by simp [tk2]
    have j5 : tk2 (tk2 J 4 k (nI w)) 5 k (nI lo) 5 k = nI lo := by simp [tk2]
    have j0 : tk2 (tk2 J 4 k (nI w)) 5 k (nI lo) 0 w = nI a := by
      rw [← ja]
      simp [tk2]
    have jo : ∀ j, j ≠ k → tk2 (tk2 J 4 k (nI w)) 5 k (nI lo) 4 j = J 4 j ∧ tk2 (tk2 J 4 k (nI w)) 5 k (nI lo) 5 j = J 5 j := fun j hj => by simp [tk2, hj]
    have jr : ∀ r, r ≠ 4 → r ≠ 5 → tk2 (tk2 J 4 k (nI w)) 5 k (nI lo) r = J r := fun r x y => by
      funext j
      simp [tk2, x, y]
    generalize tk2 (tk2 J 4 k (nI w)) 5 k (nI lo) = J2 at *
    refine g_aload C (i := 8) dL_law_184 rfl ?_
    refine g_iload C (i := 10) dL_law_186 rfl ?_
    refine g_aload C (i := 7) dL_law_188 rfl ?_
    refine g_iload C (i := 10) dL_law_190 rfl ?_
    refine g_ia C dL_law_192 (hL.1 5 (by decide)) (reg_at (k := 5) (by decide)) rfl (by omega) (by decide) ?_
    refine g_iconst C (1) dL_law_193 rfl ?_
    refine g_iadd C dL_law_194 ?_
    refine g_iload C (i := 11) dL_law_195 rfl ?_
    refine g_iconst C (5) dL_law_197 rfl ?_
    refine g_ishr C dL_law_198 ?_
    refine g_aload_n C (i := 2) dL_law_199 rfl rfl ?_
    refine g_aload C (i := 6) dL_law_200 rfl ?_
    refine g_iload C (i := 10) dL_law_202 rfl ?_
    refine g_ia C dL_law_204 (hL.1 4 (by decide)) (reg_at (k := 4) (by decide)) rfl (by omega) (by decide) ?_
    refine g_ia C dL_law_205 (hL.1 0 (by decide)) (reg_at (k := 0) (by decide)) j4 hw (by decide) ?_
    refine g_aload C (i := 7) dL_law_206 rfl ?_
    refine g_iload C (i := 10) dL_law_208 rfl ?_
    refine g_ia C dL_law_210 (hL.1 5 (by decide)) (reg_at (k := 5) (by decide)) rfl (by omega) (by decide) ?_
    refine g_isub C dL_law_211 ?_
    rw [j0, j5, pk_sub (by omega), nI_1]
    refine g_callS C dL_law_212 mm_L_below ml_L_18 mt_yL_below (c_L_below _ _ (nI_ne0 (by omega) (by omega))) rfl ⟨by decide, by omega, by omega, Nat.le_of_ble_eq_true rfl⟩ (tk_retv ?_) tk_nothr
    rw [eh]
    refine g_iadd C dL_law_215 ?_
    rw [nI_add]
    refine g_is C dL_law_216 (hL.1 6 (by decide)) (tk2_reg (k := 6) (by decide)) rfl (by omega) (by decide) ?_
    show tkG X Q cs ss 217 _ _ _ (mI B q (tk2 J2 6 k (nI (lo + 1 + h))) P) (mL B q zL zL)
    have i4 : tk2 J2 6 k (nI (lo + 1 + h)) 4 k = nI w := by
      rw [← j4]
      simp [tk2]
    have i5 : tk2 J2 6 k (nI (lo + 1 + h)) 5 k = nI lo := by
      rw [← j5]
      simp [tk2]
    have i6 : tk2 J2 6 k (nI (lo + 1 + h)) 6 k = nI (lo + 1 + h) := tk2_at
    have io : ∀ j, j ≠ k → tk2 J2 6 k (nI (lo + 1 + h)) 4 j = J 4 j ∧ tk2 J2 6 k (nI (lo + 1 + h)) 5 j = J 5 j ∧ tk2 J2 6 k (nI (lo + 1 + h)) 6 j = J 6 j := fun j hj => by
      rw [← (jo j hj).1, ← (jo j hj).2, ← jr 6 (by decide) (by decide)]
      simp [tk2, hj]
    have ir : ∀ r, r ≠ 4 → r ≠ 5 → r ≠ 6 → tk2 J2 6 k (nI (lo + 1 + h)) r = J r := fun r x y z => by
      rw [← jr r x y]
      funext j
      exact tk2_ne z
    generalize tk2 J2 6 k (nI (lo + 1 + h)) = J3 at *
    have hbt := hb.switch (J1 := J3) i4 i5 i6 hw (by omega) (by omega) io ir
    have hcon := k_addSwitch (J := J3) (K := zL) (L := zL) hP hT hW (nI lo) (nI (lo + 1 + h)) hw (nI_pos (by omega)) (nI_ge (by omega) (by omega)) (by rw [p2, ja]; exact nI_le (by omega) (by omega)) (by omega)
    refine g_aload_n C (i := 1) dL_law_217 rfl rfl ?_
    refine g_aload C (i := 6) dL_law_218 rfl ?_
    refine g_iload C (i := 10) dL_law_220 rfl ?_
    refine g_ia C dL_law_222 (hL.1 4 (by decide)) (reg_at (k := 4) (by decide)) rfl (by omega) (by decide) ?_
    refine g_aload C (i := 7) dL_law_223 rfl ?_
    refine g_iload C (i := 10) dL_law_225 rfl ?_
    refine g_ia C dL_law_227 (hL.1 5 (by decide)) (reg_at (k := 5) (by decide)) rfl (by omega) (by decide) ?_
    refine g_aload C (i := 8) dL_law_228 rfl ?_
    refine g_iload C (i := 10) dL_law_230 rfl ?_
    refine g_ia C dL_law_232 (hL.1 6 (by decide)) (reg_at (k := 6) (by decide)) rfl (by omega) (by decide) ?_
    rw [i4, i5, i6]
    refine g_callV C (q := (RX5, TX5, 4)) (rest := _) dL_law_233 mm_X5_addSwitch ml_L_26 mv_yX5_addSwitch ms_yX5_addSwitch (hcon) rfl hB rfl rfl ⟨by decide, by omega, by omega, Nat.le_of_ble_eq_true rfl⟩ (tk_retv ?_) tk_nothr
    refine g_iload C (i := 10) dL_law_236 rfl ?_
    refine g_icmp_eq C 243 dL_law_238 (by decide) (fun h238 => ?_) (fun h238 => ?_)
    · refine g_iinc C (i := 10) (nI (k + 1)) dL_law_243 rfl (nI_1 k) (by decide) ?_
      refine g_goto C 143 dL_law_246 (by decide) ?_
      exact kk _ _ _ hbt
    · exact absurd rfl h238
end TKBSW
end
section
section TKBPU
variable {X : tkX} {Q : State → Prop} {nm : String} {hh : List (Nat × Nat × Nat × Nat)} {cs ss : Nat} {σ : tkM} {sb B q n : Nat} {xs : Nat → Int32} {J P : tkI}
theorem end_m1 {f m : Nat} (h : f < m + 1) : nI f - 1 = -1 ∨ ∃ t, t < m ∧ nI f - 1 = nI t := by
  cases f with
  | zero => exact Or.inl (by decide)
  | succ g => exact Or.inr ⟨g, by omega, nI_pred g⟩
theorem sub1_inj {x y : Int32} (h : x - 1 = y - 1) : x = y := by
  have e := congrArg (fun z : Int32 => z + 1) h
  simpa [Int32.sub_add_cancel] using e
theorem wrap_to {f g : Nat} (hf : f < 4) (hg : g < 3) : (nI f - 1 + 2 + nI g) - (nI f - 1 + 2 + nI g) / 4 * 4 - 1 = nI ((f + 1 + g) % 4) - 1 := by
  have e : nI f - 1 + 2 + nI g = nI (f + 1 + g) := by
    rw [Int32.sub_eq_add_neg, Int32.add_assoc (nI f), show (-1 : Int32) + 2 = 1 by decide, nI_1, nI_add]
  rw [e]
  exact congrArg (fun z : Int32 => z - 1) (pk_rem (a := f + 1 + g) (d := 4) (by omega) (by omega) (by omega))
theorem not_badE {x : Int32} (h : x = -1 ∨ ∃ t, t < 3 ∧ x = nI t) (hc : P 1 0 = nI 3) : ¬ badE x P := by
  rintro ⟨z1, z2⟩
  obtain ⟨t, ht, rfl⟩ := h.resolve_left z1
  rw [hc] at z2
  exact not_bad (n := 3) (by omega) ht z2
theorem bR.pu {k : Nat} (h : bR 3 2 k J P) (hk : k ≤ 4) : wPu P k := ⟨h.1.2.2, by omega, fun i hi => by
  obtain ⟨e13, e14, -, -, e17, -, q8, q9, -, -, q11⟩ := h.2.2.2.1 i hi
  rw [e13, e14, e17]
  exact ⟨q8.imp id (fun ⟨t, ht, et⟩ => ⟨t, by omega, et⟩), q9.imp id (fun ⟨t, ht, et⟩ => ⟨t, by omega, et⟩), q11.imp id (fun ⟨t, ht, et⟩ => ⟨t, by omega, et⟩)⟩⟩
/-- one pump is made -/
theorem law_bp1 (C : tkC X cL_law RL nm 24 (some .boolean) hh 10 161 1460) (S : lwX X sb n xs) (hn : n ≤ 260) (hcs : cs ≤ 161 ∧ ss ≤ 1460) (hP : lwP B q 15 σ) {k : Nat} (hk : k < 4) {l18 : Option Value} (hb : bR 3 2 k J P)
    (kk : ∀ J1 P1 l, bR 3 2 (k + 1) J1 P1 → tkG X Q cs ss 287 (lvC sb B q (some (.int (nI (k + 1)))) l) [] σ (mI B q J1 P1) (mL B q zL zL)) :
    tkG X Q cs ss 287 (lvC sb B q (some (.int (nI k))) l18) [] σ (mI B q J P) (mL B q zL zL) := by
  have hL := hP.2.1
  have hB : σ.2.1 B = (5, 0) := hP.1.1.1
  have hW : wPu P k := hb.pu (by omega)
  have J393 : ∀ (c : Int32) (J1 : tkI) (fr to rt ct b : Int32), (b = 0 ∨ b = 1) → J1 = tk2 (tk2 (tk2 (tk2 J 8 k fr) 9 k to) 10 k rt) 11 k ct → end_ 3 fr → end_ 3 to → fr ≠ to → (∃ r, 1 ≤ r ∧ r < 16 ∧ rt = nI r) → (ct = -1 ∨ ∃ t, t < 2 ∧ ct = nI t) →
      tkG X Q cs ss 393 (lvC sb B q (some (.int (nI k))) (some (.int c))) [.int b, .int (nI k), .ref (q + 12)] σ (mI B q J1 P) (mL B q zL zL) := by
    intro c J1 fr to rt ct b h01 eJ q8 q9 qn qr qc
    refine g_zs C dL_law_393 (hL.1 12 (by decide)) (tk2_reg (k := 12) (by decide)) rfl (by omega) (by decide) (by first | assumption | exact Or.inl rfl | exact Or.inr rfl) ?_
    rw [eJ]
    show tkG X Q cs ss 394 _ _ _ (mI B q (tk2 (tk2 (tk2 (tk2 (tk2 J 8 k fr) 9 k to) 10 k rt) 11 k ct) 12 k b) P) (mL B q zL zL)
    have j8 : tk2 (tk2 (tk2 (tk2 (tk2 J 8 k fr) 9 k to) 10 k rt) 11 k ct) 12 k b 8 k = fr := by simp [tk2]
    have j9 : tk2 (tk2 (tk2 (tk2 (tk2 J 8 k fr) 9 k to) 10 k rt) 11 k ct) 12 k b 9 k = to := by simp [tk2]
    have j10 : tk2 (tk2 (tk2 (tk2 (tk2 J 8 k fr) 9 k to) 10 k rt) 11 k ct) 12 k b 10 k = rt := by simp [tk2]
    have j11 : tk2 (tk2 (tk2 (tk2 (tk2 J 8 k fr) 9 k to) 10 k rt) 11 k ct) 12 k b 11 k = ct := by simp [tk2]
    have j12 : tk2 (tk2 (tk2 (tk2 (tk2 J 8 k fr) 9 k to) 10 k rt) 11 k ct) 12 k b 12 k = b := by simp [tk2]
    have jo : ∀ j, j ≠ k → tk2 (tk2 (tk2 (tk2 (tk2 J 8 k fr) 9 k to) 10 k rt) 11 k ct) 12 k b 8 j = J 8 j ∧ tk2 (tk2 (tk2 (tk2 (tk2 J 8 k fr) 9 k to) 10 k rt) 11 k ct) 12 k b 9 j = J 9 j ∧ tk2 (tk2 (tk2 (tk2 (tk2 J 8 k fr) 9 k to) 10 k rt) 11 k ct) 12 k b 10 j = J 10 j ∧ tk2 (tk2 (tk2 (tk2 (tk2 J 8 k fr) 9 k to) 10 k rt) 11 k ct) 12 k b 11 j = J 11 j ∧ tk2 (tk2 (tk2 (tk2 (tk2 J 8 k fr) 9 k to) 10 k rt) 11 k ct) 12 k b 12 j = J 12 j := fun j hj => by simp [tk2, hj]
    have jr : ∀ r, r ≠ 8 → r ≠ 9 → r ≠ 10 → r ≠ 11 → r ≠ 12 → tk2 (tk2 (tk2 (tk2 (tk2 J 8 k fr) 9 k to) 10 k rt) 11 k ct) 12 k b r = J r := fun r x1 x2 x3 x4 x5 => by
      funext j
      simp [tk2, x1, x2, x3, x4, x5]
    generalize tk2 (tk2 (tk2 (tk2 (tk2 J 8 k fr) 9 k to) 10 k rt) 11 k ct) 12 k b = J2 at *
    have hbt := hb.pump (J1 := J2) j8 j9 j10 j11 j12 q8 q9 qn qr qc jo jr
    have g5 : ¬ bad rt 1 1000000 := by
      obtain ⟨r, r1, r2, rfl⟩ := qr
      exact nI_bad (lo := 1) (hi := 1000000) r1 (by omega) (by omega)
    have g3 : ¬ (¬ ct = -1 ∧ bad ct 0 (P 7 0 - 1)) := by
      rintro ⟨z1, z2⟩
      obtain ⟨t, ht, rfl⟩ := qc.resolve_left z1
      rw [hb.1.2.1] at z2
      exact not_bad (n := 2) (by omega) ht z2
    have hcon := k_addPump (J := J2) (K := zL) (L := zL) hP hW fr to rt 2 ct b h01 (not_badE q8 hb.1.1) (not_badE q9 hb.1.1) g3 qn g5 (nI_bad (a := 2) (lo := 0) (hi := 100) (by omega) (by omega) (by omega)) (by omega)
    rw [aPump_L] at hcon
    refine g_aload_n C (i := 1) dL_law_394 rfl rfl ?_
    refine g_aload C (i := 10) dL_law_395 rfl ?_
    refine g_iload C (i := 17) dL_law_397 rfl ?_
    refine g_ia C dL_law_399 (hL.1 8 (by decide)) (reg_at (k := 8) (by decide)) rfl (by omega) (by decide) ?_
    refine g_aload C (i := 11) dL_law_400 rfl ?_
    refine g_iload C (i := 17) dL_law_402 rfl ?_
    refine g_ia C dL_law_404 (hL.1 9 (by decide)) (reg_at (k := 9) (by decide)) rfl (by omega) (by decide) ?_
    refine g_aload C (i := 12) dL_law_405 rfl ?_
    refine g_iload C (i := 17) dL_law_407 rfl ?_
    refine g_ia C dL_law_409 (hL.1 10 (by decide)) (reg_at (k := 10) (by decide)) rfl (by omega) (by decide) ?_
    refine g_iconst C (2) dL_law_410 rfl ?_
    refine g_aload C (i := 13) dL_law_411 rfl ?_
    refine g_iload C (i := 17) dL_law_413 rfl ?_
    refine g_ia C dL_law_415 (hL.1 11 (by decide)) (reg_at (k := 11) (by decide)) rfl (by omega) (by decide) ?_
    refine g_aload C (i := 14) dL_law_416 rfl ?_
    refine g_iload C (i := 17) dL_law_418 rfl ?_
    refine g_za C dL_law_420 (hL.1 12 (by decide)) (reg_at (k := 12) (by decide)) rfl (by omega) (by decide) (fun _ => ?_)
    rw [j8, j9, j10, j11, j12]
    refine g_callV C (q := (RX5, TX5, 4)) (rest := _) dL_law_421 mm_X5_addPump ml_L_29 mv_yX5_addPump ms_yX5_addPump (hcon) rfl hB rfl rfl ⟨by decide, by omega, by omega, Nat.le_of_ble_eq_true rfl⟩ (tk_retv ?_) tk_nothr
    refine g_iload C (i := 17) dL_law_424 rfl ?_
    refine g_icmp_eq C 431 dL_law_426 (by decide) (fun h426 => ?_) (fun h426 => ?_)
    · refine g_iinc C (i := 17) (nI (k + 1)) dL_law_431 rfl (nI_1 k) (by decide) ?_
      refine g_goto C 287 dL_law_434 (by decide) ?_
      exact kk _ _ _ hbt
    · exact absurd rfl h426
  refine g_iload C (i := 17) dL_law_287 rfl ?_
  refine g_iconst C (4) dL_law_289 rfl ?_
  refine g_icmp_ge C 437 dL_law_290 (by decide) (fun h290 => ?_) (fun h290 => ?_)
  · exact absurd h290 (nI_ge (a := k) (b := 4) hk (by omega))
  · refine g_aload_n C (i := 0) dL_law_293 rfl rfl ?_
    refine g_iconst C (5) dL_law_294 rfl ?_
    refine g_iload C (i := 17) dL_law_295 rfl ?_
    refine g_iadd C dL_law_297 ?_
    refine g_cell C S dL_law_298 ml_L_12 (nI_add 5 k) hn (by omega) (by decide) hcs.1 hcs.2 (Nat.le_of_ble_eq_true rfl) ?_
    generalize jcell xs n (5 + k) = c
    obtain ⟨f, hf, ef⟩ := jbel_in c (n := 4) (by omega) (by omega)
    have ef' : jbel c 4 = nI f := ef
    obtain ⟨g, hg, eg⟩ := jbel_in (c >>> (2 &&& 31)) (n := 3) (by omega) (by omega)
    have eg' : jbel (c >>> (2 &&& 31)) 3 = nI g := eg
    obtain ⟨r, hr, er⟩ := jbel_in (c >>> (5 &&& 31)) (n := 15) (by omega) (by omega)
    have er' : (1 : Int32) + jbel (c >>> (5 &&& 31)) 15 = nI (1 + r) := (congrArg (fun z => nI 1 + z) er).trans (nI_add 1 r)
    obtain ⟨d, hd, ed⟩ := jbel_in (c >>> (10 &&& 31)) (n := 3) (by omega) (by omega)
    have ed' : jbel (c >>> (10 &&& 31)) 3 = nI d := ed
    have hne : nI f - 1 ≠ nI ((f + 1 + g) % 4) - 1 := fun z => by
      have := (nI_eq (by omega) (by omega)).mp (sub1_inj z)
      omega
    have q9 : end_ 3 (nI ((f + 1 + g) % 4) - 1) := end_m1 (m := 3) (by omega)
    refine g_istore C (i := 18) dL_law_301 (by decide) ?_
    refine g_aload C (i := 10) dL_law_303 rfl ?_
    refine g_iload C (i := 17) dL_law_305 rfl ?_
    refine g_iload C (i := 18) dL_law_307 rfl ?_
    refine g_iconst C (4) dL_law_309 rfl ?_
    refine g_callS C dL_law_310 mm_L_below ml_L_18 mt_yL_below (c_L_below _ _ (by decide)) rfl ⟨by decide, by omega, by omega, Nat.le_of_ble_eq_true rfl⟩ (tk_retv ?_) tk_nothr
    rw [ef']
    refine g_iconst C (1) dL_law_313 rfl ?_
    refine g_isub C dL_law_314 ?_
    refine g_is C dL_law_315 (hL.1 8 (by decide)) (tk2_reg (k := 8) (by decide)) rfl (by omega) (by decide) ?_
    refine g_aload C (i := 11) dL_law_316 rfl ?_
    refine g_iload C (i := 17) dL_law_318 rfl ?_
    refine g_aload C (i := 10) dL_law_320 rfl ?_
    refine g_iload C (i := 17) dL_law_322 rfl ?_
    refine g_ia C dL_law_324 (hL.1 8 (by decide)) (reg_at (k := 8) (by decide)) rfl (by omega) (by decide) ?_
    rw [tk2_at]
    refine g_iconst C (2) dL_law_325 rfl ?_
    refine g_iadd C dL_law_326 ?_
    refine g_iload C (i := 18) dL_law_327 rfl ?_
    refine g_iconst C (2) dL_law_329 rfl ?_
    refine g_ishr C dL_law_330 ?_
    refine g_iconst C (3) dL_law_331 rfl ?_
    refine g_callS C dL_law_332 mm_L_below ml_L_18 mt_yL_below (c_L_below _ _ (by decide)) rfl ⟨by decide, by omega, by omega, Nat.le_of_ble_eq_true rfl⟩ (tk_retv ?_) tk_nothr
    rw [eg']
    refine g_iadd C dL_law_335 ?_
    refine g_iconst C (4) dL_law_336 rfl ?_
    refine g_irem C dL_law_337 (by decide) ?_
    refine g_iconst C (1) dL_law_338 rfl ?_
    refine g_isub C dL_law_339 ?_
    rw [wrap_to hf hg]
    refine g_is C dL_law_340 (hL.1 9 (by decide)) (tk2_reg (k := 9) (by decide)) rfl (by omega) (by decide) ?_
    refine g_aload C (i := 12) dL_law_341 rfl ?_
    refine g_iload C (i := 17) dL_law_343 rfl ?_
    refine g_iconst C (1) dL_law_345 rfl ?_
    refine g_iload C (i := 18) dL_law_346 rfl ?_
    refine g_iconst C (5) dL_law_348 rfl ?_
    refine g_ishr C dL_law_349 ?_
    refine g_bipush C (15) dL_law_350 rfl ?_
    refine g_callS C dL_law_352 mm_L_below ml_L_18 mt_yL_below (c_L_below _ _ (by decide)) rfl ⟨by decide, by omega, by omega, Nat.le_of_ble_eq_true rfl⟩ (tk_retv ?_) tk_nothr
    refine g_iadd C dL_law_355 ?_
    rw [er']
    refine g_is C dL_law_356 (hL.1 10 (by decide)) (tk2_reg (k := 10) (by decide)) rfl (by omega) (by decide) ?_
    refine g_aload C (i := 13) dL_law_357 rfl ?_
    refine g_iload C (i := 17) dL_law_359 rfl ?_
    refine g_iload C (i := 18) dL_law_361 rfl ?_
    refine g_bipush C (10) dL_law_363 rfl ?_
    refine g_ishr C dL_law_365 ?_
    refine g_iconst C (3) dL_law_366 rfl ?_
    refine g_callS C dL_law_367 mm_L_below ml_L_18 mt_yL_below (c_L_below _ _ (by decide)) rfl ⟨by decide, by omega, by omega, Nat.le_of_ble_eq_true rfl⟩ (tk_retv ?_) tk_nothr
    rw [ed']
    refine g_iconst C (1) dL_law_370 rfl ?_
    refine g_isub C dL_law_371 ?_
    refine g_is C dL_law_372 (hL.1 11 (by decide)) (tk2_reg (k := 11) (by decide)) rfl (by omega) (by decide) ?_
    refine g_aload C (i := 14) dL_law_373 rfl ?_
    refine g_iload C (i := 17) dL_law_375 rfl ?_
    refine g_iload C (i := 18) dL_law_377 rfl ?_
    refine g_bipush C (13) dL_law_379 rfl ?_
    refine g_ishr C dL_law_381 ?_
    refine g_iconst C (1) dL_law_382 rfl ?_
    refine g_iand C dL_law_383 ?_
    refine g_iconst C (1) dL_law_384 rfl ?_
    refine g_icmp_ne C 392 dL_law_385 (by decide) (fun h385 => ?_) (fun h385 => ?_)
    · refine g_iconst C (0) dL_law_392 rfl ?_
      exact J393 c _ _ _ _ _ 0 (Or.inl rfl) rfl (end_m1 (m := 3) hf) q9 hne ⟨1 + r, by omega, by omega, rfl⟩ (end_m1 (m := 2) hd)
    · refine g_iconst C (1) dL_law_388 rfl ?_
      refine g_goto C 393 dL_law_389 (by decide) ?_
      exact J393 c _ _ _ _ _ 1 (Or.inr rfl) rfl (end_m1 (m := 3) hf) q9 hne ⟨1 + r, by omega, by omega, rfl⟩ (end_m1 (m := 2) hd)
end TKBPU
end
section
section TKALLOC
theorem reg_zI (p n : Nat) : reg p n zI zI = zI := by
  funext a j
  simp only [reg]
  split <;> rfl
theorem reg_zL (p n : Nat) : reg p n zL zL = zL := by
  funext a j
  simp only [reg]
  split <;> rfl
theorem mI_z (B q : Nat) : mI B q zI zI = zI := by
  unfold mI
  rw [reg_zI, reg_zI]
theorem mL_z (B q : Nat) : mL B q zL zL = zL := by
  unfold mL
  rw [reg_zL, reg_zL]
theorem tkZI_z (σ : tkM) : tkZI σ zI = zI := zI_1 _
theorem tkZL_z (σ : tkM) : tkZL σ zL = zL := zL_1 _
theorem tk2_zI (a i : Nat) : tk2 zI a i 0 = zI := by
  funext b j
  simp only [tk2]
  split <;> rfl
theorem lwP5.keep {B : Nat} {σ σ' : tkM} (h : lwP5 B σ) (h1 : ∀ a, a < B + 58 → σ'.2.1 a = σ.2.1 a) (h2 : ∀ a, a < B + 58 → σ'.2.2 a = σ.2.2 a) : lwP5 B σ' := by
  obtain ⟨⟨t1, t2, t3, t4⟩, r1⟩ := h
  refine ⟨⟨(h1 _ (by omega)).trans t1, ?_, ?_, ?_⟩, r1.old (fun a _ _ => h1 a (by omega)) (fun a j _ _ => by rw [h2 a (by omega)])⟩
  · rw [h2 B (by omega)]; exact t2
  · rw [h2 B (by omega)]; exact t3
  · rw [h2 B (by omega)]; exact t4
theorem lwP.nw {B q n : Nat} {σ : tkM} {sh : Nat × Nat} (h : lwP B q n σ) (hT : lT n = sh) : lwP B q (n + 1) (tkNw σ sh) := by
  obtain ⟨h1, ⟨h2, -⟩, h3, h4⟩ := h
  refine ⟨h1.keep (fun a ha => if_neg (by omega)) (fun a ha => if_neg (by omega)), ⟨fun k hk => ?_, fun k j o hk e => by cases e⟩, by show σ.1 + 1 = _; omega, h4⟩
  show tk1 σ.2.1 σ.1 sh (q + k) = lT k
  by_cases e : k = n
  · subst e
    rw [hT]
    exact if_pos h3.symm
  · rw [show tk1 σ.2.1 σ.1 sh (q + k) = σ.2.1 (q + k) from if_neg (by omega)]
    exact h2 k (by omega)
theorem nw_I {B q n : Nat} {σ : tkM} (h : lwP B q n σ) (hn : n < 15) (J P : tkI) : tkZI σ (mI B q J P) = mI B q (tk1 J n (fun _ => 0)) P := by
  unfold tkZI
  rw [h.2.2.1]
  exact tk1_reg hn
theorem nw_L {B q n : Nat} {σ : tkM} (h : lwP B q n σ) (hn : n < 15) (L : tkL) : tkZL σ (mL B q zL L) = mL B q zL L := by
  unfold tkZL
  rw [h.2.2.1]
  exact (tk1_reg hn).trans (by rw [zL_1]; rfl)
variable {X : tkX} {Q : State → Prop} {cc : ByteArray} {own nm : String} {nL d MC MS cs ss pc : Nat} {ret : Option FieldType} {hh : List (Nat × Nat × Nat × Nat)} {lv : List (Option Value)} {stk : List Value} {σ : tkM} {B q n : Nat} {J P : tkI} {L : tkL}
theorem nw_i (C : tkC X cc own nm nL ret hh d MC MS) (hP : lwP B q n σ) {c : Int32} (N : Nat) (hn : n < 15) (hT : lT n = (10, N)) (hd : decode cc pc = .ok (.newarray .int, 2)) (hc : ¬ c < 0) (hN : c.toNatClampNeg = N) (hby : N * componentBytes .int ≤ 536870912) (h1 : cs + 1 ≤ MC) (h2 : ss + N ≤ MS)
    (kk : ∀ σ1, lwP B q (n + 1) σ1 → tkG X Q (cs + 1) (ss + N) (pc + 2) lv (.ref (q + n) :: stk) σ1 (mI B q (tk1 J n (fun _ => 0)) P) (mL B q zL L)) : tkG X Q cs ss pc lv (.int c :: stk) σ (mI B q J P) (mL B q zL L) := by
  refine g_newa_i C N hd ma_int hc hN hby h1 h2 ?_
  rw [nw_I hP hn, nw_L hP hn, hP.2.2.1]
  exact kk _ (hP.nw hT)
theorem nw_l (C : tkC X cc own nm nL ret hh d MC MS) (hP : lwP B q n σ) {c : Int32} (N : Nat) (hn : n < 15) (hT : lT n = (11, N)) (hd : decode cc pc = .ok (.newarray .long, 2)) (hc : ¬ c < 0) (hN : c.toNatClampNeg = N) (hby : N * componentBytes .long ≤ 536870912) (h1 : cs + 1 ≤ MC) (h2 : ss + N ≤ MS)
    (kk : ∀ σ1, lwP B q (n + 1) σ1 → tkG X Q (cs + 1) (ss + N) (pc + 2) lv (.ref (q + n) :: stk) σ1 (mI B q (tk1 J n (fun _ => 0)) P) (mL B q zL L)) : tkG X Q cs ss pc lv (.int c :: stk) σ (mI B q J P) (mL B q zL L) := by
  refine g_newa_l C N hd ma_long hc hN hby h1 h2 ?_
  rw [nw_I hP hn, nw_L hP hn, hP.2.2.1]
  exact kk _ (hP.nw hT)
theorem nw_z (C : tkC X cc own nm nL ret hh d MC MS) (hP : lwP B q n σ) {c : Int32} (N : Nat) (hn : n < 15) (hT : lT n = (12, N)) (hd : decode cc pc = .ok (.newarray .boolean, 2)) (hc : ¬ c < 0) (hN : c.toNatClampNeg = N) (hby : N * componentBytes .boolean ≤ 536870912) (h1 : cs + 1 ≤ MC) (h2 : ss + N ≤ MS)
    (kk : ∀ σ1, lwP B q (n + 1) σ1 → tkG X Q (cs + 1) (ss + N) (pc + 2) lv (.ref (q + n) :: stk) σ1 (mI B q (tk1 J n (fun _ => 0)) P) (mL B q zL L)) : tkG X Q cs ss pc lv (.int c :: stk) σ (mI B q J P) (mL B q zL L) := by
  refine g_newa_z C N hd ma_boolean hc hN hby h1 h2 ?_
  rw [nw_I hP hn, nw_L hP hn, hP.2.2.1]
  exact kk _ (hP.nw hT)
/-! what the making of the program's object leaves -/
theorem nDe_T {σ : tkM} {dd j a : Nat} (h : a < σ.1) : (nDe σ dd j).2.1 a = σ.2.1 a := rgS_off (Or.inl h)
theorem nDe_R {σ : tkM} {dd j a i : Nat} (h : a < σ.1) : (nDe σ dd j).2.2 a i = if a = dd ∧ i = j then some σ.1 else σ.2.2 a i := by
  have e1 : (nDe σ dd j).2.2 a = tk2 σ.2.2 dd j (some σ.1) a := reg_off (Or.inl h)
  rw [e1]
  rfl
theorem nDe_A (σ : tkM) (dd j : Nat) : tkReg 28 pT pF (nDe σ dd j) σ.1 := ⟨fun k hk => rgS_at hk, fun k j9 o hk h => by
  show reg σ.1 28 (rPl σ.1 (rOb 0 zR)) (tk2 σ.2.2 dd j (some σ.1)) (σ.1 + k) j9 = _
  rw [reg_at hk]
  exact rPl_F _ _ h⟩
theorem nX5_P5 {σ : tkM} {x : Nat} (hs : σ.1 = x + 1) (hx : σ.2.1 x = (5, 0)) : lwP5 x (nX5 σ x) ∧ (nX5 σ x).1 = x + 58 := by
  obtain ⟨D1, e1⟩ : ∃ D1, D1 = nDe σ x 0 := ⟨_, rfl⟩
  obtain ⟨D2, e2⟩ : ∃ D2, D2 = nDe D1 x 1 := ⟨_, rfl⟩
  have z1 : D1.1 = x + 29 := by rw [e1]; show σ.1 + 28 = _; omega
  have z2 : D2.1 = x + 57 := by rw [e2]; show D1.1 + 28 = _; omega
  have s : nX5 σ x = (D2.1 + 1, tk1 D2.2.1 D2.1 (14, 4), tk2 (tk1 D2.2.2 D2.1 (fun _ => none)) x 2 (some D2.1)) := by rw [e2, e1]; rfl
  have hT1 : ∀ a, a < x + 1 → D1.2.1 a = σ.2.1 a := fun a ha => by rw [e1]; exact nDe_T (by omega)
  have hR1 : ∀ a i, a < x + 1 → D1.2.2 a i = if a = x ∧ i = 0 then some σ.1 else σ.2.2 a i := fun a i ha => by rw [e1]; exact nDe_R (by omega)
  have hA1 : tkReg 28 pT pF D1 (x + 1) := by rw [e1, ← hs]; exact nDe_A σ x 0
  have hT2 : ∀ a, a < x + 29 → D2.2.1 a = D1.2.1 a := fun a ha => by rw [e2]; exact nDe_T (by omega)
  have hR2 : ∀ a i, a < x + 29 → D2.2.2 a i = if a = x ∧ i = 1 then some D1.1 else D1.2.2 a i := fun a i ha => by rw [e2]; exact nDe_R (by omega)
  have fT : ∀ a, a ≠ x + 57 → (nX5 σ x).2.1 a = D2.2.1 a := fun a ha => by
    rw [s]
    show tk1 D2.2.1 D2.1 (14, 4) a = _
    exact if_neg (by omega)
  have fR : ∀ a i, a ≠ x + 57 → (nX5 σ x).2.2 a i = if a = x ∧ i = 2 then some (x + 57) else D2.2.2 a i := fun a i ha => by
    rw [s]
    show tk2 (tk1 D2.2.2 D2.1 (fun _ => none)) x 2 (some D2.1) a i = _
    simp only [tk2, tk1]
    rw [if_neg (show ¬ a = D2.1 by omega), z2]
  refine ⟨⟨⟨?_, ?_, ?_, ?_⟩, ?_⟩, by rw [s]; show D2.1 + 1 = _; omega⟩
  · rw [fT x (by omega), hT2 x (by omega), hT1 x (by omega)]
    exact hx
  · rw [fR x 0 (by omega), if_neg (by omega), hR2 x 0 (by omega), if_neg (by omega), hR1 x 0 (by omega), if_pos ⟨rfl, rfl⟩, hs]
  · rw [fR x 1 (by omega), if_neg (by omega), hR2 x 1 (by omega), if_pos ⟨rfl, rfl⟩, z1]
  · rw [fR x 2 (by omega), if_pos ⟨rfl, rfl⟩]
  · exact hA1.old (fun a h1 h2 => by rw [fT a (by omega), hT2 a (by omega)]) (fun a j h1 h2 => by rw [fR a j (by omega), if_neg (by omega), hR2 a j (by omega), if_neg (by omega)])
theorem c_newX {x : Nat} {σ : tkM} (hx : σ.2.1 x = (5, 0)) (hxs : x < σ.1) : tkCon false (.code yX5_init cX5_init 1 none) yX5_init 4 [.ref x] σ zI zL 57 732 (.inl none) (nX5 σ x) zI zL := by
  have h := c_X5_init (v := zI) (w := zL) hx hxs
  rw [reg_zI, reg_zI, tkZI_z, tk2_zI, reg_zL, reg_zL, tkZL_z] at h
  exact h
end TKALLOC
end
section
section TKENTRY
variable {X : tkX} {Q : State → Prop} {nm : String} {hh : List (Nat × Nat × Nat × Nat)} {σ : tkM} {sb B q n : Nat} {xs : Nat → Int32}
theorem bR.nil : bR 0 0 0 zI zI := ⟨⟨rfl, rfl, rfl⟩, fun j hj => absurd hj (Nat.not_lt_zero j), fun j hj => absurd hj (Nat.not_lt_zero j), fun j hj => absurd hj (Nat.not_lt_zero j), fun _ => rfl⟩
/-- the law from the making of its pumps' rows -/
theorem law_from249 (C : tkC X cL_law RL nm 24 (some .boolean) hh 10 161 1460) (S : lwX X sb n xs) (hn : n ≤ 260) {cs ss : Nat} (hcs : cs + 7 ≤ 161 ∧ ss + 28 ≤ 1460) (hP : lwP B q 8 σ) (hend : ∀ cs ss lv σ I L, cs ≤ 161 → ss ≤ 1460 → tkG X Q cs ss 986 lv [.int 1] σ I L) {J P : tkI} {l10 l11 : Option Value} (hb : bR 3 2 0 J P) :
    tkG X Q cs ss 249 (lvSw sb B q l10 l11) [] σ (mI B q J P) (mL B q zL zL) := by
  refine g_iconst C (4) dL_law_249 rfl ?_
  refine nw_i C hP 4 (by decide) rfl dL_law_250 (by decide) (by decide) (by decide) (by omega) (by omega) fun σ9 hP9 => ?_
  refine g_astore C (i := 10) dL_law_252 (by decide) ?_
  show tkG X Q _ _ 254 [some (.ref sb), some (.ref B), some (.ref (q + 0)), some (.ref (q + 1)), some (.ref (q + 2)), some (.ref (q + 3)), some (.ref (q + 4)), some (.ref (q + 5)), some (.ref (q + 6)), some (.ref (q + 7)), some (.ref (q + 8)), l11, none, none, none, none, none, none, none, none, none, none, none, none] [] _ _ _
  refine g_iconst C (4) dL_law_254 rfl ?_
  refine nw_i C hP9 4 (by decide) rfl dL_law_255 (by decide) (by decide) (by decide) (by omega) (by omega) fun σ10 hP10 => ?_
  refine g_astore C (i := 11) dL_law_257 (by decide) ?_
  show tkG X Q _ _ 259 [some (.ref sb), some (.ref B), some (.ref (q + 0)), some (.ref (q + 1)), some (.ref (q + 2)), some (.ref (q + 3)), some (.ref (q + 4)), some (.ref (q + 5)), some (.ref (q + 6)), some (.ref (q + 7)), some (.ref (q + 8)), some (.ref (q + 9)), none, none, none, none, none, none, none, none, none, none, none, none] [] _ _ _
  refine g_iconst C (4) dL_law_259 rfl ?_
  refine nw_i C hP10 4 (by decide) rfl dL_law_260 (by decide) (by decide) (by decide) (by omega) (by omega) fun σ11 hP11 => ?_
  refine g_astore C (i := 12) dL_law_262 (by decide) ?_
  show tkG X Q _ _ 264 [some (.ref sb), some (.ref B), some (.ref (q + 0)), some (.ref (q + 1)), some (.ref (q + 2)), some (.ref (q + 3)), some (.ref (q + 4)), some (.ref (q + 5)), some (.ref (q + 6)), some (.ref (q + 7)), some (.ref (q + 8)), some (.ref (q + 9)), some (.ref (q + 10)), none, none, none, none, none, none, none, none, none, none, none] [] _ _ _
  refine g_iconst C (4) dL_law_264 rfl ?_
  refine nw_i C hP11 4 (by decide) rfl dL_law_265 (by decide) (by decide) (by decide) (by omega) (by omega) fun σ12 hP12 => ?_
  refine g_astore C (i := 13) dL_law_267 (by decide) ?_
  show tkG X Q _ _ 269 [some (.ref sb), some (.ref B), some (.ref (q + 0)), some (.ref (q + 1)), some (.ref (q + 2)), some (.ref (q + 3)), some (.ref (q + 4)), some (.ref (q + 5)), some (.ref (q + 6)), some (.ref (q + 7)), some (.ref (q + 8)), some (.ref (q + 9)), some (.ref (q + 10)), some (.ref (q + 11)), none, none, none, none, none, none, none, none, none, none] [] _ _ _
  refine g_iconst C (4) dL_law_269 rfl ?_
  refine nw_z C hP12 4 (by decide) rfl dL_law_270 (by decide) (by decide) (by decide) (by omega) (by omega) fun σ13 hP13 => ?_
  refine g_astore C (i := 14) dL_law_272 (by decide) ?_
  show tkG X Q _ _ 274 [some (.ref sb), some (.ref B), some (.ref (q + 0)), some (.ref (q + 1)), some (.ref (q + 2)), some (.ref (q + 3)), some (.ref (q + 4)), some (.ref (q + 5)), some (.ref (q + 6)), some (.ref (q + 7)), some (.ref (q + 8)), some (.ref (q + 9)), some (.ref (q + 10)), some (.ref (q + 11)), some (.ref (q + 12)), none, none, none, none, none, none, none, none, none] [] _ _ _
  refine g_iconst C (4) dL_law_274 rfl ?_
  refine nw_l C hP13 4 (by decide) rfl dL_law_275 (by decide) (by decide) (by decide) (by omega) (by omega) fun σ14 hP14 => ?_
  refine g_astore C (i := 15) dL_law_277 (by decide) ?_
  show tkG X Q _ _ 279 [some (.ref sb), some (.ref B), some (.ref (q + 0)), some (.ref (q + 1)), some (.ref (q + 2)), some (.ref (q + 3)), some (.ref (q + 4)), some (.ref (q + 5)), some (.ref (q + 6)), some (.ref (q + 7)), some (.ref (q + 8)), some (.ref (q + 9)), some (.ref (q + 10)), some (.ref (q + 11)), some (.ref (q + 12)), some (.ref (q + 13)), none, none, none, none, none, none, none, none] [] _ _ _
  refine g_iconst C (4) dL_law_279 rfl ?_
  refine nw_l C hP14 4 (by decide) rfl dL_law_280 (by decide) (by decide) (by decide) (by omega) (by omega) fun σ15 hP15 => ?_
  refine g_astore C (i := 16) dL_law_282 (by decide) ?_
  show tkG X Q _ _ 284 [some (.ref sb), some (.ref B), some (.ref (q + 0)), some (.ref (q + 1)), some (.ref (q + 2)), some (.ref (q + 3)), some (.ref (q + 4)), some (.ref (q + 5)), some (.ref (q + 6)), some (.ref (q + 7)), some (.ref (q + 8)), some (.ref (q + 9)), some (.ref (q + 10)), some (.ref (q + 11)), some (.ref (q + 12)), some (.ref (q + 13)), some (.ref (q + 14)), none, none, none, none, none, none, none] [] _ _ _
  refine g_iconst C (0) dL_law_284 rfl ?_
  refine g_istore C (i := 17) dL_law_285 (by decide) ?_
  have hb7 := ((((((hb.zero (n := 8) (by decide) (by omega) rfl).zero (n := 9) (by decide) (by omega) rfl).zero (n := 10) (by decide) (by omega) rfl).zero (n := 11) (by decide) (by omega) rfl).zero (n := 12) (by decide) (by omega) rfl).zero (n := 13) (by decide) (by omega) rfl).zero (n := 14) (by decide) (by omega) rfl
  refine law_bp1 C S hn (by omega) hP15 (k := 0) (by omega) hb7 fun J1 P1 l1 b1 => ?_
  refine law_bp1 C S hn (by omega) hP15 (k := 1) (by omega) b1 fun J2 P2 l2 b2 => ?_
  refine law_bp1 C S hn (by omega) hP15 (k := 2) (by omega) b2 fun J3 P3 l3 b3 => ?_
  refine law_bp1 C S hn (by omega) hP15 (k := 3) (by omega) b3 fun J4 P4 l4 b4 => ?_
  refine g_iload C (i := 17) dL_law_287 rfl ?_
  refine g_iconst C (4) dL_law_289 rfl ?_
  refine g_icmp_ge C 437 dL_law_290 (by decide) (fun h290 => ?_) (fun h290 => ?_)
  · refine g_iconst C (0) dL_law_437 rfl ?_
    refine g_istore C (i := 17) dL_law_438 (by decide) ?_
    refine g_iconst C (0) dL_law_440 rfl ?_
    refine g_istore C (i := 18) dL_law_441 (by decide) ?_
    exact law_main C S hn (by omega) hP15 hend 5 0 J4 P4 zL zL 0 _ _ _ _ _ (by omega) b4.inv
  · exact absurd (Int32.le_refl _) h290
/-- from the making of its switches' rows -/
theorem law_from120 (C : tkC X cL_law RL nm 24 (some .boolean) hh 10 161 1460) (S : lwX X sb n xs) (hn : n ≤ 260) {cs ss : Nat} (hcs : cs + 11 ≤ 161 ∧ ss + 36 ≤ 1460) (hP : lwP B q 4 σ) (hend : ∀ cs ss lv σ I L, cs ≤ 161 → ss ≤ 1460 → tkG X Q cs ss 986 lv [.int 1] σ I L) {J P : tkI} {l6 l7 : Option Value} (hb : bR 3 0 0 J P) :
    tkG X Q cs ss 120 (lvA sb B q l6 l7) [] σ (mI B q J P) (mL B q zL zL) := by
  refine g_iconst C (2) dL_law_120 rfl ?_
  refine nw_i C hP 2 (by decide) rfl dL_law_121 (by decide) (by decide) (by decide) (by omega) (by omega) fun σ5 hP5 => ?_
  refine g_astore C (i := 6) dL_law_123 (by decide) ?_
  show tkG X Q _ _ 125 [some (.ref sb), some (.ref B), some (.ref (q + 0)), some (.ref (q + 1)), some (.ref (q + 2)), some (.ref (q + 3)), some (.ref (q + 4)), l7, none, none, none, none, none, none, none, none, none, none, none, none, none, none, none, none] [] _ _ _
  refine g_iconst C (2) dL_law_125 rfl ?_
  refine nw_i C hP5 2 (by decide) rfl dL_law_126 (by decide) (by decide) (by decide) (by omega) (by omega) fun σ6 hP6 => ?_
  refine g_astore C (i := 7) dL_law_128 (by decide) ?_
  show tkG X Q _ _ 130 [some (.ref sb), some (.ref B), some (.ref (q + 0)), some (.ref (q + 1)), some (.ref (q + 2)), some (.ref (q + 3)), some (.ref (q + 4)), some (.ref (q + 5)), none, none, none, none, none, none, none, none, none, none, none, none, none, none, none, none] [] _ _ _
  refine g_iconst C (2) dL_law_130 rfl ?_
  refine nw_i C hP6 2 (by decide) rfl dL_law_131 (by decide) (by decide) (by decide) (by omega) (by omega) fun σ7 hP7 => ?_
  refine g_astore C (i := 8) dL_law_133 (by decide) ?_
  show tkG X Q _ _ 135 [some (.ref sb), some (.ref B), some (.ref (q + 0)), some (.ref (q + 1)), some (.ref (q + 2)), some (.ref (q + 3)), some (.ref (q + 4)), some (.ref (q + 5)), some (.ref (q + 6)), none, none, none, none, none, none, none, none, none, none, none, none, none, none, none] [] _ _ _
  refine g_iconst C (2) dL_law_135 rfl ?_
  refine nw_z C hP7 2 (by decide) rfl dL_law_136 (by decide) (by decide) (by decide) (by omega) (by omega) fun σ8 hP8 => ?_
  refine g_astore C (i := 9) dL_law_138 (by decide) ?_
  show tkG X Q _ _ 140 [some (.ref sb), some (.ref B), some (.ref (q + 0)), some (.ref (q + 1)), some (.ref (q + 2)), some (.ref (q + 3)), some (.ref (q + 4)), some (.ref (q + 5)), some (.ref (q + 6)), some (.ref (q + 7)), none, none, none, none, none, none, none, none, none, none, none, none, none, none] [] _ _ _
  refine g_iconst C (0) dL_law_140 rfl ?_
  refine g_istore C (i := 10) dL_law_141 (by decide) ?_
  have hb4 := (((hb.zero (n := 4) (by decide) (fun _ => rfl) rfl).zero (n := 5) (by decide) (fun _ => rfl) rfl).zero (n := 6) (by decide) (fun _ => rfl) rfl).zero (n := 7) (by decide) (fun _ => rfl) rfl
  refine law_bs1 C S hn (by omega) hP8 (k := 0) (by omega) hb4 fun J1 P1 l1 b1 => ?_
  refine law_bs1 C S hn (by omega) hP8 (k := 1) (by omega) b1 fun J2 P2 l2 b2 => ?_
  refine g_iload C (i := 10) dL_law_143 rfl ?_
  refine g_iconst C (2) dL_law_145 rfl ?_
  refine g_icmp_ge C 249 dL_law_146 (by decide) (fun h146 => ?_) (fun h146 => ?_)
  · skip
    exact law_from249 C S hn (by omega) hP8 hend b2
  · exact absurd (Int32.le_refl _) h146
/-- from the making of its tanks' rows -/
theorem law_from8 (C : tkC X cL_law RL nm 24 (some .boolean) hh 10 161 1460) (S : lwX X sb n xs) (hn : n ≤ 260) {cs ss : Nat} (hcs : cs + 15 ≤ 161 ∧ ss + 48 ≤ 1460) (hP : lwP B q 0 σ) (hend : ∀ cs ss lv σ I L, cs ≤ 161 → ss ≤ 1460 → tkG X Q cs ss 986 lv [.int 1] σ I L) :
    tkG X Q cs ss 8 [some (.ref sb), some (.ref B), none, none, none, none, none, none, none, none, none, none, none, none, none, none, none, none, none, none, none, none, none, none] [] σ (mI B q zI zI) (mL B q zL zL) := by
  refine g_iconst C (3) dL_law_8 rfl ?_
  refine nw_i C hP 3 (by decide) rfl dL_law_9 (by decide) (by decide) (by decide) (by omega) (by omega) fun σ1 hP1 => ?_
  rw [zI_1]
  refine g_astore_n C (i := 2) dL_law_11 rfl (by decide) ?_
  show tkG X Q _ _ 12 [some (.ref sb), some (.ref B), some (.ref (q + 0)), none, none, none, none, none, none, none, none, none, none, none, none, none, none, none, none, none, none, none, none, none] [] _ _ _
  refine g_iconst C (3) dL_law_12 rfl ?_
  refine nw_i C hP1 3 (by decide) rfl dL_law_13 (by decide) (by decide) (by decide) (by omega) (by omega) fun σ2 hP2 => ?_
  rw [zI_1]
  refine g_astore_n C (i := 3) dL_law_15 rfl (by decide) ?_
  show tkG X Q _ _ 16 [some (.ref sb), some (.ref B), some (.ref (q + 0)), some (.ref (q + 1)), none, none, none, none, none, none, none, none, none, none, none, none, none, none, none, none, none, none, none, none] [] _ _ _
  refine g_iconst C (3) dL_law_16 rfl ?_
  refine nw_i C hP2 3 (by decide) rfl dL_law_17 (by decide) (by decide) (by decide) (by omega) (by omega) fun σ3 hP3 => ?_
  rw [zI_1]
  refine g_astore C (i := 4) dL_law_19 (by decide) ?_
  show tkG X Q _ _ 21 [some (.ref sb), some (.ref B), some (.ref (q + 0)), some (.ref (q + 1)), some (.ref (q + 2)), none, none, none, none, none, none, none, none, none, none, none, none, none, none, none, none, none, none, none] [] _ _ _
  refine g_iconst C (3) dL_law_21 rfl ?_
  refine nw_l C hP3 3 (by decide) rfl dL_law_22 (by decide) (by decide) (by decide) (by omega) (by omega) fun σ4 hP4 => ?_
  rw [zI_1]
  refine g_astore C (i := 5) dL_law_24 (by decide) ?_
  show tkG X Q _ _ 26 [some (.ref sb), some (.ref B), some (.ref (q + 0)), some (.ref (q + 1)), some (.ref (q + 2)), some (.ref (q + 3)), none, none, none, none, none, none, none, none, none, none, none, none, none, none, none, none, none, none] [] _ _ _
  refine g_iconst C (0) dL_law_26 rfl ?_
  refine g_istore C (i := 6) dL_law_27 (by decide) ?_
  refine law_bt1 C S hn (by omega) hP4 (t := 0) (by omega) bR.nil fun J1 P1 l1 b1 => ?_
  refine law_bt1 C S hn (by omega) hP4 (t := 1) (by omega) b1 fun J2 P2 l2 b2 => ?_
  refine law_bt1 C S hn (by omega) hP4 (t := 2) (by omega) b2 fun J3 P3 l3 b3 => ?_
  refine g_iload C (i := 6) dL_law_29 rfl ?_
  refine g_iconst C (3) dL_law_31 rfl ?_
  refine g_icmp_ge C 120 dL_law_32 (by decide) (fun h32 => ?_) (fun h32 => ?_)
  · skip
    exact law_from120 C S hn (by omega) hP4 hend b3
  · exact absurd (Int32.le_refl _) h32
/-- the law from its entry -/
theorem law_entry (C : tkC X cL_law RL nm 24 (some .boolean) hh 10 161 1460) (S : lwX X sb n xs) (hn : n ≤ 260) (hend : ∀ cs ss lv σ I L, cs ≤ 161 → ss ≤ 1460 → tkG X Q cs ss 986 lv [.int 1] σ I L)
    {σ0 : tkM} (h0 : σ0.1 = B) : tkG X Q 0 0 0 [some (.ref sb), none, none, none, none, none, none, none, none, none, none, none, none, none, none, none, none, none, none, none, none, none, none, none] [] σ0 zI zL := by
  subst h0
  refine g_new C 5 (RX5, TX5, 4) dL_law_0 ml_L_9 mn_X5 mi_X5 rfl (Nat.le_of_ble_eq_true rfl) (Nat.le_of_ble_eq_true rfl) ?_
  rw [tkZI_z, tkZL_z]
  have x1 : (tkNw σ0 (5, 0)).2.1 σ0.1 = (5, 0) := if_pos rfl
  have x2 : (tkNw σ0 (5, 0)).1 = σ0.1 + 1 := rfl
  have hc := c_newX x1 (by omega)
  obtain ⟨hP5, hz⟩ := nX5_P5 x2 x1
  generalize nX5 (tkNw σ0 (5, 0)) σ0.1 = σ5 at *
  refine g_dup C dL_law_3 rfl ?_
  refine g_callI C dL_law_4 mm_X5_init ml_L_11 mv_yX5_init rfl (hc) rfl ⟨by decide, Nat.le_of_ble_eq_true rfl, Nat.le_of_ble_eq_true rfl, Nat.le_of_ble_eq_true rfl⟩ (tk_retn ?_) tk_nothr
  refine g_astore_n C (i := 1) dL_law_7 rfl (by decide) ?_
  have hP : lwP σ0.1 (σ0.1 + 58) 0 σ5 := ⟨hP5, ⟨fun k hk => absurd hk (Nat.not_lt_zero k), fun k j o hk => absurd hk (Nat.not_lt_zero k)⟩, hz, Nat.le_refl _⟩
  have h8 := law_from8 (cs := 58) (ss := 736) C S hn (by omega) hP hend
  rw [mI_z, mL_z] at h8
  exact h8
end TKENTRY
end
section
-- ===== end of PART A; then your names; then what follows =====
/-! THE CLAIM OUT OF ONE WALK OF THE LAW'S BODY. Your part is whole_start (and what it stands on); all else here is the same for every law, but numbers. -/
def R_law : String := "TankPlantLaw"
def lw_P (b : Addr) (xs : List Int32) (args : Array Value) (s : State) : Prop := args = #[.ref b] ∧ s.IntsAt b xs ∧ xs.length ≤ 260 ∧ (Jvm.Cond.and given_1 narrow_1).before args s = true
def lw_Q (_ : Array Value) (s : State) (o : Outcome) (t : State) : Prop := o = .returned (some (.int 1)) ∧ Framed s o t [] 161 1460
def lw_Z (below : List Frame) (a : Array Value) (s : State) : State → Prop := fun t => ∃ o, t.status = .running ∧ Ended t below o ∧ lw_Q a s o t
/-- the law's own end, with 1 on the stack, nothing written that was there before, its room as the claim has it -/
theorem lw_ret {p : Program} {l : Launch} {e : Env} {s : State} {m : MethodId} {below : List Frame} {meth : Method} {c : Code} {b : Nat} (hx : p.tables.exec = Jvm.exec) (hb : c.code = code) (hr : meth.sig.returnType = ret) (hlocks : meth.locks = false) {pc : Nat} {H : Heap} {ls : Array Slot} (hdg : decode code pc = .ok (.ireturn, 1)) : W p l e room_1 s m #[Value.ref b] below meth c H [] 161 1460 (lw_Z below #[Value.ref b] s) (F0 m pc ls [.int 1]) := by
  intro T hT X
  obtain ⟨fs, hret, hrun, hended, hW, hframe⟩ := X.leave (v := some (.int 1)) (hlocks := hlocks) (fun h => by rw [hr] at h; cases h)
  have hmeth' : T.vm.method? m = some meth := X.method'
  refine ⟨T.setFrames fs, ?_, .returned (some (.int 1)), hrun, hended, rfl, ⟨_, rfl⟩, hW, hframe⟩
  jvm_step X.here [X.here.top, hx, hb, hdg, hmeth', hr, ret, narrow_b1]
  (try refine ⟨rfl, ?_⟩); (try refine ⟨rfl, ?_⟩)
  first | (intro acts; rw [hret _ acts rfl rfl rfl]) | rw [hret _ _ rfl rfl rfl]
  exact Steps.refl _
/-- what holds at the law's entry: the machine, the code, the tables' words (any of lw_tbl by 'hts w (by decide +kernel)'), the script of L ints xs at the cell b, what the Statement gives of the start (any of its parts by flat_of_before) -/
def lw_At (p : Program) (s : State) (m : MethodId) (meth : Method) (c : Code) (b L : Nat) (xs : Nat → Int32) : Prop :=
  p.tables.exec = Jvm.exec ∧ c.code = code ∧ meth.sig.returnType = ret ∧ c.maxLocals = 24 ∧ s.vm.findClass R_law = some m.cls ∧ (∀ w ∈ lw_tbl, w.before #[Value.ref b] s = true) ∧ va_X b L xs s s.heap ∧ b < s.heap.size ∧ meth.locks = false ∧ (Jvm.Cond.and given_1 narrow_1).before #[Value.ref b] s = true
-- ===== YOUR PART BEGINS =====
section TKSTART
theorem lw_lU : Cond.laysStatic Bundle.tN "UNASSIGNED_STACK" Bundle.steD ∈ lw_tbl := List.mem_of_getElem? (i := 237) (by decide +kernel)
theorem lw_lN : Cond.laysStatic Bundle.tN "SUPPRESSED_SENTINEL" Bundle.listD ∈ lw_tbl := List.mem_of_getElem? (i := 239) (by decide +kernel)
theorem lw_aO : Cond.arrayOver (.object RX1) ∈ lw_tbl := List.mem_of_getElem? (i := 188) (by decide +kernel)
theorem lw_sR : ∀ q ∈ tkStr, Cond.stringRef RX5 q.1 q.2 ∈ lw_tbl := by decide +kernel
theorem lw_arr {s : State} {args : Array Value} {t : FieldType} (h : (Cond.arrayClass t).before args s = true) : ∃ cA, ArrOfT s cA t ∧ s.vm.findClass ("[" ++ t.toString) = some cA := by
  obtain ⟨cA, k, comp, h1, h2, h3⟩ := Cond.arrayClass_spec h
  exact ⟨cA, fun n z => ⟨(fun k h => by cases h), k, h2, comp, h3⟩, h1⟩
theorem lw_tK {s : State} {b : Nat} (hts : ∀ w ∈ lw_tbl, w.before #[Value.ref b] s = true) (hgv : (Jvm.Cond.and given_1 narrow_1).before #[Value.ref b] s = true) : ∃ D, tkK D s := by
  have hall : ∀ w ∈ tkAll, w.before #[Value.ref b] s = true := fun w hw => hts w (List.mem_filter.mp hw).1
  obtain ⟨c0, i0, h0⟩ := u_known hall tk_w0 (hall _ mn_X0)
  obtain ⟨c1, i1, h1⟩ := u_known hall tk_w1 (hall _ mn_X1)
  obtain ⟨c2, i2, h2⟩ := u_known hall tk_w2 (hall _ mn_X2)
  obtain ⟨c3, i3, h3⟩ := u_known hall tk_w3 (hall _ mn_X3)
  obtain ⟨c4, i4, h4⟩ := u_known hall tk_w4 (hall _ mn_X4)
  obtain ⟨c5, i5, h5⟩ := u_known hall tk_w5 (hall _ mn_X5)
  obtain ⟨a0, f0, g0⟩ := lw_arr (hall _ ma_int)
  obtain ⟨a1, f1, g1⟩ := lw_arr (hall _ ma_long)
  obtain ⟨a2, f2, g2⟩ := lw_arr (hall _ ma_boolean)
  obtain ⟨comp, a4, k4, o1, o2, o3, o4, o5⟩ := Cond.arrayOver_spec (hts _ lw_aO)
  refine ⟨(fun k => match k with | 0 => c0 | 1 => c1 | 2 => c2 | 3 => c3 | 4 => c4 | 5 => c5 | 10 => a0 | 11 => a1 | 12 => a2 | _ => a4, fun k => match k with | 0 => i0 | 1 => i1 | 2 => i2 | 3 => i3 | 4 => i4 | _ => i5), ⟨fun c q hq => ?_, fun k q hq => ?_⟩, va_AO.of (hts _ lw_aO), fun q hq => ?_, fun q hq => ?_⟩
  · match c, hq with
    | 0, hq => cases hq; exact h0
    | 1, hq => cases hq; exact h1
    | 2, hq => cases hq; exact h2
    | 3, hq => cases hq; exact h3
    | 4, hq => cases hq; exact h4
    | 5, hq => cases hq; exact h5
    | n + 6, hq => simp at hq
  · match k, hq with
    | 0, hq => cases hq; exact ⟨f0, g0⟩
    | 1, hq => cases hq; exact ⟨f1, g1⟩
    | 2, hq => cases hq; exact ⟨f2, g2⟩
    | 3, hq => cases hq; exact ⟨fun n z => ⟨(fun k h => by cases h), k4, o3, comp, o4⟩, k4, comp, o3, o4, o1, o5⟩
    | n + 4, hq => simp [tkTys] at hq
  · have hw := hts _ (lw_sR q hq)
    obtain ⟨k, cf, i, a, -, -, -, -, -, hev⟩ := Cond.stringRef_spec h5.2.1 hw
    exact ⟨a, vk_R.of hw hev⟩
  · unfold tkNc at hq
    exact absurd hq (List.not_mem_nil)
theorem lw_tE {s : State} {b : Nat} (hts : ∀ w ∈ lw_tbl, w.before #[Value.ref b] s = true) (hgv : (Jvm.Cond.and given_1 narrow_1).before #[Value.ref b] s = true) : tkE s.heap.size s s.heap := by
  have hs := flat_of_before _ hgv
  have hi : (Cond.initialized Bundle.tN).before #[Value.ref b] s = true := hts _ (List.mem_filter.mp mi_java_lang_Throwable).1
  exact ⟨vx_Zqof (hts _ lw_lU) hi (hs _ (by decide +kernel)) (fun a ha => Nat.not_le.mpr ha), vx_Zqof (hts _ lw_lN) hi (hs _ (by decide +kernel)) (fun a ha => Nat.not_le.mpr ha)⟩
end TKSTART
/-- from the entry, for every script of at most 260 ints, the law comes to its end with true -/
theorem whole_start {p : Program} {e : Env} {s : State} {m : MethodId} {below : List Frame} {meth : Method} {c : Code} (l : Launch) (hflags : l.flags = flags0) {b L : Nat} {xs : Nat → Int32} (hL : L ≤ 260) (C0 : lw_At p s m meth c b L xs) : W p l e room_1 s m #[Value.ref b] below meth c s.heap [] 0 0 (lw_Z below #[Value.ref b] s) (entryFrame m ([Value.ref b] : List Value).toArray 24) := by
  obtain ⟨hx, hb, hr, hml, hown, hts, hX, hbl, hlocks, hgv⟩ := C0
  have hall : ∀ w ∈ tkAll, w.before #[Value.ref b] s = true := fun w hw => hts w (List.mem_filter.mp hw).1
  have hst : l.stackTraces = false := by
    unfold Launch.stackTraces
    rw [hflags]
    decide
  obtain ⟨D, hK⟩ := lw_tK hts hgv
  have hE := lw_tE hts hgv
  refine tkG.entry (X := (p, l, e, room_1, s, m, #[Value.ref b], below, meth, c, s.heap.size, D)) (base := s.heap.size) (D := D) (a := [.ref b]) (nL := 24) (σ := (s.heap.size, fun _ => (99, 0), fun _ _ => none)) (I := zI) (L := zL) rfl hml (Nat.le_of_ble_eq_true rfl) ⟨rfl, Nat.le_refl _, fun a _ => rfl, fun a h1 h2 => absurd h1 (Nat.not_le.mpr h2)⟩ ?_
  have C : tkC (p, l, e, room_1, s, m, #[Value.ref b], below, meth, c, s.heap.size, D) cL_law RL meth.name 24 (some .boolean) (c.exceptionTable.toList.map fun x => (x.startPc, x.endPc, x.handlerPc, x.catchType)) 10 161 1460 :=
    ⟨hx, hb, hml, hown, hall, hK, hE, hlocks, hr, rfl, by unfold tableOf; rw [List.map_map]; exact (List.map_id c.exceptionTable.toList).symm, Nat.le_of_ble_eq_true rfl, Nat.le_of_ble_eq_true rfl, rfl, rfl, hst⟩
  exact law_entry (sb := b) (n := L) (xs := xs) C ⟨hX, hbl, Nat.not_le.mpr hbl⟩ hL (fun cs ss lv σ I L h1 h2 H locs ls hSS hR hl => va_forget (fun q hq => hSS.2.2 q hq) (W.widen h1 h2 (lw_ret hx hb hr hlocks dL_law_986))) rfl
-- ===== YOUR PART ENDS =====
set_option maxHeartbeats 4000000 in
theorem lw_walk (l : Launch) (hflags : l.flags = flags0) (b : Addr) (xs : List Int32) : MetFree l x (headSpec (Jvm.Cond.code x code maxLocals ret :: tables_1) room_1) (lw_P b xs) (fun _ _ _ _ _ => True) lw_Q := by
  refine MetFree.of_bodyS (code := code) (maxLocals := maxLocals) (ret := ret) (by decide) ?_ ?_
  · intro args s m h hn
    obtain ⟨meth, c, h1, h2, h3, h4, h5, h6, -, -⟩ := Cond.code_spec hn (atoms_spec (ws := Jvm.Cond.code x code maxLocals ret :: tables_1) h _ List.mem_cons_self)
    exact ⟨meth, c, h1, h2, h3, h4, h5, h6⟩
  · intro p e s m args below meth c s₁ B hml0 hP _
    obtain ⟨rfl, hx, hbd, hgv⟩ := hP
    obtain ⟨scr, harrAt, hlist, hof, hsmall⟩ := hx
    obtain ⟨hcb, hkn, -, -⟩ := State.arrayAt?_spec harrAt
    have hown : s.vm.findClass R_law = some m.cls := findClass_of_methodNamed B.named
    have hts0 : ∀ c ∈ (Jvm.Cond.code x code maxLocals ret :: tables_1), c.before #[Value.ref b] s = true := atoms_spec (ws := Jvm.Cond.code x code maxLocals ret :: tables_1) B.pre
    have hts : ∀ w ∈ lw_tbl, w.before #[Value.ref b] s = true := k2_hts_sels lw_privs (fun w hw => hts0 w (List.mem_cons_of_mem _ hw)) lw_privs_ok
    have hml : c.maxLocals = 24 := B.maxLocals_eq (hts0 _ List.mem_cons_self)
    have X₀ : Stand p l e room_1 s m #[Value.ref b] below meth c s₁ [] 0 0 := Stand.of_body B
    have hh0 : s₁.heap = s.heap := by rw [B.state]; rfl
    have hsz : scr.slots.size = xs.length := by rw [← Array.length_toList, hlist, List.length_map]
    have hval : ∀ j : Nat, j < xs.length → scr.slots[j]? = some (.int (xs.getD j 0)) := fun j hj => by
      rw [← Array.getElem?_toList, hlist]
      simp [hj]
    have hbl : b < s.heap.size := (Array.getElem?_eq_some_iff.mp hcb).1
    have hX : va_X b xs.length (fun j => xs.getD j 0) s s.heap := ⟨scr, hcb, hof, hkn, hsz, hval⟩
    have K : W p l e room_1 s m #[Value.ref b] below meth c s₁.heap [] 0 0 (lw_Z below #[Value.ref b] s) (entryFrame m ([Value.ref b] : List Value).toArray 24) := by
      rw [hh0]
      exact whole_start l hflags hbd ⟨B.exec, B.bytes, B.returns, hml, hown, hts, hX, hbl, B.notSynchronized, hgv⟩
    obtain ⟨t, a1, o, b1, b2, b3⟩ := K s₁ rfl X₀
    exact ⟨t, o, a1, b1, b2, b3⟩
theorem lw_pre_spec {args : Array Value} {s : State} (h : (Jvm.Cond.and given_1 narrow_1).before args s = true) (hr : rest_1_c.before args s = true) : ∃ (b : Addr) (xs : List Int32), lw_P b xs args s := by
  have hs := flat_of_before _ h
  have hq := flat_of_before _ hr
  have hc : (Cond.count 1).before args s = true := hs _ (by decide +kernel)
  have harr : (Cond.arrayOf (.arg 0) .int).before args s = true := hs _ (by decide +kernel)
  have hle : (Cond.le (.length (.arg 0)) (.int 260)).before args s = true := hs _ (by decide +kernel)
  have hlen : (Cond.isInt (.length (.arg 0))).before args s = true := hq _ (by decide +kernel)
  have hall : (Cond.all (.arg 0) (.isInt (.elem (.arg 0) (.index 0)))).before args s = true := hq _ (by decide +kernel)
  obtain ⟨b, xs, hb, hx⟩ := State.ints_of_pre rfl harr hlen hall
  have hsm : xs.length < 2 ^ 31 := hx.choose_spec.2.2.2
  have hev : (Term.length (.arg 0)).eval args s none [] s = some (.int xs.length.toInt32) := hx.length_eval hb
  have hv := Cond.le_ints hev (show (Term.int 260).eval args s none [] s = some (.int 260) from rfl)
  have hd : xs.length.toInt32 ≤ 260 := by
    simpa [Cond.before, Cond.holds, hv] using hle
  have hN : xs.length ≤ 260 := (Int32.ofNat_le_ofNat hsm (by decide)).mp (show Int32.ofNat xs.length ≤ Int32.ofNat 260 from hd)
  exact ⟨b, xs, Cond.one_arg hc (show args[0]? = some (.ref b) from hb), hx, hN, h⟩
theorem lw_comes (l : Launch) (hflags : l.flags = flags0) : Comes l x (Jvm.Cond.code x code maxLocals ret :: tables_1) room_1 (fun tb e args s => Calls_1 tb e args s ∧ rest_1 tb e args s ∧ Pre_1 tb e args s)
    (fun _ _ args s o t => lw_Q args s o t) := by
  intro p e ha hc hk s m args below hf hfit hheap happ hpre
  obtain ⟨b, xs, hP⟩ := lw_pre_spec hpre.2.2 hpre.2.1
  obtain ⟨k, o, h1, h2, h3, hQ⟩ := lw_walk l hflags b xs p e ha hc hk s m args below hf ((Spec.applies_iff_loose hf).mp happ).1 hP trivial
  exact ⟨k, o, h1, h2, h3, hQ⟩
theorem lw_frame {s t : State} {o : Outcome} {args : Array Value} (h : Framed s o t [] 161 1460) :
    Framed s o t (fieldLocs frame_1_writes args s ++ arrayLocs frame_1_arrays args s ++ staticLocs frame_1_statics s) 161 1460 := h
theorem lw_limb (L : Cond) (hL : ∀ (args : Array Value) (s t : State), L.after args s (.returned (some (.int 1))) t = true) :
    ArmFor flags0 classFile x code maxLocals ret World_1 tables_1 room_1 Calls_1 rest_1 Pre_1
      (fun tb e a s o t => postC L tb e a s o t ∧ Framed s o t (fieldLocs frame_1_writes a s ++ arrayLocs frame_1_arrays a s ++ staticLocs frame_1_statics s) 161 1460) := by
  intro l hflags _ _ p e ha hc hk s m args below hf hfit hheap happ hpre
  obtain ⟨k, o, h1, h2, h3, rfl, hF⟩ := lw_comes l hflags p e ha hc hk s m args below hf hfit hheap happ hpre
  exact ⟨k, _, h1, h2, h3, hL args s _, lw_frame hF⟩
theorem i_vc : Claimed_1_1 ∧ Claimed_1_2 := ⟨lw_limb limb_1_1 (fun args s t => by simp [limb_1_1, Cond.after, Cond.holds, Cond.value]), lw_limb limb_1_2 (fun args s t => Cond.after_iff.mpr (by
  first | (rw [show limb_1_2 = Cond.eq .result (.int 1) from rfl, Cond.eq_ints (x := 1) (y := 1) rfl rfl]; simp; done) | (simp [limb_1_2, Cond.value, Term.eval]; done)))⟩
end

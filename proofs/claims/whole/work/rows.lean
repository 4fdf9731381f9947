section
-- ===== PART A: goes FIRST, ahead of the names: the tables' words, and 'selects' of the private methods out of them =====
/-- a private method of a class that the tables say can be made, by its rows of tables_1 -/
def lw_okq (q : MethodName × Nat) : Prop := (q.1.cls ≠ "java/lang/invoke/MethodHandle" ∧ q.1.cls ≠ "java/lang/invoke/VarHandle") ∧ Cond.instantiable q.1.cls q.2 ∈ tables_1 ∧ Cond.privateMethod q.1 ∈ tables_1 ∧ Cond.instanceMethod q.1 ∈ tables_1
theorem lw_p0 : lw_okq (⟨"java/lang/Throwable", "fillInStackTrace", "(I)Ljava/lang/Throwable;"⟩, 6) := ⟨⟨by decide +kernel, by decide +kernel⟩, List.mem_of_getElem? (i := 293) (by decide +kernel), List.mem_of_getElem? (i := 291) (by decide +kernel), List.mem_of_getElem? (i := 292) (by decide +kernel)⟩
theorem lw_p1 : lw_okq (⟨"TankPlant", "needTank", "(I)V"⟩, 4) := ⟨⟨by decide +kernel, by decide +kernel⟩, List.mem_of_getElem? (i := 17) (by decide +kernel), List.mem_of_getElem? (i := 360) (by decide +kernel), List.mem_of_getElem? (i := 361) (by decide +kernel)⟩
theorem lw_p2 : lw_okq (⟨"TankPlant", "needTankOrOutside", "(I)V"⟩, 4) := ⟨⟨by decide +kernel, by decide +kernel⟩, List.mem_of_getElem? (i := 17) (by decide +kernel), List.mem_of_getElem? (i := 393) (by decide +kernel), List.mem_of_getElem? (i := 394) (by decide +kernel)⟩
theorem lw_p3 : lw_okq (⟨"TankPlant", "needSwitch", "(I)V"⟩, 4) := ⟨⟨by decide +kernel, by decide +kernel⟩, List.mem_of_getElem? (i := 17) (by decide +kernel), List.mem_of_getElem? (i := 397) (by decide +kernel), List.mem_of_getElem? (i := 398) (by decide +kernel)⟩
theorem lw_p4 : lw_okq (⟨"TankPlant", "needPump", "(I)V"⟩, 4) := ⟨⟨by decide +kernel, by decide +kernel⟩, List.mem_of_getElem? (i := 17) (by decide +kernel), List.mem_of_getElem? (i := 434) (by decide +kernel), List.mem_of_getElem? (i := 435) (by decide +kernel)⟩
theorem lw_p5 : lw_okq (⟨"TankPlant$Plant", "tick", "()I"⟩, 5) := ⟨⟨by decide +kernel, by decide +kernel⟩, List.mem_of_getElem? (i := 25) (by decide +kernel), List.mem_of_getElem? (i := 454) (by decide +kernel), List.mem_of_getElem? (i := 455) (by decide +kernel)⟩
theorem lw_p6 : lw_okq (⟨"TankPlant$Pumps", "move", "(ILTankPlant$Tanks;)V"⟩, 13) := ⟨⟨by decide +kernel, by decide +kernel⟩, List.mem_of_getElem? (i := 93) (by decide +kernel), List.mem_of_getElem? (i := 482) (by decide +kernel), List.mem_of_getElem? (i := 483) (by decide +kernel)⟩
theorem lw_p7 : lw_okq (⟨"TankPlant$Pumps", "enter", "(II)V"⟩, 13) := ⟨⟨by decide +kernel, by decide +kernel⟩, List.mem_of_getElem? (i := 93) (by decide +kernel), List.mem_of_getElem? (i := 489) (by decide +kernel), List.mem_of_getElem? (i := 490) (by decide +kernel)⟩
theorem lw_p8 : lw_okq (⟨"TankPlant$Plant", "repeatLast", "(I)I"⟩, 5) := ⟨⟨by decide +kernel, by decide +kernel⟩, List.mem_of_getElem? (i := 25) (by decide +kernel), List.mem_of_getElem? (i := 498) (by decide +kernel), List.mem_of_getElem? (i := 499) (by decide +kernel)⟩
theorem lw_p9 : lw_okq (⟨"TankPlant$Pumps", "steadyTicksOf", "(ILTankPlant$Tanks;I)I"⟩, 13) := ⟨⟨by decide +kernel, by decide +kernel⟩, List.mem_of_getElem? (i := 93) (by decide +kernel), List.mem_of_getElem? (i := 520) (by decide +kernel), List.mem_of_getElem? (i := 521) (by decide +kernel)⟩
theorem lw_p10 : lw_okq (⟨"TankPlant", "needLogged", "(I)V"⟩, 4) := ⟨⟨by decide +kernel, by decide +kernel⟩, List.mem_of_getElem? (i := 17) (by decide +kernel), List.mem_of_getElem? (i := 650) (by decide +kernel), List.mem_of_getElem? (i := 651) (by decide +kernel)⟩
theorem lw_p11 : lw_okq (⟨"TankPlantModel", "fail", "(I)I"⟩, 29) := ⟨⟨by decide +kernel, by decide +kernel⟩, List.mem_of_getElem? (i := 688) (by decide +kernel), List.mem_of_getElem? (i := 792) (by decide +kernel), List.mem_of_getElem? (i := 793) (by decide +kernel)⟩
theorem lw_p12 : lw_okq (⟨"TankPlantModel", "isTank", "(I)Z"⟩, 29) := ⟨⟨by decide +kernel, by decide +kernel⟩, List.mem_of_getElem? (i := 688) (by decide +kernel), List.mem_of_getElem? (i := 800) (by decide +kernel), List.mem_of_getElem? (i := 801) (by decide +kernel)⟩
theorem lw_p13 : lw_okq (⟨"TankPlantModel", "isSwitch", "(I)Z"⟩, 29) := ⟨⟨by decide +kernel, by decide +kernel⟩, List.mem_of_getElem? (i := 688) (by decide +kernel), List.mem_of_getElem? (i := 808) (by decide +kernel), List.mem_of_getElem? (i := 809) (by decide +kernel)⟩
theorem lw_p14 : lw_okq (⟨"TankPlantModel", "isPump", "(I)Z"⟩, 29) := ⟨⟨by decide +kernel, by decide +kernel⟩, List.mem_of_getElem? (i := 688) (by decide +kernel), List.mem_of_getElem? (i := 824) (by decide +kernel), List.mem_of_getElem? (i := 825) (by decide +kernel)⟩
theorem lw_p15 : lw_okq (⟨"TankPlantModel", "tick", "()I"⟩, 29) := ⟨⟨by decide +kernel, by decide +kernel⟩, List.mem_of_getElem? (i := 688) (by decide +kernel), List.mem_of_getElem? (i := 832) (by decide +kernel), List.mem_of_getElem? (i := 833) (by decide +kernel)⟩
def lw_privs_1 : List (MethodName × Nat) := [(⟨"java/lang/Throwable", "fillInStackTrace", "(I)Ljava/lang/Throwable;"⟩, 6), (⟨"TankPlant", "needTank", "(I)V"⟩, 4), (⟨"TankPlant", "needTankOrOutside", "(I)V"⟩, 4), (⟨"TankPlant", "needSwitch", "(I)V"⟩, 4), (⟨"TankPlant", "needPump", "(I)V"⟩, 4), (⟨"TankPlant$Plant", "tick", "()I"⟩, 5), (⟨"TankPlant$Pumps", "move", "(ILTankPlant$Tanks;)V"⟩, 13), (⟨"TankPlant$Pumps", "enter", "(II)V"⟩, 13), (⟨"TankPlant$Plant", "repeatLast", "(I)I"⟩, 5), (⟨"TankPlant$Pumps", "steadyTicksOf", "(ILTankPlant$Tanks;I)I"⟩, 13), (⟨"TankPlant", "needLogged", "(I)V"⟩, 4), (⟨"TankPlantModel", "fail", "(I)I"⟩, 29), (⟨"TankPlantModel", "isTank", "(I)Z"⟩, 29), (⟨"TankPlantModel", "isSwitch", "(I)Z"⟩, 29), (⟨"TankPlantModel", "isPump", "(I)Z"⟩, 29), (⟨"TankPlantModel", "tick", "()I"⟩, 29)]
theorem lw_r1 : ∀ q ∈ lw_privs_1, lw_okq q := List.forall_mem_cons.mpr ⟨lw_p0, List.forall_mem_cons.mpr ⟨lw_p1, List.forall_mem_cons.mpr ⟨lw_p2, List.forall_mem_cons.mpr ⟨lw_p3, List.forall_mem_cons.mpr ⟨lw_p4, List.forall_mem_cons.mpr ⟨lw_p5, List.forall_mem_cons.mpr ⟨lw_p6, List.forall_mem_cons.mpr ⟨lw_p7, List.forall_mem_cons.mpr ⟨lw_p8, List.forall_mem_cons.mpr ⟨lw_p9, List.forall_mem_cons.mpr ⟨lw_p10, List.forall_mem_cons.mpr ⟨lw_p11, List.forall_mem_cons.mpr ⟨lw_p12, List.forall_mem_cons.mpr ⟨lw_p13, List.forall_mem_cons.mpr ⟨lw_p14, List.forall_mem_cons.mpr ⟨lw_p15, fun _ h => absurd h List.not_mem_nil⟩⟩⟩⟩⟩⟩⟩⟩⟩⟩⟩⟩⟩⟩⟩⟩
theorem lw_p16 : lw_okq (⟨"TankPlantModel", "turn", "()I"⟩, 29) := ⟨⟨by decide +kernel, by decide +kernel⟩, List.mem_of_getElem? (i := 688) (by decide +kernel), List.mem_of_getElem? (i := 836) (by decide +kernel), List.mem_of_getElem? (i := 837) (by decide +kernel)⟩
theorem lw_p17 : lw_okq (⟨"TankPlantModel", "log", "(I)V"⟩, 29) := ⟨⟨by decide +kernel, by decide +kernel⟩, List.mem_of_getElem? (i := 688) (by decide +kernel), List.mem_of_getElem? (i := 840) (by decide +kernel), List.mem_of_getElem? (i := 841) (by decide +kernel)⟩
theorem lw_p18 : lw_okq (⟨"TankPlantModel", "pump", "(I)V"⟩, 29) := ⟨⟨by decide +kernel, by decide +kernel⟩, List.mem_of_getElem? (i := 688) (by decide +kernel), List.mem_of_getElem? (i := 844) (by decide +kernel), List.mem_of_getElem? (i := 845) (by decide +kernel)⟩
theorem lw_p19 : lw_okq (⟨"TankPlantModel", "write", "(I)V"⟩, 29) := ⟨⟨by decide +kernel, by decide +kernel⟩, List.mem_of_getElem? (i := 688) (by decide +kernel), List.mem_of_getElem? (i := 857) (by decide +kernel), List.mem_of_getElem? (i := 858) (by decide +kernel)⟩
theorem lw_p20 : lw_okq (⟨"TankPlantModel", "put", "(J)V"⟩, 29) := ⟨⟨by decide +kernel, by decide +kernel⟩, List.mem_of_getElem? (i := 688) (by decide +kernel), List.mem_of_getElem? (i := 861) (by decide +kernel), List.mem_of_getElem? (i := 862) (by decide +kernel)⟩
theorem lw_p21 : lw_okq (⟨"TankPlantModel", "read", "(I)V"⟩, 29) := ⟨⟨by decide +kernel, by decide +kernel⟩, List.mem_of_getElem? (i := 688) (by decide +kernel), List.mem_of_getElem? (i := 865) (by decide +kernel), List.mem_of_getElem? (i := 866) (by decide +kernel)⟩
theorem lw_p22 : lw_okq (⟨"TankPlantModel", "take", "()J"⟩, 29) := ⟨⟨by decide +kernel, by decide +kernel⟩, List.mem_of_getElem? (i := 688) (by decide +kernel), List.mem_of_getElem? (i := 869) (by decide +kernel), List.mem_of_getElem? (i := 870) (by decide +kernel)⟩
theorem lw_p23 : lw_okq (⟨"TankPlantModel", "isLogged", "(I)Z"⟩, 29) := ⟨⟨by decide +kernel, by decide +kernel⟩, List.mem_of_getElem? (i := 688) (by decide +kernel), List.mem_of_getElem? (i := 917) (by decide +kernel), List.mem_of_getElem? (i := 918) (by decide +kernel)⟩
def lw_privs_2 : List (MethodName × Nat) := [(⟨"TankPlantModel", "turn", "()I"⟩, 29), (⟨"TankPlantModel", "log", "(I)V"⟩, 29), (⟨"TankPlantModel", "pump", "(I)V"⟩, 29), (⟨"TankPlantModel", "write", "(I)V"⟩, 29), (⟨"TankPlantModel", "put", "(J)V"⟩, 29), (⟨"TankPlantModel", "read", "(I)V"⟩, 29), (⟨"TankPlantModel", "take", "()J"⟩, 29), (⟨"TankPlantModel", "isLogged", "(I)Z"⟩, 29)]
theorem lw_r2 : ∀ q ∈ lw_privs_2, lw_okq q := List.forall_mem_cons.mpr ⟨lw_p16, List.forall_mem_cons.mpr ⟨lw_p17, List.forall_mem_cons.mpr ⟨lw_p18, List.forall_mem_cons.mpr ⟨lw_p19, List.forall_mem_cons.mpr ⟨lw_p20, List.forall_mem_cons.mpr ⟨lw_p21, List.forall_mem_cons.mpr ⟨lw_p22, List.forall_mem_cons.mpr ⟨lw_p23, fun _ h => absurd h List.not_mem_nil⟩⟩⟩⟩⟩⟩⟩⟩
def lw_privs : List (MethodName × Nat) := lw_privs_1 ++ (lw_privs_2)
def lw_tbl : List Cond := k2_sels lw_privs ++ tables_1
theorem lw_privs_ok : ∀ q ∈ lw_privs, lw_okq q := by
  show ∀ q ∈ lw_privs_1 ++ (lw_privs_2), lw_okq q
  exact List.forall_mem_append.mpr ⟨lw_r1, lw_r2⟩
/-- the streams that the claim lets the run draw from -/
abbrev lw_cs : List Choice := [Jvm.Choice.named "NaN.bits"]
theorem lw_bits : nanBits ∈ lw_cs := by first | decide | exact List.mem_cons_self | simp [lw_cs, nanBits]

def RX0 : String := "TankPlant$ChangeLog"
def TX0 : u_T := fun k => match k with
  | 0 => ("TankPlant$ChangeLog", "count", "J", false)
  | 1 => ("TankPlant$ChangeLog", "times", "[J", true)
  | _ => ("TankPlant$ChangeLog", "numbers", "[I", true)
def tyX0 : Nat → FieldType := fun k => match k with
  | 0 => .long
  | 1 => .array .long
  | _ => .array .int
abbrev wsX00 : List Cond := u_ws RX0 TX0 3
theorem nmX0 : ∀ a, a < 3 → ∀ b, b < 3 → a ≠ b → (TX0 a).2.1 ≠ (TX0 b).2.1 := by decide +kernel
theorem tyX0_ok : ∀ k, k < 3 → parseFieldDescriptor (TX0 k).2.2.1 = some (tyX0 k) := by decide +kernel
abbrev cX0_init : ByteArray := prog_2_method_1_code
def yX0_init : MethodName := ⟨RX0, "<init>", "()V"⟩
abbrev cX0_note : ByteArray := prog_2_method_2_code
def yX0_note : MethodName := ⟨RX0, "note", "(JI)V"⟩
abbrev cX0_kept : ByteArray := prog_2_method_3_code
def yX0_kept : MethodName := ⟨RX0, "kept", "()I"⟩
abbrev cX0_slotOf : ByteArray := prog_2_method_4_code
def yX0_slotOf : MethodName := ⟨RX0, "slotOf", "(I)I"⟩
abbrev cX0_copyFrom : ByteArray := prog_2_method_5_code
def yX0_copyFrom : MethodName := ⟨RX0, "copyFrom", "(LTankPlant$ChangeLog;)V"⟩
def RX1 : String := "TankPlant$Plant"
def TX1 : u_T := fun k => match k with
  | 0 => ("TankPlant$Plant", "tanks", "LTankPlant$Tanks;", true)
  | 1 => ("TankPlant$Plant", "switches", "LTankPlant$Switches;", true)
  | 2 => ("TankPlant$Plant", "pumps", "LTankPlant$Pumps;", true)
  | 3 => ("TankPlant$Plant", "log", "LTankPlant$ChangeLog;", true)
  | _ => ("TankPlant$Plant", "time", "J", false)
def tyX1 : Nat → FieldType := fun k => match k with
  | 0 => .object "TankPlant$Tanks"
  | 1 => .object "TankPlant$Switches"
  | 2 => .object "TankPlant$Pumps"
  | 3 => .object "TankPlant$ChangeLog"
  | _ => .long
abbrev wsX10 : List Cond := u_ws RX1 TX1 5
theorem nmX1 : ∀ a, a < 5 → ∀ b, b < 5 → a ≠ b → (TX1 a).2.1 ≠ (TX1 b).2.1 := by decide +kernel
theorem tyX1_ok : ∀ k, k < 5 → parseFieldDescriptor (TX1 k).2.2.1 = some (tyX1 k) := by decide +kernel
abbrev cX1_init : ByteArray := prog_3_method_1_code
def yX1_init : MethodName := ⟨RX1, "<init>", "()V"⟩
abbrev cX1_copyFrom : ByteArray := prog_3_method_2_code
def yX1_copyFrom : MethodName := ⟨RX1, "copyFrom", "(LTankPlant$Plant;)V"⟩
abbrev cX1_advance : ByteArray := prog_3_method_3_code
def yX1_advance : MethodName := ⟨RX1, "advance", "(I)I"⟩
abbrev cX1_advanceUntil : ByteArray := prog_3_method_4_code
def yX1_advanceUntil : MethodName := ⟨RX1, "advanceUntil", "(IIZI)I"⟩
abbrev cX1_advanceToChange : ByteArray := prog_3_method_5_code
def yX1_advanceToChange : MethodName := ⟨RX1, "advanceToChange", "(I)I"⟩
abbrev cX1_tick : ByteArray := prog_3_method_6_code
def yX1_tick : MethodName := ⟨RX1, "tick", "()I"⟩
abbrev cX1_repeatLast : ByteArray := prog_3_method_7_code
def yX1_repeatLast : MethodName := ⟨RX1, "repeatLast", "(I)I"⟩
def RX2 : String := "TankPlant$Pumps"
def TX2 : u_T := fun k => match k with
  | 0 => ("TankPlant$Pumps", "count", "I", false)
  | 1 => ("TankPlant$Pumps", "from", "[I", true)
  | 2 => ("TankPlant$Pumps", "to", "[I", true)
  | 3 => ("TankPlant$Pumps", "rate", "[I", true)
  | 4 => ("TankPlant$Pumps", "lift", "[I", true)
  | 5 => ("TankPlant$Pumps", "control", "[I", true)
  | 6 => ("TankPlant$Pumps", "inverted", "[Z", true)
  | 7 => ("TankPlant$Pumps", "total", "[J", true)
  | 8 => ("TankPlant$Pumps", "energy", "[J", true)
  | 9 => ("TankPlant$Pumps", "shortTicks", "[J", true)
  | 10 => ("TankPlant$Pumps", "amount", "[I", true)
  | 11 => ("TankPlant$Pumps", "sourceLeft", "[I", true)
  | _ => ("TankPlant$Pumps", "roomLeft", "[I", true)
def tyX2 : Nat → FieldType := fun k => match k with
  | 0 => .int
  | 1 => .array .int
  | 2 => .array .int
  | 3 => .array .int
  | 4 => .array .int
  | 5 => .array .int
  | 6 => .array .boolean
  | 7 => .array .long
  | 8 => .array .long
  | 9 => .array .long
  | 10 => .array .int
  | 11 => .array .int
  | _ => .array .int
abbrev wsX20 : List Cond := u_ws RX2 TX2 13
theorem nmX2 : ∀ a, a < 13 → ∀ b, b < 13 → a ≠ b → (TX2 a).2.1 ≠ (TX2 b).2.1 := by decide +kernel
theorem tyX2_ok : ∀ k, k < 13 → parseFieldDescriptor (TX2 k).2.2.1 = some (tyX2 k) := by decide +kernel
abbrev cX2_init : ByteArray := prog_4_method_1_code
def yX2_init : MethodName := ⟨RX2, "<init>", "()V"⟩
abbrev cX2_append : ByteArray := prog_4_method_2_code
def yX2_append : MethodName := ⟨RX2, "append", "(IIIIIZ)I"⟩
abbrev cX2_copyFrom : ByteArray := prog_4_method_3_code
def yX2_copyFrom : MethodName := ⟨RX2, "copyFrom", "(LTankPlant$Pumps;)V"⟩
abbrev cX2_isActive : ByteArray := prog_4_method_4_code
def yX2_isActive : MethodName := ⟨RX2, "isActive", "(ILTankPlant$Switches;)Z"⟩
abbrev cX2_moveAll : ByteArray := prog_4_method_5_code
def yX2_moveAll : MethodName := ⟨RX2, "moveAll", "(LTankPlant$Tanks;LTankPlant$Switches;)V"⟩
abbrev cX2_move : ByteArray := prog_4_method_6_code
def yX2_move : MethodName := ⟨RX2, "move", "(ILTankPlant$Tanks;)V"⟩
abbrev cX2_enter : ByteArray := prog_4_method_7_code
def yX2_enter : MethodName := ⟨RX2, "enter", "(II)V"⟩
abbrev cX2_steadyTicks : ByteArray := prog_4_method_8_code
def yX2_steadyTicks : MethodName := ⟨RX2, "steadyTicks", "(LTankPlant$Tanks;LTankPlant$Switches;I)I"⟩
abbrev cX2_steadyTicksOf : ByteArray := prog_4_method_9_code
def yX2_steadyTicksOf : MethodName := ⟨RX2, "steadyTicksOf", "(ILTankPlant$Tanks;I)I"⟩
abbrev cX2_repeat : ByteArray := prog_4_method_10_code
def yX2_repeat : MethodName := ⟨RX2, "repeat", "(LTankPlant$Switches;I)V"⟩
abbrev cX2_cameIn : ByteArray := prog_4_method_11_code
def yX2_cameIn : MethodName := ⟨RX2, "cameIn", "()J"⟩
abbrev cX2_wentOut : ByteArray := prog_4_method_12_code
def yX2_wentOut : MethodName := ⟨RX2, "wentOut", "()J"⟩
abbrev cX2_mixedInto : ByteArray := prog_4_method_13_code
def yX2_mixedInto : MethodName := ⟨RX2, "mixedInto", "(J)J"⟩
def RX3 : String := "TankPlant$Switches"
def TX3 : u_T := fun k => match k with
  | 0 => ("TankPlant$Switches", "count", "I", false)
  | 1 => ("TankPlant$Switches", "tank", "[I", true)
  | 2 => ("TankPlant$Switches", "low", "[I", true)
  | 3 => ("TankPlant$Switches", "high", "[I", true)
  | _ => ("TankPlant$Switches", "on", "[Z", true)
def tyX3 : Nat → FieldType := fun k => match k with
  | 0 => .int
  | 1 => .array .int
  | 2 => .array .int
  | 3 => .array .int
  | _ => .array .boolean
abbrev wsX30 : List Cond := u_ws RX3 TX3 5
theorem nmX3 : ∀ a, a < 5 → ∀ b, b < 5 → a ≠ b → (TX3 a).2.1 ≠ (TX3 b).2.1 := by decide +kernel
theorem tyX3_ok : ∀ k, k < 5 → parseFieldDescriptor (TX3 k).2.2.1 = some (tyX3 k) := by decide +kernel
abbrev cX3_init : ByteArray := prog_5_method_1_code
def yX3_init : MethodName := ⟨RX3, "<init>", "()V"⟩
abbrev cX3_append : ByteArray := prog_5_method_2_code
def yX3_append : MethodName := ⟨RX3, "append", "(III)I"⟩
abbrev cX3_copyFrom : ByteArray := prog_5_method_3_code
def yX3_copyFrom : MethodName := ⟨RX3, "copyFrom", "(LTankPlant$Switches;)V"⟩
abbrev cX3_follow : ByteArray := prog_5_method_4_code
def yX3_follow : MethodName := ⟨RX3, "follow", "(LTankPlant$Tanks;LTankPlant$ChangeLog;J)I"⟩
abbrev cX3_steadyTicks : ByteArray := prog_5_method_5_code
def yX3_steadyTicks : MethodName := ⟨RX3, "steadyTicks", "(LTankPlant$Tanks;I)I"⟩
abbrev cX3_mixedInto : ByteArray := prog_5_method_6_code
def yX3_mixedInto : MethodName := ⟨RX3, "mixedInto", "(J)J"⟩
def RX4 : String := "TankPlant$Tanks"
def TX4 : u_T := fun k => match k with
  | 0 => ("TankPlant$Tanks", "count", "I", false)
  | 1 => ("TankPlant$Tanks", "capacity", "[I", true)
  | 2 => ("TankPlant$Tanks", "level", "[I", true)
  | 3 => ("TankPlant$Tanks", "leak", "[I", true)
  | 4 => ("TankPlant$Tanks", "levelSum", "[J", true)
  | _ => ("TankPlant$Tanks", "before", "[I", true)
def tyX4 : Nat → FieldType := fun k => match k with
  | 0 => .int
  | 1 => .array .int
  | 2 => .array .int
  | 3 => .array .int
  | 4 => .array .long
  | _ => .array .int
abbrev wsX40 : List Cond := u_ws RX4 TX4 6
theorem nmX4 : ∀ a, a < 6 → ∀ b, b < 6 → a ≠ b → (TX4 a).2.1 ≠ (TX4 b).2.1 := by decide +kernel
theorem tyX4_ok : ∀ k, k < 6 → parseFieldDescriptor (TX4 k).2.2.1 = some (tyX4 k) := by decide +kernel
abbrev cX4_init : ByteArray := prog_6_method_1_code
def yX4_init : MethodName := ⟨RX4, "<init>", "()V"⟩
abbrev cX4_append : ByteArray := prog_6_method_2_code
def yX4_append : MethodName := ⟨RX4, "append", "(III)I"⟩
abbrev cX4_copyFrom : ByteArray := prog_6_method_3_code
def yX4_copyFrom : MethodName := ⟨RX4, "copyFrom", "(LTankPlant$Tanks;)V"⟩
abbrev cX4_noteLevels : ByteArray := prog_6_method_4_code
def yX4_noteLevels : MethodName := ⟨RX4, "noteLevels", "()V"⟩
abbrev cX4_leakAndSum : ByteArray := prog_6_method_5_code
def yX4_leakAndSum : MethodName := ⟨RX4, "leakAndSum", "()V"⟩
abbrev cX4_drift : ByteArray := prog_6_method_6_code
def yX4_drift : MethodName := ⟨RX4, "drift", "(I)I"⟩
abbrev cX4_hasReached : ByteArray := prog_6_method_7_code
def yX4_hasReached : MethodName := ⟨RX4, "hasReached", "(IIZ)Z"⟩
abbrev cX4_ticksShortOf : ByteArray := prog_6_method_8_code
def yX4_ticksShortOf : MethodName := ⟨RX4, "ticksShortOf", "(IIZI)I"⟩
abbrev cX4_steadyTicks : ByteArray := prog_6_method_9_code
def yX4_steadyTicks : MethodName := ⟨RX4, "steadyTicks", "(I)I"⟩
abbrev cX4_repeat : ByteArray := prog_6_method_10_code
def yX4_repeat : MethodName := ⟨RX4, "repeat", "(I)V"⟩
abbrev cX4_mixedInto : ByteArray := prog_6_method_11_code
def yX4_mixedInto : MethodName := ⟨RX4, "mixedInto", "(J)J"⟩
def RX5 : String := "TankPlant"
def TX5 : u_T := fun k => match k with
  | 0 => ("TankPlant", "plant", "LTankPlant$Plant;", true)
  | 1 => ("TankPlant", "trial", "LTankPlant$Plant;", true)
  | 2 => ("TankPlant", "depots", "[LTankPlant$Plant;", true)
  | _ => ("TankPlant", "depotCount", "I", false)
def tyX5 : Nat → FieldType := fun k => match k with
  | 0 => .object "TankPlant$Plant"
  | 1 => .object "TankPlant$Plant"
  | 2 => .array (.object "TankPlant$Plant")
  | _ => .int
abbrev wsX50 : List Cond := u_ws RX5 TX5 4
theorem nmX5 : ∀ a, a < 4 → ∀ b, b < 4 → a ≠ b → (TX5 a).2.1 ≠ (TX5 b).2.1 := by decide +kernel
theorem tyX5_ok : ∀ k, k < 4 → parseFieldDescriptor (TX5 k).2.2.1 = some (tyX5 k) := by decide +kernel
abbrev cX5_init : ByteArray := prog_1_method_1_code
def yX5_init : MethodName := ⟨RX5, "<init>", "()V"⟩
abbrev cX5_addTank : ByteArray := prog_1_method_2_code
def yX5_addTank : MethodName := ⟨RX5, "addTank", "(III)I"⟩
abbrev cX5_addSwitch : ByteArray := prog_1_method_3_code
def yX5_addSwitch : MethodName := ⟨RX5, "addSwitch", "(III)I"⟩
abbrev cX5_addPump : ByteArray := prog_1_method_4_code
def yX5_addPump : MethodName := ⟨RX5, "addPump", "(IIIIIZ)I"⟩
abbrev cX5_setLevel : ByteArray := prog_1_method_5_code
def yX5_setLevel : MethodName := ⟨RX5, "setLevel", "(II)I"⟩
abbrev cX5_setLeak : ByteArray := prog_1_method_6_code
def yX5_setLeak : MethodName := ⟨RX5, "setLeak", "(II)I"⟩
abbrev cX5_setRate : ByteArray := prog_1_method_7_code
def yX5_setRate : MethodName := ⟨RX5, "setRate", "(II)I"⟩
abbrev cX5_run : ByteArray := prog_1_method_8_code
def yX5_run : MethodName := ⟨RX5, "run", "(I)I"⟩
abbrev cX5_runUntil : ByteArray := prog_1_method_9_code
def yX5_runUntil : MethodName := ⟨RX5, "runUntil", "(IIZI)I"⟩
abbrev cX5_nextChange : ByteArray := prog_1_method_10_code
def yX5_nextChange : MethodName := ⟨RX5, "nextChange", "(I)I"⟩
abbrev cX5_time : ByteArray := prog_1_method_11_code
def yX5_time : MethodName := ⟨RX5, "time", "()J"⟩
abbrev cX5_level : ByteArray := prog_1_method_12_code
def yX5_level : MethodName := ⟨RX5, "level", "(I)I"⟩
abbrev cX5_levelSum : ByteArray := prog_1_method_13_code
def yX5_levelSum : MethodName := ⟨RX5, "levelSum", "(I)J"⟩
abbrev cX5_meanLevel : ByteArray := prog_1_method_14_code
def yX5_meanLevel : MethodName := ⟨RX5, "meanLevel", "(I)D"⟩
abbrev cX5_isOn : ByteArray := prog_1_method_15_code
def yX5_isOn : MethodName := ⟨RX5, "isOn", "(I)Z"⟩
abbrev cX5_total : ByteArray := prog_1_method_16_code
def yX5_total : MethodName := ⟨RX5, "total", "(I)J"⟩
abbrev cX5_energy : ByteArray := prog_1_method_17_code
def yX5_energy : MethodName := ⟨RX5, "energy", "(I)J"⟩
abbrev cX5_shortTicks : ByteArray := prog_1_method_18_code
def yX5_shortTicks : MethodName := ⟨RX5, "shortTicks", "(I)J"⟩
abbrev cX5_balance : ByteArray := prog_1_method_19_code
def yX5_balance : MethodName := ⟨RX5, "balance", "()J"⟩
abbrev cX5_changeCount : ByteArray := prog_1_method_20_code
def yX5_changeCount : MethodName := ⟨RX5, "changeCount", "()J"⟩
abbrev cX5_changeTime : ByteArray := prog_1_method_21_code
def yX5_changeTime : MethodName := ⟨RX5, "changeTime", "(I)J"⟩
abbrev cX5_changeSwitch : ByteArray := prog_1_method_22_code
def yX5_changeSwitch : MethodName := ⟨RX5, "changeSwitch", "(I)I"⟩
abbrev cX5_save : ByteArray := prog_1_method_23_code
def yX5_save : MethodName := ⟨RX5, "save", "()I"⟩
abbrev cX5_restore : ByteArray := prog_1_method_24_code
def yX5_restore : MethodName := ⟨RX5, "restore", "()I"⟩
abbrev cX5_digest : ByteArray := prog_1_method_25_code
def yX5_digest : MethodName := ⟨RX5, "digest", "()J"⟩
abbrev cX5_needTank : ByteArray := prog_1_method_26_code
def yX5_needTank : MethodName := ⟨RX5, "needTank", "(I)V"⟩
abbrev cX5_needTankOrOutside : ByteArray := prog_1_method_27_code
def yX5_needTankOrOutside : MethodName := ⟨RX5, "needTankOrOutside", "(I)V"⟩
abbrev cX5_needSwitch : ByteArray := prog_1_method_28_code
def yX5_needSwitch : MethodName := ⟨RX5, "needSwitch", "(I)V"⟩
abbrev cX5_needPump : ByteArray := prog_1_method_29_code
def yX5_needPump : MethodName := ⟨RX5, "needPump", "(I)V"⟩
abbrev cX5_needLogged : ByteArray := prog_1_method_30_code
def yX5_needLogged : MethodName := ⟨RX5, "needLogged", "(I)V"⟩
abbrev cX5_needAmount : ByteArray := prog_1_method_31_code
def yX5_needAmount : MethodName := ⟨RX5, "needAmount", "(II)V"⟩
abbrev cX5_needLeak : ByteArray := prog_1_method_32_code
def yX5_needLeak : MethodName := ⟨RX5, "needLeak", "(I)V"⟩
abbrev cX5_needRate : ByteArray := prog_1_method_33_code
def yX5_needRate : MethodName := ⟨RX5, "needRate", "(I)V"⟩
abbrev cX5_needTicks : ByteArray := prog_1_method_34_code
def yX5_needTicks : MethodName := ⟨RX5, "needTicks", "(II)V"⟩
abbrev cX5_isWithin : ByteArray := prog_1_method_35_code
def yX5_isWithin : MethodName := ⟨RX5, "isWithin", "(III)Z"⟩
abbrev cX5_mix : ByteArray := prog_1_method_36_code
def yX5_mix : MethodName := ⟨RX5, "mix", "(JJ)J"⟩
abbrev cX5_ticksWhile : ByteArray := prog_1_method_37_code
def yX5_ticksWhile : MethodName := ⟨RX5, "ticksWhile", "(JJI)I"⟩
def RX6 : String := "TankPlantModel"
def TX6 : u_T := fun k => match k with
  | 0 => ("TankPlantModel", "thrown", "I", false)
  | 1 => ("TankPlantModel", "tanks", "I", false)
  | 2 => ("TankPlantModel", "capacities", "[I", true)
  | 3 => ("TankPlantModel", "switches", "I", false)
  | 4 => ("TankPlantModel", "watched", "[I", true)
  | 5 => ("TankPlantModel", "lows", "[I", true)
  | 6 => ("TankPlantModel", "highs", "[I", true)
  | 7 => ("TankPlantModel", "pumps", "I", false)
  | 8 => ("TankPlantModel", "froms", "[I", true)
  | 9 => ("TankPlantModel", "tos", "[I", true)
  | 10 => ("TankPlantModel", "lifts", "[I", true)
  | 11 => ("TankPlantModel", "controls", "[I", true)
  | 12 => ("TankPlantModel", "areInverted", "[Z", true)
  | 13 => ("TankPlantModel", "levels", "[I", true)
  | 14 => ("TankPlantModel", "leaks", "[I", true)
  | 15 => ("TankPlantModel", "sums", "[J", true)
  | 16 => ("TankPlantModel", "areOn", "[Z", true)
  | 17 => ("TankPlantModel", "rates", "[I", true)
  | 18 => ("TankPlantModel", "totals", "[J", true)
  | 19 => ("TankPlantModel", "energies", "[J", true)
  | 20 => ("TankPlantModel", "shorts", "[J", true)
  | 21 => ("TankPlantModel", "time", "J", false)
  | 22 => ("TankPlantModel", "changes", "J", false)
  | 23 => ("TankPlantModel", "logged", "I", false)
  | 24 => ("TankPlantModel", "logTimes", "[J", true)
  | 25 => ("TankPlantModel", "logSwitches", "[I", true)
  | 26 => ("TankPlantModel", "depots", "I", false)
  | 27 => ("TankPlantModel", "stored", "[J", true)
  | _ => ("TankPlantModel", "at", "I", false)
def tyX6 : Nat → FieldType := fun k => match k with
  | 0 => .int
  | 1 => .int
  | 2 => .array .int
  | 3 => .int
  | 4 => .array .int
  | 5 => .array .int
  | 6 => .array .int
  | 7 => .int
  | 8 => .array .int
  | 9 => .array .int
  | 10 => .array .int
  | 11 => .array .int
  | 12 => .array .boolean
  | 13 => .array .int
  | 14 => .array .int
  | 15 => .array .long
  | 16 => .array .boolean
  | 17 => .array .int
  | 18 => .array .long
  | 19 => .array .long
  | 20 => .array .long
  | 21 => .long
  | 22 => .long
  | 23 => .int
  | 24 => .array .long
  | 25 => .array .int
  | 26 => .int
  | 27 => .array .long
  | _ => .int
abbrev wsX60 : List Cond := u_ws RX6 TX6 29
theorem nmX6 : ∀ a, a < 29 → ∀ b, b < 29 → a ≠ b → (TX6 a).2.1 ≠ (TX6 b).2.1 := by decide +kernel
theorem tyX6_ok : ∀ k, k < 29 → parseFieldDescriptor (TX6 k).2.2.1 = some (tyX6 k) := by decide +kernel
abbrev cX6_init : ByteArray := prog_8_method_1_code
def yX6_init : MethodName := ⟨RX6, "<init>", "()V"⟩
abbrev cX6_thrown : ByteArray := prog_8_method_2_code
def yX6_thrown : MethodName := ⟨RX6, "thrown", "()I"⟩
abbrev cX6_fail : ByteArray := prog_8_method_3_code
def yX6_fail : MethodName := ⟨RX6, "fail", "(I)I"⟩
abbrev cX6_isTank : ByteArray := prog_8_method_4_code
def yX6_isTank : MethodName := ⟨RX6, "isTank", "(I)Z"⟩
abbrev cX6_isSwitch : ByteArray := prog_8_method_5_code
def yX6_isSwitch : MethodName := ⟨RX6, "isSwitch", "(I)Z"⟩
abbrev cX6_isPump : ByteArray := prog_8_method_6_code
def yX6_isPump : MethodName := ⟨RX6, "isPump", "(I)Z"⟩
abbrev cX6_addTank : ByteArray := prog_8_method_7_code
def yX6_addTank : MethodName := ⟨RX6, "addTank", "(III)I"⟩
abbrev cX6_addSwitch : ByteArray := prog_8_method_8_code
def yX6_addSwitch : MethodName := ⟨RX6, "addSwitch", "(III)I"⟩
abbrev cX6_addPump : ByteArray := prog_8_method_9_code
def yX6_addPump : MethodName := ⟨RX6, "addPump", "(IIIIIZ)I"⟩
abbrev cX6_setLevel : ByteArray := prog_8_method_10_code
def yX6_setLevel : MethodName := ⟨RX6, "setLevel", "(II)I"⟩
abbrev cX6_setLeak : ByteArray := prog_8_method_11_code
def yX6_setLeak : MethodName := ⟨RX6, "setLeak", "(II)I"⟩
abbrev cX6_setRate : ByteArray := prog_8_method_12_code
def yX6_setRate : MethodName := ⟨RX6, "setRate", "(II)I"⟩
abbrev cX6_log : ByteArray := prog_8_method_13_code
def yX6_log : MethodName := ⟨RX6, "log", "(I)V"⟩
abbrev cX6_turn : ByteArray := prog_8_method_14_code
def yX6_turn : MethodName := ⟨RX6, "turn", "()I"⟩
abbrev cX6_pump : ByteArray := prog_8_method_15_code
def yX6_pump : MethodName := ⟨RX6, "pump", "(I)V"⟩
abbrev cX6_tick : ByteArray := prog_8_method_16_code
def yX6_tick : MethodName := ⟨RX6, "tick", "()I"⟩
abbrev cX6_run : ByteArray := prog_8_method_17_code
def yX6_run : MethodName := ⟨RX6, "run", "(I)I"⟩
abbrev cX6_runUntil : ByteArray := prog_8_method_18_code
def yX6_runUntil : MethodName := ⟨RX6, "runUntil", "(IIZI)I"⟩
abbrev cX6_nextChange : ByteArray := prog_8_method_19_code
def yX6_nextChange : MethodName := ⟨RX6, "nextChange", "(I)I"⟩
abbrev cX6_time : ByteArray := prog_8_method_20_code
def yX6_time : MethodName := ⟨RX6, "time", "()J"⟩
abbrev cX6_level : ByteArray := prog_8_method_21_code
def yX6_level : MethodName := ⟨RX6, "level", "(I)I"⟩
abbrev cX6_levelSum : ByteArray := prog_8_method_22_code
def yX6_levelSum : MethodName := ⟨RX6, "levelSum", "(I)J"⟩
abbrev cX6_meanLevel : ByteArray := prog_8_method_23_code
def yX6_meanLevel : MethodName := ⟨RX6, "meanLevel", "(I)D"⟩
abbrev cX6_isOn : ByteArray := prog_8_method_24_code
def yX6_isOn : MethodName := ⟨RX6, "isOn", "(I)Z"⟩
abbrev cX6_total : ByteArray := prog_8_method_25_code
def yX6_total : MethodName := ⟨RX6, "total", "(I)J"⟩
abbrev cX6_energy : ByteArray := prog_8_method_26_code
def yX6_energy : MethodName := ⟨RX6, "energy", "(I)J"⟩
abbrev cX6_shortTicks : ByteArray := prog_8_method_27_code
def yX6_shortTicks : MethodName := ⟨RX6, "shortTicks", "(I)J"⟩
abbrev cX6_balance : ByteArray := prog_8_method_28_code
def yX6_balance : MethodName := ⟨RX6, "balance", "()J"⟩
abbrev cX6_changeCount : ByteArray := prog_8_method_29_code
def yX6_changeCount : MethodName := ⟨RX6, "changeCount", "()J"⟩
abbrev cX6_isLogged : ByteArray := prog_8_method_30_code
def yX6_isLogged : MethodName := ⟨RX6, "isLogged", "(I)Z"⟩
abbrev cX6_changeTime : ByteArray := prog_8_method_31_code
def yX6_changeTime : MethodName := ⟨RX6, "changeTime", "(I)J"⟩
abbrev cX6_changeSwitch : ByteArray := prog_8_method_32_code
def yX6_changeSwitch : MethodName := ⟨RX6, "changeSwitch", "(I)I"⟩
abbrev cX6_put : ByteArray := prog_8_method_33_code
def yX6_put : MethodName := ⟨RX6, "put", "(J)V"⟩
abbrev cX6_take : ByteArray := prog_8_method_34_code
def yX6_take : MethodName := ⟨RX6, "take", "()J"⟩
abbrev cX6_write : ByteArray := prog_8_method_35_code
def yX6_write : MethodName := ⟨RX6, "write", "(I)V"⟩
abbrev cX6_read : ByteArray := prog_8_method_36_code
def yX6_read : MethodName := ⟨RX6, "read", "(I)V"⟩
abbrev cX6_save : ByteArray := prog_8_method_37_code
def yX6_save : MethodName := ⟨RX6, "save", "()I"⟩
abbrev cX6_restore : ByteArray := prog_8_method_38_code
def yX6_restore : MethodName := ⟨RX6, "restore", "()I"⟩
abbrev cX6_digest : ByteArray := prog_8_method_39_code
def yX6_digest : MethodName := ⟨RX6, "digest", "()J"⟩
def RJ9 : String := "java/lang/Math"
def TJ9 : u_T := fun k => match k with
  | _ => ("", "", "", false)
def tyJ9 : Nat → FieldType := fun k => match k with
  | _ => .int
abbrev wsJ90 : List Cond := u_ws RJ9 TJ9 0
theorem nmJ9 : ∀ a, a < 0 → ∀ b, b < 0 → a ≠ b → (TJ9 a).2.1 ≠ (TJ9 b).2.1 := by decide +kernel
theorem tyJ9_ok : ∀ k, k < 0 → parseFieldDescriptor (TJ9 k).2.2.1 = some (tyJ9 k) := by decide +kernel
abbrev cJ9_min_7cf53 : ByteArray := prog_13_method_69_code
def yJ9_min_7cf53 : MethodName := ⟨RJ9, "min", "(II)I"⟩
abbrev cJ9_min_f86c9 : ByteArray := prog_13_method_70_code
def yJ9_min_f86c9 : MethodName := ⟨RJ9, "min", "(JJ)J"⟩
def RJ0 : String := "java/lang/String"
def TJ0 : u_T := fun k => match k with
  | _ => ("", "", "", false)
def tyJ0 : Nat → FieldType := fun k => match k with
  | _ => .int
abbrev wsJ00 : List Cond := u_ws RJ0 TJ0 0
theorem nmJ0 : ∀ a, a < 0 → ∀ b, b < 0 → a ≠ b → (TJ0 a).2.1 ≠ (TJ0 b).2.1 := by decide +kernel
theorem tyJ0_ok : ∀ k, k < 0 → parseFieldDescriptor (TJ0 k).2.2.1 = some (tyJ0 k) := by decide +kernel
def RJ10 : String := "java/lang/System"
def TJ10 : u_T := fun k => match k with
  | _ => ("", "", "", false)
def tyJ10 : Nat → FieldType := fun k => match k with
  | _ => .int
abbrev wsJ100 : List Cond := u_ws RJ10 TJ10 0
theorem nmJ10 : ∀ a, a < 0 → ∀ b, b < 0 → a ≠ b → (TJ10 a).2.1 ≠ (TJ10 b).2.1 := by decide +kernel
theorem tyJ10_ok : ∀ k, k < 0 → parseFieldDescriptor (TJ10 k).2.2.1 = some (tyJ10 k) := by decide +kernel
def RL : String := "TankPlantLaw"
abbrev cL_addTank : ByteArray := method_3_code
def yL_addTank : MethodName := ⟨RL, "addTank", "(LTankPlant;III[J)I"⟩
abbrev cL_addSwitch : ByteArray := method_4_code
def yL_addSwitch : MethodName := ⟨RL, "addSwitch", "(LTankPlant;III[J)I"⟩
abbrev cL_addPump : ByteArray := method_5_code
def yL_addPump : MethodName := ⟨RL, "addPump", "(LTankPlant;IIIIIZ[J)I"⟩
abbrev cL_setLevel : ByteArray := method_6_code
def yL_setLevel : MethodName := ⟨RL, "setLevel", "(LTankPlant;II[J)I"⟩
abbrev cL_setLeak : ByteArray := method_7_code
def yL_setLeak : MethodName := ⟨RL, "setLeak", "(LTankPlant;II[J)I"⟩
abbrev cL_setRate : ByteArray := method_8_code
def yL_setRate : MethodName := ⟨RL, "setRate", "(LTankPlant;II[J)I"⟩
abbrev cL_run : ByteArray := method_9_code
def yL_run : MethodName := ⟨RL, "run", "(LTankPlant;I[J)I"⟩
abbrev cL_runUntil : ByteArray := method_10_code
def yL_runUntil : MethodName := ⟨RL, "runUntil", "(LTankPlant;IIZI[J)I"⟩
abbrev cL_nextChange : ByteArray := method_11_code
def yL_nextChange : MethodName := ⟨RL, "nextChange", "(LTankPlant;I[J)I"⟩
abbrev cL_level : ByteArray := method_12_code
def yL_level : MethodName := ⟨RL, "level", "(LTankPlant;I[J)I"⟩
abbrev cL_levelSum : ByteArray := method_13_code
def yL_levelSum : MethodName := ⟨RL, "levelSum", "(LTankPlant;I[J)I"⟩
abbrev cL_meanLevel : ByteArray := method_14_code
def yL_meanLevel : MethodName := ⟨RL, "meanLevel", "(LTankPlant;I[D)I"⟩
abbrev cL_isOn : ByteArray := method_15_code
def yL_isOn : MethodName := ⟨RL, "isOn", "(LTankPlant;I[J)I"⟩
abbrev cL_total : ByteArray := method_16_code
def yL_total : MethodName := ⟨RL, "total", "(LTankPlant;I[J)I"⟩
abbrev cL_energy : ByteArray := method_17_code
def yL_energy : MethodName := ⟨RL, "energy", "(LTankPlant;I[J)I"⟩
abbrev cL_shortTicks : ByteArray := method_18_code
def yL_shortTicks : MethodName := ⟨RL, "shortTicks", "(LTankPlant;I[J)I"⟩
abbrev cL_changeTime : ByteArray := method_19_code
def yL_changeTime : MethodName := ⟨RL, "changeTime", "(LTankPlant;I[J)I"⟩
abbrev cL_changeSwitch : ByteArray := method_20_code
def yL_changeSwitch : MethodName := ⟨RL, "changeSwitch", "(LTankPlant;I[J)I"⟩
abbrev cL_save : ByteArray := method_21_code
def yL_save : MethodName := ⟨RL, "save", "(LTankPlant;[J)I"⟩
abbrev cL_restore : ByteArray := method_22_code
def yL_restore : MethodName := ⟨RL, "restore", "(LTankPlant;[J)I"⟩
abbrev cL_law : ByteArray := code
def yL_law : MethodName := ⟨RL, "law", "([I)Z"⟩
abbrev vwCl : List vw_C := [(RX0, TX0, 3), (RX1, TX1, 5), (RX2, TX2, 13), (RX3, TX3, 5), (RX4, TX4, 6), (RX5, TX5, 4), (RX6, TX6, 29)]
end
section
/-! ===== BEGIN words of one list among another's, by their places ===== -/
theorem goodIn_r {big : List Cond} (ws : List Cond) (ps : List Nat) (hp : ws = ps.filterMap (fun i => big[i]?)) (h : ws.all goodWord = true) : GoodIn big ws := by
  intro w hw
  have h1 := List.all_eq_true.mp h w hw
  rw [hp] at hw
  obtain ⟨i, -, hi⟩ := List.mem_filterMap.mp hw
  have hm : w ∈ big := by first | exact List.mem_of_getElem? hi | exact List.getElem?_mem hi
  exact ⟨hm, good_of_word h1⟩
theorem goodIn_app {big a b : List Cond} (ha : GoodIn big a) (hb : GoodIn big b) : GoodIn big (a ++ b) := fun w h => (List.mem_append.mp h).elim (ha w) (hb w)
theorem goodIn_ca {big a b : List Cond} {c : Cond} (ha : GoodIn big (c :: a)) (hb : GoodIn big b) : GoodIn big (c :: (a ++ b)) := fun w h => (List.mem_cons.mp h).elim (fun e => ha w (List.mem_cons.mpr (Or.inl e))) (fun h => (List.mem_append.mp h).elim (fun h => ha w (List.mem_cons.mpr (Or.inr h))) (hb w))
theorem goodIn_sub {big ws : List Cond} (hm : ∀ w ∈ ws, w ∈ big) (h : ws.all goodWord = true) : GoodIn big ws := fun w hw => ⟨hm w hw, good_of_word (List.all_eq_true.mp h w hw)⟩
/-! ===== END ===== -/
/-! ===== BEGIN exceptions that leave a method, and their catching by the caller (launches without stack traces) ===== -/
section VXA
/-! The laws vx_back, vx_callV, vx_callS, vx_callSW, vx_throw0, vx_throwS follow proofs of the library, with one case more: JvmDerived/Free/Laws.lean (Back.of_free), Shelf42/LK1.lean (callV, callS), Shelf/KitTraced.lean (throwNew0V, throwNewS). -/
/-- where a method has thrown q: the class by its name, the cell, what was written, the world -/
def vx_T (XC : String → State → State → Prop) (st : State) (q : Addr) (t : State) (mc ms : Nat) (free : Addr → Prop) : Prop :=
  ∃ (E : String) (ce : Cell) (L : List Loc), XC E st t ∧ t.heap[q]? = some ce ∧ ce.vm = .none ∧ st.vm.findClass E = some ce.cls ∧ st.WarmedH t.vm ∧ st.sameButNew ({ t with vm := st.vm } : State) L mc ms ∧ ∀ z ∈ L, free z.base
def vx_Q (Qc : Array Value → State → Outcome → State → Prop) (XC : String → State → State → Prop) (mc ms : Nat) (free : Addr → Prop) : Array Value → State → Outcome → State → Prop := fun a st o t =>
  (Qc a st o t ∧ ∃ L, FrameEnd st o t L mc ms ∧ ∀ q ∈ L, free q.base) ∨ ∃ q, o = .threw q ∧ vx_T XC st q t mc ms free
/-- a callee that returns or throws -/
def vx_Met (l : Launch) (y : MethodName) (ws : List Cond) (rm : Room) (Pc : Array Value → State → Prop) (Qc : Array Value → State → Outcome → State → Prop) (XC : String → State → State → Prop) (mc ms : Nat) (free : Addr → Prop) : Prop :=
  MetFree l y (headSpec ws rm) Pc (fun _ _ _ _ _ => True) (vx_Q Qc XC mc ms free)
def vx_Post (XC : String → State → State → Prop) (mc ms : Nat) (free : Addr → Prop) : Pt → Array Value → Addr → Pt → Prop := fun A a q B =>
  ∃ (g : JFrame) (mk : MethodId) (t : State) (L : List Loc) (E : String) (ce : Cell), B.U.heap = t.heap ∧ B.U.vm = t.vm ∧ XC E (A.U.calling g mk a) t ∧ t.heap[q]? = some ce ∧ ce.vm = .none ∧ A.U.vm.findClass E = some ce.cls ∧ B.locs = A.locs ++ L ∧ (∀ z ∈ L, free z.base) ∧ B.cells = A.cells + mc ∧ B.slots = A.slots + ms
def vx_Back (l : Launch) (R : Room) (p : Program) (e : Env) (below : List Frame) (s : State) (sargs : Array Value) (y : MethodName) (len W9 : Nat)
    (Pre : Pt → Array Value → Prop) (Post : Pt → Array Value → Option Value → Pt → Prop) (PostX : Pt → Array Value → Addr → Pt → Prop) : Prop :=
  ∀ (m : MethodId) (meth : Method) (c : Code) (A : Pt) (g : JFrame) (ig : Instr) (mk : MethodId) (a : Array Value),
    Stand p l e R s m sargs below meth c A.U A.locs A.cells A.slots → g.method = m → g.locals.size = c.maxLocals → decode c.code g.pc = .ok (ig, len) →
    2 * g.monitorRoom + (g.stack.map fun v => v.category).sum ≤ W9 → A.U.methodNamed? y = some mk → Pre A a →
    (∃ (v : Option Value) (B : Pt), Stand p l e R s m sargs below meth c B.U B.locs B.cells B.slots ∧ Post A a v B ∧
      Steps p.tables e below (doInvoke e (A.U.setTop g) [] mk a).1 (B.U.setTop { g with pc := g.pc + len, stack := v.toList ++ g.stack })) ∨
    (∃ (q : Addr) (B : Pt), Stand p l e R s m sargs below meth c B.U B.locs B.cells B.slots ∧ PostX A a q B ∧
      Steps p.tables e below (doInvoke e (A.U.setTop g) [] mk a).1 ((B.U.setTop g).pushFrame (.throwing q)))
section Payer
variable {l : Launch} {R : Room} {p : Program} {e : Env} {below : List Frame} {s : State} {sargs : Array Value} {y : MethodName} {len W9 : Nat}
theorem vx_back {ws : List Cond} {rm : Room} {Pc : Array Value → State → Prop} {Qc : Array Value → State → Outcome → State → Prop} {XC : String → State → State → Prop} {mc ms : Nat} {free : Addr → Prop} {bytes : ByteArray} {maxL : Nat} {ret : Option FieldType}
    (hM : vx_Met l y ws rm Pc Qc XC mc ms free) (hblind : FrameBlind Pc) (hrc : rm.cells = mc) (hrs : rm.slots = ms)
    (hframes : rm.frames + 1 ≤ R.frames) (hlocals : W9 + (maxL + 11) + rm.locals ≤ R.locals)
    (hws : ∀ w ∈ ws, ∀ a' U, s.WarmedH U.vm → w.before a' U = true) (hcode : Cond.code y bytes maxL ret ∈ ws) (hinit : ∀ a' U, s.WarmedH U.vm → (Cond.initialized y.cls).before a' U = true) :
    vx_Back l R p e below s sargs y len W9 (PreOf R mc ms Pc) (PostOf Qc mc ms free) (vx_Post XC mc ms free) := by
  intro m meth c A g ig mk a X hg hsize hdg hW hn hp
  have h1 : (headSpec ws rm).pre.before a A.U = true := atoms_intro fun w hw => hws w hw _ _ X.warmed
  have h2 : (Cond.code y bytes maxL ret).before a A.U = true := hws _ hcode _ _ X.warmed
  have h3 : (Cond.initialized y.cls).before a A.U = true := hinit _ _ X.warmed
  have h4 : A.cells + (headSpec ws rm).room.cells ≤ R.cells := by rw [show (headSpec ws rm).room.cells = mc from hrc]; exact hp.1
  have h5 : A.slots + (headSpec ws rm).room.slots ≤ R.slots := by rw [show (headSpec ws rm).room.slots = ms from hrs]; exact hp.2.1
  have hPc : Pc a (A.U.calling g mk a) := hblind _ _ _ _ hp.2.2
  obtain ⟨U, Ls, c0, s0⟩ := A
  dsimp only [Pt.U, Pt.locs, Pt.cells, Pt.slots] at h1 h2 h3 h4 h5 X hn hPc ⊢
  obtain ⟨methY, cY, hmY, hcY, -, hlY, -, -, -, -⟩ := Cond.code_spec hn h2
  obtain ⟨kY, hkY, -⟩ := className_of_methodNamed hn
  have hinitY : kY.init = .initialized := Cond.initialized_spec (findClass_of_methodNamed hn) hkY h3
  have h : At U g.method c below := by rw [hg]; exact X.here
  have hlocals9 : W9 + (maxL + 11) + (headSpec ws rm).room.locals ≤ R.locals := hlocals
  have happ : (headSpec ws rm).appliesLoose y e.platform (U.calling g mk a) = true :=
    Spec.appliesLoose_calling (g := g) h hdg hn hkY hinitY
      (X.room_calling (g := g) (R' := (headSpec ws rm).room) hsize hmY hcY hframes (by rw [hlY]; omega) h4 h5) h1
  obtain ⟨mid, hmid⟩ := h.above
  have hfr : (U.setTop g).frames = (.java g :: mid) ++ below := by rw [State.frames_setTop' g h.top, hmid]; rfl
  obtain ⟨o, s₂, hsteps, -, hend, hq⟩ := Steps.callFree hM p X.admits X.cas X.clock (acts := []) hfr happ hPc trivial
  have hq' : vx_Q Qc XC mc ms free a (U.calling g mk a) o s₂ := hq
  rw [State.frames_setTop' g h.top] at hend
  obtain ⟨g₀, hg0⟩ := Option.isSome_iff_exists.mp h.top
  obtain ⟨r, hr⟩ := State.topJava?_eq_some.mp hg0
  have hr' : (({ U with heap := s₂.heap, slotsUsed := s₂.slotsUsed } : State).setVm s₂.vm).frames = .java g₀ :: r := hr
  rcases hq' with ⟨hqc, L, hfe, hL⟩ | ⟨q, rfl, E, ce, L, hx, hce, hcv, hcl, hW₂, hsm, hL⟩
  · obtain ⟨⟨v, rfl⟩, hW₂, e2, q2, q3, q4, q5, q6⟩ := id hfe
    have e3 : s₂ = ({ (U.calling g mk a).setFrames s₂.frames with heap := s₂.heap, slotsUsed := s₂.slotsUsed } : State).setVm s₂.vm := by
      have : s₂ = ({ s₂ with vm := (U.calling g mk a).vm } : State).setVm s₂.vm := rfl
      rw [e2] at this
      exact this
    obtain ⟨c₂, i₂, len₂, hc₂, hd₂, hf₂⟩ := hend
    have hW' : U.WarmedH s₂.vm := hW₂
    have hcc : c₂ = c := by
      have h1 : s₂.code? g.method = U.code? g.method := by
        rw [State.code?_eq, State.code?_eq, hW'.alike.method?]
      exact Option.some.inj (hc₂.symm.trans (h1.trans h.code))
    subst hcc
    have hlen : len₂ = len := by rw [hdg] at hd₂; cases hd₂; rfl
    subst hlen
    have hs₂ : s₂ = (({ U with heap := s₂.heap, slotsUsed := s₂.slotsUsed } : State).setVm s₂.vm).setTop { g with pc := g.pc + len₂, stack := v.toList ++ g.stack } := by
      refine e3.trans ?_
      rw [hf₂, State.calling_eq h.top, State.setFrames_setFrames, State.setTop_of_frames _ hr', hr]
      rfl
    have hsame : U.sameButNew ({ U with heap := s₂.heap, slotsUsed := s₂.slotsUsed } : State) L mc ms := by
      refine ⟨?_, q2, q3, q4, q5, q6⟩
      obtain ⟨t, ht, -⟩ := State.frames_cons hr
      show ({ U with heap := s₂.heap, slotsUsed := s₂.slotsUsed } : State) = { U.setFrames U.frames with heap := s₂.heap, slotsUsed := s₂.slotsUsed }
      rw [State.setFrames_self ht]
    subst hg
    refine Or.inl ⟨v, ⟨(({ U with heap := s₂.heap, slotsUsed := s₂.slotsUsed } : State).setVm s₂.vm), Ls ++ L, c0 + mc, s0 + ms⟩,
      ⟨X.admits, X.cas, X.clock, X.frames, X.room, X.hears, X.method, X.code, (X.here.setHeapUsed s₂.heap s₂.slotsUsed).setVm hW'.alike, X.tail, State.WarmedH.trans X.warmed hW', X.limits, X.bytes, X.same.trans (hsame.setVm s.vm)⟩,
      ⟨g, mk, s₂, L, rfl, rfl, hqc, rfl, hL, rfl, rfl⟩, ?_⟩
    show Steps p.tables e below _ ((({ U with heap := s₂.heap, slotsUsed := s₂.slotsUsed } : State).setVm s₂.vm).setTop { g with pc := g.pc + len₂, stack := v.toList ++ g.stack })
    rw [← hs₂]
    exact hsteps
  · obtain ⟨e2, q2, q3, q4, q5, q6⟩ := id hsm
    have e3 : s₂ = ({ (U.calling g mk a).setFrames s₂.frames with heap := s₂.heap, slotsUsed := s₂.slotsUsed } : State).setVm s₂.vm := by
      have : s₂ = ({ s₂ with vm := (U.calling g mk a).vm } : State).setVm s₂.vm := rfl
      rw [e2] at this
      exact this
    have hf₂ : s₂.frames = .throwing q :: .java g :: U.frames.tail := hend
    have hW' : U.WarmedH s₂.vm := hW₂
    have hs₂ : s₂ = ((({ U with heap := s₂.heap, slotsUsed := s₂.slotsUsed } : State).setVm s₂.vm).setTop g).pushFrame (.throwing q) := by
      refine e3.trans ?_
      rw [hf₂, State.calling_eq h.top, State.setFrames_setFrames, State.pushFrame, State.frames_setTop _ hr', State.setTop_of_frames _ hr', State.setFrames_setFrames, hr]
      rfl
    have hsame : U.sameButNew ({ U with heap := s₂.heap, slotsUsed := s₂.slotsUsed } : State) L mc ms := by
      refine ⟨?_, q2, q3, q4, q5, q6⟩
      obtain ⟨t, ht, -⟩ := State.frames_cons hr
      show ({ U with heap := s₂.heap, slotsUsed := s₂.slotsUsed } : State) = { U.setFrames U.frames with heap := s₂.heap, slotsUsed := s₂.slotsUsed }
      rw [State.setFrames_self ht]
    subst hg
    refine Or.inr ⟨q, ⟨(({ U with heap := s₂.heap, slotsUsed := s₂.slotsUsed } : State).setVm s₂.vm), Ls ++ L, c0 + mc, s0 + ms⟩,
      ⟨X.admits, X.cas, X.clock, X.frames, X.room, X.hears, X.method, X.code, (X.here.setHeapUsed s₂.heap s₂.slotsUsed).setVm hW'.alike, X.tail, State.WarmedH.trans X.warmed hW', X.limits, X.bytes, X.same.trans (hsame.setVm s.vm)⟩,
      ⟨g, mk, s₂, L, E, ce, rfl, rfl, hx, hce, hcv, hcl, rfl, hL, rfl, rfl⟩, ?_⟩
    show Steps p.tables e below _ (((({ U with heap := s₂.heap, slotsUsed := s₂.slotsUsed } : State).setVm s₂.vm).setTop g).pushFrame (.throwing q))
    rw [← hs₂]
    exact hsteps
end Payer
section Calls
variable {p : Program} {l : Launch} {e : Env} {R : Room} {s : State} {m : MethodId} {args : Array Value} {below : List Frame} {meth : Method} {c : Code} {T : State} {locs : List Loc} {cells slots : Nat}
theorem vx_callV (X : Stand p l e R s m args below meth c T locs cells slots) (hexec : p.tables.exec = Jvm.exec) {own C : String} {index : Nat} {y : MethodName} {bytes : ByteArray} {maxL : Nat} {ret : Option FieldType}
    (hown : s.vm.findClass own = some m.cls) (hlink : (Cond.methodLink own index y).before args s = true) (hinst : (Cond.instanceMethod y).before args s = true) (hsel : (Cond.selects C y y).before args s = true)
    (hcode : (Cond.code y bytes maxL ret).before args s = true) (hy : y.cls ≠ "java/lang/invoke/MethodHandle" ∧ y.cls ≠ "java/lang/invoke/VarHandle")
    {W9 : Nat} {Pre : Pt → Array Value → Prop} {Post : Pt → Array Value → Option Value → Pt → Prop} {PostX : Pt → Array Value → Addr → Pt → Prop} (hK : vx_Back l R p e below s args y 3 W9 Pre Post PostX)
    {b : Addr} {cellB : Cell} (hcell : T.heap[b]? = some cellB) (hobj : cellB.vm.isStatics = false) (hcls : s.vm.findClass C = some cellB.cls)
    {g : JFrame} (hg : g.method = m) (hsize : g.locals.size = c.maxLocals) {argsL rest : List Value} (hlen : ∀ sig, parseMethodDescriptor y.desc = some sig → argsL.length = sig.parameters.length)
    (hstack : g.stack = argsL.reverse ++ .ref b :: rest) (hW : 2 * g.monitorRoom + (rest.map fun v => v.category).sum ≤ W9) (hdg : decode c.code g.pc = .ok (.invokevirtual index, 3))
    (hpre : ∀ vm₁, s.WarmedH vm₁ → Pre ⟨T.setVm vm₁, locs, cells, slots⟩ (Value.ref b :: argsL).toArray) :
    (∃ (v : Option Value) (vm₁ : Vm) (B : Pt), s.WarmedH vm₁ ∧ Stand p l e R s m args below meth c B.U B.locs B.cells B.slots ∧ Post ⟨T.setVm vm₁, locs, cells, slots⟩ (Value.ref b :: argsL).toArray v B ∧
      ∀ target, Steps p.tables e below (B.U.setTop { g with pc := g.pc + 3, stack := v.toList ++ rest }) target → Steps p.tables e below (T.setTop g) target) ∨
    (∃ (q : Addr) (vm₁ : Vm) (B : Pt), s.WarmedH vm₁ ∧ Stand p l e R s m args below meth c B.U B.locs B.cells B.slots ∧ PostX ⟨T.setVm vm₁, locs, cells, slots⟩ (Value.ref b :: argsL).toArray q B ∧
      Steps p.tables e below (T.setTop g) ((B.U.setTop { g with stack := rest }).pushFrame (.throwing q))) := by
  obtain ⟨mk, methM, hnamed, hmethM, hstM, habM⟩ := Cond.instanceMethod_spec hinst
  obtain ⟨methM', cM, hmethM', -, -, -, -, -, -, hsigM⟩ := Cond.code_spec hnamed hcode
  cases hmethM.symm.trans hmethM'
  obtain ⟨c2, r2, m2, q1, q2, q3, q4, kP, hkP, hkPi⟩ := Cond.selects_spec hsel
  cases hcls.symm.trans q1
  cases (State.methodFound?_of_named hnamed hy).symm.trans q2
  cases hnamed.symm.trans q3
  have hselP : selectMethod e.platform s.vm cellB.cls mk = .method mk := by rw [Launch.admits_selectMethod X.admits]; exact q4
  obtain ⟨vm₁, X₁, hstep₁⟩ := X.invokevirtual hexec hown hlink hnamed hmethM hstM hkP hkPi hy (a := b) (cell := cellB) hcell
    (fun z h => by rw [h] at hobj; cases hobj) hselP hmethM habM hkP hkPi (g := g) hg (argsL := argsL) (rest := rest) (hlen _ hsigM) hstack hdg
  rcases hK m meth c ⟨T.setVm vm₁, locs, cells, slots⟩ { g with stack := rest } (.invokevirtual index) mk (Value.ref b :: argsL).toArray X₁ hg hsize hdg hW (X₁.named hnamed) (hpre vm₁ X₁.warmed) with ⟨v, B, X', hpost, hsteps⟩ | ⟨q, B, X', hpost, hsteps⟩
  · exact Or.inl ⟨v, vm₁, B, X₁.warmed, X', hpost, fun target h => hstep₁ _ fun acts => by rw [doInvoke_state]; exact hsteps.trans h⟩
  · exact Or.inr ⟨q, vm₁, B, X₁.warmed, X', hpost, hstep₁ _ fun acts => by rw [doInvoke_state]; exact hsteps⟩
theorem vx_callS (X : Stand p l e R s m args below meth c T locs cells slots) (hexec : p.tables.exec = Jvm.exec) {own : String} {index : Nat} {y : MethodName} {bytes : ByteArray} {maxL : Nat} {ret : Option FieldType}
    (hown : s.vm.findClass own = some m.cls) (hlink : (Cond.methodLink own index y).before args s = true) (hstat : (Cond.static y).before args s = true) (hinit : (Cond.initialized y.cls).before args s = true)
    (hcode : (Cond.code y bytes maxL ret).before args s = true) (hy : y.cls ≠ "java/lang/invoke/MethodHandle" ∧ y.cls ≠ "java/lang/invoke/VarHandle")
    {W9 : Nat} {Pre : Pt → Array Value → Prop} {Post : Pt → Array Value → Option Value → Pt → Prop} {PostX : Pt → Array Value → Addr → Pt → Prop} (hK : vx_Back l R p e below s args y 3 W9 Pre Post PostX)
    {g : JFrame} (hg : g.method = m) (hsize : g.locals.size = c.maxLocals) {argsL rest : List Value} (hlen : ∀ sig, parseMethodDescriptor y.desc = some sig → argsL.length = sig.parameters.length)
    (hstack : g.stack = argsL.reverse ++ rest) (hW : 2 * g.monitorRoom + (rest.map fun v => v.category).sum ≤ W9) (hdg : decode c.code g.pc = .ok (.invokestatic index, 3))
    (hpre : ∀ vm₁, s.WarmedH vm₁ → Pre ⟨T.setVm vm₁, locs, cells, slots⟩ argsL.toArray) :
    (∃ (v : Option Value) (vm₁ : Vm) (B : Pt), s.WarmedH vm₁ ∧ Stand p l e R s m args below meth c B.U B.locs B.cells B.slots ∧ Post ⟨T.setVm vm₁, locs, cells, slots⟩ argsL.toArray v B ∧
      ∀ target, Steps p.tables e below (B.U.setTop { g with pc := g.pc + 3, stack := v.toList ++ rest }) target → Steps p.tables e below (T.setTop g) target) ∨
    (∃ (q : Addr) (vm₁ : Vm) (B : Pt), s.WarmedH vm₁ ∧ Stand p l e R s m args below meth c B.U B.locs B.cells B.slots ∧ PostX ⟨T.setVm vm₁, locs, cells, slots⟩ argsL.toArray q B ∧
      Steps p.tables e below (T.setTop g) ((B.U.setTop { g with stack := rest }).pushFrame (.throwing q))) := by
  obtain ⟨mk, hnamed⟩ := Cond.code_named hcode
  obtain ⟨methM, cM, hmethM, -, -, -, -, -, -, hsigM⟩ := Cond.code_spec hnamed hcode
  have hstatic : methM.isStatic = true := Cond.static_spec hnamed hmethM hstat
  obtain ⟨kP, hkP, -⟩ := className_of_methodNamed hnamed
  have hinitP : kP.init = .initialized := Cond.initialized_spec (findClass_of_methodNamed hnamed) hkP hinit
  obtain ⟨vm₁, X₁, hstep₁⟩ := X.invokestatic hexec hown hlink hnamed hmethM hstatic hkP hinitP hy (g := g) hg (argsL := argsL) (rest := rest) (hlen _ hsigM) hstack hdg
  rcases hK m meth c ⟨T.setVm vm₁, locs, cells, slots⟩ { g with stack := rest } (.invokestatic index) mk argsL.toArray X₁ hg hsize hdg hW (X₁.named hnamed) (hpre vm₁ X₁.warmed) with ⟨v, B, X', hpost, hsteps⟩ | ⟨q, B, X', hpost, hsteps⟩
  · exact Or.inl ⟨v, vm₁, B, X₁.warmed, X', hpost, fun target h => hstep₁ _ fun acts => by rw [doInvoke_state]; exact hsteps.trans h⟩
  · exact Or.inr ⟨q, vm₁, B, X₁.warmed, X', hpost, hstep₁ _ fun acts => by rw [doInvoke_state]; exact hsteps⟩
end Calls
theorem vx_cls {s : State} {T : State} {vm₁ : Vm} {E : String} {k : ClassId} (hW : s.WarmedH vm₁) (h : (T.setVm vm₁).vm.findClass E = some k) : s.vm.findClass E = some k := by
  have h1 : vm₁.findClass E = some k := h
  rw [hW.alike.findClass] at h1
  exact h1
/-- the method's frame g, with q thrown over it -/
def vx_W (p : Program) (l : Launch) (e : Env) (R : Room) (s : State) (m : MethodId) (args : Array Value) (below : List Frame) (meth : Method) (c : Code) (H : Heap) (locs : List Loc) (cells slots : Nat) (Q : State → Prop) (g : JFrame) (q : Addr) : Prop :=
  ∀ T : State, T.heap = H → Stand p l e R s m args below meth c T locs cells slots → ∃ t, Steps p.tables e below ((T.setTop g).pushFrame (.throwing q)) t ∧ Q t
def vx_Run (p : Program) (l : Launch) (e : Env) (R : Room) (s : State) (m : MethodId) (args : Array Value) (below : List Frame) (meth : Method) (c : Code) (H : Heap) (locs : List Loc) (cells slots mc ms : Nat) (g : JFrame) (rest : List Value) (Qa : State → Outcome → State → Prop) (XC : String → State → State → Prop) (free : Addr → Prop) : Prop :=
  ∀ T : State, T.heap = H → Stand p l e R s m args below meth c T locs cells slots →
    (∃ (v : Option Value) (st₀ t T' : State) (L : List Loc), st₀.heap = H ∧ Stand p l e R s m args below meth c T' (locs ++ L) (cells + mc) (slots + ms) ∧ (∀ q ∈ L, free q.base) ∧ T'.heap = t.heap ∧ T'.vm = t.vm ∧ Qa st₀ (.returned v) t ∧
      Goes p e below T g T' { g with pc := g.pc + 3, stack := v.toList ++ rest }) ∨
    (∃ (q : Addr) (st₀ t T' : State) (L : List Loc) (E : String) (ce : Cell), st₀.heap = H ∧ Stand p l e R s m args below meth c T' (locs ++ L) (cells + mc) (slots + ms) ∧ (∀ z ∈ L, free z.base) ∧ T'.heap = t.heap ∧ T'.vm = t.vm ∧ XC E st₀ t ∧ t.heap[q]? = some ce ∧ ce.vm = .none ∧ s.vm.findClass E = some ce.cls ∧
      Steps p.tables e below (T.setTop g) ((T'.setTop { g with stack := rest }).pushFrame (.throwing q)))
def vx_X {S : Type} (px : S → Prop) (B : String → S → State → Prop) (A : Nat → Prop) : String → State → State → Prop := fun E st t => ∃ u : S, px u ∧ B E u t ∧ va_F A st t
section Runs
variable {p : Program} {l : Launch} {e : Env} {R : Room} {s : State} {m : MethodId} {args : Array Value} {below : List Frame} {meth : Method} {c : Code} {H : Heap} {locs : List Loc} {cells slots : Nat}
variable {y : MethodName} {bytes cc : ByteArray} {maxL nL mc ms n index : Nat} {ret : Option FieldType} {ws : List Cond} {rm : Room} {Pc : Array Value → State → Prop} {Qc : Array Value → State → Outcome → State → Prop} {XC : String → State → State → Prop} {free : Addr → Prop} {Ts : List Cond} {own C : String} {b : Addr} {As rest : List Value} {g : JFrame}
theorem vx_callBack (cb : CallB R s args own index y bytes maxL ret ws rm mc ms n) (hM : vx_Met l y ws rm Pc Qc XC mc ms free) (hbl : FrameBlind Pc) : vx_Back l R p e below s args y 3 8 (PreOf R mc ms Pc) (PostOf Qc mc ms free) (vx_Post XC mc ms free) := by
  obtain ⟨hrc, hrs, hfr, hlo, hws, hcw, -, hini, -⟩ := cb
  exact vx_back (bytes := bytes) (maxL := maxL) (ret := ret) hM hbl hrc hrs hfr hlo hws hcw (fun a' U hW => word_at hW (Or.inl (by first | rfl | simp [Cond.onTables, Cond.keeps, Cond.steady])) hini)
theorem vx_runV (S : CallFix p m c cc nL s args Ts own) (hM : vx_Met l y ws rm Pc Qc XC mc ms free) (cw : CallW R s args own C index y bytes maxL ret ws rm mc ms n) (hp : PreV s H C b Pc As)
    (hg : g.method = m) (hn : As.length = n) (hsize : g.locals.size = nL) (hstack : g.stack = As.reverse ++ .ref b :: rest) (hW : 2 * g.monitorRoom + (rest.map fun v => v.category).sum ≤ 8) (hdg : decode cc g.pc = .ok (.invokevirtual index, 3)) (hf : cells + mc ≤ R.cells ∧ slots + ms ≤ R.slots) :
    vx_Run p l e R s m args below meth c H locs cells slots mc ms g rest (Qc (Value.ref b :: As).toArray) XC free := by
  have hK : vx_Back l R p e below s args y 3 8 (PreOf R mc ms Pc) (PostOf Qc mc ms free) (vx_Post XC mc ms free) := vx_callBack cw.1 hM hp.1
  obtain ⟨⟨-, -, -, -, -, -, hcode, -, hy, hlen, hl⟩, hin, hse⟩ := cw
  obtain ⟨hx, hb, hml, ho, -⟩ := S
  obtain ⟨-, ⟨cellB, hcB, hoB, hclB⟩, hPc⟩ := hp
  intro T hT X
  rcases vx_callV X hx (C := C) (bytes := bytes) (maxL := maxL) (ret := ret) ho hl hin hse hcode hy hK (by rw [hT]; exact hcB) hoB hclB hg (hsize.trans hml.symm) (argsL := As) (rest := rest) (fun sig h => hn.trans (hlen sig h)) hstack hW (by rw [hb]; exact hdg)
    (fun vm₁ hW₁ => ⟨hf.1, hf.2, hPc (T.setVm vm₁) hT hW₁⟩) with ⟨v, vm₁, ⟨U', l2, c2, s2⟩, hW₁, X', ⟨g', mk, t, L, e1, e2, hq, h1, hL, h2, h3⟩, st⟩ | ⟨q, vm₁, ⟨U', l2, c2, s2⟩, hW₁, X', ⟨g', mk, t, L, E, ce, e1, e2, hq, hce, hcv, hcl, h1, hL, h2, h3⟩, st⟩
  · dsimp only [Pt.U, Pt.locs, Pt.cells, Pt.slots] at X' e1 e2 h1 h2 h3 st
    subst h1; subst h2; subst h3
    exact Or.inl ⟨v, (T.setVm vm₁).calling g' mk (Value.ref b :: As).toArray, t, U', L, hT, X', hL, e1, e2, hq, st⟩
  · dsimp only [Pt.U, Pt.locs, Pt.cells, Pt.slots] at X' e1 e2 h1 h2 h3 st hcl
    subst h1; subst h2; subst h3
    exact Or.inr ⟨q, (T.setVm vm₁).calling g' mk (Value.ref b :: As).toArray, t, U', L, E, ce, hT, X', hL, e1, e2, hq, hce, hcv, vx_cls hW₁ hcl, st⟩
theorem vx_runS (S : CallFix p m c cc nL s args Ts own) (hM : vx_Met l y ws rm Pc Qc XC mc ms free) (cw : CallB R s args own index y bytes maxL ret ws rm mc ms n ∧ (Cond.static y).before args s = true) (hp : PreS s H Pc As)
    (hg : g.method = m) (hn : As.length = n) (hsize : g.locals.size = nL) (hstack : g.stack = As.reverse ++ rest) (hW : 2 * g.monitorRoom + (rest.map fun v => v.category).sum ≤ 8) (hdg : decode cc g.pc = .ok (.invokestatic index, 3)) (hf : cells + mc ≤ R.cells ∧ slots + ms ≤ R.slots) :
    vx_Run p l e R s m args below meth c H locs cells slots mc ms g rest (Qc As.toArray) XC free := by
  have hK : vx_Back l R p e below s args y 3 8 (PreOf R mc ms Pc) (PostOf Qc mc ms free) (vx_Post XC mc ms free) := vx_callBack cw.1 hM hp.1
  obtain ⟨⟨-, -, -, -, -, -, hcode, hini, hy, hlen, hl⟩, hstt⟩ := cw
  obtain ⟨hx, hb, hml, ho, -⟩ := S
  intro T hT X
  rcases vx_callS X hx (bytes := bytes) (maxL := maxL) (ret := ret) ho hl hstt hini hcode hy hK hg (hsize.trans hml.symm) (argsL := As) (rest := rest) (fun sig h => hn.trans (hlen sig h)) hstack hW (by rw [hb]; exact hdg)
    (fun vm₁ hW₁ => ⟨hf.1, hf.2, hp.2 (T.setVm vm₁) hT hW₁⟩) with ⟨v, vm₁, ⟨U', l2, c2, s2⟩, hW₁, X', ⟨g', mk, t, L, e1, e2, hq, h1, hL, h2, h3⟩, st⟩ | ⟨q, vm₁, ⟨U', l2, c2, s2⟩, hW₁, X', ⟨g', mk, t, L, E, ce, e1, e2, hq, hce, hcv, hcl, h1, hL, h2, h3⟩, st⟩
  · dsimp only [Pt.U, Pt.locs, Pt.cells, Pt.slots] at X' e1 e2 h1 h2 h3 st
    subst h1; subst h2; subst h3
    exact Or.inl ⟨v, (T.setVm vm₁).calling g' mk As.toArray, t, U', L, hT, X', hL, e1, e2, hq, st⟩
  · dsimp only [Pt.U, Pt.locs, Pt.cells, Pt.slots] at X' e1 e2 h1 h2 h3 st hcl
    subst h1; subst h2; subst h3
    exact Or.inr ⟨q, (T.setVm vm₁).calling g' mk As.toArray, t, U', L, E, ce, hT, X', hL, e1, e2, hq, hce, hcv, vx_cls hW₁ hcl, st⟩
end Runs
section Rows
variable {p : Program} {l : Launch} {e : Env} {R : Room} {s : State} {m : MethodId} {args : Array Value} {below : List Frame} {meth : Method} {c : Code} {H : Heap} {locs : List Loc} {cells slots : Nat} {Q : State → Prop}
variable {mc ms : Nat} {free : Addr → Prop} {A0 A1 : Nat → Prop} {H0 : Heap} {a : Array Value} {pc : Nat} {ls : Array Slot} {st0 rest : List Value}
theorem vx_keep {st₀ t T' : State} {L : List Loc} (h0 : st₀.heap = H) (e1 : T'.heap = t.heap) (hS : va_S A0 H0 H locs) (hA : ∀ q, q < H.size → A1 q → A0 q) (hf : ∀ q, free q → A0 q) (hL : ∀ q ∈ L, free q.base) (hF : va_F A1 st₀ t) :
    H.size ≤ T'.heap.size ∧ (∀ q : Nat, q < H.size → ¬ A1 q → T'.heap[q]? = H[q]?) ∧ va_S A0 H0 T'.heap (locs ++ L) := by
  obtain ⟨hz, hk⟩ := hF
  rw [h0] at hz hk
  exact ⟨by rw [e1]; exact hz, fun q h1 h2 => by rw [e1]; exact hk q h1 h2,
    ⟨Nat.le_trans hS.1 (by rw [e1]; exact hz), fun q h1 h2 => by rw [e1, hk q (Nat.lt_of_lt_of_le h1 hS.1) (fun z => h2 (hA q (Nat.lt_of_lt_of_le h1 hS.1) z))]; exact hS.2.1 q h1 h2, fun q hq => by
      rcases List.mem_append.mp hq with h | h
      · exact hS.2.2 q h
      · exact hf _ (hL q h)⟩⟩
theorem vx_calli {S SX : Type} {post : Int32 → S → Prop} {px : SX → Prop} {B : S → State → Prop} {BX : String → SX → State → Prop} {AX : Nat → Prop} (hr : vx_Run p l e R s m args below meth c H locs cells slots mc ms (F0 m pc ls st0) rest (va_Qi post B A1 a) (vx_X px BX AX) free) (hS : va_S A0 H0 H locs) (hA : ∀ q, q < H.size → A1 q → A0 q) (hf : ∀ q, free q → A0 q) (hAX : ∀ q, q < H.size → AX q → A0 q)
    (kx : ∀ (E : String) (ce : Cell) (q9 : Addr) (u : SX) (t : State) (H1 : Heap) (locs1 : List Loc), t.heap = H1 → s.vm.Alike t.vm → px u → BX E u t → H.size ≤ H1.size → (∀ q : Nat, q < H.size → ¬ AX q → H1[q]? = H[q]?) → va_S A0 H0 H1 locs1 → H1[q9]? = some ce → ce.vm = .none → s.vm.findClass E = some ce.cls → vx_W p l e R s m args below meth c H1 locs1 (cells + mc) (slots + ms) Q (F0 m pc ls rest) q9)
    (kk : ∀ (r : Int32) (u : S) (t : State) (H1 : Heap) (locs1 : List Loc), t.heap = H1 → s.vm.Alike t.vm → post r u → B u t → H.size ≤ H1.size → (∀ q : Nat, q < H.size → ¬ A1 q → H1[q]? = H[q]?) → va_S A0 H0 H1 locs1 → W p l e R s m args below meth c H1 locs1 (cells + mc) (slots + ms) Q (F0 m (pc + 3) ls (.int r :: rest))) : W p l e R s m args below meth c H locs cells slots Q (F0 m pc ls st0) := by
  intro T hT X
  rcases hr T hT X with ⟨v, st₀, t, T', L, h0, X', hL, e1, e2, ⟨⟨r, u, hv, hp, hb⟩, hF⟩, st⟩ | ⟨q, st₀, t, T', L, E, ce, h0, X', hL, e1, e2, ⟨u, hp, hb, hF⟩, hce, hcv, hcl, st⟩
  · cases hv
    obtain ⟨k1, k2, k3⟩ := vx_keep h0 e1 hS hA hf hL hF
    obtain ⟨t2, a1, b1⟩ := kk r u t T'.heap (locs ++ L) e1.symm (by rw [← e2]; exact X'.warmed.alike) hp hb k1 k2 k3 T' rfl X'
    exact ⟨t2, st t2 a1, b1⟩
  · obtain ⟨k1, k2, k3⟩ := vx_keep h0 e1 hS hAX hf hL hF
    obtain ⟨t2, a1, b1⟩ := kx E ce q u t T'.heap (locs ++ L) e1.symm (by rw [← e2]; exact X'.warmed.alike) hp hb k1 k2 k3 (by rw [e1]; exact hce) hcv hcl T' rfl X'
    exact ⟨t2, st.trans a1, b1⟩
theorem vx_calll {S SX : Type} {post : Int64 → S → Prop} {px : SX → Prop} {B : S → State → Prop} {BX : String → SX → State → Prop} {AX : Nat → Prop} (hr : vx_Run p l e R s m args below meth c H locs cells slots mc ms (F0 m pc ls st0) rest (va_Ql post B A1 a) (vx_X px BX AX) free) (hS : va_S A0 H0 H locs) (hA : ∀ q, q < H.size → A1 q → A0 q) (hf : ∀ q, free q → A0 q) (hAX : ∀ q, q < H.size → AX q → A0 q)
    (kx : ∀ (E : String) (ce : Cell) (q9 : Addr) (u : SX) (t : State) (H1 : Heap) (locs1 : List Loc), t.heap = H1 → s.vm.Alike t.vm → px u → BX E u t → H.size ≤ H1.size → (∀ q : Nat, q < H.size → ¬ AX q → H1[q]? = H[q]?) → va_S A0 H0 H1 locs1 → H1[q9]? = some ce → ce.vm = .none → s.vm.findClass E = some ce.cls → vx_W p l e R s m args below meth c H1 locs1 (cells + mc) (slots + ms) Q (F0 m pc ls rest) q9)
    (kk : ∀ (r : Int64) (u : S) (t : State) (H1 : Heap) (locs1 : List Loc), t.heap = H1 → s.vm.Alike t.vm → post r u → B u t → H.size ≤ H1.size → (∀ q : Nat, q < H.size → ¬ A1 q → H1[q]? = H[q]?) → va_S A0 H0 H1 locs1 → W p l e R s m args below meth c H1 locs1 (cells + mc) (slots + ms) Q (F0 m (pc + 3) ls (.long r :: rest))) : W p l e R s m args below meth c H locs cells slots Q (F0 m pc ls st0) := by
  intro T hT X
  rcases hr T hT X with ⟨v, st₀, t, T', L, h0, X', hL, e1, e2, ⟨⟨r, u, hv, hp, hb⟩, hF⟩, st⟩ | ⟨q, st₀, t, T', L, E, ce, h0, X', hL, e1, e2, ⟨u, hp, hb, hF⟩, hce, hcv, hcl, st⟩
  · cases hv
    obtain ⟨k1, k2, k3⟩ := vx_keep h0 e1 hS hA hf hL hF
    obtain ⟨t2, a1, b1⟩ := kk r u t T'.heap (locs ++ L) e1.symm (by rw [← e2]; exact X'.warmed.alike) hp hb k1 k2 k3 T' rfl X'
    exact ⟨t2, st t2 a1, b1⟩
  · obtain ⟨k1, k2, k3⟩ := vx_keep h0 e1 hS hAX hf hL hF
    obtain ⟨t2, a1, b1⟩ := kx E ce q u t T'.heap (locs ++ L) e1.symm (by rw [← e2]; exact X'.warmed.alike) hp hb k1 k2 k3 (by rw [e1]; exact hce) hcv hcl T' rfl X'
    exact ⟨t2, st.trans a1, b1⟩
theorem vx_callf {S SX : Type} {post : UInt32 → S → Prop} {px : SX → Prop} {B : S → State → Prop} {BX : String → SX → State → Prop} {AX : Nat → Prop} (hr : vx_Run p l e R s m args below meth c H locs cells slots mc ms (F0 m pc ls st0) rest (va_Qf post B A1 a) (vx_X px BX AX) free) (hS : va_S A0 H0 H locs) (hA : ∀ q, q < H.size → A1 q → A0 q) (hf : ∀ q, free q → A0 q) (hAX : ∀ q, q < H.size → AX q → A0 q)
    (kx : ∀ (E : String) (ce : Cell) (q9 : Addr) (u : SX) (t : State) (H1 : Heap) (locs1 : List Loc), t.heap = H1 → s.vm.Alike t.vm → px u → BX E u t → H.size ≤ H1.size → (∀ q : Nat, q < H.size → ¬ AX q → H1[q]? = H[q]?) → va_S A0 H0 H1 locs1 → H1[q9]? = some ce → ce.vm = .none → s.vm.findClass E = some ce.cls → vx_W p l e R s m args below meth c H1 locs1 (cells + mc) (slots + ms) Q (F0 m pc ls rest) q9)
    (kk : ∀ (r : UInt32) (u : S) (t : State) (H1 : Heap) (locs1 : List Loc), t.heap = H1 → s.vm.Alike t.vm → post r u → B u t → H.size ≤ H1.size → (∀ q : Nat, q < H.size → ¬ A1 q → H1[q]? = H[q]?) → va_S A0 H0 H1 locs1 → W p l e R s m args below meth c H1 locs1 (cells + mc) (slots + ms) Q (F0 m (pc + 3) ls (.float r :: rest))) : W p l e R s m args below meth c H locs cells slots Q (F0 m pc ls st0) := by
  intro T hT X
  rcases hr T hT X with ⟨v, st₀, t, T', L, h0, X', hL, e1, e2, ⟨⟨r, u, hv, hp, hb⟩, hF⟩, st⟩ | ⟨q, st₀, t, T', L, E, ce, h0, X', hL, e1, e2, ⟨u, hp, hb, hF⟩, hce, hcv, hcl, st⟩
  · cases hv
    obtain ⟨k1, k2, k3⟩ := vx_keep h0 e1 hS hA hf hL hF
    obtain ⟨t2, a1, b1⟩ := kk r u t T'.heap (locs ++ L) e1.symm (by rw [← e2]; exact X'.warmed.alike) hp hb k1 k2 k3 T' rfl X'
    exact ⟨t2, st t2 a1, b1⟩
  · obtain ⟨k1, k2, k3⟩ := vx_keep h0 e1 hS hAX hf hL hF
    obtain ⟨t2, a1, b1⟩ := kx E ce q u t T'.heap (locs ++ L) e1.symm (by rw [← e2]; exact X'.warmed.alike) hp hb k1 k2 k3 (by rw [e1]; exact hce) hcv hcl T' rfl X'
    exact ⟨t2, st.trans a1, b1⟩
theorem vx_calld {S SX : Type} {post : UInt64 → S → Prop} {px : SX → Prop} {B : S → State → Prop} {BX : String → SX → State → Prop} {AX : Nat → Prop} (hr : vx_Run p l e R s m args below meth c H locs cells slots mc ms (F0 m pc ls st0) rest (va_Qd post B A1 a) (vx_X px BX AX) free) (hS : va_S A0 H0 H locs) (hA : ∀ q, q < H.size → A1 q → A0 q) (hf : ∀ q, free q → A0 q) (hAX : ∀ q, q < H.size → AX q → A0 q)
    (kx : ∀ (E : String) (ce : Cell) (q9 : Addr) (u : SX) (t : State) (H1 : Heap) (locs1 : List Loc), t.heap = H1 → s.vm.Alike t.vm → px u → BX E u t → H.size ≤ H1.size → (∀ q : Nat, q < H.size → ¬ AX q → H1[q]? = H[q]?) → va_S A0 H0 H1 locs1 → H1[q9]? = some ce → ce.vm = .none → s.vm.findClass E = some ce.cls → vx_W p l e R s m args below meth c H1 locs1 (cells + mc) (slots + ms) Q (F0 m pc ls rest) q9)
    (kk : ∀ (r : UInt64) (u : S) (t : State) (H1 : Heap) (locs1 : List Loc), t.heap = H1 → s.vm.Alike t.vm → post r u → B u t → H.size ≤ H1.size → (∀ q : Nat, q < H.size → ¬ A1 q → H1[q]? = H[q]?) → va_S A0 H0 H1 locs1 → W p l e R s m args below meth c H1 locs1 (cells + mc) (slots + ms) Q (F0 m (pc + 3) ls (.double r :: rest))) : W p l e R s m args below meth c H locs cells slots Q (F0 m pc ls st0) := by
  intro T hT X
  rcases hr T hT X with ⟨v, st₀, t, T', L, h0, X', hL, e1, e2, ⟨⟨r, u, hv, hp, hb⟩, hF⟩, st⟩ | ⟨q, st₀, t, T', L, E, ce, h0, X', hL, e1, e2, ⟨u, hp, hb, hF⟩, hce, hcv, hcl, st⟩
  · cases hv
    obtain ⟨k1, k2, k3⟩ := vx_keep h0 e1 hS hA hf hL hF
    obtain ⟨t2, a1, b1⟩ := kk r u t T'.heap (locs ++ L) e1.symm (by rw [← e2]; exact X'.warmed.alike) hp hb k1 k2 k3 T' rfl X'
    exact ⟨t2, st t2 a1, b1⟩
  · obtain ⟨k1, k2, k3⟩ := vx_keep h0 e1 hS hAX hf hL hF
    obtain ⟨t2, a1, b1⟩ := kx E ce q u t T'.heap (locs ++ L) e1.symm (by rw [← e2]; exact X'.warmed.alike) hp hb k1 k2 k3 (by rw [e1]; exact hce) hcv hcl T' rfl X'
    exact ⟨t2, st.trans a1, b1⟩
theorem vx_callv {S SX : Type} {post : S → Prop} {px : SX → Prop} {B : S → State → Prop} {BX : String → SX → State → Prop} {AX : Nat → Prop} (hr : vx_Run p l e R s m args below meth c H locs cells slots mc ms (F0 m pc ls st0) rest (va_Qv post B A1 a) (vx_X px BX AX) free) (hS : va_S A0 H0 H locs) (hA : ∀ q, q < H.size → A1 q → A0 q) (hf : ∀ q, free q → A0 q) (hAX : ∀ q, q < H.size → AX q → A0 q)
    (kx : ∀ (E : String) (ce : Cell) (q9 : Addr) (u : SX) (t : State) (H1 : Heap) (locs1 : List Loc), t.heap = H1 → s.vm.Alike t.vm → px u → BX E u t → H.size ≤ H1.size → (∀ q : Nat, q < H.size → ¬ AX q → H1[q]? = H[q]?) → va_S A0 H0 H1 locs1 → H1[q9]? = some ce → ce.vm = .none → s.vm.findClass E = some ce.cls → vx_W p l e R s m args below meth c H1 locs1 (cells + mc) (slots + ms) Q (F0 m pc ls rest) q9)
    (kk : ∀ (u : S) (t : State) (H1 : Heap) (locs1 : List Loc), t.heap = H1 → s.vm.Alike t.vm → post u → B u t → H.size ≤ H1.size → (∀ q : Nat, q < H.size → ¬ A1 q → H1[q]? = H[q]?) → va_S A0 H0 H1 locs1 → W p l e R s m args below meth c H1 locs1 (cells + mc) (slots + ms) Q (F0 m (pc + 3) ls (rest))) : W p l e R s m args below meth c H locs cells slots Q (F0 m pc ls st0) := by
  intro T hT X
  rcases hr T hT X with ⟨v, st₀, t, T', L, h0, X', hL, e1, e2, ⟨⟨u, hv, hp, hb⟩, hF⟩, st⟩ | ⟨q, st₀, t, T', L, E, ce, h0, X', hL, e1, e2, ⟨u, hp, hb, hF⟩, hce, hcv, hcl, st⟩
  · cases hv
    obtain ⟨k1, k2, k3⟩ := vx_keep h0 e1 hS hA hf hL hF
    obtain ⟨t2, a1, b1⟩ := kk u t T'.heap (locs ++ L) e1.symm (by rw [← e2]; exact X'.warmed.alike) hp hb k1 k2 k3 T' rfl X'
    exact ⟨t2, st t2 a1, b1⟩
  · obtain ⟨k1, k2, k3⟩ := vx_keep h0 e1 hS hAX hf hL hF
    obtain ⟨t2, a1, b1⟩ := kx E ce q u t T'.heap (locs ++ L) e1.symm (by rw [← e2]; exact X'.warmed.alike) hp hb k1 k2 k3 (by rw [e1]; exact hce) hcv hcl T' rfl X'
    exact ⟨t2, st.trans a1, b1⟩
/-- caught by the row x of this method's table; the rows ahead don't take it -/
theorem vx_catch {own name : String} {E : String} {ce : Cell} {q : Addr} (hown : s.vm.findClass own = some m.cls) (pre : List ExceptionTableEntry) (x : ExceptionTableEntry) (suf : List ExceptionTableEntry) (hsplit : c.exceptionTable.toList = pre ++ x :: suf)
    (hpass : ∀ z ∈ pre, covers z pc = false ∨ (z.catchType ≠ 0 ∧ ∃ nm : String, (Cond.classLink own z.catchType nm).before args s = true ∧ va_Nc E nm s)) (hx : covers x pc = true) (h0 : x.catchType ≠ 0)
    (hlink : (Cond.classLink own x.catchType name).before args s = true) (hcast : (Cond.castable E name).before args s = true) (hcell : H[q]? = some ce) (hv : ce.vm = .none) (hcl : s.vm.findClass E = some ce.cls)
    (kk : W p l e R s m args below meth c H locs cells slots Q (F0 m x.handlerPc ls [.ref q])) : vx_W p l e R s m args below meth c H locs cells slots Q (F0 m pc ls rest) q := by
  intro T hT X
  have hpl : e.platform.magicAccessors = ({} : Platform).magicAccessors := by rw [X.admits.platform]
  obtain ⟨c3, c4, hc3, hc4, hasg⟩ := Cond.castable_spec hcast
  cases Option.some.inj (hc3.symm.trans hcl)
  obtain ⟨c5, hc5, hcl5⟩ := Cond.classLink_spec hown hlink e.platform hpl
  cases Option.some.inj (hc4.symm.trans hc5)
  obtain ⟨vm', X', st⟩ := X.thenCaughtThrough q (g := F0 m pc ls rest) rfl (Steps.refl _) (by rw [hT]; exact hcell) (by rw [hv]; rfl) (by obtain ⟨k9, h9, -⟩ := Vm.findClass_spec hcl; exact ⟨k9, h9⟩) pre x suf hsplit
    (fun z hz => by
      rcases hpass z hz with h | ⟨hz0, nm, hl1, hn1⟩
      · exact Or.inl h
      · obtain ⟨c6, hc6, hcl6⟩ := Cond.classLink_spec hown hl1 e.platform hpl
        obtain ⟨a8, b8, h1, h2, h3⟩ := hn1
        cases Option.some.inj (h1.symm.trans hcl)
        cases Option.some.inj (h2.symm.trans hc6)
        exact Or.inr ⟨hz0, _, hcl6, h3⟩) hx (Or.inr ⟨h0, c4, hcl5, hasg⟩)
  obtain ⟨t, a1, b1⟩ := kk (T.setVm vm') hT X'
  exact ⟨t, st.trans a1, b1⟩
end Rows
section Ends
variable {p : Program} {l : Launch} {e : Env} {R : Room} {s : State} {m : MethodId} {args : Array Value} {below : List Frame} {meth : Method} {c : Code} {H : Heap} {locs : List Loc} {cells slots : Nat} {Q : State → Prop}
variable {mc ms : Nat} {free : Addr → Prop} {A0 A1 : Nat → Prop} {H0 : Heap} {a : Array Value} {ls : Array Slot} {st0 rest : List Value}
variable {Qc : Array Value → State → Outcome → State → Prop} {XC : String → State → State → Prop}
/-- what a body that may throw owes at its end -/
def vx_MQ (below : List Frame) (Qc : Array Value → State → Outcome → State → Prop) (XC : String → State → State → Prop) (a : Array Value) (s : State) (mc ms : Nat) (free : Addr → Prop) : State → Prop := fun t =>
  ∃ o, t.status = .running ∧ Ended t below o ∧ vx_Q Qc XC mc ms free a s o t
theorem vx_ret {g : JFrame} {mc ms : Nat} (k : W p l e R s m args below meth c H locs cells slots (MQ below Qc args s mc ms free) g) : W p l e R s m args below meth c H locs cells slots (vx_MQ below Qc XC args s mc ms free) g := by
  intro T hT X
  obtain ⟨t, a1, o, b1, b2, b3, b4⟩ := k T hT X
  exact ⟨t, a1, o, b1, b2, Or.inl ⟨b3, b4⟩⟩
/-- not caught here: it goes on to the caller -/
theorem vx_widen {g : JFrame} {q : Addr} {k n : Nat} (h1 : cells ≤ k) (h2 : slots ≤ n) (kk : vx_W p l e R s m args below meth c H locs k n Q g q) : vx_W p l e R s m args below meth c H locs cells slots Q g q := fun T hT X => kk T hT (stand_widen X h1 h2)
theorem vx_out {pc : Nat} {E : String} {ce : Cell} {q : Addr} {mc ms : Nat} (hout : ∀ x ∈ c.exceptionTable.toList, covers x pc = false) (hlocks : meth.locks = false) (hcell : H[q]? = some ce) (hv : ce.vm = .none) (hcl : s.vm.findClass E = some ce.cls)
    (hx : ∀ t : State, t.heap = H → s.vm.Alike t.vm → XC E s t) (hf : ∀ z ∈ locs, free z.base) (hc : cells ≤ mc) (hs : slots ≤ ms) :
    vx_W p l e R s m args below meth c H locs cells slots (vx_MQ below Qc XC args s mc ms free) (F0 m pc ls rest) q := by
  intro T hT X
  obtain ⟨st1, hrun, hend, hW, hsm⟩ := X.leaveThrown q (g := F0 m pc ls rest) rfl rfl rfl hout hlocks
  have hcell9 : (T.setFrames (.throwing q :: below)).heap[q]? = some ce := by
    show T.heap[q]? = some ce
    rw [hT]; exact hcell
  exact ⟨_, st1, .threw q, hrun, hend, Or.inr ⟨q, rfl, E, ce, locs, hx _ hT hW.alike, hcell9, hv, hcl, hW, hsm.mono hc hs, hf⟩⟩
theorem vx_frame {U : State} {k n : Nat} (h : s.sameButNew ({ U with vm := s.vm } : State) locs k n) : s.heap.size ≤ U.heap.size ∧ ∀ q : Nat, q < s.heap.size → (∀ z ∈ locs, z.base ≠ q) → U.heap[q]? = s.heap[q]? := by
  obtain ⟨-, h2, -, -, -, h6⟩ := h
  refine ⟨h2, fun q hq hz => ?_⟩
  obtain ⟨c9, e1, e2, e3, e4⟩ := h6 q _ (Array.getElem?_eq_getElem hq)
  have hs : c9.slots = (s.heap[q]).slots := Array.ext_getElem? fun i => e4 i fun hm => hz _ hm rfl
  have h9 : c9 = s.heap[q] := by
    rw [hs] at e2
    exact e2
  have e5 : U.heap[q]? = some c9 := e1
  rw [e5, h9, Array.getElem?_eq_getElem hq]
/-- the words of a throw but the four that speak of the heap -/
def vx_no (w : Cond) : Bool := decide (w ≠ .isRef (.static Bundle.tN "UNASSIGNED_STACK" Bundle.steD)) && decide (w ≠ .isRef (.static Bundle.tN "SUPPRESSED_SENTINEL" Bundle.listD)) && decide (w ≠ .laysStatic Bundle.tN "UNASSIGNED_STACK" Bundle.steD) && decide (w ≠ .laysStatic Bundle.tN "SUPPRESSED_SENTINEL" Bundle.listD)
def vx_at0 (own : String) (ic : Nat) (X : String) (names : List String) : List Cond := (Bundle.ownAtoms0 own ic X names).filter vx_no
def vx_atS (own : String) (ic : Nat) (X : String) (names : List String) : List Cond := (Bundle.ownAtoms own ic X names).filter vx_no
/-- a word that the tables alone decide, or a good one -/
def vx_ot (w : Cond) : Bool := w.onTables || goodWord w
theorem vx_ot_at {args a' : Array Value} {s U : State} {w : Cond} (hW : s.WarmedH U.vm) (hvm : s.vm = U.vm) (hg : vx_ot w = true) (h : w.before args s = true) : w.before a' U = true := by
  simp only [vx_ot, Bool.or_eq_true] at hg
  rcases hg with hg | hg
  · exact va_tabs hg hvm h
  · exact word_at hW (good_of_word hg) h
/-- a list's words: the good ones out of the method's own list, the others by premises of their own -/
theorem vx_hat {args : Array Value} {s : State} {L B : List Cond} (h1 : ∀ w ∈ L.filter goodWord, w.before args s = true) (h2 : ∀ w ∈ L.filter (fun w => !goodWord w), w ∈ B) (h3 : ∀ w ∈ B, w.before args s = true) : ∀ w ∈ L, w.before args s = true := by
  intro w hw
  by_cases g : goodWord w = true
  · exact h1 w (List.mem_filter.mpr ⟨hw, g⟩)
  · refine h3 w (h2 w (List.mem_filter.mpr ⟨hw, ?_⟩))
    show (!goodWord w) = true
    cases hgw : goodWord w
    · rfl
    · exact absurd hgw g
theorem vx_c {args : Array Value} {s : State} {w : Cond} {B : List Cond} (h : w.before args s = true) (t : ∀ w ∈ B, w.before args s = true) : ∀ w' ∈ w :: B, w'.before args s = true := fun w' h' => (List.mem_cons.mp h').elim (fun e => by rw [e]; exact h) (t w')
theorem vx_n {args : Array Value} {s : State} : ∀ w ∈ ([] : List Cond), w.before args s = true := fun _ h => nomatch h
theorem vx_own {args : Array Value} {s : State} {L : List Cond} (h1 : ∀ w ∈ L.filter vx_no, w.before args s = true)
    (hU : (Cond.isRef (.static Bundle.tN "UNASSIGNED_STACK" Bundle.steD)).before args s = true) (hN : (Cond.isRef (.static Bundle.tN "SUPPRESSED_SENTINEL" Bundle.listD)).before args s = true)
    (lU : (Cond.laysStatic Bundle.tN "UNASSIGNED_STACK" Bundle.steD).before args s = true) (lN : (Cond.laysStatic Bundle.tN "SUPPRESSED_SENTINEL" Bundle.listD).before args s = true) : ∀ w ∈ L, w.before args s = true := by
  intro w hw
  by_cases e1 : w = .isRef (.static Bundle.tN "UNASSIGNED_STACK" Bundle.steD)
  · rw [e1]; exact hU
  · by_cases e2 : w = .isRef (.static Bundle.tN "SUPPRESSED_SENTINEL" Bundle.listD)
    · rw [e2]; exact hN
    · by_cases e3 : w = .laysStatic Bundle.tN "UNASSIGNED_STACK" Bundle.steD
      · rw [e3]; exact lU
      · by_cases e4 : w = .laysStatic Bundle.tN "SUPPRESSED_SENTINEL" Bundle.listD
        · rw [e4]; exact lN
        · exact h1 w (List.mem_filter.mpr ⟨hw, by unfold vx_no; rw [decide_eq_true e1, decide_eq_true e2, decide_eq_true e3, decide_eq_true e4]; rfl⟩)
/-- where a static field lies, its class's statics cell in H -/
def vx_L (C n d : String) (A : Nat → Prop) (U : State) (H : Heap) : Prop := ∃ (c : ClassId) (k : Class) (i : Nat) (f : Field) (a : Nat) (cell : Cell), U.vm.findClass C = some c ∧ U.fieldFound? C n d = some (c, k, i, f) ∧ f.isStatic = true ∧ k.statics = some a ∧ H[a]? = some cell ∧ cell.vm.isStatics = true ∧ cell.cls = c ∧ f.slot < cell.slots.size ∧ k.staticTypes[f.slot]? = some f.type ∧ ¬ A a
theorem vx_L.moved {C n d : String} {A : Nat → Prop} {u U : State} {H : Heap} (hvm : u.vm.Alike U.vm) (h : vx_L C n d A u H) : vx_L C n d A U H := by
  obtain ⟨c, k, i, f, a, cell, h1, h2, h3, h4, h5, h6, h7, h8, h9, h10⟩ := h
  obtain ⟨k', hi', he⟩ := State.fieldFound?_setVm hvm h2
  exact ⟨c, k', i, f, a, cell, by rw [hvm.findClass]; exact h1, hi', h3, by rw [he]; exact h4, h5, h6, h7, h8, by rw [he]; exact h9, h10⟩
theorem vx_L.kept {C n d : String} {A : Nat → Prop} {U : State} {H H1 : Heap} (h : vx_L C n d A U H) (hq : ∀ a : Nat, a < H.size → ¬ A a → H1[a]? = H[a]?) : vx_L C n d A U H1 := by
  obtain ⟨c, k, i, f, a, cell, h1, h2, h3, h4, h5, h6, h7, h8, h9, h10⟩ := h
  exact ⟨c, k, i, f, a, cell, h1, h2, h3, h4, by rw [hq a (Array.getElem?_eq_some_iff.mp h5).1 h10]; exact h5, h6, h7, h8, h9, h10⟩
theorem vx_L.narrow {C n d : String} {A B : Nat → Prop} {U : State} {H : Heap} (h : vx_L C n d A U H) (hAB : ∀ q, B q → A q) : vx_L C n d B U H := by
  obtain ⟨c, k, i, f, a, cell, h1, h2, h3, h4, h5, h6, h7, h8, h9, h10⟩ := h
  exact ⟨c, k, i, f, a, cell, h1, h2, h3, h4, h5, h6, h7, h8, h9, fun z => h10 (hAB _ z)⟩
theorem vx_L.word {C n d : String} {A : Nat → Prop} {s : State} {args : Array Value} (h : vx_L C n d A s s.heap) : (Cond.laysStatic C n d).before args s = true := by
  obtain ⟨c, k, i, f, a, cell, h1, h2, h3, h4, h5, h6, h7, h8, h9, -⟩ := h
  show (Cond.laysStatic C n d).holds args s none s [] = true
  exact Cond.laysStatic_of h1 h2 h3 h4 h5 h6 h7 h8 h9
/-- .. and what it holds: null or some reference -/
def vx_Zq (C n d : String) (A : Nat → Prop) (U : State) (H : Heap) : Prop := va_Zq C n d A U H ∧ vx_L C n d A U H
theorem vx_Zq.moved {C n d : String} {A : Nat → Prop} {u U : State} {H : Heap} (hvm : u.vm.Alike U.vm) (h : vx_Zq C n d A u H) : vx_Zq C n d A U H := ⟨va_Zq.moved hvm h.1, vx_L.moved hvm h.2⟩
theorem vx_Zq.kept {C n d : String} {A : Nat → Prop} {U : State} {H H1 : Heap} (h : vx_Zq C n d A U H) (hq : ∀ a : Nat, a < H.size → ¬ A a → H1[a]? = H[a]?) : vx_Zq C n d A U H1 := ⟨va_Zq.kept h.1 hq, vx_L.kept h.2 hq⟩
theorem vx_Zq.narrow {C n d : String} {A B : Nat → Prop} {U : State} {H : Heap} (h : vx_Zq C n d A U H) (hAB : ∀ q, B q → A q) : vx_Zq C n d B U H := ⟨va_Zq.narrow h.1 hAB, vx_L.narrow h.2 hAB⟩
theorem vx_Zqof {args : Array Value} {s : State} {C n d : String} {A : Nat → Prop} (hl : (Cond.laysStatic C n d).before args s = true) (hini : (Cond.initialized C).before args s = true) (h : (Cond.isRef (.static C n d)).before args s = true) (hA : ∀ a : Nat, a < s.heap.size → ¬ A a) : vx_Zq C n d A s s.heap := by
  refine ⟨va_Zqof hl hini h hA, ?_⟩
  obtain ⟨c, k, i, f, a, cell, h1, h2, h3, h4, h5, h6, h7, h8, h9⟩ := Cond.laysStatic_spec hl
  exact ⟨c, k, i, f, a, cell, h1, h2, h3, h4, h5, h6, h7, h8, h9, hA a (Array.getElem?_eq_some_iff.mp h5).1⟩
theorem vx_isRef {C n d : String} {v : Value} {A : Nat → Prop} {s : State} {args : Array Value} (h : va_Z C n d v A s s.heap) (hv : v.isRef = true) : (Cond.isRef (.static C n d)).before args s = true := by
  obtain ⟨cf, kf, fi, f, a, cell, h1, h2, h3, h4, h5, h6, h7, -⟩ := h
  have he : (Term.static C n d).eval args s none [] s = some v := by
    simp [Term.eval, State.fieldNamed?, h1, h2, h4, h5, h6, h7]
  simp only [Cond.before, Cond.holds, Cond.value, he]
  cases v <;> simp_all [Value.isRef]
theorem vx_isRefq {C n d : String} {A : Nat → Prop} {s : State} {args : Array Value} (h : va_Zq C n d A s s.heap) : (Cond.isRef (.static C n d)).before args s = true := by
  rcases h with h | ⟨t, h⟩
  · exact vx_isRef h rfl
  · exact vx_isRef h rfl
/-- the same frame, seen from here: as if the method were called anew in this heap -/
theorem vx_rebase {T : State} (X : Stand p l e R s m args below meth c T locs cells slots) {R' : Room} (hf : R'.frames ≤ R.frames) (hl : R'.locals ≤ R.locals) (hc : cells + R'.cells ≤ R.cells) (hs : slots + R'.slots ≤ R.slots) :
    Stand p l e R' ((T.setVm s.vm).setFrames (.invoking m args :: below)) m args below meth c T [] 0 0 := by
  have htop : (T.setVm s.vm).topJava?.isSome := X.here.top
  have hF : ((T.setVm s.vm).setFrames (.invoking m args :: below)).frames = .invoking m args :: below := State.frames_setFrames _ (State.cur_lt_of_top htop)
  obtain ⟨g₀, hg0⟩ := Option.isSome_iff_exists.mp htop
  obtain ⟨r, hr⟩ := State.topJava?_eq_some.mp hg0
  have hl9 : e.platform.stackLimits (T.setVm s.vm).me = e.platform.stackLimits s.me := X.limits
  have hb9 : (T.setVm s.vm).me.stackBytes = s.me.stackBytes := X.bytes
  refine ⟨X.admits, X.cas, X.clock, hF, ?_, X.hears, X.method, X.code, X.here, X.tail, X.warmed, ?_, ?_, ?_⟩
  · have h := X.room
    have hU : ((T.setVm s.vm).setFrames (.invoking m args :: below)).localsInUse = s.localsInUse := by
      rw [State.localsInUse_invoking hF (meth := meth) (c := c) X.method X.code, State.localsInUse_invoking X.frames X.method X.code]
    simp only [State.hasRoom, Bool.and_eq_true, decide_eq_true_eq] at h ⊢
    obtain ⟨⟨⟨⟨h1, h2, h3, h4, h5, h6⟩, h7⟩, h8⟩, h9⟩ := h
    rw [X.frames, List.length_cons] at h2 h3
    have q1 := X.heapSize
    have q2 := X.used
    simp only [hF, hU, List.length_cons, State.stackLimits_setFrames, State.stackBytes_setFrames, hl9, hb9]
    refine ⟨⟨⟨⟨by omega, by omega, by omega, by omega, by omega, h6⟩, ?_⟩, ?_⟩, X.book⟩
    · show T.heap.size + R'.cells ≤ e.platform.maxCells
      omega
    · show T.slotsUsed + R'.slots ≤ e.platform.maxSlots
      omega
  · rw [State.stackLimits_setFrames]; rfl
  · rw [State.stackBytes_setFrames]; rfl
  · refine ⟨?_, Nat.le_refl _, Nat.le_refl _, ?_, ?_, fun a c9 h9 => ⟨c9, h9, rfl, rfl, fun _ _ => rfl⟩⟩
    · obtain ⟨t, ht, -⟩ := State.frames_cons hr
      show T.setVm s.vm = { ((T.setVm s.vm).setFrames (.invoking m args :: below)).setFrames (T.setVm s.vm).frames with heap := T.heap, slotsUsed := T.slotsUsed }
      rw [State.setFrames_setFrames, State.setFrames_self ht]
      rfl
    · show T.slotsUsed = T.slotsUsed + ((T.heap.toList.drop T.heap.size).map (·.slots.size)).sum
      rw [List.drop_eq_nil_of_le (Nat.le_of_eq Array.length_toList)]
      rfl
    · show ((T.heap.toList.drop T.heap.size).map (·.slots.size)).sum ≤ 0
      rw [List.drop_eq_nil_of_le (Nat.le_of_eq Array.length_toList)]
      exact Nat.le_refl _
/-- 'throw new E()': new; dup; invokespecial; athrow -/
theorem vx_throw0 {cc : ByteArray} {pc : Nat} (hexec : p.tables.exec = Jvm.exec) (hb : c.code = cc) (hl : l.stackTraces = false) {own cls : String} {names : List String} {ik ic mc ms : Nat} {A : Nat → Prop}
    (hown : s.vm.findClass own = some m.cls) (hcls : Bundle.fit cls = true) (hnames : ∀ n ∈ names, Bundle.fit n = true)
    (hk : (Cond.classLink own ik cls).before args s = true) (hini : (Cond.initialized cls).before args s = true) (hat : ∀ w ∈ vx_at0 own ic cls names, w.before args s = true)
    (hgood : ∀ w ∈ Cond.classLink own ik cls :: Cond.initialized cls :: vx_at0 own ic cls names, vx_ot w = true)
    (hU : vx_Zq Bundle.tN "UNASSIGNED_STACK" Bundle.steD A s s.heap) (hN : vx_Zq Bundle.tN "SUPPRESSED_SENTINEL" Bundle.listD A s s.heap) (hS : va_S A s.heap H locs) (hsize : ls.size = c.maxLocals)
    (d0 : decode cc pc = .ok (.new ik, 3)) (d3 : decode cc (pc + 3) = .ok (.dup, 1)) (d4 : decode cc (pc + 4) = .ok (.invokespecial ic, 3)) (d7 : decode cc (pc + 7) = .ok (.athrow, 1))
    (hout : ∀ x ∈ c.exceptionTable.toList, covers x (pc + 7) = false)
    (hRframes : names.length + 3 < R.frames) (hRlocals : (rest.map fun v => v.category).sum + (13 * (names.length + 1) + 42) ≤ R.locals) (hRcells : cells + 1 ≤ R.cells) (hRslots : slots + 6 ≤ R.slots) (hlocks : meth.locks = false)
    (hx : ∀ t : State, s.vm.Alike t.vm → H.size ≤ t.heap.size → (∀ q : Nat, q < H.size → t.heap[q]? = H[q]?) → XC cls s t)
    (hf : ∀ z ∈ locs, free z.base) (hc : cells + 1 ≤ mc) (hs : slots + 6 ≤ ms) :
    W p l e R s m args below meth c H locs cells slots (vx_MQ below Qc XC args s mc ms free) (F0 m pc ls rest) := by
  intro T hT X
  have htr : e.platform.stackTraces = false := (show e.platform.stackTraces = l.stackTraces by rw [X.admits.platform]).trans hl
  have Y := vx_rebase X (R' := { frames := R.frames, locals := R.locals, cells := 1, slots := 6 }) (Nat.le_refl _) (Nat.le_refl _) hRcells hRslots
  obtain ⟨s', hA⟩ : ∃ z, z = (T.setVm s.vm).setFrames (.invoking m args :: below) := ⟨_, rfl⟩
  rw [← hA] at Y
  have hvm : s'.vm = s.vm := by rw [hA]; rfl
  have hhp : s'.heap = H := by rw [hA]; exact hT
  have hW0 : s.WarmedH s'.vm := by rw [hvm]; exact State.WarmedH.refl s
  have hat' : ∀ w ∈ vx_at0 own ic cls names, w.before args s' = true := fun w hw => vx_ot_at hW0 hvm.symm (hgood w (List.mem_cons_of_mem _ (List.mem_cons_of_mem _ hw))) (hat w hw)
  have hk' : (Cond.classLink own ik cls).before args s' = true := vx_ot_at hW0 hvm.symm (hgood _ List.mem_cons_self) hk
  have hini' : (Cond.initialized cls).before args s' = true := vx_ot_at hW0 hvm.symm (hgood _ (List.mem_cons_of_mem _ List.mem_cons_self)) hini
  have hU' : vx_Zq Bundle.tN "UNASSIGNED_STACK" Bundle.steD A s' s'.heap := by rw [hhp]; exact vx_Zq.moved hW0.alike (hU.kept hS.2.1)
  have hN' : vx_Zq Bundle.tN "SUPPRESSED_SENTINEL" Bundle.listD A s' s'.heap := by rw [hhp]; exact vx_Zq.moved hW0.alike (hN.kept hS.2.1)
  have h : ∀ w ∈ Bundle.ownAtoms0 own ic cls names, w.before args s' = true := vx_own hat' (vx_isRefq hU'.1) (vx_isRefq hN'.1) hU'.2.word hN'.2.word
  have hown' : s'.vm.findClass own = some m.cls := by rw [hvm]; exact hown
  have hins : (Cond.instantiable cls 6).before args s' = true := h _ (by simp [Bundle.ownAtoms0])
  obtain ⟨vm₁, cX, kX, hfX, hkX, -, -, X₁, st1⟩ := Y.newCold hexec (own := own) (C := cls) (index := ik) (n := 6) hown' hk' hins hini'
    (g := F0 m pc ls rest) rfl (by rw [hb]; exact d0) (Nat.le_refl _) (Nat.le_refl _)
  generalize hT1 : (T.setVm vm₁).pushCell { cls := cX, slots := kX.instanceTypes.map defaultValue, vm := .none } = T1 at X₁ st1
  have hcat : (Value.ref T.heap.size).category = 1 := rfl
  have hcellA : T1.heap[T.heap.size]? = some (freshCell cX kX) := by rw [← hT1]; exact State.heap_pushCell_size _ _
  have d3' : decode c.code (pc + 3) = .ok (.dup, 1) := by rw [hb]; exact d3
  obtain ⟨U, hsteps, hrun, hend, hW, hsame, ce, hce, hO⟩ := X₁.ctorThrow0 hexec htr (own := own) (cls := cls) (names := names) (ic := ic) hown' hcls hnames h (fun x hx => nomatch hx) hfX hkX hcellA (by rw [hhp, hT]; exact Nat.le_refl _)
    (g := { method := m, pc := pc + 4, locals := ls, stack := .ref T.heap.size :: .ref T.heap.size :: rest, locked := none }) rfl hsize rfl rfl (rest := rest) rfl
    (by rw [hb]; exact d4) (by rw [hb]; exact d7) hout hRframes (by simp only [List.map_cons, List.sum_cons, hcat]; omega) hlocks
  obtain ⟨f1, f2⟩ := vx_frame hsame
  rw [hhp] at f1 f2
  have hWs : s.WarmedH U.vm := State.WarmedH.trans hW0 hW
  have hcl : s.vm.findClass cls = some ce.cls := by
    have h9 := hO.cls
    rw [hvm] at h9
    exact h9
  have hall : s.sameButNew ({ U with vm := s.vm } : State) locs mc ms := by
    subst hA
    obtain ⟨e1, e2⟩ := hsame
    rw [State.setFrames_setFrames] at e1
    have h2 : (T.setVm s.vm).sameButNew ({ U with vm := s.vm } : State) [] (0 + 1) (0 + 6) := ⟨e1, e2⟩
    have h3 := X.same.trans h2
    rw [List.append_nil] at h3
    exact h3.mono hc hs
  refine ⟨U, ?_, .threw T.heap.size, hrun, hend, Or.inr ⟨T.heap.size, rfl, cls, ce, locs, hx U hWs.alike f1 (fun q hq => f2 q hq (fun z hz => nomatch hz)), hce, hO.vm, hcl, hWs, hall, hf⟩⟩
  refine st1 _ ?_
  show Steps p.tables e below (T1.setTop { method := m, pc := pc + 3, locals := ls, stack := .ref T.heap.size :: rest, locked := none }) _
  jvm_step X₁.here [X₁.here.top, hexec, d3', Value.category]
  exact hsteps
/-- 'throw new E("text")': new; dup; ldc; invokespecial; athrow -/
theorem vx_throwS {cc : ByteArray} {pc : Nat} (hexec : p.tables.exec = Jvm.exec) (hb : c.code = cc) (hl : l.stackTraces = false) {own cls text : String} {names : List String} {ik is ic mc ms sa : Nat} {A : Nat → Prop}
    (hown : s.vm.findClass own = some m.cls) (hcls : Bundle.fit cls = true) (hnames : ∀ n ∈ names, Bundle.fit n = true)
    (hk : (Cond.classLink own ik cls).before args s = true) (hini : (Cond.initialized cls).before args s = true) (hstr : vk_R own is text sa s) (hat : ∀ w ∈ vx_atS own ic cls names, w.before args s = true)
    (hgood : ∀ w ∈ Cond.classLink own ik cls :: Cond.initialized cls :: vx_atS own ic cls names, vx_ot w = true)
    (hU : vx_Zq Bundle.tN "UNASSIGNED_STACK" Bundle.steD A s s.heap) (hN : vx_Zq Bundle.tN "SUPPRESSED_SENTINEL" Bundle.listD A s s.heap) (hS : va_S A s.heap H locs) (hsize : ls.size = c.maxLocals)
    (d0 : decode cc pc = .ok (.new ik, 3)) (d3 : decode cc (pc + 3) = .ok (.dup, 1)) (d4 : decode cc (pc + 4) = .ok (.ldc is, 2)) (d6 : decode cc (pc + 6) = .ok (.invokespecial ic, 3)) (d9 : decode cc (pc + 9) = .ok (.athrow, 1))
    (hout : ∀ x ∈ c.exceptionTable.toList, covers x (pc + 9) = false)
    (hRframes : names.length + 3 < R.frames) (hRlocals : (rest.map fun v => v.category).sum + (13 * (names.length + 1) + 43) ≤ R.locals) (hRcells : cells + 1 ≤ R.cells) (hRslots : slots + 6 ≤ R.slots) (hlocks : meth.locks = false)
    (hx : ∀ t : State, s.vm.Alike t.vm → H.size ≤ t.heap.size → (∀ q : Nat, q < H.size → t.heap[q]? = H[q]?) → XC cls s t)
    (hf : ∀ z ∈ locs, free z.base) (hc : cells + 1 ≤ mc) (hs : slots + 6 ≤ ms) :
    W p l e R s m args below meth c H locs cells slots (vx_MQ below Qc XC args s mc ms free) (F0 m pc ls rest) := by
  intro T hT X
  have htr : e.platform.stackTraces = false := (show e.platform.stackTraces = l.stackTraces by rw [X.admits.platform]).trans hl
  have Y := vx_rebase X (R' := { frames := R.frames, locals := R.locals, cells := 1, slots := 6 }) (Nat.le_refl _) (Nat.le_refl _) hRcells hRslots
  obtain ⟨s', hA⟩ : ∃ z, z = (T.setVm s.vm).setFrames (.invoking m args :: below) := ⟨_, rfl⟩
  rw [← hA] at Y
  have hvm : s'.vm = s.vm := by rw [hA]; rfl
  have hhp : s'.heap = H := by rw [hA]; exact hT
  have hW0 : s.WarmedH s'.vm := by rw [hvm]; exact State.WarmedH.refl s
  have hat' : ∀ w ∈ vx_atS own ic cls names, w.before args s' = true := fun w hw => vx_ot_at hW0 hvm.symm (hgood w (List.mem_cons_of_mem _ (List.mem_cons_of_mem _ hw))) (hat w hw)
  have hk' : (Cond.classLink own ik cls).before args s' = true := vx_ot_at hW0 hvm.symm (hgood _ List.mem_cons_self) hk
  have hini' : (Cond.initialized cls).before args s' = true := vx_ot_at hW0 hvm.symm (hgood _ (List.mem_cons_of_mem _ List.mem_cons_self)) hini
  have hU' : vx_Zq Bundle.tN "UNASSIGNED_STACK" Bundle.steD A s' s'.heap := by rw [hhp]; exact vx_Zq.moved hW0.alike (hU.kept hS.2.1)
  have hN' : vx_Zq Bundle.tN "SUPPRESSED_SENTINEL" Bundle.listD A s' s'.heap := by rw [hhp]; exact vx_Zq.moved hW0.alike (hN.kept hS.2.1)
  have h : ∀ w ∈ Bundle.ownAtoms own ic cls names, w.before args s' = true := vx_own hat' (vx_isRefq hU'.1) (vx_isRefq hN'.1) hU'.2.word hN'.2.word
  have hown' : s'.vm.findClass own = some m.cls := by rw [hvm]; exact hown
  have hins : (Cond.instantiable cls 6).before args s' = true := h _ (by simp [Bundle.ownAtoms])
  obtain ⟨vm₁, cX, kX, hfX, hkX, -, -, X₁, st1⟩ := Y.newCold hexec (own := own) (C := cls) (index := ik) (n := 6) hown' hk' hins hini'
    (g := F0 m pc ls rest) rfl (by rw [hb]; exact d0) (Nat.le_refl _) (Nat.le_refl _)
  generalize hT1 : (T.setVm vm₁).pushCell { cls := cX, slots := kX.instanceTypes.map defaultValue, vm := .none } = T1 at X₁ st1
  have hcat : (Value.ref T.heap.size).category = 1 := rfl
  have hcellA : T1.heap[T.heap.size]? = some (freshCell cX kX) := by rw [← hT1]; exact State.heap_pushCell_size _ _
  have d3' : decode c.code (pc + 3) = .ok (.dup, 1) := by rw [hb]; exact d3
  have d4' : decode c.code (pc + 4) = .ok (.ldc is, 2) := by rw [hb]; exact d4
  have hstr' : vk_R own is text sa s' := vk_R.warm hW0 hstr
  obtain ⟨U, hsteps, hrun, hend, hW, hsame, ce, hce, hO⟩ := X₁.ctorThrowS hexec htr (own := own) (cls := cls) (names := names) (ic := ic) hown' hcls hnames h (fun x hx => nomatch hx) hfX hkX hcellA (by rw [hhp, hT]; exact Nat.le_refl _) (msg := .ref sa) rfl
    (g := { method := m, pc := pc + 6, locals := ls, stack := .ref sa :: .ref T.heap.size :: .ref T.heap.size :: rest, locked := none }) rfl hsize rfl rfl (rest := rest) rfl
    (by rw [hb]; exact d6) (by rw [hb]; exact d9) hout hRframes (by simp only [List.map_cons, List.sum_cons, hcat]; omega) hlocks
  obtain ⟨f1, f2⟩ := vx_frame hsame
  rw [hhp] at f1 f2
  have hWs : s.WarmedH U.vm := State.WarmedH.trans hW0 hW
  have hcl : s.vm.findClass cls = some ce.cls := by
    have h9 := hO.cls
    rw [hvm] at h9
    exact h9
  have hall : s.sameButNew ({ U with vm := s.vm } : State) locs mc ms := by
    subst hA
    obtain ⟨e1, e2⟩ := hsame
    rw [State.setFrames_setFrames] at e1
    have h2 : (T.setVm s.vm).sameButNew ({ U with vm := s.vm } : State) [] (0 + 1) (0 + 6) := ⟨e1, e2⟩
    have h3 := X.same.trans h2
    rw [List.append_nil] at h3
    exact h3.mono hc hs
  refine ⟨U, ?_, .threw T.heap.size, hrun, hend, Or.inr ⟨T.heap.size, rfl, cls, ce, locs, hx U hWs.alike f1 (fun q hq => f2 q hq (fun z hz => nomatch hz)), hce, hO.vm, hcl, hWs, hall, hf⟩⟩
  refine st1 _ ?_
  show Steps p.tables e below (T1.setTop { method := m, pc := pc + 3, locals := ls, stack := .ref T.heap.size :: rest, locked := none }) _
  jvm_step X₁.here [X₁.here.top, hexec, d3', Value.category]
  exact X₁.ldcString hexec (own := own) (text := text) (index := is) (a := sa) hown' hstr'.1 hstr'.2
    (g := { method := m, pc := pc + 4, locals := ls, stack := .ref T.heap.size :: .ref T.heap.size :: rest, locked := none }) rfl d4' _ hsteps
/-- 'throw new E("text")', the text by a wide index -/
theorem vx_throwSW {cc : ByteArray} {pc : Nat} (hexec : p.tables.exec = Jvm.exec) (hb : c.code = cc) (hl : l.stackTraces = false) {own cls text : String} {names : List String} {ik is ic mc ms sa : Nat} {A : Nat → Prop}
    (hown : s.vm.findClass own = some m.cls) (hcls : Bundle.fit cls = true) (hnames : ∀ n ∈ names, Bundle.fit n = true)
    (hk : (Cond.classLink own ik cls).before args s = true) (hini : (Cond.initialized cls).before args s = true) (hstr : vk_R own is text sa s) (hat : ∀ w ∈ vx_atS own ic cls names, w.before args s = true)
    (hgood : ∀ w ∈ Cond.classLink own ik cls :: Cond.initialized cls :: vx_atS own ic cls names, vx_ot w = true)
    (hU : vx_Zq Bundle.tN "UNASSIGNED_STACK" Bundle.steD A s s.heap) (hN : vx_Zq Bundle.tN "SUPPRESSED_SENTINEL" Bundle.listD A s s.heap) (hS : va_S A s.heap H locs) (hsize : ls.size = c.maxLocals)
    (d0 : decode cc pc = .ok (.new ik, 3)) (d3 : decode cc (pc + 3) = .ok (.dup, 1)) (d4 : decode cc (pc + 4) = .ok (.ldc_w is, 3)) (d7 : decode cc (pc + 7) = .ok (.invokespecial ic, 3)) (d10 : decode cc (pc + 10) = .ok (.athrow, 1))
    (hout : ∀ x ∈ c.exceptionTable.toList, covers x (pc + 10) = false)
    (hRframes : names.length + 3 < R.frames) (hRlocals : (rest.map fun v => v.category).sum + (13 * (names.length + 1) + 43) ≤ R.locals) (hRcells : cells + 1 ≤ R.cells) (hRslots : slots + 6 ≤ R.slots) (hlocks : meth.locks = false)
    (hx : ∀ t : State, s.vm.Alike t.vm → H.size ≤ t.heap.size → (∀ q : Nat, q < H.size → t.heap[q]? = H[q]?) → XC cls s t)
    (hf : ∀ z ∈ locs, free z.base) (hc : cells + 1 ≤ mc) (hs : slots + 6 ≤ ms) :
    W p l e R s m args below meth c H locs cells slots (vx_MQ below Qc XC args s mc ms free) (F0 m pc ls rest) := by
  intro T hT X
  have htr : e.platform.stackTraces = false := (show e.platform.stackTraces = l.stackTraces by rw [X.admits.platform]).trans hl
  have Y := vx_rebase X (R' := { frames := R.frames, locals := R.locals, cells := 1, slots := 6 }) (Nat.le_refl _) (Nat.le_refl _) hRcells hRslots
  obtain ⟨s', hA⟩ : ∃ z, z = (T.setVm s.vm).setFrames (.invoking m args :: below) := ⟨_, rfl⟩
  rw [← hA] at Y
  have hvm : s'.vm = s.vm := by rw [hA]; rfl
  have hhp : s'.heap = H := by rw [hA]; exact hT
  have hW0 : s.WarmedH s'.vm := by rw [hvm]; exact State.WarmedH.refl s
  have hat' : ∀ w ∈ vx_atS own ic cls names, w.before args s' = true := fun w hw => vx_ot_at hW0 hvm.symm (hgood w (List.mem_cons_of_mem _ (List.mem_cons_of_mem _ hw))) (hat w hw)
  have hk' : (Cond.classLink own ik cls).before args s' = true := vx_ot_at hW0 hvm.symm (hgood _ List.mem_cons_self) hk
  have hini' : (Cond.initialized cls).before args s' = true := vx_ot_at hW0 hvm.symm (hgood _ (List.mem_cons_of_mem _ List.mem_cons_self)) hini
  have hU' : vx_Zq Bundle.tN "UNASSIGNED_STACK" Bundle.steD A s' s'.heap := by rw [hhp]; exact vx_Zq.moved hW0.alike (hU.kept hS.2.1)
  have hN' : vx_Zq Bundle.tN "SUPPRESSED_SENTINEL" Bundle.listD A s' s'.heap := by rw [hhp]; exact vx_Zq.moved hW0.alike (hN.kept hS.2.1)
  have h : ∀ w ∈ Bundle.ownAtoms own ic cls names, w.before args s' = true := vx_own hat' (vx_isRefq hU'.1) (vx_isRefq hN'.1) hU'.2.word hN'.2.word
  have hown' : s'.vm.findClass own = some m.cls := by rw [hvm]; exact hown
  have hins : (Cond.instantiable cls 6).before args s' = true := h _ (by simp [Bundle.ownAtoms])
  obtain ⟨vm₁, cX, kX, hfX, hkX, -, -, X₁, st1⟩ := Y.newCold hexec (own := own) (C := cls) (index := ik) (n := 6) hown' hk' hins hini'
    (g := F0 m pc ls rest) rfl (by rw [hb]; exact d0) (Nat.le_refl _) (Nat.le_refl _)
  generalize hT1 : (T.setVm vm₁).pushCell { cls := cX, slots := kX.instanceTypes.map defaultValue, vm := .none } = T1 at X₁ st1
  have hcat : (Value.ref T.heap.size).category = 1 := rfl
  have hcellA : T1.heap[T.heap.size]? = some (freshCell cX kX) := by rw [← hT1]; exact State.heap_pushCell_size _ _
  have d3' : decode c.code (pc + 3) = .ok (.dup, 1) := by rw [hb]; exact d3
  have d4' : decode c.code (pc + 4) = .ok (.ldc_w is, 3) := by rw [hb]; exact d4
  have hstr' : vk_R own is text sa s' := vk_R.warm hW0 hstr
  obtain ⟨U, hsteps, hrun, hend, hW, hsame, ce, hce, hO⟩ := X₁.ctorThrowS hexec htr (own := own) (cls := cls) (names := names) (ic := ic) hown' hcls hnames h (fun x hx => nomatch hx) hfX hkX hcellA (by rw [hhp, hT]; exact Nat.le_refl _) (msg := .ref sa) rfl
    (g := { method := m, pc := pc + 7, locals := ls, stack := .ref sa :: .ref T.heap.size :: .ref T.heap.size :: rest, locked := none }) rfl hsize rfl rfl (rest := rest) rfl
    (by rw [hb]; exact d7) (by rw [hb]; exact d10) hout hRframes (by simp only [List.map_cons, List.sum_cons, hcat]; omega) hlocks
  obtain ⟨f1, f2⟩ := vx_frame hsame
  rw [hhp] at f1 f2
  have hWs : s.WarmedH U.vm := State.WarmedH.trans hW0 hW
  have hcl : s.vm.findClass cls = some ce.cls := by
    have h9 := hO.cls
    rw [hvm] at h9
    exact h9
  have hall : s.sameButNew ({ U with vm := s.vm } : State) locs mc ms := by
    subst hA
    obtain ⟨e1, e2⟩ := hsame
    rw [State.setFrames_setFrames] at e1
    have h2 : (T.setVm s.vm).sameButNew ({ U with vm := s.vm } : State) [] (0 + 1) (0 + 6) := ⟨e1, e2⟩
    have h3 := X.same.trans h2
    rw [List.append_nil] at h3
    exact h3.mono hc hs
  refine ⟨U, ?_, .threw T.heap.size, hrun, hend, Or.inr ⟨T.heap.size, rfl, cls, ce, locs, hx U hWs.alike f1 (fun q hq => f2 q hq (fun z hz => nomatch hz)), hce, hO.vm, hcl, hWs, hall, hf⟩⟩
  refine st1 _ ?_
  show Steps p.tables e below (T1.setTop { method := m, pc := pc + 3, locals := ls, stack := .ref T.heap.size :: rest, locked := none }) _
  jvm_step X₁.here [X₁.here.top, hexec, d3', Value.category]
  exact X₁.ldcStringW hexec (own := own) (text := text) (index := is) (a := sa) hown' hstr'.1 hstr'.2
    (g := { method := m, pc := pc + 4, locals := ls, stack := .ref T.heap.size :: .ref T.heap.size :: rest, locked := none }) rfl d4' _ hsteps
end Ends
section Bodies
variable {l : Launch}
theorem vx_ofW {y : MethodName} {ws ws' : List Cond} {rm : Room} {Pc : Array Value → State → Prop} {Qc : Array Value → State → Outcome → State → Prop} {XC : String → State → State → Prop} {mc ms : Nat} {free : Addr → Prop} {cc : ByteArray} {maxL : Nat} {ret : Option FieldType}
    (hy : plainName y.cls = true) (hw : ws = Cond.code y cc maxL ret :: ws')
    (body : ∀ p e s m args below meth c s₁, BodyLoose p l y (headSpec ws rm) cc maxL ret e s m args below meth c s₁ → c.maxLocals = maxL → (∀ x ∈ c.exceptionTable.toList, False) → Pc args s →
      W p l e (headSpec ws rm).room s m args below meth c s.heap [] 0 0 (vx_MQ below Qc XC args s mc ms free) (entryFrame m args maxL)) : vx_Met l y ws rm Pc Qc XC mc ms free := by
  refine MetFree.of_bodyS (code := cc) (maxLocals := maxL) (ret := ret) hy ?_ ?_
  · intro args s m h hn
    obtain ⟨meth, c, h1, h2, h3, h4, h5, h6, -, -⟩ := Cond.code_spec hn (atoms_spec (ws := ws) h _ (by rw [hw]; exact List.mem_cons_self))
    exact ⟨meth, c, h1, h2, h3, h4, h5, h6⟩
  · intro p e s m args below meth c s₁ B hml hP _
    have hh0 : s₁.heap = s.heap := by rw [B.state]; rfl
    have ht : ∀ x ∈ c.exceptionTable.toList, False := by
      obtain ⟨meth9, c9, h1, h2, -, -, -, -, h7, -⟩ := Cond.code_spec B.named (atoms_spec (ws := ws) B.pre _ (by rw [hw]; exact List.mem_cons_self))
      cases Option.some.inj (h1.symm.trans B.method)
      cases Option.some.inj (h2.symm.trans (Stand.of_body B).code)
      intro x hx
      rw [Array.isEmpty_iff.mp h7] at hx
      cases hx
    obtain ⟨t, a1, o, b1, b2, b3⟩ := body p e s m args below meth c s₁ B hml ht hP s₁ hh0 (Stand.of_body B)
    exact ⟨t, o, a1, b1, b2, b3⟩
/-- the table of a body with handlers -/
theorem vx_table {p : Program} {x y : MethodName} {S : Spec} {cc bytes : ByteArray} {maxL maxL' : Nat} {ret ret' : Option FieldType} {e : Env} {s s₁ : State} {m : MethodId} {args : Array Value} {below : List Frame} {meth : Method} {c : Code} {hh : List (Nat × Nat × Nat × Nat)}
    (B : BodyLoose p l y S cc maxL ret e s m args below meth c s₁) (h : (Cond.codeWith y bytes maxL' ret' hh).before args s = true) : c.exceptionTable.toList = tableOf hh := by
  obtain ⟨m9, meth9, c9, hn9, h1, h2, -, -, h6, -⟩ := Cond.codeWith_spec h
  cases Option.some.inj (hn9.symm.trans B.named)
  cases Option.some.inj (h1.symm.trans B.method)
  cases Option.some.inj (h2.symm.trans (Stand.of_body B).code)
  rw [← h6, table_eq]
end Bodies
end VXA
/-! ===== END ===== -/
/-! ===== BEGIN a static call of a method with an exception table ===== -/
section VXS
variable {p : Program} {l : Launch} {e : Env} {R : Room} {s : State} {m : MethodId} {args : Array Value} {below : List Frame} {meth : Method} {c : Code} {T : State} {H : Heap} {locs : List Loc} {cells slots : Nat}
abbrev vx_CSW (R : Room) (s : State) (args : Array Value) (own : String) (index : Nat) (y : MethodName) (bytes : ByteArray) (maxL : Nat) (ret : Option FieldType) (hh : List (Nat × Nat × Nat × Nat)) (ws : List Cond) (rm : Room) (mc ms n : Nat) : Prop :=
  (rm.cells = mc ∧ rm.slots = ms ∧ rm.frames + 1 ≤ R.frames ∧ 8 + (maxL + 11) + rm.locals ≤ R.locals ∧ (∀ w ∈ ws, ∀ (a' : Array Value) (U : State), s.WarmedH U.vm → w.before a' U = true) ∧ Cond.codeWith y bytes maxL ret hh ∈ ws) ∧
  (Cond.codeWith y bytes maxL ret hh).before args s = true ∧ (Cond.initialized y.cls).before args s = true ∧ (y.cls ≠ "java/lang/invoke/MethodHandle" ∧ y.cls ≠ "java/lang/invoke/VarHandle") ∧
  (∀ sig, parseMethodDescriptor y.desc = some sig → n = sig.parameters.length) ∧ (Cond.methodLink own index y).before args s = true ∧ (Cond.static y).before args s = true
theorem vx_cwSW {own : String} {index maxL mc ms : Nat} {y : MethodName} {bytes : ByteArray} {ret : Option FieldType} {hh : List (Nat × Nat × Nat × Nat)} {Ts ws ws' : List Cond} {rm : Room} (n : Nat) (ht : ∀ w ∈ Ts, w.before args s = true) (hT : GoodIn Ts (va_wsS own index y ws)) (hw : ws = Cond.codeWith y bytes maxL ret hh :: ws') (hrc : rm.cells = mc) (hrs : rm.slots = ms)
    (hd : y.cls ≠ "java/lang/invoke/MethodHandle" ∧ y.cls ≠ "java/lang/invoke/VarHandle" ∧ (parseMethodDescriptor y.desc).map (fun d => d.parameters.length) = some n) (hR : rm.frames + 1 ≤ R.frames ∧ 8 + (maxL + 11) + rm.locals ≤ R.locals) :
    vx_CSW R s args own index y bytes maxL ret hh ws rm mc ms n := by
  have ok : ∀ w ∈ va_wsS own index y ws, w.before args s = true := fun w h => ht w (hT w h).1
  have hG : GoodIn Ts ws := fun w h => hT w (by unfold va_wsS; exact List.mem_append_right _ h)
  have hc : Cond.codeWith y bytes maxL ret hh ∈ ws := by rw [hw]; exact List.mem_cons_self
  refine ⟨⟨hrc, hrs, hR.1, hR.2, pay_in ht hG, hc⟩, ht _ (hG _ hc).1, ok _ (by simp [va_wsS]), ⟨hd.1, hd.2.1⟩, fun sig h => ?_, ok _ (by simp [va_wsS]), ok _ (by simp [va_wsS])⟩
  have h2 := hd.2.2
  rw [h] at h2
  exact (Option.some.inj h2).symm
theorem vx_callSW (X : Stand p l e R s m args below meth c T locs cells slots) (hexec : p.tables.exec = Jvm.exec) {own : String} {index : Nat} {y : MethodName} {bytes : ByteArray} {maxL : Nat} {ret : Option FieldType} {hh : List (Nat × Nat × Nat × Nat)}
    (hown : s.vm.findClass own = some m.cls) (hlink : (Cond.methodLink own index y).before args s = true) (hstat : (Cond.static y).before args s = true) (hinit : (Cond.initialized y.cls).before args s = true)
    (hcode : (Cond.codeWith y bytes maxL ret hh).before args s = true) (hy : y.cls ≠ "java/lang/invoke/MethodHandle" ∧ y.cls ≠ "java/lang/invoke/VarHandle")
    {W9 : Nat} {Pre : Pt → Array Value → Prop} {Post : Pt → Array Value → Option Value → Pt → Prop} (hK : Back l R p e below s args y 3 W9 Pre Post)
    {g : JFrame} (hg : g.method = m) (hsize : g.locals.size = c.maxLocals) {argsL rest : List Value} (hlen : ∀ sig, parseMethodDescriptor y.desc = some sig → argsL.length = sig.parameters.length)
    (hstack : g.stack = argsL.reverse ++ rest) (hW : 2 * g.monitorRoom + (rest.map fun v => v.category).sum ≤ W9) (hdg : decode c.code g.pc = .ok (.invokestatic index, 3))
    (hpre : ∀ vm₁, s.WarmedH vm₁ → Pre ⟨T.setVm vm₁, locs, cells, slots⟩ argsL.toArray) :
    ∃ (v : Option Value) (vm₁ : Vm) (B : Pt), s.WarmedH vm₁ ∧ Stand p l e R s m args below meth c B.U B.locs B.cells B.slots ∧ Post ⟨T.setVm vm₁, locs, cells, slots⟩ argsL.toArray v B ∧
      ∀ target, Steps p.tables e below (B.U.setTop { g with pc := g.pc + 3, stack := v.toList ++ rest }) target → Steps p.tables e below (T.setTop g) target := by
  obtain ⟨mk, methM, cM, hnamed, hmethM, -, -, -, -, -, -, hsigM⟩ := Cond.codeWith_spec hcode
  have hstatic : methM.isStatic = true := Cond.static_spec hnamed hmethM hstat
  obtain ⟨kP, hkP, -⟩ := className_of_methodNamed hnamed
  have hinitP : kP.init = .initialized := Cond.initialized_spec (findClass_of_methodNamed hnamed) hkP hinit
  obtain ⟨vm₁, X₁, hstep₁⟩ := X.invokestatic hexec hown hlink hnamed hmethM hstatic hkP hinitP hy (g := g) hg (argsL := argsL) (rest := rest) (hlen _ hsigM) hstack hdg
  obtain ⟨v, B, X', hpost, hsteps⟩ := hK m meth c ⟨T.setVm vm₁, locs, cells, slots⟩ { g with stack := rest } (.invokestatic index) mk argsL.toArray X₁ hg hsize hdg hW (X₁.named hnamed) (hpre vm₁ X₁.warmed)
  exact ⟨v, vm₁, B, X₁.warmed, X', hpost, fun target h => hstep₁ _ fun acts => by rw [doInvoke_state]; exact hsteps.trans h⟩
theorem vx_runSW {y : MethodName} {bytes cc : ByteArray} {maxL nL mc ms n index : Nat} {ret : Option FieldType} {hh : List (Nat × Nat × Nat × Nat)} {ws : List Cond} {rm : Room} {Pc : Array Value → State → Prop} {Qc : Array Value → State → Outcome → State → Prop} {free : Addr → Prop} {Ts : List Cond} {own : String} {As rest : List Value} {g : JFrame}
    (S : CallFix p m c cc nL s args Ts own) (hM : Met l y ws rm Pc Qc mc ms free) (cw : vx_CSW R s args own index y bytes maxL ret hh ws rm mc ms n) (hp : PreS s H Pc As)
    (hg : g.method = m) (hn : As.length = n) (hsize : g.locals.size = nL) (hstack : g.stack = As.reverse ++ rest) (hW : 2 * g.monitorRoom + (rest.map fun v => v.category).sum ≤ 8) (hdg : decode cc g.pc = .ok (.invokestatic index, 3)) (hf : cells + mc ≤ R.cells ∧ slots + ms ≤ R.slots) :
    va_Run p l e R s m args below meth c H locs cells slots mc ms g rest (Qc As.toArray) (free) := by
  obtain ⟨⟨hrc, hrs, hfr, hlo, hws, hcw⟩, hcode, hini, hy, hlen, hl, hstt⟩ := cw
  have hK : Back l R p e below s args y 3 8 (PreOf R mc ms Pc) (PostOf Qc mc ms free) := va_backW (hh := hh) (bytes := bytes) (maxL := maxL) (ret := ret) hM hp.1 hrc hrs hfr hlo hws hcw (fun a' U hW => word_at hW (Or.inl (by first | rfl | simp [Cond.onTables, Cond.keeps, Cond.steady])) hini)
  obtain ⟨hx, hb, hml, ho, -⟩ := S
  intro T hT X
  obtain ⟨v, vm₁, ⟨U', l2, c2, s2⟩, hW₁, X', ⟨g', mk, t, L, e1, e2, hq, h1, hL, h2, h3⟩, st⟩ := vx_callSW X hx (hh := hh) (bytes := bytes) (maxL := maxL) (ret := ret) ho hl hstt hini hcode hy hK hg (hsize.trans hml.symm) (argsL := As) (rest := rest) (fun sig h => hn.trans (hlen sig h)) hstack hW (by rw [hb]; exact hdg)
    (fun vm₁ hW₁ => ⟨hf.1, hf.2, hp.2 (T.setVm vm₁) hT hW₁⟩)
  dsimp only [Pt.U, Pt.locs, Pt.cells, Pt.slots] at X' e1 e2 h1 h2 h3 st
  subst h1; subst h2; subst h3
  exact ⟨v, (T.setVm vm₁).calling g' mk As.toArray, t, U', L, hT, X', hL, e1, e2, hq, st⟩
/-- not caught here, past rows that name other classes: it goes on to the caller -/
theorem vx_outP {p : Program} {l : Launch} {e : Env} {R : Room} {s : State} {m : MethodId} {args : Array Value} {below : List Frame} {meth : Method} {c : Code} {H : Heap} {locs : List Loc} {cells slots : Nat} {free : Addr → Prop} {ls : Array Slot} {rest : List Value} {Qc : Array Value → State → Outcome → State → Prop} {XC : String → State → State → Prop}
    {pc : Nat} {own E : String} {ce : Cell} {q : Addr} {mc ms : Nat} (hown : s.vm.findClass own = some m.cls) (hlocks : meth.locks = false)
    (hpass : ∀ z ∈ c.exceptionTable.toList, covers z pc = false ∨ (z.catchType ≠ 0 ∧ ∃ nm : String, (Cond.classLink own z.catchType nm).before args s = true ∧ va_Nc E nm s)) (hcell : H[q]? = some ce) (hv : ce.vm = .none) (hcl : s.vm.findClass E = some ce.cls)
    (hx : ∀ t : State, t.heap = H → s.vm.Alike t.vm → XC E s t) (hf : ∀ z ∈ locs, free z.base) (hc : cells ≤ mc) (hs : slots ≤ ms) :
    vx_W p l e R s m args below meth c H locs cells slots (vx_MQ below Qc XC args s mc ms free) (F0 m pc ls rest) q := by
  intro T hT X
  have hpl : e.platform.magicAccessors = ({} : Platform).magicAccessors := by rw [X.admits.platform]
  obtain ⟨vm', hW', X', st⟩ := X.outThrough hlocks q (g := F0 m pc ls rest) rfl rfl rfl (cell := ce) (by rw [hT]; exact hcell) (by rw [hv]; rfl)
    (by obtain ⟨k9, h9, -⟩ := Vm.findClass_spec hcl; exact ⟨k9, h9⟩) (fun z hz => by
      rcases hpass z hz with h | ⟨hz0, nm, hl1, hn1⟩
      · exact Or.inl h
      · obtain ⟨c6, hc6, hcl6⟩ := Cond.classLink_spec hown hl1 e.platform hpl
        obtain ⟨a8, b8, h1, h2, h3⟩ := hn1
        cases Option.some.inj (h1.symm.trans hcl)
        cases Option.some.inj (h2.symm.trans hc6)
        exact Or.inr ⟨hz0, _, hcl6, h3⟩)
  obtain ⟨g₀, hfr⟩ := X'.frames_eq
  have hcell9 : ((T.setVm vm').setFrames (.throwing q :: below)).heap[q]? = some ce := by
    show T.heap[q]? = some ce
    rw [hT]; exact hcell
  have hend : Ended ((T.setVm vm').setFrames (.throwing q :: below)) below (.threw q) := State.frames_setFrames _ (State.cur_lt_of_frames hfr)
  refine ⟨(T.setVm vm').setFrames (.throwing q :: below), ?_, .threw q, X'.here.running, hend, Or.inr ⟨q, rfl, E, ce, locs, hx _ hT (X'.ends _).1.alike, hcell9, hv, hcl, (X'.ends _).1, (X'.ends _).2.mono hc hs, hf⟩⟩
  rw [X.pushThrowing_eq]
  exact st
/-- a thing of a world lies in the heap -/
theorem vx_lt {D : va_G} {cl : List vw_C} {ws : va_W} {H1 : Heap} (h : va_P D cl ws H1) {k : Nat} {q : Nat × va_E} (hk : ws[k]? = some q) : q.1 < H1.size := (h k q hk).lt
end VXS
/-! ===== END ===== -/
/-! ===== BEGIN methods with a table of their own: called by a name, returning or throwing ===== -/
section VXH
/-! vx_backW, vx_callVX, vx_callSX, vx_callVW, vx_runVW, vx_runVX, vx_runSX, vx_ofWH follow the same proofs as their sisters above (Free/Laws.lean, Shelf42/LK1.lean); vx_outP calls Shelf42/NT130.lean (outThrough). -/
section
variable {l : Launch} {R : Room} {p : Program} {e : Env} {below : List Frame} {s : State} {sargs : Array Value} {y : MethodName} {len W9 : Nat}
theorem vx_backW {ws : List Cond} {rm : Room} {Pc : Array Value → State → Prop} {Qc : Array Value → State → Outcome → State → Prop} {XC : String → State → State → Prop} {mc ms : Nat} {free : Addr → Prop} {bytes : ByteArray} {maxL : Nat} {ret : Option FieldType} {hh : List (Nat × Nat × Nat × Nat)}
    (hM : vx_Met l y ws rm Pc Qc XC mc ms free) (hblind : FrameBlind Pc) (hrc : rm.cells = mc) (hrs : rm.slots = ms)
    (hframes : rm.frames + 1 ≤ R.frames) (hlocals : W9 + (maxL + 11) + rm.locals ≤ R.locals)
    (hws : ∀ w ∈ ws, ∀ a' U, s.WarmedH U.vm → w.before a' U = true) (hcode : Cond.codeWith y bytes maxL ret hh ∈ ws) (hinit : ∀ a' U, s.WarmedH U.vm → (Cond.initialized y.cls).before a' U = true) :
    vx_Back l R p e below s sargs y len W9 (PreOf R mc ms Pc) (PostOf Qc mc ms free) (vx_Post XC mc ms free) := by
  intro m meth c A g ig mk a X hg hsize hdg hW hn hp
  have h1 : (headSpec ws rm).pre.before a A.U = true := atoms_intro fun w hw => hws w hw _ _ X.warmed
  have h2 : (Cond.codeWith y bytes maxL ret hh).before a A.U = true := hws _ hcode _ _ X.warmed
  have h3 : (Cond.initialized y.cls).before a A.U = true := hinit _ _ X.warmed
  have h4 : A.cells + (headSpec ws rm).room.cells ≤ R.cells := by rw [show (headSpec ws rm).room.cells = mc from hrc]; exact hp.1
  have h5 : A.slots + (headSpec ws rm).room.slots ≤ R.slots := by rw [show (headSpec ws rm).room.slots = ms from hrs]; exact hp.2.1
  have hPc : Pc a (A.U.calling g mk a) := hblind _ _ _ _ hp.2.2
  obtain ⟨U, Ls, c0, s0⟩ := A
  dsimp only [Pt.U, Pt.locs, Pt.cells, Pt.slots] at h1 h2 h3 h4 h5 X hn hPc ⊢
  obtain ⟨m9, methY, cY, hn9, hmY, hcY, -, hlY, -⟩ := Cond.codeWith_spec h2
  cases Option.some.inj (hn9.symm.trans hn)
  obtain ⟨kY, hkY, -⟩ := className_of_methodNamed hn
  have hinitY : kY.init = .initialized := Cond.initialized_spec (findClass_of_methodNamed hn) hkY h3
  have h : At U g.method c below := by rw [hg]; exact X.here
  have hlocals9 : W9 + (maxL + 11) + (headSpec ws rm).room.locals ≤ R.locals := hlocals
  have happ : (headSpec ws rm).appliesLoose y e.platform (U.calling g mk a) = true :=
    Spec.appliesLoose_calling (g := g) h hdg hn hkY hinitY
      (X.room_calling (g := g) (R' := (headSpec ws rm).room) hsize hmY hcY hframes (by rw [hlY]; omega) h4 h5) h1
  obtain ⟨mid, hmid⟩ := h.above
  have hfr : (U.setTop g).frames = (.java g :: mid) ++ below := by rw [State.frames_setTop' g h.top, hmid]; rfl
  obtain ⟨o, s₂, hsteps, -, hend, hq⟩ := Steps.callFree hM p X.admits X.cas X.clock (acts := []) hfr happ hPc trivial
  have hq' : vx_Q Qc XC mc ms free a (U.calling g mk a) o s₂ := hq
  rw [State.frames_setTop' g h.top] at hend
  obtain ⟨g₀, hg0⟩ := Option.isSome_iff_exists.mp h.top
  obtain ⟨r, hr⟩ := State.topJava?_eq_some.mp hg0
  have hr' : (({ U with heap := s₂.heap, slotsUsed := s₂.slotsUsed } : State).setVm s₂.vm).frames = .java g₀ :: r := hr
  rcases hq' with ⟨hqc, L, hfe, hL⟩ | ⟨q, rfl, E, ce, L, hx, hce, hcv, hcl, hW₂, hsm, hL⟩
  · obtain ⟨⟨v, rfl⟩, hW₂, e2, q2, q3, q4, q5, q6⟩ := id hfe
    have e3 : s₂ = ({ (U.calling g mk a).setFrames s₂.frames with heap := s₂.heap, slotsUsed := s₂.slotsUsed } : State).setVm s₂.vm := by
      have : s₂ = ({ s₂ with vm := (U.calling g mk a).vm } : State).setVm s₂.vm := rfl
      rw [e2] at this
      exact this
    obtain ⟨c₂, i₂, len₂, hc₂, hd₂, hf₂⟩ := hend
    have hW' : U.WarmedH s₂.vm := hW₂
    have hcc : c₂ = c := by
      have h1 : s₂.code? g.method = U.code? g.method := by
        rw [State.code?_eq, State.code?_eq, hW'.alike.method?]
      exact Option.some.inj (hc₂.symm.trans (h1.trans h.code))
    subst hcc
    have hlen : len₂ = len := by rw [hdg] at hd₂; cases hd₂; rfl
    subst hlen
    have hs₂ : s₂ = (({ U with heap := s₂.heap, slotsUsed := s₂.slotsUsed } : State).setVm s₂.vm).setTop { g with pc := g.pc + len₂, stack := v.toList ++ g.stack } := by
      refine e3.trans ?_
      rw [hf₂, State.calling_eq h.top, State.setFrames_setFrames, State.setTop_of_frames _ hr', hr]
      rfl
    have hsame : U.sameButNew ({ U with heap := s₂.heap, slotsUsed := s₂.slotsUsed } : State) L mc ms := by
      refine ⟨?_, q2, q3, q4, q5, q6⟩
      obtain ⟨t, ht, -⟩ := State.frames_cons hr
      show ({ U with heap := s₂.heap, slotsUsed := s₂.slotsUsed } : State) = { U.setFrames U.frames with heap := s₂.heap, slotsUsed := s₂.slotsUsed }
      rw [State.setFrames_self ht]
    subst hg
    refine Or.inl ⟨v, ⟨(({ U with heap := s₂.heap, slotsUsed := s₂.slotsUsed } : State).setVm s₂.vm), Ls ++ L, c0 + mc, s0 + ms⟩,
      ⟨X.admits, X.cas, X.clock, X.frames, X.room, X.hears, X.method, X.code, (X.here.setHeapUsed s₂.heap s₂.slotsUsed).setVm hW'.alike, X.tail, State.WarmedH.trans X.warmed hW', X.limits, X.bytes, X.same.trans (hsame.setVm s.vm)⟩,
      ⟨g, mk, s₂, L, rfl, rfl, hqc, rfl, hL, rfl, rfl⟩, ?_⟩
    show Steps p.tables e below _ ((({ U with heap := s₂.heap, slotsUsed := s₂.slotsUsed } : State).setVm s₂.vm).setTop { g with pc := g.pc + len₂, stack := v.toList ++ g.stack })
    rw [← hs₂]
    exact hsteps
  · obtain ⟨e2, q2, q3, q4, q5, q6⟩ := id hsm
    have e3 : s₂ = ({ (U.calling g mk a).setFrames s₂.frames with heap := s₂.heap, slotsUsed := s₂.slotsUsed } : State).setVm s₂.vm := by
      have : s₂ = ({ s₂ with vm := (U.calling g mk a).vm } : State).setVm s₂.vm := rfl
      rw [e2] at this
      exact this
    have hf₂ : s₂.frames = .throwing q :: .java g :: U.frames.tail := hend
    have hW' : U.WarmedH s₂.vm := hW₂
    have hs₂ : s₂ = ((({ U with heap := s₂.heap, slotsUsed := s₂.slotsUsed } : State).setVm s₂.vm).setTop g).pushFrame (.throwing q) := by
      refine e3.trans ?_
      rw [hf₂, State.calling_eq h.top, State.setFrames_setFrames, State.pushFrame, State.frames_setTop _ hr', State.setTop_of_frames _ hr', State.setFrames_setFrames, hr]
      rfl
    have hsame : U.sameButNew ({ U with heap := s₂.heap, slotsUsed := s₂.slotsUsed } : State) L mc ms := by
      refine ⟨?_, q2, q3, q4, q5, q6⟩
      obtain ⟨t, ht, -⟩ := State.frames_cons hr
      show ({ U with heap := s₂.heap, slotsUsed := s₂.slotsUsed } : State) = { U.setFrames U.frames with heap := s₂.heap, slotsUsed := s₂.slotsUsed }
      rw [State.setFrames_self ht]
    subst hg
    refine Or.inr ⟨q, ⟨(({ U with heap := s₂.heap, slotsUsed := s₂.slotsUsed } : State).setVm s₂.vm), Ls ++ L, c0 + mc, s0 + ms⟩,
      ⟨X.admits, X.cas, X.clock, X.frames, X.room, X.hears, X.method, X.code, (X.here.setHeapUsed s₂.heap s₂.slotsUsed).setVm hW'.alike, X.tail, State.WarmedH.trans X.warmed hW', X.limits, X.bytes, X.same.trans (hsame.setVm s.vm)⟩,
      ⟨g, mk, s₂, L, E, ce, rfl, rfl, hx, hce, hcv, hcl, rfl, hL, rfl, rfl⟩, ?_⟩
    show Steps p.tables e below _ (((({ U with heap := s₂.heap, slotsUsed := s₂.slotsUsed } : State).setVm s₂.vm).setTop g).pushFrame (.throwing q))
    rw [← hs₂]
    exact hsteps
end
variable {p : Program} {l : Launch} {e : Env} {R : Room} {s : State} {m : MethodId} {args : Array Value} {below : List Frame} {meth : Method} {c : Code} {T : State} {H : Heap} {locs : List Loc} {cells slots : Nat}
theorem vx_callVX (X : Stand p l e R s m args below meth c T locs cells slots) (hexec : p.tables.exec = Jvm.exec) {own C : String} {index : Nat} {y : MethodName} {bytes : ByteArray} {maxL : Nat} {ret : Option FieldType} {hh : List (Nat × Nat × Nat × Nat)}
    (hown : s.vm.findClass own = some m.cls) (hlink : (Cond.methodLink own index y).before args s = true) (hinst : (Cond.instanceMethod y).before args s = true) (hsel : (Cond.selects C y y).before args s = true)
    (hcode : (Cond.codeWith y bytes maxL ret hh).before args s = true) (hy : y.cls ≠ "java/lang/invoke/MethodHandle" ∧ y.cls ≠ "java/lang/invoke/VarHandle")
    {W9 : Nat} {Pre : Pt → Array Value → Prop} {Post : Pt → Array Value → Option Value → Pt → Prop} {PostX : Pt → Array Value → Addr → Pt → Prop} (hK : vx_Back l R p e below s args y 3 W9 Pre Post PostX)
    {b : Addr} {cellB : Cell} (hcell : T.heap[b]? = some cellB) (hobj : cellB.vm.isStatics = false) (hcls : s.vm.findClass C = some cellB.cls)
    {g : JFrame} (hg : g.method = m) (hsize : g.locals.size = c.maxLocals) {argsL rest : List Value} (hlen : ∀ sig, parseMethodDescriptor y.desc = some sig → argsL.length = sig.parameters.length)
    (hstack : g.stack = argsL.reverse ++ .ref b :: rest) (hW : 2 * g.monitorRoom + (rest.map fun v => v.category).sum ≤ W9) (hdg : decode c.code g.pc = .ok (.invokevirtual index, 3))
    (hpre : ∀ vm₁, s.WarmedH vm₁ → Pre ⟨T.setVm vm₁, locs, cells, slots⟩ (Value.ref b :: argsL).toArray) :
    (∃ (v : Option Value) (vm₁ : Vm) (B : Pt), s.WarmedH vm₁ ∧ Stand p l e R s m args below meth c B.U B.locs B.cells B.slots ∧ Post ⟨T.setVm vm₁, locs, cells, slots⟩ (Value.ref b :: argsL).toArray v B ∧
      ∀ target, Steps p.tables e below (B.U.setTop { g with pc := g.pc + 3, stack := v.toList ++ rest }) target → Steps p.tables e below (T.setTop g) target) ∨
    (∃ (q : Addr) (vm₁ : Vm) (B : Pt), s.WarmedH vm₁ ∧ Stand p l e R s m args below meth c B.U B.locs B.cells B.slots ∧ PostX ⟨T.setVm vm₁, locs, cells, slots⟩ (Value.ref b :: argsL).toArray q B ∧
      Steps p.tables e below (T.setTop g) ((B.U.setTop { g with stack := rest }).pushFrame (.throwing q))) := by
  obtain ⟨mk, methM, hnamed, hmethM, hstM, habM⟩ := Cond.instanceMethod_spec hinst
  obtain ⟨m8, methM', cM, hn8, hmethM', -, -, -, -, -, -, hsigM⟩ := Cond.codeWith_spec hcode
  cases Option.some.inj (hn8.symm.trans hnamed)
  cases hmethM.symm.trans hmethM'
  obtain ⟨c2, r2, m2, q1, q2, q3, q4, kP, hkP, hkPi⟩ := Cond.selects_spec hsel
  cases hcls.symm.trans q1
  cases (State.methodFound?_of_named hnamed hy).symm.trans q2
  cases hnamed.symm.trans q3
  have hselP : selectMethod e.platform s.vm cellB.cls mk = .method mk := by rw [Launch.admits_selectMethod X.admits]; exact q4
  obtain ⟨vm₁, X₁, hstep₁⟩ := X.invokevirtual hexec hown hlink hnamed hmethM hstM hkP hkPi hy (a := b) (cell := cellB) hcell
    (fun z h => by rw [h] at hobj; cases hobj) hselP hmethM habM hkP hkPi (g := g) hg (argsL := argsL) (rest := rest) (hlen _ hsigM) hstack hdg
  rcases hK m meth c ⟨T.setVm vm₁, locs, cells, slots⟩ { g with stack := rest } (.invokevirtual index) mk (Value.ref b :: argsL).toArray X₁ hg hsize hdg hW (X₁.named hnamed) (hpre vm₁ X₁.warmed) with ⟨v, B, X', hpost, hsteps⟩ | ⟨q, B, X', hpost, hsteps⟩
  · exact Or.inl ⟨v, vm₁, B, X₁.warmed, X', hpost, fun target h => hstep₁ _ fun acts => by rw [doInvoke_state]; exact hsteps.trans h⟩
  · exact Or.inr ⟨q, vm₁, B, X₁.warmed, X', hpost, hstep₁ _ fun acts => by rw [doInvoke_state]; exact hsteps⟩
theorem vx_callSX (X : Stand p l e R s m args below meth c T locs cells slots) (hexec : p.tables.exec = Jvm.exec) {own : String} {index : Nat} {y : MethodName} {bytes : ByteArray} {maxL : Nat} {ret : Option FieldType} {hh : List (Nat × Nat × Nat × Nat)}
    (hown : s.vm.findClass own = some m.cls) (hlink : (Cond.methodLink own index y).before args s = true) (hstat : (Cond.static y).before args s = true) (hinit : (Cond.initialized y.cls).before args s = true)
    (hcode : (Cond.codeWith y bytes maxL ret hh).before args s = true) (hy : y.cls ≠ "java/lang/invoke/MethodHandle" ∧ y.cls ≠ "java/lang/invoke/VarHandle")
    {W9 : Nat} {Pre : Pt → Array Value → Prop} {Post : Pt → Array Value → Option Value → Pt → Prop} {PostX : Pt → Array Value → Addr → Pt → Prop} (hK : vx_Back l R p e below s args y 3 W9 Pre Post PostX)
    {g : JFrame} (hg : g.method = m) (hsize : g.locals.size = c.maxLocals) {argsL rest : List Value} (hlen : ∀ sig, parseMethodDescriptor y.desc = some sig → argsL.length = sig.parameters.length)
    (hstack : g.stack = argsL.reverse ++ rest) (hW : 2 * g.monitorRoom + (rest.map fun v => v.category).sum ≤ W9) (hdg : decode c.code g.pc = .ok (.invokestatic index, 3))
    (hpre : ∀ vm₁, s.WarmedH vm₁ → Pre ⟨T.setVm vm₁, locs, cells, slots⟩ argsL.toArray) :
    (∃ (v : Option Value) (vm₁ : Vm) (B : Pt), s.WarmedH vm₁ ∧ Stand p l e R s m args below meth c B.U B.locs B.cells B.slots ∧ Post ⟨T.setVm vm₁, locs, cells, slots⟩ argsL.toArray v B ∧
      ∀ target, Steps p.tables e below (B.U.setTop { g with pc := g.pc + 3, stack := v.toList ++ rest }) target → Steps p.tables e below (T.setTop g) target) ∨
    (∃ (q : Addr) (vm₁ : Vm) (B : Pt), s.WarmedH vm₁ ∧ Stand p l e R s m args below meth c B.U B.locs B.cells B.slots ∧ PostX ⟨T.setVm vm₁, locs, cells, slots⟩ argsL.toArray q B ∧
      Steps p.tables e below (T.setTop g) ((B.U.setTop { g with stack := rest }).pushFrame (.throwing q))) := by
  obtain ⟨mk, methM, cM, hnamed, hmethM, -, -, -, -, -, -, hsigM⟩ := Cond.codeWith_spec hcode
  have hstatic : methM.isStatic = true := Cond.static_spec hnamed hmethM hstat
  obtain ⟨kP, hkP, -⟩ := className_of_methodNamed hnamed
  have hinitP : kP.init = .initialized := Cond.initialized_spec (findClass_of_methodNamed hnamed) hkP hinit
  obtain ⟨vm₁, X₁, hstep₁⟩ := X.invokestatic hexec hown hlink hnamed hmethM hstatic hkP hinitP hy (g := g) hg (argsL := argsL) (rest := rest) (hlen _ hsigM) hstack hdg
  rcases hK m meth c ⟨T.setVm vm₁, locs, cells, slots⟩ { g with stack := rest } (.invokestatic index) mk argsL.toArray X₁ hg hsize hdg hW (X₁.named hnamed) (hpre vm₁ X₁.warmed) with ⟨v, B, X', hpost, hsteps⟩ | ⟨q, B, X', hpost, hsteps⟩
  · exact Or.inl ⟨v, vm₁, B, X₁.warmed, X', hpost, fun target h => hstep₁ _ fun acts => by rw [doInvoke_state]; exact hsteps.trans h⟩
  · exact Or.inr ⟨q, vm₁, B, X₁.warmed, X', hpost, hstep₁ _ fun acts => by rw [doInvoke_state]; exact hsteps⟩
theorem vx_callVW (X : Stand p l e R s m args below meth c T locs cells slots) (hexec : p.tables.exec = Jvm.exec) {own C : String} {index : Nat} {y : MethodName} {bytes : ByteArray} {maxL : Nat} {ret : Option FieldType} {hh : List (Nat × Nat × Nat × Nat)}
    (hown : s.vm.findClass own = some m.cls) (hlink : (Cond.methodLink own index y).before args s = true) (hinst : (Cond.instanceMethod y).before args s = true) (hsel : (Cond.selects C y y).before args s = true)
    (hcode : (Cond.codeWith y bytes maxL ret hh).before args s = true) (hy : y.cls ≠ "java/lang/invoke/MethodHandle" ∧ y.cls ≠ "java/lang/invoke/VarHandle")
    {W9 : Nat} {Pre : Pt → Array Value → Prop} {Post : Pt → Array Value → Option Value → Pt → Prop} (hK : Back l R p e below s args y 3 W9 Pre Post)
    {b : Addr} {cellB : Cell} (hcell : T.heap[b]? = some cellB) (hobj : cellB.vm.isStatics = false) (hcls : s.vm.findClass C = some cellB.cls)
    {g : JFrame} (hg : g.method = m) (hsize : g.locals.size = c.maxLocals) {argsL rest : List Value} (hlen : ∀ sig, parseMethodDescriptor y.desc = some sig → argsL.length = sig.parameters.length)
    (hstack : g.stack = argsL.reverse ++ .ref b :: rest) (hW : 2 * g.monitorRoom + (rest.map fun v => v.category).sum ≤ W9) (hdg : decode c.code g.pc = .ok (.invokevirtual index, 3))
    (hpre : ∀ vm₁, s.WarmedH vm₁ → Pre ⟨T.setVm vm₁, locs, cells, slots⟩ (Value.ref b :: argsL).toArray) :
    ∃ (v : Option Value) (vm₁ : Vm) (B : Pt), s.WarmedH vm₁ ∧ Stand p l e R s m args below meth c B.U B.locs B.cells B.slots ∧ Post ⟨T.setVm vm₁, locs, cells, slots⟩ (Value.ref b :: argsL).toArray v B ∧
      ∀ target, Steps p.tables e below (B.U.setTop { g with pc := g.pc + 3, stack := v.toList ++ rest }) target → Steps p.tables e below (T.setTop g) target := by
  obtain ⟨mk, methM, hnamed, hmethM, hstM, habM⟩ := Cond.instanceMethod_spec hinst
  obtain ⟨m8, methM', cM, hn8, hmethM', -, -, -, -, -, -, hsigM⟩ := Cond.codeWith_spec hcode
  cases Option.some.inj (hn8.symm.trans hnamed)
  cases hmethM.symm.trans hmethM'
  obtain ⟨c2, r2, m2, q1, q2, q3, q4, kP, hkP, hkPi⟩ := Cond.selects_spec hsel
  cases hcls.symm.trans q1
  cases (State.methodFound?_of_named hnamed hy).symm.trans q2
  cases hnamed.symm.trans q3
  have hselP : selectMethod e.platform s.vm cellB.cls mk = .method mk := by rw [Launch.admits_selectMethod X.admits]; exact q4
  obtain ⟨vm₁, X₁, hstep₁⟩ := X.invokevirtual hexec hown hlink hnamed hmethM hstM hkP hkPi hy (a := b) (cell := cellB) hcell
    (fun z h => by rw [h] at hobj; cases hobj) hselP hmethM habM hkP hkPi (g := g) hg (argsL := argsL) (rest := rest) (hlen _ hsigM) hstack hdg
  obtain ⟨v, B, X', hpost, hsteps⟩ := hK m meth c ⟨T.setVm vm₁, locs, cells, slots⟩ { g with stack := rest } (.invokevirtual index) mk (Value.ref b :: argsL).toArray X₁ hg hsize hdg hW (X₁.named hnamed) (hpre vm₁ X₁.warmed)
  exact ⟨v, vm₁, B, X₁.warmed, X', hpost, fun target h => hstep₁ _ fun acts => by rw [doInvoke_state]; exact hsteps.trans h⟩
abbrev vx_CVW (R : Room) (s : State) (args : Array Value) (own C : String) (index : Nat) (y : MethodName) (bytes : ByteArray) (maxL : Nat) (ret : Option FieldType) (hh : List (Nat × Nat × Nat × Nat)) (ws : List Cond) (rm : Room) (mc ms n : Nat) : Prop :=
  (rm.cells = mc ∧ rm.slots = ms ∧ rm.frames + 1 ≤ R.frames ∧ 8 + (maxL + 11) + rm.locals ≤ R.locals ∧ (∀ w ∈ ws, ∀ (a' : Array Value) (U : State), s.WarmedH U.vm → w.before a' U = true) ∧ Cond.codeWith y bytes maxL ret hh ∈ ws) ∧
  (Cond.codeWith y bytes maxL ret hh).before args s = true ∧ (Cond.initialized y.cls).before args s = true ∧ (y.cls ≠ "java/lang/invoke/MethodHandle" ∧ y.cls ≠ "java/lang/invoke/VarHandle") ∧
  (∀ sig, parseMethodDescriptor y.desc = some sig → n = sig.parameters.length) ∧ (Cond.methodLink own index y).before args s = true ∧ (Cond.instanceMethod y).before args s = true ∧ (Cond.selects C y y).before args s = true
theorem vx_cwVW {own C : String} {index maxL mc ms : Nat} {y : MethodName} {bytes : ByteArray} {ret : Option FieldType} {hh : List (Nat × Nat × Nat × Nat)} {Ts ws ws' : List Cond} {rm : Room} (n : Nat) (ht : ∀ w ∈ Ts, w.before args s = true) (hT : GoodIn Ts (wsV own index C y ws)) (hw : ws = Cond.codeWith y bytes maxL ret hh :: ws') (hrc : rm.cells = mc) (hrs : rm.slots = ms)
    (hd : y.cls = C ∧ y.cls ≠ "java/lang/invoke/MethodHandle" ∧ y.cls ≠ "java/lang/invoke/VarHandle" ∧ (parseMethodDescriptor y.desc).map (fun d => d.parameters.length) = some n) (hR : rm.frames + 1 ≤ R.frames ∧ 8 + (maxL + 11) + rm.locals ≤ R.locals) :
    vx_CVW R s args own C index y bytes maxL ret hh ws rm mc ms n := by
  obtain ⟨hC, hd⟩ := hd
  subst hC
  have ok : ∀ w ∈ wsV own index y.cls y ws, w.before args s = true := fun w h => ht w (hT w h).1
  have hG : GoodIn Ts ws := fun w h => hT w (by unfold wsV; exact List.mem_append_right _ h)
  have hc : Cond.codeWith y bytes maxL ret hh ∈ ws := by rw [hw]; exact List.mem_cons_self
  refine ⟨⟨hrc, hrs, hR.1, hR.2, pay_in ht hG, hc⟩, ht _ (hG _ hc).1, ok _ (by simp [wsV]), ⟨hd.1, hd.2.1⟩, fun sig h => ?_, ok _ (by simp [wsV]), ok _ (by simp [wsV]), ok _ (by simp [wsV])⟩
  have h2 := hd.2.2
  rw [h] at h2
  exact (Option.some.inj h2).symm
theorem vx_runVW {y : MethodName} {bytes cc : ByteArray} {maxL nL mc ms n index : Nat} {ret : Option FieldType} {hh : List (Nat × Nat × Nat × Nat)} {ws : List Cond} {rm : Room} {Pc : Array Value → State → Prop} {Qc : Array Value → State → Outcome → State → Prop} {free : Addr → Prop} {Ts : List Cond} {own C : String} {b : Addr} {As rest : List Value} {g : JFrame}
    (S : CallFix p m c cc nL s args Ts own) (hM : Met l y ws rm Pc Qc mc ms free) (cw : vx_CVW R s args own C index y bytes maxL ret hh ws rm mc ms n) (hp : PreV s H C b Pc As)
    (hg : g.method = m) (hn : As.length = n) (hsize : g.locals.size = nL) (hstack : g.stack = As.reverse ++ .ref b :: rest) (hW : 2 * g.monitorRoom + (rest.map fun v => v.category).sum ≤ 8) (hdg : decode cc g.pc = .ok (.invokevirtual index, 3)) (hf : cells + mc ≤ R.cells ∧ slots + ms ≤ R.slots) :
    va_Run p l e R s m args below meth c H locs cells slots mc ms g rest (Qc (Value.ref b :: As).toArray) free := by
  obtain ⟨⟨hrc, hrs, hfr, hlo, hws, hcw⟩, hcode, hini, hy, hlen, hl, hin, hse⟩ := cw
  have hK : Back l R p e below s args y 3 8 (PreOf R mc ms Pc) (PostOf Qc mc ms free) := va_backW (hh := hh) (bytes := bytes) (maxL := maxL) (ret := ret) hM hp.1 hrc hrs hfr hlo hws hcw (fun a' U hW => word_at hW (Or.inl (by first | rfl | simp [Cond.onTables, Cond.keeps, Cond.steady])) hini)
  obtain ⟨hx, hb, hml, ho, -⟩ := S
  obtain ⟨-, ⟨cellB, hcB, hoB, hclB⟩, hPc⟩ := hp
  intro T hT X
  obtain ⟨v, vm₁, ⟨U', l2, c2, s2⟩, hW₁, X', ⟨g', mk, t, L, e1, e2, hq, h1, hL, h2, h3⟩, st⟩ := vx_callVW X hx (C := C) (hh := hh) (bytes := bytes) (maxL := maxL) (ret := ret) ho hl hin hse hcode hy hK (by rw [hT]; exact hcB) hoB hclB hg (hsize.trans hml.symm) (argsL := As) (rest := rest) (fun sig h => hn.trans (hlen sig h)) hstack hW (by rw [hb]; exact hdg)
    (fun vm₁ hW₁ => ⟨hf.1, hf.2, hPc (T.setVm vm₁) hT hW₁⟩)
  dsimp only [Pt.U, Pt.locs, Pt.cells, Pt.slots] at X' e1 e2 h1 h2 h3 st
  subst h1; subst h2; subst h3
  exact ⟨v, (T.setVm vm₁).calling g' mk (Value.ref b :: As).toArray, t, U', L, hT, X', hL, e1, e2, hq, st⟩
section
variable {y : MethodName} {bytes cc : ByteArray} {maxL nL mc ms n index : Nat} {ret : Option FieldType} {ws : List Cond} {rm : Room} {Pc : Array Value → State → Prop} {Qc : Array Value → State → Outcome → State → Prop} {XC : String → State → State → Prop} {free : Addr → Prop} {Ts : List Cond} {own C : String} {b : Addr} {As rest : List Value} {g : JFrame}
theorem vx_runVX {hh : List (Nat × Nat × Nat × Nat)} (S : CallFix p m c cc nL s args Ts own) (hM : vx_Met l y ws rm Pc Qc XC mc ms free) (cw : vx_CVW R s args own C index y bytes maxL ret hh ws rm mc ms n) (hp : PreV s H C b Pc As)
    (hg : g.method = m) (hn : As.length = n) (hsize : g.locals.size = nL) (hstack : g.stack = As.reverse ++ .ref b :: rest) (hW : 2 * g.monitorRoom + (rest.map fun v => v.category).sum ≤ 8) (hdg : decode cc g.pc = .ok (.invokevirtual index, 3)) (hf : cells + mc ≤ R.cells ∧ slots + ms ≤ R.slots) :
    vx_Run p l e R s m args below meth c H locs cells slots mc ms g rest (Qc (Value.ref b :: As).toArray) XC free := by
  obtain ⟨⟨hrc, hrs, hfr, hlo, hws, hcw⟩, hcode, hini, hy, hlen, hl, hin, hse⟩ := cw
  have hK : vx_Back l R p e below s args y 3 8 (PreOf R mc ms Pc) (PostOf Qc mc ms free) (vx_Post XC mc ms free) := vx_backW (hh := hh) (bytes := bytes) (maxL := maxL) (ret := ret) hM hp.1 hrc hrs hfr hlo hws hcw (fun a' U hW => word_at hW (Or.inl (by first | rfl | simp [Cond.onTables, Cond.keeps, Cond.steady])) hini)
  obtain ⟨hx, hb, hml, ho, -⟩ := S
  obtain ⟨-, ⟨cellB, hcB, hoB, hclB⟩, hPc⟩ := hp
  intro T hT X
  rcases vx_callVX X hx (C := C) (hh := hh) (bytes := bytes) (maxL := maxL) (ret := ret) ho hl hin hse hcode hy hK (by rw [hT]; exact hcB) hoB hclB hg (hsize.trans hml.symm) (argsL := As) (rest := rest) (fun sig h => hn.trans (hlen sig h)) hstack hW (by rw [hb]; exact hdg)
    (fun vm₁ hW₁ => ⟨hf.1, hf.2, hPc (T.setVm vm₁) hT hW₁⟩) with ⟨v, vm₁, ⟨U', l2, c2, s2⟩, hW₁, X', ⟨g', mk, t, L, e1, e2, hq, h1, hL, h2, h3⟩, st⟩ | ⟨q, vm₁, ⟨U', l2, c2, s2⟩, hW₁, X', ⟨g', mk, t, L, E, ce, e1, e2, hq, hce, hcv, hcl, h1, hL, h2, h3⟩, st⟩
  · dsimp only [Pt.U, Pt.locs, Pt.cells, Pt.slots] at X' e1 e2 h1 h2 h3 st
    subst h1; subst h2; subst h3
    exact Or.inl ⟨v, (T.setVm vm₁).calling g' mk (Value.ref b :: As).toArray, t, U', L, hT, X', hL, e1, e2, hq, st⟩
  · dsimp only [Pt.U, Pt.locs, Pt.cells, Pt.slots] at X' e1 e2 h1 h2 h3 st hcl
    subst h1; subst h2; subst h3
    exact Or.inr ⟨q, (T.setVm vm₁).calling g' mk (Value.ref b :: As).toArray, t, U', L, E, ce, hT, X', hL, e1, e2, hq, hce, hcv, vx_cls hW₁ hcl, st⟩
theorem vx_runSX {hh : List (Nat × Nat × Nat × Nat)} (S : CallFix p m c cc nL s args Ts own) (hM : vx_Met l y ws rm Pc Qc XC mc ms free) (cw : vx_CSW R s args own index y bytes maxL ret hh ws rm mc ms n) (hp : PreS s H Pc As)
    (hg : g.method = m) (hn : As.length = n) (hsize : g.locals.size = nL) (hstack : g.stack = As.reverse ++ rest) (hW : 2 * g.monitorRoom + (rest.map fun v => v.category).sum ≤ 8) (hdg : decode cc g.pc = .ok (.invokestatic index, 3)) (hf : cells + mc ≤ R.cells ∧ slots + ms ≤ R.slots) :
    vx_Run p l e R s m args below meth c H locs cells slots mc ms g rest (Qc As.toArray) XC free := by
  obtain ⟨⟨hrc, hrs, hfr, hlo, hws, hcw⟩, hcode, hini, hy, hlen, hl, hstt⟩ := cw
  have hK : vx_Back l R p e below s args y 3 8 (PreOf R mc ms Pc) (PostOf Qc mc ms free) (vx_Post XC mc ms free) := vx_backW (hh := hh) (bytes := bytes) (maxL := maxL) (ret := ret) hM hp.1 hrc hrs hfr hlo hws hcw (fun a' U hW => word_at hW (Or.inl (by first | rfl | simp [Cond.onTables, Cond.keeps, Cond.steady])) hini)
  obtain ⟨hx, hb, hml, ho, -⟩ := S
  intro T hT X
  rcases vx_callSX X hx (hh := hh) (bytes := bytes) (maxL := maxL) (ret := ret) ho hl hstt hini hcode hy hK hg (hsize.trans hml.symm) (argsL := As) (rest := rest) (fun sig h => hn.trans (hlen sig h)) hstack hW (by rw [hb]; exact hdg)
    (fun vm₁ hW₁ => ⟨hf.1, hf.2, hp.2 (T.setVm vm₁) hT hW₁⟩) with ⟨v, vm₁, ⟨U', l2, c2, s2⟩, hW₁, X', ⟨g', mk, t, L, e1, e2, hq, h1, hL, h2, h3⟩, st⟩ | ⟨q, vm₁, ⟨U', l2, c2, s2⟩, hW₁, X', ⟨g', mk, t, L, E, ce, e1, e2, hq, hce, hcv, hcl, h1, hL, h2, h3⟩, st⟩
  · dsimp only [Pt.U, Pt.locs, Pt.cells, Pt.slots] at X' e1 e2 h1 h2 h3 st
    subst h1; subst h2; subst h3
    exact Or.inl ⟨v, (T.setVm vm₁).calling g' mk As.toArray, t, U', L, hT, X', hL, e1, e2, hq, st⟩
  · dsimp only [Pt.U, Pt.locs, Pt.cells, Pt.slots] at X' e1 e2 h1 h2 h3 st hcl
    subst h1; subst h2; subst h3
    exact Or.inr ⟨q, (T.setVm vm₁).calling g' mk As.toArray, t, U', L, E, ce, hT, X', hL, e1, e2, hq, hce, hcv, vx_cls hW₁ hcl, st⟩
end
end VXH
theorem vx_ofWH {l : Launch} {y : MethodName} {ws ws' : List Cond} {rm : Room} {Pc : Array Value → State → Prop} {Qc : Array Value → State → Outcome → State → Prop} {XC : String → State → State → Prop} {mc ms : Nat} {free : Addr → Prop} {cc : ByteArray} {maxL : Nat} {ret : Option FieldType} {hh : List (Nat × Nat × Nat × Nat)}
    (hy : plainName y.cls = true) (hw : ws = Cond.codeWith y cc maxL ret hh :: ws')
    (body : ∀ p e s m args below meth c s₁, BodyLoose p l y (headSpec ws rm) cc maxL ret e s m args below meth c s₁ → c.maxLocals = maxL → Pc args s →
      W p l e (headSpec ws rm).room s m args below meth c s.heap [] 0 0 (vx_MQ below Qc XC args s mc ms free) (entryFrame m args maxL)) : vx_Met l y ws rm Pc Qc XC mc ms free := by
  refine MetFree.of_bodyS (code := cc) (maxLocals := maxL) (ret := ret) hy ?_ ?_
  · intro args s m h hn
    obtain ⟨m9, meth, c, hn9, h1, h2, h3, h4, -, h5, h6, -⟩ := Cond.codeWith_spec (atoms_spec (ws := ws) h _ (by rw [hw]; exact List.mem_cons_self))
    cases hn.symm.trans hn9
    exact ⟨meth, c, h1, h2, h3, h4, h5, h6⟩
  · intro p e s m args below meth c s₁ B hml hP _
    have hh0 : s₁.heap = s.heap := by rw [B.state]; rfl
    obtain ⟨t, a1, o, b1, b2, b3⟩ := body p e s m args below meth c s₁ B hml hP s₁ hh0 (Stand.of_body B)
    exact ⟨t, o, a1, b1, b2, b3⟩
/-! ===== END ===== -/
/-! ===== BEGIN a constructor that throws (launches without stack traces) ===== -/
section VXIA
variable {p : Program} {l : Launch} {e : Env} {R : Room} {s : State} {m : MethodId} {args : Array Value} {below : List Frame} {meth : Method} {c : Code} {T : State} {locs : List Loc} {cells slots : Nat}
theorem vx_callI (X : Stand p l e R s m args below meth c T locs cells slots) (hexec : p.tables.exec = Jvm.exec) {own : String} {index : Nat} {y : MethodName} {bytes : ByteArray} {maxL : Nat}
    (hown : s.vm.findClass own = some m.cls) (hy1 : y.name = "<init>") (hlink : (Cond.methodLink own index y).before args s = true) (hinst : (Cond.instanceMethod y).before args s = true)
    (hcode : (Cond.code y bytes maxL none).before args s = true) (hy : y.cls ≠ "java/lang/invoke/MethodHandle" ∧ y.cls ≠ "java/lang/invoke/VarHandle")
    {W9 : Nat} {Pre : Pt → Array Value → Prop} {Post : Pt → Array Value → Option Value → Pt → Prop} {PostX : Pt → Array Value → Addr → Pt → Prop} (hK : vx_Back l R p e below s args y 3 W9 Pre Post PostX)
    {g : JFrame} (hg : g.method = m) (hsize : g.locals.size = c.maxLocals) {a : Addr} {argsL rest : List Value} (hlen : ∀ sig, parseMethodDescriptor y.desc = some sig → argsL.length = sig.parameters.length)
    (hstack : g.stack = argsL.reverse ++ .ref a :: rest) (hW : 2 * g.monitorRoom + (rest.map fun v => v.category).sum ≤ W9) (hdg : decode c.code g.pc = .ok (.invokespecial index, 3))
    (hpre : ∀ vm₁, s.WarmedH vm₁ → Pre ⟨T.setVm vm₁, locs, cells, slots⟩ (Value.ref a :: argsL).toArray) :
    (∃ (v : Option Value) (vm₁ : Vm) (B : Pt), s.WarmedH vm₁ ∧ Stand p l e R s m args below meth c B.U B.locs B.cells B.slots ∧ Post ⟨T.setVm vm₁, locs, cells, slots⟩ (Value.ref a :: argsL).toArray v B ∧
      ∀ target, Steps p.tables e below (B.U.setTop { g with pc := g.pc + 3, stack := v.toList ++ rest }) target → Steps p.tables e below (T.setTop g) target) ∨
    (∃ (q : Addr) (vm₁ : Vm) (B : Pt), s.WarmedH vm₁ ∧ Stand p l e R s m args below meth c B.U B.locs B.cells B.slots ∧ PostX ⟨T.setVm vm₁, locs, cells, slots⟩ (Value.ref a :: argsL).toArray q B ∧
      Steps p.tables e below (T.setTop g) ((B.U.setTop { g with stack := rest }).pushFrame (.throwing q))) := by
  subst hg
  have hpl : e.platform.magicAccessors = ({} : Platform).magicAccessors := by rw [X.admits.platform]
  obtain ⟨mk, methM, cM, kP, vm₁, hnamed, hmethM, hcodeM, -, hlocalsM, -, hkP, -, hW₁, hstep₁⟩ := Steps.initColdArgs (e := e) X.here hexec X.warmed hpl hown hy1 hy hlink hinst hcode (f := g) rfl hlen hstack hdg
  have X₁ := X.noted hW₁
  rcases hK g.method meth c ⟨T.setVm vm₁, locs, cells, slots⟩ { g with stack := rest } (.invokespecial index) mk (Value.ref a :: argsL).toArray X₁ rfl hsize hdg hW (X₁.named hnamed) (hpre vm₁ X₁.warmed) with ⟨v, B, X', hpost, hsteps⟩ | ⟨q, B, X', hpost, hsteps⟩
  · exact Or.inl ⟨v, vm₁, B, X₁.warmed, X', hpost, fun target h => hstep₁ _ fun acts => by rw [doInvoke_state]; exact hsteps.trans h⟩
  · exact Or.inr ⟨q, vm₁, B, X₁.warmed, X', hpost, hstep₁ _ fun acts => by rw [doInvoke_state]; exact hsteps⟩
end VXIA
section VXIB
variable {p : Program} {l : Launch} {e : Env} {R : Room} {s : State} {m : MethodId} {args : Array Value} {below : List Frame} {meth : Method} {c : Code} {H : Heap} {locs : List Loc} {cells slots : Nat}
variable {y : MethodName} {bytes cc : ByteArray} {maxL nL mc ms n index : Nat} {ret : Option FieldType} {ws : List Cond} {rm : Room} {Pc : Array Value → State → Prop} {Qc : Array Value → State → Outcome → State → Prop} {XC : String → State → State → Prop} {free : Addr → Prop} {Ts : List Cond} {own C : String} {b : Addr} {As rest : List Value} {g : JFrame}
theorem vx_runI (S : CallFix p m c cc nL s args Ts own) (hM : vx_Met l y ws rm Pc Qc XC mc ms free) (cw : CallB R s args own index y bytes maxL none ws rm mc ms n ∧ y.name = "<init>" ∧ (Cond.instanceMethod y).before args s = true) (hp : PreS s H Pc (.ref b :: As))
    (hg : g.method = m) (hn : As.length = n) (hsize : g.locals.size = nL) (hstack : g.stack = As.reverse ++ .ref b :: rest) (hW : 2 * g.monitorRoom + (rest.map fun v => v.category).sum ≤ 8) (hdg : decode cc g.pc = .ok (.invokespecial index, 3)) (hf : cells + mc ≤ R.cells ∧ slots + ms ≤ R.slots) :
    vx_Run p l e R s m args below meth c H locs cells slots mc ms g rest (Qc (Value.ref b :: As).toArray) XC free := by
  have hK : vx_Back l R p e below s args y 3 8 (PreOf R mc ms Pc) (PostOf Qc mc ms free) (vx_Post XC mc ms free) := vx_callBack cw.1 hM hp.1
  obtain ⟨⟨-, -, -, -, -, -, hcode, -, hy, hlen, hl⟩, hy1, hin⟩ := cw
  obtain ⟨hx, hb, hml, ho, -⟩ := S
  have hPc := hp.2
  intro T hT X
  rcases vx_callI X hx (bytes := bytes) (maxL := maxL) ho hy1 hl hin hcode hy hK hg (hsize.trans hml.symm) (a := b) (argsL := As) (rest := rest) (fun sig h => hn.trans (hlen sig h)) hstack hW (by rw [hb]; exact hdg)
    (fun vm₁ hW₁ => ⟨hf.1, hf.2, hPc (T.setVm vm₁) hT hW₁⟩) with ⟨v, vm₁, ⟨U', l2, c2, s2⟩, hW₁, X', ⟨g', mk, t, L, e1, e2, hq, h1, hL, h2, h3⟩, st⟩ | ⟨q, vm₁, ⟨U', l2, c2, s2⟩, hW₁, X', ⟨g', mk, t, L, E, ce, e1, e2, hq, hce, hcv, hcl, h1, hL, h2, h3⟩, st⟩
  · dsimp only [Pt.U, Pt.locs, Pt.cells, Pt.slots] at X' e1 e2 h1 h2 h3 st
    subst h1; subst h2; subst h3
    exact Or.inl ⟨v, (T.setVm vm₁).calling g' mk (Value.ref b :: As).toArray, t, U', L, hT, X', hL, e1, e2, hq, st⟩
  · dsimp only [Pt.U, Pt.locs, Pt.cells, Pt.slots] at X' e1 e2 h1 h2 h3 st hcl
    subst h1; subst h2; subst h3
    exact Or.inr ⟨q, (T.setVm vm₁).calling g' mk (Value.ref b :: As).toArray, t, U', L, E, ce, hT, X', hL, e1, e2, hq, hce, hcv, vx_cls hW₁ hcl, st⟩
end VXIB
/-! ===== END ===== -/
/-! ===== BEGIN a private constructor of a nest mate that throws ===== -/
section VXIC
variable {p : Program} {l : Launch} {e : Env} {R : Room} {s : State} {m : MethodId} {args : Array Value} {below : List Frame} {meth : Method} {c : Code} {T : State} {locs : List Loc} {cells slots : Nat}
theorem vx_callIN (X : Stand p l e R s m args below meth c T locs cells slots) (hexec : p.tables.exec = Jvm.exec) {own : String} {index : Nat} {host : String} {y : MethodName} {bytes : ByteArray} {maxL : Nat}
    (hown : s.vm.findClass own = some m.cls) (hy1 : y.name = "<init>") (hlink : (Cond.methodLinkNest own index y host).before args s = true) (hinst : (Cond.instanceMethod y).before args s = true)
    (hcode : (Cond.code y bytes maxL none).before args s = true) (hy : y.cls ≠ "java/lang/invoke/MethodHandle" ∧ y.cls ≠ "java/lang/invoke/VarHandle")
    {W9 : Nat} {Pre : Pt → Array Value → Prop} {Post : Pt → Array Value → Option Value → Pt → Prop} {PostX : Pt → Array Value → Addr → Pt → Prop} (hK : vx_Back l R p e below s args y 3 W9 Pre Post PostX)
    {g : JFrame} (hg : g.method = m) (hsize : g.locals.size = c.maxLocals) {a : Addr} {argsL rest : List Value} (hlen : ∀ sig, parseMethodDescriptor y.desc = some sig → argsL.length = sig.parameters.length)
    (hstack : g.stack = argsL.reverse ++ .ref a :: rest) (hW : 2 * g.monitorRoom + (rest.map fun v => v.category).sum ≤ W9) (hdg : decode c.code g.pc = .ok (.invokespecial index, 3))
    (hpre : ∀ vm₁, s.WarmedH vm₁ → Pre ⟨T.setVm vm₁, locs, cells, slots⟩ (Value.ref a :: argsL).toArray) :
    (∃ (v : Option Value) (vm₁ : Vm) (B : Pt), s.WarmedH vm₁ ∧ Stand p l e R s m args below meth c B.U B.locs B.cells B.slots ∧ Post ⟨T.setVm vm₁, locs, cells, slots⟩ (Value.ref a :: argsL).toArray v B ∧
      ∀ target, Steps p.tables e below (B.U.setTop { g with pc := g.pc + 3, stack := v.toList ++ rest }) target → Steps p.tables e below (T.setTop g) target) ∨
    (∃ (q : Addr) (vm₁ : Vm) (B : Pt), s.WarmedH vm₁ ∧ Stand p l e R s m args below meth c B.U B.locs B.cells B.slots ∧ PostX ⟨T.setVm vm₁, locs, cells, slots⟩ (Value.ref a :: argsL).toArray q B ∧
      Steps p.tables e below (T.setTop g) ((B.U.setTop { g with stack := rest }).pushFrame (.throwing q))) := by
  subst hg
  have hpl : e.platform.magicAccessors = ({} : Platform).magicAccessors := by rw [X.admits.platform]
  obtain ⟨mk, methM, cM, kP, vm₁, hnamed, hmethM, hcodeM, -, hlocalsM, -, hkP, -, hW₁, hstep₁⟩ := Steps.initColdArgsNest (e := e) X.here hexec X.warmed hpl hown hy1 hy hlink hinst hcode (f := g) rfl hlen hstack hdg
  have X₁ := X.noted hW₁
  rcases hK g.method meth c ⟨T.setVm vm₁, locs, cells, slots⟩ { g with stack := rest } (.invokespecial index) mk (Value.ref a :: argsL).toArray X₁ rfl hsize hdg hW (X₁.named hnamed) (hpre vm₁ X₁.warmed) with ⟨v, B, X', hpost, hsteps⟩ | ⟨q, B, X', hpost, hsteps⟩
  · exact Or.inl ⟨v, vm₁, B, X₁.warmed, X', hpost, fun target h => hstep₁ _ fun acts => by rw [doInvoke_state]; exact hsteps.trans h⟩
  · exact Or.inr ⟨q, vm₁, B, X₁.warmed, X', hpost, hstep₁ _ fun acts => by rw [doInvoke_state]; exact hsteps⟩
end VXIC
section VXID
variable {p : Program} {l : Launch} {e : Env} {R : Room} {s : State} {m : MethodId} {args : Array Value} {below : List Frame} {meth : Method} {c : Code} {H : Heap} {locs : List Loc} {cells slots : Nat}
theorem vx_runIN {y : MethodName} {bytes cc : ByteArray} {maxL nL mc ms n index : Nat} {ws : List Cond} {rm : Room} {Pc : Array Value → State → Prop} {Qc : Array Value → State → Outcome → State → Prop} {XC : String → State → State → Prop} {free : Addr → Prop} {Ts : List Cond} {own host : String} {b : Addr} {As rest : List Value} {g : JFrame}
    (S : CallFix p m c cc nL s args Ts own) (hM : vx_Met l y ws rm Pc Qc XC mc ms free) (cw : va_CN R s args own index y host bytes maxL none ws rm mc ms n ∧ y.name = "<init>" ∧ (Cond.instanceMethod y).before args s = true) (hp : PreS s H Pc (.ref b :: As))
    (hg : g.method = m) (hn : As.length = n) (hsize : g.locals.size = nL) (hstack : g.stack = As.reverse ++ .ref b :: rest) (hW : 2 * g.monitorRoom + (rest.map fun v => v.category).sum ≤ 8) (hdg : decode cc g.pc = .ok (.invokespecial index, 3)) (hf : cells + mc ≤ R.cells ∧ slots + ms ≤ R.slots) :
    vx_Run p l e R s m args below meth c H locs cells slots mc ms g rest (Qc (Value.ref b :: As).toArray) XC free := by
  obtain ⟨⟨⟨hrc, hrs, hfr, hlo, hws, hcw⟩, hcode, hini, hy, hlen, hl⟩, hx1, hx2⟩ := cw
  have hK : vx_Back l R p e below s args y 3 8 (PreOf R mc ms Pc) (PostOf Qc mc ms free) (vx_Post XC mc ms free) := vx_back (bytes := bytes) (maxL := maxL) (ret := none) hM hp.1 hrc hrs hfr hlo hws hcw (fun a' U hW => word_at hW (Or.inl (by first | rfl | simp [Cond.onTables, Cond.keeps, Cond.steady])) hini)
  obtain ⟨hx, hb, hml, ho, -⟩ := S
  have hPc := hp.2
  intro T hT X
  rcases vx_callIN X hx (bytes := bytes) (maxL := maxL) ho hx1 hl hx2 hcode hy hK hg (hsize.trans hml.symm) (a := b) (argsL := As) (rest := rest) (fun sig h => hn.trans (hlen sig h)) hstack hW (by rw [hb]; exact hdg)
    (fun vm₁ hW₁ => ⟨hf.1, hf.2, hPc (T.setVm vm₁) hT hW₁⟩) with ⟨v, vm₁, ⟨U', l2, c2, s2⟩, hW₁, X', ⟨g', mk, t, L, e1, e2, hq, h1, hL, h2, h3⟩, st⟩ | ⟨q, vm₁, ⟨U', l2, c2, s2⟩, hW₁, X', ⟨g', mk, t, L, E, ce, e1, e2, hq, hce, hcv, hcl, h1, hL, h2, h3⟩, st⟩
  · dsimp only [Pt.U, Pt.locs, Pt.cells, Pt.slots] at X' e1 e2 h1 h2 h3 st
    subst h1; subst h2; subst h3
    exact Or.inl ⟨v, (T.setVm vm₁).calling g' mk (Value.ref b :: As).toArray, t, U', L, hT, X', hL, e1, e2, hq, st⟩
  · dsimp only [Pt.U, Pt.locs, Pt.cells, Pt.slots] at X' e1 e2 h1 h2 h3 st hcl
    subst h1; subst h2; subst h3
    exact Or.inr ⟨q, (T.setVm vm₁).calling g' mk (Value.ref b :: As).toArray, t, U', L, E, ce, hT, X', hL, e1, e2, hq, hce, hcv, vx_cls hW₁ hcl, st⟩
end VXID
/-! ===== END ===== -/
/-! ===== BEGIN a private method of a nest mate that may throw (follows va_callVN, va_callSN, va_runVN, va_runSN) ===== -/
section
variable {p : Program} {l : Launch} {e : Env} {R : Room} {s : State} {m : MethodId} {args : Array Value} {below : List Frame} {meth : Method} {c : Code} {H : Heap} {locs : List Loc} {cells slots : Nat}
variable {T : State}
theorem vx_callVN (X : Stand p l e R s m args below meth c T locs cells slots) (hexec : p.tables.exec = Jvm.exec) {own C : String} {index : Nat} {host : String} {y : MethodName} {bytes : ByteArray} {maxL : Nat} {ret : Option FieldType}
    (hown : s.vm.findClass own = some m.cls) (hlink : (Cond.methodLinkNest own index y host).before args s = true) (hinst : (Cond.instanceMethod y).before args s = true) (hsel : (Cond.selects C y y).before args s = true)
    (hcode : (Cond.code y bytes maxL ret).before args s = true) (hy : y.cls ≠ "java/lang/invoke/MethodHandle" ∧ y.cls ≠ "java/lang/invoke/VarHandle")
    {W : Nat} {Pre : Pt → Array Value → Prop} {Post : Pt → Array Value → Option Value → Pt → Prop} {PostX : Pt → Array Value → Addr → Pt → Prop} (hK : vx_Back l R p e below s args y 3 W Pre Post PostX)
    {b : Addr} {cellB : Cell} (hcell : T.heap[b]? = some cellB) (hobj : cellB.vm.isStatics = false) (hcls : s.vm.findClass C = some cellB.cls)
    {g : JFrame} (hg : g.method = m) (hsize : g.locals.size = c.maxLocals) {argsL rest : List Value} (hlen : ∀ sig, parseMethodDescriptor y.desc = some sig → argsL.length = sig.parameters.length)
    (hstack : g.stack = argsL.reverse ++ .ref b :: rest) (hW : 2 * g.monitorRoom + (rest.map fun v => v.category).sum ≤ W) (hdg : decode c.code g.pc = .ok (.invokevirtual index, 3))
    (hpre : ∀ vm₁, s.WarmedH vm₁ → Pre ⟨T.setVm vm₁, locs, cells, slots⟩ (Value.ref b :: argsL).toArray) :
    (∃ (v : Option Value) (vm₁ : Vm) (B : Pt), s.WarmedH vm₁ ∧ Stand p l e R s m args below meth c B.U B.locs B.cells B.slots ∧ Post ⟨T.setVm vm₁, locs, cells, slots⟩ (Value.ref b :: argsL).toArray v B ∧
      ∀ target, Steps p.tables e below (B.U.setTop { g with pc := g.pc + 3, stack := v.toList ++ rest }) target → Steps p.tables e below (T.setTop g) target) ∨
    (∃ (q : Addr) (vm₁ : Vm) (B : Pt), s.WarmedH vm₁ ∧ Stand p l e R s m args below meth c B.U B.locs B.cells B.slots ∧ PostX ⟨T.setVm vm₁, locs, cells, slots⟩ (Value.ref b :: argsL).toArray q B ∧
      Steps p.tables e below (T.setTop g) ((B.U.setTop { g with stack := rest }).pushFrame (.throwing q))) := by
  obtain ⟨mk, methM, hnamed, hmethM, hstM, habM⟩ := Cond.instanceMethod_spec hinst
  obtain ⟨methM', cM, hmethM', -, -, -, -, -, -, hsigM⟩ := Cond.code_spec hnamed hcode
  cases hmethM.symm.trans hmethM'
  obtain ⟨c2, r2, m2, q1, q2, q3, q4, kP, hkP, hkPi⟩ := Cond.selects_spec hsel
  cases hcls.symm.trans q1
  cases (State.methodFound?_of_named hnamed hy).symm.trans q2
  cases hnamed.symm.trans q3
  have hselP : selectMethod e.platform s.vm cellB.cls mk = .method mk := by rw [Launch.admits_selectMethod X.admits]; exact q4
  obtain ⟨vm₁, X₁, hstep₁⟩ := X.invokevirtualNest hexec hown hlink hnamed hmethM hstM hkP hkPi hy (a := b) (cell := cellB) hcell
    (fun z h => by rw [h] at hobj; cases hobj) hselP hmethM habM hkP hkPi (g := g) hg (argsL := argsL) (rest := rest) (hlen _ hsigM) hstack hdg
  rcases hK m meth c ⟨T.setVm vm₁, locs, cells, slots⟩ { g with stack := rest } (.invokevirtual index) mk (Value.ref b :: argsL).toArray X₁ hg hsize hdg hW (X₁.named hnamed) (hpre vm₁ X₁.warmed) with ⟨v, B, X', hpost, hsteps⟩ | ⟨q, B, X', hpost, hsteps⟩
  · exact Or.inl ⟨v, vm₁, B, X₁.warmed, X', hpost, fun target h => hstep₁ _ fun acts => by rw [doInvoke_state]; exact hsteps.trans h⟩
  · exact Or.inr ⟨q, vm₁, B, X₁.warmed, X', hpost, hstep₁ _ fun acts => by rw [doInvoke_state]; exact hsteps⟩
theorem vx_callSN (X : Stand p l e R s m args below meth c T locs cells slots) (hexec : p.tables.exec = Jvm.exec) {own : String} {index : Nat} {host : String} {y : MethodName} {bytes : ByteArray} {maxL : Nat} {ret : Option FieldType}
    (hown : s.vm.findClass own = some m.cls) (hlink : (Cond.methodLinkNest own index y host).before args s = true) (hstat : (Cond.static y).before args s = true) (hinit : (Cond.initialized y.cls).before args s = true)
    (hcode : (Cond.code y bytes maxL ret).before args s = true) (hy : y.cls ≠ "java/lang/invoke/MethodHandle" ∧ y.cls ≠ "java/lang/invoke/VarHandle")
    {W : Nat} {Pre : Pt → Array Value → Prop} {Post : Pt → Array Value → Option Value → Pt → Prop} {PostX : Pt → Array Value → Addr → Pt → Prop} (hK : vx_Back l R p e below s args y 3 W Pre Post PostX)
    {g : JFrame} (hg : g.method = m) (hsize : g.locals.size = c.maxLocals) {argsL rest : List Value} (hlen : ∀ sig, parseMethodDescriptor y.desc = some sig → argsL.length = sig.parameters.length)
    (hstack : g.stack = argsL.reverse ++ rest) (hW : 2 * g.monitorRoom + (rest.map fun v => v.category).sum ≤ W) (hdg : decode c.code g.pc = .ok (.invokestatic index, 3))
    (hpre : ∀ vm₁, s.WarmedH vm₁ → Pre ⟨T.setVm vm₁, locs, cells, slots⟩ argsL.toArray) :
    (∃ (v : Option Value) (vm₁ : Vm) (B : Pt), s.WarmedH vm₁ ∧ Stand p l e R s m args below meth c B.U B.locs B.cells B.slots ∧ Post ⟨T.setVm vm₁, locs, cells, slots⟩ argsL.toArray v B ∧
      ∀ target, Steps p.tables e below (B.U.setTop { g with pc := g.pc + 3, stack := v.toList ++ rest }) target → Steps p.tables e below (T.setTop g) target) ∨
    (∃ (q : Addr) (vm₁ : Vm) (B : Pt), s.WarmedH vm₁ ∧ Stand p l e R s m args below meth c B.U B.locs B.cells B.slots ∧ PostX ⟨T.setVm vm₁, locs, cells, slots⟩ argsL.toArray q B ∧
      Steps p.tables e below (T.setTop g) ((B.U.setTop { g with stack := rest }).pushFrame (.throwing q))) := by
  obtain ⟨mk, hnamed⟩ := Cond.code_named hcode
  obtain ⟨methM, cM, hmethM, -, -, -, -, -, -, hsigM⟩ := Cond.code_spec hnamed hcode
  have hstatic : methM.isStatic = true := Cond.static_spec hnamed hmethM hstat
  obtain ⟨kP, hkP, -⟩ := className_of_methodNamed hnamed
  have hinitP : kP.init = .initialized := Cond.initialized_spec (findClass_of_methodNamed hnamed) hkP hinit
  obtain ⟨vm₁, X₁, hstep₁⟩ := X.invokestaticNest hexec hown hlink hnamed hmethM hstatic hkP hinitP hy (g := g) hg (argsL := argsL) (rest := rest) (hlen _ hsigM) hstack hdg
  rcases hK m meth c ⟨T.setVm vm₁, locs, cells, slots⟩ { g with stack := rest } (.invokestatic index) mk argsL.toArray X₁ hg hsize hdg hW (X₁.named hnamed) (hpre vm₁ X₁.warmed) with ⟨v, B, X', hpost, hsteps⟩ | ⟨q, B, X', hpost, hsteps⟩
  · exact Or.inl ⟨v, vm₁, B, X₁.warmed, X', hpost, fun target h => hstep₁ _ fun acts => by rw [doInvoke_state]; exact hsteps.trans h⟩
  · exact Or.inr ⟨q, vm₁, B, X₁.warmed, X', hpost, hstep₁ _ fun acts => by rw [doInvoke_state]; exact hsteps⟩
theorem vx_runVN {y : MethodName} {bytes cc : ByteArray} {maxL nL mc ms n index : Nat} {ret : Option FieldType} {ws : List Cond} {rm : Room} {Pc : Array Value → State → Prop} {Qc : Array Value → State → Outcome → State → Prop} {XC : String → State → State → Prop} {free : Addr → Prop} {Ts : List Cond} {own C host : String} {b : Addr} {As rest : List Value} {g : JFrame}
    (S : CallFix p m c cc nL s args Ts own) (hM : vx_Met l y ws rm Pc Qc XC mc ms free) (cw : va_CN R s args own index y host bytes maxL ret ws rm mc ms n ∧ (Cond.instanceMethod y).before args s = true ∧ (Cond.selects C y y).before args s = true) (hp : PreV s H C b Pc As)
    (hg : g.method = m) (hn : As.length = n) (hsize : g.locals.size = nL) (hstack : g.stack = As.reverse ++ .ref b :: rest) (hW : 2 * g.monitorRoom + (rest.map fun v => v.category).sum ≤ 8) (hdg : decode cc g.pc = .ok (.invokevirtual index, 3)) (hf : cells + mc ≤ R.cells ∧ slots + ms ≤ R.slots) :
    vx_Run p l e R s m args below meth c H locs cells slots mc ms g rest (Qc (Value.ref b :: As).toArray) XC free := by
  obtain ⟨⟨⟨hrc, hrs, hfr, hlo, hws, hcw⟩, hcode, hini, hy, hlen, hl⟩, hx1, hx2⟩ := cw
  have hK : vx_Back l R p e below s args y 3 8 (PreOf R mc ms Pc) (PostOf Qc mc ms free) (vx_Post XC mc ms free) := vx_back (bytes := bytes) (maxL := maxL) (ret := ret) hM hp.1 hrc hrs hfr hlo hws hcw (fun a' U hW => word_at hW (Or.inl (by first | rfl | simp [Cond.onTables, Cond.keeps, Cond.steady])) hini)
  obtain ⟨hx, hb, hml, ho, -⟩ := S
  obtain ⟨-, ⟨cellB, hcB, hoB, hclB⟩, hPc⟩ := hp
  intro T hT X
  rcases vx_callVN X hx (C := C) (bytes := bytes) (maxL := maxL) (ret := ret) ho hl hx1 hx2 hcode hy hK (by rw [hT]; exact hcB) hoB hclB hg (hsize.trans hml.symm) (argsL := As) (rest := rest) (fun sig h => hn.trans (hlen sig h)) hstack hW (by rw [hb]; exact hdg)
    (fun vm₁ hW₁ => ⟨hf.1, hf.2, hPc (T.setVm vm₁) hT hW₁⟩) with ⟨v, vm₁, ⟨U', l2, c2, s2⟩, hW₁, X', ⟨g', mk, t, L, e1, e2, hq, h1, hL, h2, h3⟩, st⟩ | ⟨q, vm₁, ⟨U', l2, c2, s2⟩, hW₁, X', ⟨g', mk, t, L, E, ce, e1, e2, hq, hce, hcv, hcl, h1, hL, h2, h3⟩, st⟩
  · dsimp only [Pt.U, Pt.locs, Pt.cells, Pt.slots] at X' e1 e2 h1 h2 h3 st
    subst h1; subst h2; subst h3
    exact Or.inl ⟨v, (T.setVm vm₁).calling g' mk (Value.ref b :: As).toArray, t, U', L, hT, X', hL, e1, e2, hq, st⟩
  · dsimp only [Pt.U, Pt.locs, Pt.cells, Pt.slots] at X' e1 e2 h1 h2 h3 st hcl
    subst h1; subst h2; subst h3
    exact Or.inr ⟨q, (T.setVm vm₁).calling g' mk (Value.ref b :: As).toArray, t, U', L, E, ce, hT, X', hL, e1, e2, hq, hce, hcv, vx_cls hW₁ hcl, st⟩
theorem vx_runSN {y : MethodName} {bytes cc : ByteArray} {maxL nL mc ms n index : Nat} {ret : Option FieldType} {ws : List Cond} {rm : Room} {Pc : Array Value → State → Prop} {Qc : Array Value → State → Outcome → State → Prop} {XC : String → State → State → Prop} {free : Addr → Prop} {Ts : List Cond} {own host : String} {As rest : List Value} {g : JFrame}
    (S : CallFix p m c cc nL s args Ts own) (hM : vx_Met l y ws rm Pc Qc XC mc ms free) (cw : va_CN R s args own index y host bytes maxL ret ws rm mc ms n ∧ (Cond.static y).before args s = true ∧ True) (hp : PreS s H Pc As)
    (hg : g.method = m) (hn : As.length = n) (hsize : g.locals.size = nL) (hstack : g.stack = As.reverse ++ rest) (hW : 2 * g.monitorRoom + (rest.map fun v => v.category).sum ≤ 8) (hdg : decode cc g.pc = .ok (.invokestatic index, 3)) (hf : cells + mc ≤ R.cells ∧ slots + ms ≤ R.slots) :
    vx_Run p l e R s m args below meth c H locs cells slots mc ms g rest (Qc As.toArray) XC free := by
  obtain ⟨⟨⟨hrc, hrs, hfr, hlo, hws, hcw⟩, hcode, hini, hy, hlen, hl⟩, hx1, hx2⟩ := cw
  have hK : vx_Back l R p e below s args y 3 8 (PreOf R mc ms Pc) (PostOf Qc mc ms free) (vx_Post XC mc ms free) := vx_back (bytes := bytes) (maxL := maxL) (ret := ret) hM hp.1 hrc hrs hfr hlo hws hcw (fun a' U hW => word_at hW (Or.inl (by first | rfl | simp [Cond.onTables, Cond.keeps, Cond.steady])) hini)
  obtain ⟨hx, hb, hml, ho, -⟩ := S
  have hPc := hp.2
  intro T hT X
  rcases vx_callSN X hx (bytes := bytes) (maxL := maxL) (ret := ret) ho hl hx1 hini hcode hy hK hg (hsize.trans hml.symm) (argsL := As) (rest := rest) (fun sig h => hn.trans (hlen sig h)) hstack hW (by rw [hb]; exact hdg)
    (fun vm₁ hW₁ => ⟨hf.1, hf.2, hPc (T.setVm vm₁) hT hW₁⟩) with ⟨v, vm₁, ⟨U', l2, c2, s2⟩, hW₁, X', ⟨g', mk, t, L, e1, e2, hq, h1, hL, h2, h3⟩, st⟩ | ⟨q, vm₁, ⟨U', l2, c2, s2⟩, hW₁, X', ⟨g', mk, t, L, E, ce, e1, e2, hq, hce, hcv, hcl, h1, hL, h2, h3⟩, st⟩
  · dsimp only [Pt.U, Pt.locs, Pt.cells, Pt.slots] at X' e1 e2 h1 h2 h3 st
    subst h1; subst h2; subst h3
    exact Or.inl ⟨v, (T.setVm vm₁).calling g' mk As.toArray, t, U', L, hT, X', hL, e1, e2, hq, st⟩
  · dsimp only [Pt.U, Pt.locs, Pt.cells, Pt.slots] at X' e1 e2 h1 h2 h3 st hcl
    subst h1; subst h2; subst h3
    exact Or.inr ⟨q, (T.setVm vm₁).calling g' mk As.toArray, t, U', L, E, ce, hT, X', hL, e1, e2, hq, hce, hcv, vx_cls hW₁ hcl, st⟩
end
/-! ===== END ===== -/
end
section
/-! ===== the layer G: one memory of numbered cells, contracts that tell the answer and the memory behind it ===== -/
/-- a word that rides from a method's start to its callees' -/
def tkRide (w : Cond) : Bool := (match w with | .arrayClass _ => true | _ => false) || (w.onTables && w.keepsFace)
def tkAll : List Cond := lw_tbl.filter tkRide
theorem tk_ride {s U : State} {args a' : Array Value} {w : Cond} (hW : s.WarmedH U.vm) (hw : tkRide w = true) (h : w.before args s = true) : w.before a' U = true := by
  simp only [tkRide, Bool.or_eq_true, Bool.and_eq_true] at hw
  rcases hw with hw | ⟨h1, h2⟩
  · cases w <;> first | exact word_at hW (Or.inr ⟨_, rfl⟩) h | (exact (Bool.false_ne_true hw).elim)
  · have h3 : w.before args (s.setVm U.vm) = true := Cond.before_shiftedFace (State.Shifted.of_warmed hW) _ h2 h
    exact va_tabs h1 (rfl : (s.setVm U.vm).vm = U.vm) h3
theorem tk_rides {s U : State} {args a' : Array Value} (hW : s.WarmedH U.vm) (h : ∀ w ∈ tkAll, w.before args s = true) : ∀ w ∈ tkAll, w.before a' U = true :=
  fun w hw => tk_ride hW (List.mem_filter.mp hw).2 (h w hw)
theorem tk_in {w : Cond} (h1 : w ∈ lw_tbl) (h2 : tkRide w = true) : w ∈ tkAll := List.mem_filter.mpr ⟨h1, h2⟩
theorem tk_at {w : Cond} (i : Nat) (h1 : lw_tbl[i]? = some w) (h2 : tkRide w = true) : w ∈ tkAll := tk_in (List.mem_of_getElem? h1) h2
/-! memory: its size, the shape of each cell (kind, length), the references in it; ints and longs stand apart -/
abbrev tkM : Type := Nat × (Nat → Nat × Nat) × (Nat → Nat → Option Nat)
abbrev tkI : Type := Nat → Nat → Int32
abbrev tkL : Type := Nat → Nat → Int64
def tk2 {α : Type} (f : Nat → Nat → α) (a i : Nat) (x : α) : Nat → Nat → α := fun b j => if b = a ∧ j = i then x else f b j
def tk1 {α : Type} (f : Nat → α) (a : Nat) (x : α) : Nat → α := fun b => if b = a then x else f b
def tkTy (k : Nat) : Nat → FieldType := match k with | 0 => tyX0 | 1 => tyX1 | 2 => tyX2 | 3 => tyX3 | 4 => tyX4 | 5 => tyX5 | _ => tyX6
def tkVal (t : FieldType) (x : Int32) (y : Int64) (r : Option Nat) : Value := match t with
  | .long => .long y
  | .object _ => va_rf r
  | .array _ => va_rf r
  | _ => .int x
def tkObj (D : va_G) (H : Heap) (a k : Nat) (f : Nat → Int32) (g : Nat → Int64) (r : Nat → Option Nat) : Prop :=
  ∃ q : vw_C, vwCl[k]? = some q ∧ t_OB a (D.1 k) q.2.2 (D.2 k) H (fun j => tkVal (tkTy k j) (f j) (g j) (r j))
def tkCell (D : va_G) (H : Heap) (a : Nat) (sh : Nat × Nat) (f : Nat → Int32) (g : Nat → Int64) (r : Nat → Option Nat) : Prop :=
  (sh.1 < 7 → tkObj D H a sh.1 f g r) ∧
  (sh.1 = 10 → H[a]? = some (arrV (D.1 10) sh.2 (fun j => .int (f j)))) ∧
  (sh.1 = 11 → H[a]? = some (arrV (D.1 11) sh.2 (fun j => .long (g j)))) ∧
  (sh.1 = 12 → H[a]? = some (arrV (D.1 12) sh.2 (fun j => .int (f j))) ∧ ∀ j, j < sh.2 → fits .boolean (.int (f j)) = true) ∧
  (sh.1 = 13 → H[a]? = some (arrV (D.1 13) sh.2 (fun j => .double (g j).toUInt64))) ∧
  (sh.1 = 14 → H[a]? = some (arrV (D.1 14) sh.2 (fun j => va_rf (r j))))
/-- 99: a cell of which nothing is known -/
def tkRel (D : va_G) (base : Nat) (σ : tkM) (I : tkI) (L : tkL) (H : Heap) : Prop :=
  H.size = σ.1 ∧ base ≤ σ.1 ∧ (∀ a, (a < base ∨ σ.1 ≤ a) → (σ.2.1 a).1 = 99) ∧ ∀ a, base ≤ a → a < σ.1 → tkCell D H a (σ.2.1 a) (I a) (L a) (σ.2.2 a)
theorem tkCell.kept {D : va_G} {H H1 : Heap} {a : Nat} {sh : Nat × Nat} {f : Nat → Int32} {g : Nat → Int64} {r : Nat → Option Nat} (h : tkCell D H a sh f g r) (hq : H1[a]? = H[a]?) : tkCell D H1 a sh f g r := by
  obtain ⟨h1, h2, h3, h4, h5, h6⟩ := h
  refine ⟨fun q => ?_, fun q => ?_, fun q => ?_, fun q => ?_, fun q => ?_, fun q => ?_⟩
  · obtain ⟨c, c1, c2⟩ := h1 q
    exact ⟨c, c1, c2.kept hq⟩
  · rw [hq]; exact h2 q
  · rw [hq]; exact h3 q
  · rw [hq]; exact h4 q
  · rw [hq]; exact h5 q
  · rw [hq]; exact h6 q
theorem tkCell.hole (D : va_G) (H : Heap) (a n : Nat) (f : Nat → Int32) (g : Nat → Int64) (r : Nat → Option Nat) : tkCell D H a (99, n) f g r :=
  ⟨fun q => absurd (show 99 < 7 from q) (by decide), fun q => absurd (show 99 = 10 from q) (by decide), fun q => absurd (show 99 = 11 from q) (by decide), fun q => absurd (show 99 = 12 from q) (by decide), fun q => absurd (show 99 = 13 from q) (by decide), fun q => absurd (show 99 = 14 from q) (by decide)⟩
theorem tkRel.at {D : va_G} {base : Nat} {σ : tkM} {I : tkI} {L : tkL} {H : Heap} (h : tkRel D base σ I L H) {a k n : Nat} (hs : σ.2.1 a = (k, n)) (hk : k ≠ 99) :
    base ≤ a ∧ a < σ.1 ∧ a < H.size ∧ tkCell D H a (k, n) (I a) (L a) (σ.2.2 a) := by
  obtain ⟨h1, h2, h3, h4⟩ := h
  have hb : base ≤ a := by
    rcases Nat.lt_or_ge a base with q | q
    · have := h3 a (Or.inl q); rw [hs] at this; exact absurd this hk
    · exact q
  have hl : a < σ.1 := by
    rcases Nat.lt_or_ge a σ.1 with q | q
    · exact q
    · have := h3 a (Or.inr q); rw [hs] at this; exact absurd this hk
  exact ⟨hb, hl, by rw [h1]; exact hl, by rw [← hs]; exact h4 a hb hl⟩
/-- one cell has changed -/
theorem tkRel.put {D : va_G} {base : Nat} {σ σ1 : tkM} {I I1 : tkI} {L L1 : tkL} {H H1 : Heap} (h : tkRel D base σ I L H) {a : Nat} (ha : base ≤ a) (hz : H1.size = H.size) (oq : ∀ q, q ≠ a → H1[q]? = H[q]?)
    (hn : σ1.1 = σ.1) (hs : σ1.2.1 = σ.2.1) (hI : ∀ b, b ≠ a → I1 b = I b) (hL : ∀ b, b ≠ a → L1 b = L b) (hR : ∀ b, b ≠ a → σ1.2.2 b = σ.2.2 b)
    (hc : a < σ.1 → tkCell D H1 a (σ.2.1 a) (I1 a) (L1 a) (σ1.2.2 a)) : tkRel D base σ1 I1 L1 H1 := by
  obtain ⟨h1, h2, h3, h4⟩ := h
  refine ⟨by rw [hz, h1, hn], by rw [hn]; exact h2, fun b hb => by rw [hs]; exact h3 b (by rw [hn] at hb; exact hb), fun b hb hl => ?_⟩
  rw [hn] at hl
  rw [hs]
  by_cases e : b = a
  · subst e; exact hc hl
  · rw [hI b e, hL b e, hR b e]
    exact (h4 b hb hl).kept (oq b e)
/-- a new cell -/
theorem tkRel.push {D : va_G} {base : Nat} {σ : tkM} {I I1 : tkI} {L L1 : tkL} {H H1 : Heap} (h : tkRel D base σ I L H) {sh : Nat × Nat} {r : Nat → Option Nat} (hz : H1.size = H.size + 1) (oq : ∀ q, q < H.size → H1[q]? = H[q]?)
    (hI : ∀ b, b ≠ σ.1 → I1 b = I b) (hL : ∀ b, b ≠ σ.1 → L1 b = L b) (hc : tkCell D H1 σ.1 sh (I1 σ.1) (L1 σ.1) r) : tkRel D base (σ.1 + 1, tk1 σ.2.1 σ.1 sh, tk1 σ.2.2 σ.1 r) I1 L1 H1 := by
  obtain ⟨h1, h2, h3, h4⟩ := h
  refine ⟨by rw [hz, h1], by omega, fun b hb => ?_, fun b hb hl => ?_⟩
  · have hb' : b < base ∨ σ.1 + 1 ≤ b := hb
    have e : b ≠ σ.1 := by omega
    show (tk1 σ.2.1 σ.1 sh b).1 = 99
    rw [tk1, if_neg e]
    exact h3 b (by omega)
  · have hl' : b < σ.1 + 1 := hl
    show tkCell D H1 b (tk1 σ.2.1 σ.1 sh b) (I1 b) (L1 b) (tk1 σ.2.2 σ.1 r b)
    by_cases e : b = σ.1
    · subst e
      rw [tk1, if_pos rfl, tk1, if_pos rfl]
      exact hc
    · rw [tk1, if_neg e, tk1, if_neg e, hI b e, hL b e]
      exact (h4 b hb (by omega)).kept (oq b (by omega))
theorem tkRel.grow {D : va_G} {base n : Nat} {σ : tkM} {I : tkI} {L : tkL} {H H1 : Heap} (h : tkRel D base σ I L H) (hz : H1.size = n) (hn : σ.1 ≤ n) (oq : ∀ q, q < H.size → H1[q]? = H[q]?) : tkRel D base (n, σ.2) I L H1 := by
  obtain ⟨h1, h2, h3, h4⟩ := h
  refine ⟨hz, Nat.le_trans h2 hn, fun b hb => h3 b (hb.elim Or.inl (fun q => Or.inr (Nat.le_trans hn q))), fun b hb hl => ?_⟩
  rcases Nat.lt_or_ge b σ.1 with q | q
  · exact (h4 b hb q).kept (oq b (by omega))
  · have e : (σ.2.1 b) = (99, (σ.2.1 b).2) := Prod.ext (h3 b (Or.inr q)) rfl
    show tkCell D H1 b (σ.2.1 b) _ _ _
    rw [e]
    exact tkCell.hole _ _ _ _ _ _ _
/-! locals by their places -/
def tkGet : List (Option Value) → Nat → Option Value
  | [], _ => none
  | o :: _, 0 => o
  | _ :: r, n + 1 => tkGet r n
def tkPut (v : Option Value) : List (Option Value) → Nat → List (Option Value)
  | [], _ => []
  | _ :: r, 0 => v :: r
  | o :: r, n + 1 => o :: tkPut v r n
def tkWide : Option Value → Bool
  | some (.long _) => true
  | some (.double _) => true
  | _ => false
def tkKill (lv : List (Option Value)) (i : Nat) : List (Option Value) := match i with
  | 0 => lv
  | j + 1 => match tkWide (tkGet lv j) with
    | true => tkPut none lv j
    | false => lv
def tkSt1 (lv : List (Option Value)) (i : Nat) (v : Value) : List (Option Value) := tkPut (some v) (tkKill lv i) i
def tkSt2 (lv : List (Option Value)) (i : Nat) (v : Value) : List (Option Value) := tkPut none (tkPut (some v) (tkKill lv i) i) (i + 1)
theorem tkGet_put (v : Option Value) : ∀ (lv : List (Option Value)) (i j : Nat) (w : Value), tkGet (tkPut v lv i) j = some w → (j = i ∧ v = some w) ∨ (j ≠ i ∧ tkGet lv j = some w)
  | [], i, j, w, h => by simp [tkPut, tkGet] at h
  | o :: r, 0, 0, w, h => Or.inl ⟨rfl, h⟩
  | o :: r, 0, j + 1, w, h => Or.inr ⟨by omega, h⟩
  | o :: r, i + 1, 0, w, h => Or.inr ⟨by omega, h⟩
  | o :: r, i + 1, j + 1, w, h => by
    rcases tkGet_put v r i j w h with ⟨e, q⟩ | ⟨e, q⟩
    · exact Or.inl ⟨by omega, q⟩
    · exact Or.inr ⟨by omega, q⟩
theorem tkWide_cat (v : Value) : (tkWide (some v) = true ↔ v.category = 2) := by
  cases v <;> simp [tkWide, Value.category]
theorem tkGet_kill {lv : List (Option Value)} {i j : Nat} {w : Value} (h : tkGet (tkKill lv i) j = some w) : tkGet lv j = some w ∧ ¬ (j + 1 = i ∧ w.category = 2) := by
  cases i with
  | zero => exact ⟨h, fun q => by omega⟩
  | succ k =>
    simp only [tkKill] at h
    cases hw : tkWide (tkGet lv k) with
    | true =>
      rw [hw] at h
      rcases tkGet_put none lv k j w h with ⟨e, q⟩ | ⟨e, q⟩
      · cases q
      · exact ⟨q, fun z => e (by omega)⟩
    | false =>
      rw [hw] at h
      refine ⟨h, fun z => ?_⟩
      have e : j = k := by omega
      subst e
      have h5 : tkGet lv j = some w := h
      rw [h5, (tkWide_cat w).mpr z.2] at hw
      cases hw
def tkAl (lv : List (Option Value)) : List (Nat × Value) := (List.range lv.length).filterMap fun j => (tkGet lv j).map fun v => (j, v)
theorem tkGet_lt : ∀ {lv : List (Option Value)} {j : Nat} {v : Value}, tkGet lv j = some v → j < lv.length
  | [], j, v, h => by simp [tkGet] at h
  | o :: r, 0, v, _ => Nat.succ_pos _
  | o :: r, j + 1, v, h => Nat.succ_lt_succ (tkGet_lt (lv := r) h)
theorem tkAl_mem {lv : List (Option Value)} {j : Nat} {v : Value} : (j, v) ∈ tkAl lv ↔ tkGet lv j = some v := by
  simp only [tkAl, List.mem_filterMap, List.mem_range, Option.map_eq_some_iff, Prod.mk.injEq]
  constructor
  · rintro ⟨k, -, w, hw, rfl, rfl⟩
    exact hw
  · intro h
    exact ⟨j, tkGet_lt h, v, h, rfl, rfl⟩
def tkLv (ls : Array Slot) (nL : Nat) (lv : List (Option Value)) : Prop := lv_has ls nL (tkAl lv)
theorem tkLv.get {ls : Array Slot} {nL : Nat} {lv : List (Option Value)} (h : tkLv ls nL lv) {i : Nat} {v : Value} (hv : tkGet lv i = some v) : ls[i]? = some (.val v) := h.2.2 (i, v) (tkAl_mem.mpr hv)
theorem tkLv.of {ls : Array Slot} {nL : Nat} {lv : List (Option Value)} {l : List (Nat × Value)} (h : lv_has ls nL l) (hv : ∀ j v, tkGet lv j = some v → (j, v) ∈ l) : tkLv ls nL lv := ⟨h.1, h.2.1, fun q hq => h.2.2 q (hv q.1 q.2 (tkAl_mem.mp hq))⟩
theorem tkLv.st1 {ls : Array Slot} {nL : Nat} {lv : List (Option Value)} {i : Nat} {v : Value} (h : lv_has ls nL ((i, v) :: (tkAl lv).filter (fun q => !(q.1 == i) && !(q.1 + 1 == i && q.2.category == 2)))) : tkLv ls nL (tkSt1 lv i v) := by
  refine tkLv.of h fun j w hj => ?_
  rcases tkGet_put _ _ _ _ _ hj with ⟨e, q⟩ | ⟨e, q⟩
  · cases q; subst e; exact List.mem_cons_self
  · obtain ⟨q1, q2⟩ := tkGet_kill q
    refine List.mem_cons_of_mem _ (List.mem_filter.mpr ⟨tkAl_mem.mpr q1, ?_⟩)
    simp only [Bool.and_eq_true, Bool.not_eq_true', beq_eq_false_iff_ne, ne_eq, Bool.and_eq_false_iff]
    refine ⟨e, ?_⟩
    by_cases e2 : j + 1 = i
    · exact Or.inr fun z => q2 ⟨e2, z⟩
    · exact Or.inl e2
theorem tkLv.st2 {ls : Array Slot} {nL : Nat} {lv : List (Option Value)} {i : Nat} {v : Value} (h : lv_has ls nL ((i, v) :: (tkAl lv).filter (fun q => !(q.1 == i) && (!(q.1 == i + 1) && !(q.1 + 1 == i && q.2.category == 2))))) : tkLv ls nL (tkSt2 lv i v) := by
  refine tkLv.of h fun j w hj => ?_
  rcases tkGet_put _ _ _ _ _ hj with ⟨e, q⟩ | ⟨e, q⟩
  · cases q
  rcases tkGet_put _ _ _ _ _ q with ⟨e2, q⟩ | ⟨e2, q⟩
  · cases q; subst e2; exact List.mem_cons_self
  · obtain ⟨q1, q2⟩ := tkGet_kill q
    refine List.mem_cons_of_mem _ (List.mem_filter.mpr ⟨tkAl_mem.mpr q1, ?_⟩)
    simp only [Bool.and_eq_true, Bool.not_eq_true', beq_eq_false_iff_ne, ne_eq, Bool.and_eq_false_iff]
    refine ⟨e2, e, ?_⟩
    by_cases e3 : j + 1 = i
    · exact Or.inr fun z => q2 ⟨e3, z⟩
    · exact Or.inl e3
def tkEnt : List Value → List (Option Value)
  | [] => []
  | v :: vs => match tkWide (some v) with
    | true => some v :: none :: tkEnt vs
    | false => some v :: tkEnt vs
theorem tkEnt_mem : ∀ (vs : List Value) (k n j : Nat) (w : Value), tkGet (tkEnt vs ++ List.replicate n none) j = some w → (k + j, w) ∈ lv_args k vs
  | [], k, n, j, w, h => by
    exfalso
    have h1 : tkGet (List.replicate n none) j = some w := h
    clear h
    induction n generalizing j with
    | zero => simp [tkGet] at h1
    | succ n ih =>
      rw [List.replicate_succ] at h1
      cases j with
      | zero => cases h1
      | succ j => exact ih j h1
  | v :: vs, k, n, j, w, h => by
    have hc := tkWide_cat v
    cases hw : tkWide (some v) with
    | true =>
      have c2 : v.category = 2 := hc.mp hw
      simp only [tkEnt, hw] at h
      cases j with
      | zero =>
        cases h
        exact List.mem_cons_self
      | succ j =>
        cases j with
        | zero => cases h
        | succ j =>
          have h2 := tkEnt_mem vs (k + 2) n j w h
          refine List.mem_cons_of_mem _ ?_
          show (k + (j + 1 + 1), w) ∈ lv_args (if v.category = 2 then k + 2 else k + 1) vs
          rw [if_pos c2, show k + (j + 1 + 1) = k + 2 + j by omega]
          exact h2
    | false =>
      have c2 : ¬ v.category = 2 := fun z => by rw [hc.mpr z] at hw; cases hw
      simp only [tkEnt, hw] at h
      cases j with
      | zero =>
        cases h
        exact List.mem_cons_self
      | succ j =>
        have h2 := tkEnt_mem vs (k + 1) n j w h
        refine List.mem_cons_of_mem _ ?_
        show (k + (j + 1), w) ∈ lv_args (if v.category = 2 then k + 2 else k + 1) vs
        rw [if_neg c2, show k + (j + 1) = k + 1 + j by omega]
        exact h2
/-! what the tables say, at any method's start -/
def tkStr : List (Nat × String) := [(34, "capacity is not 1 to 1000000000"), (58, "there are 8 tanks"), (72, "not 0 <= low < high <= capacity"), (81, "there are 10 switches"), (90, "from and to are the same"), (95, "lift is not 0 to 100"), (104, "there are 16 pumps"), (187, "there are 4 depots"), (189, "there is no depot"), (205, "there is no such tank"), (208, "there is no such switch"), (210, "there is no such pump"), (216, "there is no such index in the log"), (218, "level is not 0 to the capacity"), (221, "leak is not 0 to 1000000"), (223, "rate is not 1 to 1000000"), (225, "the number of ticks is out of its range")]
def tkNc : List (String × String) := [("java/lang/IllegalArgumentException", "java/lang/IllegalStateException"), ("java/lang/IllegalArgumentException", "java/lang/IndexOutOfBoundsException"), ("java/lang/IllegalStateException", "java/lang/IllegalArgumentException"), ("java/lang/IllegalStateException", "java/lang/IndexOutOfBoundsException"), ("java/lang/IndexOutOfBoundsException", "java/lang/IllegalArgumentException"), ("java/lang/IndexOutOfBoundsException", "java/lang/IllegalStateException")]
def tkTys (D : va_G) : List (ClassId × FieldType) := [(D.1 10, .int), (D.1 11, .long), (D.1 12, .boolean), (D.1 13, .double), (D.1 14, .object RX1)]
def tkK (D : va_G) (U : State) : Prop := va_K D vwCl (tkTys D) U ∧ va_AO RX1 U ∧ (∀ q ∈ tkStr, ∃ sa, vk_R RX5 q.1 q.2 sa U) ∧ ∀ q ∈ tkNc, va_Nc q.1 q.2 U
theorem tkK.warm {D : va_G} {s U : State} (hW : s.WarmedH U.vm) (h : tkK D s) : tkK D U :=
  ⟨va_K.moved hW.alike h.1, va_AO.moved hW.alike h.2.1, fun q hq => (h.2.2.1 q hq).imp fun _ z => vk_R.warm hW z, fun q hq => va_Nc.moved hW.alike (h.2.2.2 q hq)⟩
def tkE (base : Nat) (U : State) (H : Heap) : Prop := vx_Zq Bundle.tN "UNASSIGNED_STACK" Bundle.steD (fun q => base ≤ q) U H ∧ vx_Zq Bundle.tN "SUPPRESSED_SENTINEL" Bundle.listD (fun q => base ≤ q) U H
theorem tkE.warm {base : Nat} {s U : State} {H : Heap} (hW : s.WarmedH U.vm) (h : tkE base s H) : tkE base U H := ⟨vx_Zq.moved hW.alike h.1, vx_Zq.moved hW.alike h.2⟩
theorem tkE.kept {base : Nat} {s : State} {H H1 : Heap} (h : tkE base s H) (hq : ∀ a : Nat, a < H.size → ¬ base ≤ a → H1[a]? = H[a]?) : tkE base s H1 := ⟨h.1.kept hq, h.2.kept hq⟩
/-! the contract of a method: it answers 'out' (a value, none, or an exception's class) and leaves the memory as told -/
abbrev tkOut : Type := Option Value ⊕ String
def tkRm (d mc ms : Nat) : Room := { frames := d, cells := mc, slots := ms, locals := 37 * d }
def tkPc (base : Nat) (D : va_G) (a : List Value) (σ : tkM) (I : tkI) (L : tkL) : Array Value → State → Prop := fun v U => v = a.toArray ∧ tkK D U ∧ tkE base U U.heap ∧ tkRel D base σ I L U.heap
def tkQc (lo : Bool) (base : Nat) (D : va_G) (out : tkOut) (σ : tkM) (I : tkI) (L : tkL) : Array Value → State → Outcome → State → Prop := fun _ st o t =>
  (∃ v, out = .inl v ∧ o = .returned v) ∧ (∃ n, σ.1 ≤ n ∧ (lo = false → n = σ.1) ∧ tkRel D base (n, σ.2) I L t.heap) ∧ va_F (fun q => base ≤ q) st t
def tkXC (base : Nat) (D : va_G) (out : tkOut) (σ : tkM) (I : tkI) (L : tkL) : String → State → State → Prop := fun E st t =>
  out = .inr E ∧ (∃ n, σ.1 ≤ n ∧ tkRel D base (n, σ.2) I L t.heap) ∧ va_F (fun q => base ≤ q) st t
def tkCon (lo : Bool) (w : Cond) (y : MethodName) (d : Nat) (a : List Value) (σ : tkM) (I : tkI) (L : tkL) (mc ms : Nat) (out : tkOut) (σ' : tkM) (I' : tkI) (L' : tkL) : Prop :=
  ∀ (l : Launch), l.stackTraces = false → ∀ (base : Nat) (D : va_G), vx_Met l y (w :: tkAll) (tkRm d mc ms) (tkPc base D a σ I L) (tkQc lo base D out σ' I' L') (tkXC base D out σ' I' L') mc ms (fun q => base ≤ q)
abbrev tkX : Type := Program × Launch × Env × Room × State × MethodId × Array Value × List Frame × Method × Code × Nat × va_G
def tkG (X : tkX) (Q : State → Prop) (cells slots pc : Nat) (lv : List (Option Value)) (stk : List Value) (σ : tkM) (I : tkI) (L : tkL) : Prop :=
  match X with
  | (p, l, e, R, s, m, args, below, meth, c, base, D) => ∀ (H : Heap) (locs : List Loc) (ls : Array Slot), va_S (fun q => base ≤ q) s.heap H locs → tkRel D base σ I L H → tkLv ls c.maxLocals lv →
    W p l e R s m args below meth c H locs cells slots Q (F0 m pc ls stk)
/-- the same with q thrown over the frame -/
def tkT (X : tkX) (Q : State → Prop) (cells slots pc : Nat) (lv : List (Option Value)) (stk : List Value) (σ : tkM) (I : tkI) (L : tkL) (E : String) : Prop :=
  match X with
  | (p, l, e, R, s, m, args, below, meth, c, base, D) => ∀ (H : Heap) (locs : List Loc) (ls : Array Slot) (q : Addr) (ce : Cell), va_S (fun q => base ≤ q) s.heap H locs → tkRel D base σ I L H → tkLv ls c.maxLocals lv → H[q]? = some ce → ce.vm = .none → s.vm.findClass E = some ce.cls →
    vx_W p l e R s m args below meth c H locs cells slots Q (F0 m pc ls stk) q
def tkC (X : tkX) (cc : ByteArray) (own nm : String) (nL : Nat) (ret : Option FieldType) (hh : List (Nat × Nat × Nat × Nat)) (d MC MS : Nat) : Prop :=
  match X with
  | (p, l, e, R, s, m, args, below, meth, c, base, D) => p.tables.exec = Jvm.exec ∧ c.code = cc ∧ c.maxLocals = nL ∧ s.vm.findClass own = some m.cls ∧ (∀ w ∈ tkAll, w.before args s = true) ∧ tkK D s ∧ tkE base s s.heap ∧ meth.locks = false ∧ meth.sig.returnType = ret ∧ meth.name = nm ∧
    c.exceptionTable.toList = tableOf hh ∧ d ≤ R.frames ∧ 37 * d ≤ R.locals ∧ R.cells = MC ∧ R.slots = MS ∧ l.stackTraces = false
def tkQ (lo : Bool) (X : tkX) (mc ms : Nat) (out : tkOut) (σ' : tkM) (I' : tkI) (L' : tkL) : State → Prop :=
  match X with
  | (p, l, e, R, s, m, args, below, meth, c, base, D) => vx_MQ below (tkQc lo base D out σ' I' L') (tkXC base D out σ' I' L') args s mc ms (fun q => base ≤ q)
theorem tkG.entry {X : tkX} {Q : State → Prop} {p : Program} {l : Launch} {e : Env} {R : Room} {s : State} {m : MethodId} {below : List Frame} {meth : Method} {c : Code} {base : Nat} {D : va_G} {a : List Value} {nL : Nat} {σ : tkM} {I : tkI} {L : tkL}
    (hX : X = (p, l, e, R, s, m, a.toArray, below, meth, c, base, D)) (hml : c.maxLocals = nL) (hn : (lg_sl a).length ≤ nL) (hr : tkRel D base σ I L s.heap)
    (h : tkG X Q 0 0 0 (tkEnt a ++ List.replicate (nL - (lg_sl a).length) none) [] σ I L) : W p l e R s m a.toArray below meth c s.heap [] 0 0 Q (entryFrame m a.toArray nL) := by
  subst hX
  rw [lg_entry_eq]
  refine h s.heap [] _ va_S.rf hr ?_
  rw [hml]
  refine tkLv.of (lv_entry a hn) fun j v hj => ?_
  have := tkEnt_mem a 0 _ j v hj
  rwa [Nat.zero_add] at this
theorem tkCon.of {lo : Bool} {y : MethodName} {cc : ByteArray} {nL d mc ms : Nat} {ret : Option FieldType} {a : List Value} {σ σ' : tkM} {I I' : tkI} {L L' : tkL} {out : tkOut} (hy : plainName y.cls = true) (hn : (lg_sl a).length ≤ nL)
    (body : ∀ X : tkX, tkC X cc y.cls y.name nL ret [] d mc ms → tkG X (tkQ lo X mc ms out σ' I' L') 0 0 0 (tkEnt a ++ List.replicate (nL - (lg_sl a).length) none) [] σ I L) :
    tkCon lo (.code y cc nL ret) y d a σ I L mc ms out σ' I' L' := by
  intro l hl base D
  refine vx_ofW (cc := cc) (maxL := nL) (ret := ret) hy rfl ?_
  intro p e s m args below meth c s₁ B hml ht hv
  obtain ⟨rfl, hK, hE, hR⟩ := hv
  have hts0 := atoms_spec (ws := Cond.code y cc nL ret :: tkAll) B.pre
  have C : tkC (p, l, e, tkRm d mc ms, s, m, a.toArray, below, meth, c, base, D) cc y.cls y.name nL ret [] d mc ms :=
    ⟨B.exec, B.bytes, hml, findClass_of_methodNamed B.named, fun w hw => hts0 w (List.mem_cons_of_mem _ hw), hK, hE, B.notSynchronized, B.returns, (name_of_methodNamed B.named B.method).1, List.eq_nil_iff_forall_not_mem.mpr ht, Nat.le_refl _, Nat.le_refl _, rfl, rfl, hl⟩
  exact tkG.entry rfl hml hn hR (body _ C)
theorem tkCon.ofH {lo : Bool} {y : MethodName} {cc : ByteArray} {nL d mc ms : Nat} {ret : Option FieldType} {hh : List (Nat × Nat × Nat × Nat)} {a : List Value} {σ σ' : tkM} {I I' : tkI} {L L' : tkL} {out : tkOut} (hy : plainName y.cls = true) (hn : (lg_sl a).length ≤ nL)
    (body : ∀ X : tkX, tkC X cc y.cls y.name nL ret hh d mc ms → tkG X (tkQ lo X mc ms out σ' I' L') 0 0 0 (tkEnt a ++ List.replicate (nL - (lg_sl a).length) none) [] σ I L) :
    tkCon lo (.codeWith y cc nL ret hh) y d a σ I L mc ms out σ' I' L' := by
  intro l hl base D
  refine vx_ofWH (cc := cc) (maxL := nL) (ret := ret) (hh := hh) hy rfl ?_
  intro p e s m args below meth c s₁ B hml hv
  obtain ⟨rfl, hK, hE, hR⟩ := hv
  have hts0 := atoms_spec (ws := Cond.codeWith y cc nL ret hh :: tkAll) B.pre
  have C : tkC (p, l, e, tkRm d mc ms, s, m, a.toArray, below, meth, c, base, D) cc y.cls y.name nL ret hh d mc ms :=
    ⟨B.exec, B.bytes, hml, findClass_of_methodNamed B.named, fun w hw => hts0 w (List.mem_cons_of_mem _ hw), hK, hE, B.notSynchronized, B.returns, (name_of_methodNamed B.named B.method).1, vx_table (x := y) B (hts0 _ List.mem_cons_self), Nat.le_refl _, Nat.le_refl _, rfl, rfl, hl⟩
  exact tkG.entry rfl hml hn hR (body _ C)
end
section
section TKR
variable {X : tkX} {Q : State → Prop} {cc : ByteArray} {own nm : String} {nL d MC MS cs ss pc : Nat} {ret : Option FieldType} {hh : List (Nat × Nat × Nat × Nat)} {lv : List (Option Value)} {stk : List Value} {σ : tkM} {I : tkI} {L : tkL}
theorem g_iconst (C : tkC X cc own nm nL ret hh d MC MS) {n : Int} (v : Int32) (hd : decode cc pc = .ok (.iconst n, 1)) (hv : Int32.ofInt n = v) (k : tkG X Q cs ss (pc + 1) lv (.int v :: stk) σ I L) : tkG X Q cs ss pc lv stk σ I L := by
  obtain ⟨p, l, e, R, s, m, args, below, meth, c, base, D⟩ := X
  obtain ⟨hx, hb, hml, hown, hts, hK, hE, hlocks, hr, hnm, hhh, hfr, hlo, hRc, hRs, hst⟩ := C
  intro H locs ls hS hR hl
  exact lv_iconst hx hb hd hv (k H locs ls hS hR hl)
theorem g_bipush (C : tkC X cc own nm nL ret hh d MC MS) {n : Int} (v : Int32) (hd : decode cc pc = .ok (.bipush n, 2)) (hv : (Int8.ofInt n).toInt32 = v) (k : tkG X Q cs ss (pc + 2) lv (.int v :: stk) σ I L) : tkG X Q cs ss pc lv stk σ I L := by
  obtain ⟨p, l, e, R, s, m, args, below, meth, c, base, D⟩ := X
  obtain ⟨hx, hb, hml, hown, hts, hK, hE, hlocks, hr, hnm, hhh, hfr, hlo, hRc, hRs, hst⟩ := C
  intro H locs ls hS hR hl
  exact lv_bipush hx hb hd hv (k H locs ls hS hR hl)
theorem g_sipush (C : tkC X cc own nm nL ret hh d MC MS) {n : Int} (v : Int32) (hd : decode cc pc = .ok (.sipush n, 3)) (hv : (Int16.ofInt n).toInt32 = v) (k : tkG X Q cs ss (pc + 3) lv (.int v :: stk) σ I L) : tkG X Q cs ss pc lv stk σ I L := by
  obtain ⟨p, l, e, R, s, m, args, below, meth, c, base, D⟩ := X
  obtain ⟨hx, hb, hml, hown, hts, hK, hE, hlocks, hr, hnm, hhh, hfr, hlo, hRc, hRs, hst⟩ := C
  intro H locs ls hS hR hl
  exact lv_sipush hx hb hd hv (k H locs ls hS hR hl)
theorem g_lconst (C : tkC X cc own nm nL ret hh d MC MS) {n : Fin 2} (v : Int64) (hd : decode cc pc = .ok (.lconst n, 1)) (hv : Int64.ofNat (n : Nat) = v) (k : tkG X Q cs ss (pc + 1) lv (.long v :: stk) σ I L) : tkG X Q cs ss pc lv stk σ I L := by
  obtain ⟨p, l, e, R, s, m, args, below, meth, c, base, D⟩ := X
  obtain ⟨hx, hb, hml, hown, hts, hK, hE, hlocks, hr, hnm, hhh, hfr, hlo, hRc, hRs, hst⟩ := C
  intro H locs ls hS hR hl
  exact lv_lconst hx hb hd hv (k H locs ls hS hR hl)
theorem g_ldc (C : tkC X cc own nm nL ret hh d MC MS) {i : Nat} (v : Int32) (hd : decode cc pc = .ok (.ldc i, 2)) (hw : Cond.constant own i v ∈ tkAll) (k : tkG X Q cs ss (pc + 2) lv (.int v :: stk) σ I L) : tkG X Q cs ss pc lv stk σ I L := by
  obtain ⟨p, l, e, R, s, m, args, below, meth, c, base, D⟩ := X
  obtain ⟨hx, hb, hml, hown, hts, hK, hE, hlocks, hr, hnm, hhh, hfr, hlo, hRc, hRs, hst⟩ := C
  intro H locs ls hS hR hl
  exact lv_ldc hx hb hown (hts _ hw) hd (k H locs ls hS hR hl)
theorem g_ldc2 (C : tkC X cc own nm nL ret hh d MC MS) {i : Nat} (v : Int64) (hd : decode cc pc = .ok (.ldc2_w i, 3)) (hw : Cond.constantLong own i v ∈ tkAll) (k : tkG X Q cs ss (pc + 3) lv (.long v :: stk) σ I L) : tkG X Q cs ss pc lv stk σ I L := by
  obtain ⟨p, l, e, R, s, m, args, below, meth, c, base, D⟩ := X
  obtain ⟨hx, hb, hml, hown, hts, hK, hE, hlocks, hr, hnm, hhh, hfr, hlo, hRc, hRs, hst⟩ := C
  intro H locs ls hS hR hl
  exact lv_ldc2 hx hb hown (hts _ hw) hd (k H locs ls hS hR hl)
theorem g_iload_n (C : tkC X cc own nm nL ret hh d MC MS) {k0 : Fin 4} {i : Nat} {x : Int32} (hd : decode cc pc = .ok (.iload_n k0, 1)) (hi : (k0 : Nat) = i) (hg : tkGet lv i = some (.int x)) (k : tkG X Q cs ss (pc + 1) lv (.int x :: stk) σ I L) : tkG X Q cs ss pc lv stk σ I L := by
  obtain ⟨p, l, e, R, s, m, args, below, meth, c, base, D⟩ := X
  obtain ⟨hx, hb, hml, hown, hts, hK, hE, hlocks, hr, hnm, hhh, hfr, hlo, hRc, hRs, hst⟩ := C
  intro H locs ls hS hR hl
  exact lv_iload_n hx hb hd hi (hl.get hg) (k H locs ls hS hR hl)
theorem g_iload (C : tkC X cc own nm nL ret hh d MC MS) {i : Nat} {x : Int32} (hd : decode cc pc = .ok (.iload i, 2)) (hg : tkGet lv i = some (.int x)) (k : tkG X Q cs ss (pc + 2) lv (.int x :: stk) σ I L) : tkG X Q cs ss pc lv stk σ I L := by
  obtain ⟨p, l, e, R, s, m, args, below, meth, c, base, D⟩ := X
  obtain ⟨hx, hb, hml, hown, hts, hK, hE, hlocks, hr, hnm, hhh, hfr, hlo, hRc, hRs, hst⟩ := C
  intro H locs ls hS hR hl
  exact lv_iload hx hb hd (hl.get hg) (k H locs ls hS hR hl)
theorem g_lload_n (C : tkC X cc own nm nL ret hh d MC MS) {k0 : Fin 4} {i : Nat} {x : Int64} (hd : decode cc pc = .ok (.lload_n k0, 1)) (hi : (k0 : Nat) = i) (hg : tkGet lv i = some (.long x)) (k : tkG X Q cs ss (pc + 1) lv (.long x :: stk) σ I L) : tkG X Q cs ss pc lv stk σ I L := by
  obtain ⟨p, l, e, R, s, m, args, below, meth, c, base, D⟩ := X
  obtain ⟨hx, hb, hml, hown, hts, hK, hE, hlocks, hr, hnm, hhh, hfr, hlo, hRc, hRs, hst⟩ := C
  intro H locs ls hS hR hl
  exact lv_lload_n hx hb hd hi (hl.get hg) (k H locs ls hS hR hl)
theorem g_lload (C : tkC X cc own nm nL ret hh d MC MS) {i : Nat} {x : Int64} (hd : decode cc pc = .ok (.lload i, 2)) (hg : tkGet lv i = some (.long x)) (k : tkG X Q cs ss (pc + 2) lv (.long x :: stk) σ I L) : tkG X Q cs ss pc lv stk σ I L := by
  obtain ⟨p, l, e, R, s, m, args, below, meth, c, base, D⟩ := X
  obtain ⟨hx, hb, hml, hown, hts, hK, hE, hlocks, hr, hnm, hhh, hfr, hlo, hRc, hRs, hst⟩ := C
  intro H locs ls hS hR hl
  exact lv_lload hx hb hd (hl.get hg) (k H locs ls hS hR hl)
theorem g_aload_n (C : tkC X cc own nm nL ret hh d MC MS) {k0 : Fin 4} {i : Nat} {x : Nat} (hd : decode cc pc = .ok (.aload_n k0, 1)) (hi : (k0 : Nat) = i) (hg : tkGet lv i = some (.ref x)) (k : tkG X Q cs ss (pc + 1) lv (.ref x :: stk) σ I L) : tkG X Q cs ss pc lv stk σ I L := by
  obtain ⟨p, l, e, R, s, m, args, below, meth, c, base, D⟩ := X
  obtain ⟨hx, hb, hml, hown, hts, hK, hE, hlocks, hr, hnm, hhh, hfr, hlo, hRc, hRs, hst⟩ := C
  intro H locs ls hS hR hl
  exact lv_aload_n hx hb hd hi (hl.get hg) (k H locs ls hS hR hl)
theorem g_aload (C : tkC X cc own nm nL ret hh d MC MS) {i : Nat} {x : Nat} (hd : decode cc pc = .ok (.aload i, 2)) (hg : tkGet lv i = some (.ref x)) (k : tkG X Q cs ss (pc + 2) lv (.ref x :: stk) σ I L) : tkG X Q cs ss pc lv stk σ I L := by
  obtain ⟨p, l, e, R, s, m, args, below, meth, c, base, D⟩ := X
  obtain ⟨hx, hb, hml, hown, hts, hK, hE, hlocks, hr, hnm, hhh, hfr, hlo, hRc, hRs, hst⟩ := C
  intro H locs ls hS hR hl
  exact lv_aload hx hb hd (hl.get hg) (k H locs ls hS hR hl)
theorem g_dload_n (C : tkC X cc own nm nL ret hh d MC MS) {k0 : Fin 4} {i : Nat} {x : UInt64} (hd : decode cc pc = .ok (.dload_n k0, 1)) (hi : (k0 : Nat) = i) (hg : tkGet lv i = some (.double x)) (k : tkG X Q cs ss (pc + 1) lv (.double x :: stk) σ I L) : tkG X Q cs ss pc lv stk σ I L := by
  obtain ⟨p, l, e, R, s, m, args, below, meth, c, base, D⟩ := X
  obtain ⟨hx, hb, hml, hown, hts, hK, hE, hlocks, hr, hnm, hhh, hfr, hlo, hRc, hRs, hst⟩ := C
  intro H locs ls hS hR hl
  exact lv_dload_n hx hb hd hi (hl.get hg) (k H locs ls hS hR hl)
theorem g_dload (C : tkC X cc own nm nL ret hh d MC MS) {i : Nat} {x : UInt64} (hd : decode cc pc = .ok (.dload i, 2)) (hg : tkGet lv i = some (.double x)) (k : tkG X Q cs ss (pc + 2) lv (.double x :: stk) σ I L) : tkG X Q cs ss pc lv stk σ I L := by
  obtain ⟨p, l, e, R, s, m, args, below, meth, c, base, D⟩ := X
  obtain ⟨hx, hb, hml, hown, hts, hK, hE, hlocks, hr, hnm, hhh, hfr, hlo, hRc, hRs, hst⟩ := C
  intro H locs ls hS hR hl
  exact lv_dload hx hb hd (hl.get hg) (k H locs ls hS hR hl)
theorem g_istore_n (C : tkC X cc own nm nL ret hh d MC MS) {k0 : Fin 4} {i : Nat} {x : Int32} (hd : decode cc pc = .ok (.istore_n k0, 1)) (hi : (k0 : Nat) = i) (hn : i < nL) (k : tkG X Q cs ss (pc + 1) (tkSt1 lv i (.int x)) stk σ I L) : tkG X Q cs ss pc lv (.int x :: stk) σ I L := by
  obtain ⟨p, l, e, R, s, m, args, below, meth, c, base, D⟩ := X
  obtain ⟨hx, hb, hml, hown, hts, hK, hE, hlocks, hr, hnm, hhh, hfr, hlo, hRc, hRs, hst⟩ := C
  intro H locs ls hS hR hl
  exact lv_istore_n (nL := c.maxLocals) hx hb hd hi hl (by rw [hml]; exact hn) rfl (fun ls' h' => k H locs ls' hS hR (tkLv.st1 h'))
theorem g_istore (C : tkC X cc own nm nL ret hh d MC MS) {i : Nat} {x : Int32} (hd : decode cc pc = .ok (.istore i, 2)) (hn : i < nL) (k : tkG X Q cs ss (pc + 2) (tkSt1 lv i (.int x)) stk σ I L) : tkG X Q cs ss pc lv (.int x :: stk) σ I L := by
  obtain ⟨p, l, e, R, s, m, args, below, meth, c, base, D⟩ := X
  obtain ⟨hx, hb, hml, hown, hts, hK, hE, hlocks, hr, hnm, hhh, hfr, hlo, hRc, hRs, hst⟩ := C
  intro H locs ls hS hR hl
  exact lv_istore (nL := c.maxLocals) hx hb hd hl (by rw [hml]; exact hn) rfl (fun ls' h' => k H locs ls' hS hR (tkLv.st1 h'))
theorem g_lstore_n (C : tkC X cc own nm nL ret hh d MC MS) {k0 : Fin 4} {i : Nat} {x : Int64} (hd : decode cc pc = .ok (.lstore_n k0, 1)) (hi : (k0 : Nat) = i) (hn : i + 1 < nL) (k : tkG X Q cs ss (pc + 1) (tkSt2 lv i (.long x)) stk σ I L) : tkG X Q cs ss pc lv (.long x :: stk) σ I L := by
  obtain ⟨p, l, e, R, s, m, args, below, meth, c, base, D⟩ := X
  obtain ⟨hx, hb, hml, hown, hts, hK, hE, hlocks, hr, hnm, hhh, hfr, hlo, hRc, hRs, hst⟩ := C
  intro H locs ls hS hR hl
  exact lv_lstore_n (nL := c.maxLocals) hx hb hd hi hl (by rw [hml]; exact hn) rfl (fun ls' h' => k H locs ls' hS hR (tkLv.st2 h'))
theorem g_lstore (C : tkC X cc own nm nL ret hh d MC MS) {i : Nat} {x : Int64} (hd : decode cc pc = .ok (.lstore i, 2)) (hn : i + 1 < nL) (k : tkG X Q cs ss (pc + 2) (tkSt2 lv i (.long x)) stk σ I L) : tkG X Q cs ss pc lv (.long x :: stk) σ I L := by
  obtain ⟨p, l, e, R, s, m, args, below, meth, c, base, D⟩ := X
  obtain ⟨hx, hb, hml, hown, hts, hK, hE, hlocks, hr, hnm, hhh, hfr, hlo, hRc, hRs, hst⟩ := C
  intro H locs ls hS hR hl
  exact lv_lstore (nL := c.maxLocals) hx hb hd hl (by rw [hml]; exact hn) rfl (fun ls' h' => k H locs ls' hS hR (tkLv.st2 h'))
theorem g_astore_n (C : tkC X cc own nm nL ret hh d MC MS) {k0 : Fin 4} {i : Nat} {x : Nat} (hd : decode cc pc = .ok (.astore_n k0, 1)) (hi : (k0 : Nat) = i) (hn : i < nL) (k : tkG X Q cs ss (pc + 1) (tkSt1 lv i (.ref x)) stk σ I L) : tkG X Q cs ss pc lv (.ref x :: stk) σ I L := by
  obtain ⟨p, l, e, R, s, m, args, below, meth, c, base, D⟩ := X
  obtain ⟨hx, hb, hml, hown, hts, hK, hE, hlocks, hr, hnm, hhh, hfr, hlo, hRc, hRs, hst⟩ := C
  intro H locs ls hS hR hl
  exact lv_astore_n (nL := c.maxLocals) hx hb hd hi hl (by rw [hml]; exact hn) rfl (fun ls' h' => k H locs ls' hS hR (tkLv.st1 h'))
theorem g_astore (C : tkC X cc own nm nL ret hh d MC MS) {i : Nat} {x : Nat} (hd : decode cc pc = .ok (.astore i, 2)) (hn : i < nL) (k : tkG X Q cs ss (pc + 2) (tkSt1 lv i (.ref x)) stk σ I L) : tkG X Q cs ss pc lv (.ref x :: stk) σ I L := by
  obtain ⟨p, l, e, R, s, m, args, below, meth, c, base, D⟩ := X
  obtain ⟨hx, hb, hml, hown, hts, hK, hE, hlocks, hr, hnm, hhh, hfr, hlo, hRc, hRs, hst⟩ := C
  intro H locs ls hS hR hl
  exact lv_astore (nL := c.maxLocals) hx hb hd hl (by rw [hml]; exact hn) rfl (fun ls' h' => k H locs ls' hS hR (tkLv.st1 h'))
theorem g_dstore_n (C : tkC X cc own nm nL ret hh d MC MS) {k0 : Fin 4} {i : Nat} {x : UInt64} (hd : decode cc pc = .ok (.dstore_n k0, 1)) (hi : (k0 : Nat) = i) (hn : i + 1 < nL) (k : tkG X Q cs ss (pc + 1) (tkSt2 lv i (.double x)) stk σ I L) : tkG X Q cs ss pc lv (.double x :: stk) σ I L := by
  obtain ⟨p, l, e, R, s, m, args, below, meth, c, base, D⟩ := X
  obtain ⟨hx, hb, hml, hown, hts, hK, hE, hlocks, hr, hnm, hhh, hfr, hlo, hRc, hRs, hst⟩ := C
  intro H locs ls hS hR hl
  exact lv_dstore_n (nL := c.maxLocals) hx hb hd hi hl (by rw [hml]; exact hn) rfl (fun ls' h' => k H locs ls' hS hR (tkLv.st2 h'))
theorem g_dstore (C : tkC X cc own nm nL ret hh d MC MS) {i : Nat} {x : UInt64} (hd : decode cc pc = .ok (.dstore i, 2)) (hn : i + 1 < nL) (k : tkG X Q cs ss (pc + 2) (tkSt2 lv i (.double x)) stk σ I L) : tkG X Q cs ss pc lv (.double x :: stk) σ I L := by
  obtain ⟨p, l, e, R, s, m, args, below, meth, c, base, D⟩ := X
  obtain ⟨hx, hb, hml, hown, hts, hK, hE, hlocks, hr, hnm, hhh, hfr, hlo, hRc, hRs, hst⟩ := C
  intro H locs ls hS hR hl
  exact lv_dstore (nL := c.maxLocals) hx hb hd hl (by rw [hml]; exact hn) rfl (fun ls' h' => k H locs ls' hS hR (tkLv.st2 h'))
theorem g_iinc (C : tkC X cc own nm nL ret hh d MC MS) {i : Nat} {n : Int} {x : Int32} (v : Int32) (hd : decode cc pc = .ok (.iinc i n, 3)) (hg : tkGet lv i = some (.int x)) (hv : x + Int32.ofInt n = v) (hn : i < nL) (k : tkG X Q cs ss (pc + 3) (tkSt1 lv i (.int v)) stk σ I L) : tkG X Q cs ss pc lv stk σ I L := by
  obtain ⟨p, l, e, R, s, m, args, below, meth, c, base, D⟩ := X
  obtain ⟨hx, hb, hml, hown, hts, hK, hE, hlocks, hr, hnm, hhh, hfr, hlo, hRc, hRs, hst⟩ := C
  intro H locs ls hS hR hl
  obtain ⟨k1, hk1⟩ := List.getElem?_of_mem (tkAl_mem.mpr hg)
  exact lv_iinc (nL := c.maxLocals) hx hb hd hl hk1 hv (by rw [hml]; exact hn) rfl (fun ls' h' => k H locs ls' hS hR (tkLv.st1 h'))
theorem g_iadd (C : tkC X cc own nm nL ret hh d MC MS) {x y : Int32} (hd : decode cc pc = .ok (.iadd, 1)) (k : tkG X Q cs ss (pc + 1) lv (.int (x + y) :: stk) σ I L) : tkG X Q cs ss pc lv (.int y :: .int x :: stk) σ I L := by
  obtain ⟨p, l, e, R, s, m, args, below, meth, c, base, D⟩ := X
  obtain ⟨hx, hb, hml, hown, hts, hK, hE, hlocks, hr, hnm, hhh, hfr, hlo, hRc, hRs, hst⟩ := C
  intro H locs ls hS hR hl
  exact lv_iadd hx hb hd (k H locs ls hS hR hl)
theorem g_isub (C : tkC X cc own nm nL ret hh d MC MS) {x y : Int32} (hd : decode cc pc = .ok (.isub, 1)) (k : tkG X Q cs ss (pc + 1) lv (.int (x - y) :: stk) σ I L) : tkG X Q cs ss pc lv (.int y :: .int x :: stk) σ I L := by
  obtain ⟨p, l, e, R, s, m, args, below, meth, c, base, D⟩ := X
  obtain ⟨hx, hb, hml, hown, hts, hK, hE, hlocks, hr, hnm, hhh, hfr, hlo, hRc, hRs, hst⟩ := C
  intro H locs ls hS hR hl
  exact lv_isub hx hb hd (k H locs ls hS hR hl)
theorem g_imul (C : tkC X cc own nm nL ret hh d MC MS) {x y : Int32} (hd : decode cc pc = .ok (.imul, 1)) (k : tkG X Q cs ss (pc + 1) lv (.int (x * y) :: stk) σ I L) : tkG X Q cs ss pc lv (.int y :: .int x :: stk) σ I L := by
  obtain ⟨p, l, e, R, s, m, args, below, meth, c, base, D⟩ := X
  obtain ⟨hx, hb, hml, hown, hts, hK, hE, hlocks, hr, hnm, hhh, hfr, hlo, hRc, hRs, hst⟩ := C
  intro H locs ls hS hR hl
  exact lv_imul hx hb hd (k H locs ls hS hR hl)
theorem g_iand (C : tkC X cc own nm nL ret hh d MC MS) {x y : Int32} (hd : decode cc pc = .ok (.iand, 1)) (k : tkG X Q cs ss (pc + 1) lv (.int (x &&& y) :: stk) σ I L) : tkG X Q cs ss pc lv (.int y :: .int x :: stk) σ I L := by
  obtain ⟨p, l, e, R, s, m, args, below, meth, c, base, D⟩ := X
  obtain ⟨hx, hb, hml, hown, hts, hK, hE, hlocks, hr, hnm, hhh, hfr, hlo, hRc, hRs, hst⟩ := C
  intro H locs ls hS hR hl
  exact lv_iand hx hb hd (k H locs ls hS hR hl)
theorem g_ladd (C : tkC X cc own nm nL ret hh d MC MS) {x y : Int64} (hd : decode cc pc = .ok (.ladd, 1)) (k : tkG X Q cs ss (pc + 1) lv (.long (x + y) :: stk) σ I L) : tkG X Q cs ss pc lv (.long y :: .long x :: stk) σ I L := by
  obtain ⟨p, l, e, R, s, m, args, below, meth, c, base, D⟩ := X
  obtain ⟨hx, hb, hml, hown, hts, hK, hE, hlocks, hr, hnm, hhh, hfr, hlo, hRc, hRs, hst⟩ := C
  intro H locs ls hS hR hl
  exact lv_ladd hx hb hd (k H locs ls hS hR hl)
theorem g_lsub (C : tkC X cc own nm nL ret hh d MC MS) {x y : Int64} (hd : decode cc pc = .ok (.lsub, 1)) (k : tkG X Q cs ss (pc + 1) lv (.long (x - y) :: stk) σ I L) : tkG X Q cs ss pc lv (.long y :: .long x :: stk) σ I L := by
  obtain ⟨p, l, e, R, s, m, args, below, meth, c, base, D⟩ := X
  obtain ⟨hx, hb, hml, hown, hts, hK, hE, hlocks, hr, hnm, hhh, hfr, hlo, hRc, hRs, hst⟩ := C
  intro H locs ls hS hR hl
  exact lv_lsub hx hb hd (k H locs ls hS hR hl)
theorem g_lmul (C : tkC X cc own nm nL ret hh d MC MS) {x y : Int64} (hd : decode cc pc = .ok (.lmul, 1)) (k : tkG X Q cs ss (pc + 1) lv (.long (x * y) :: stk) σ I L) : tkG X Q cs ss pc lv (.long y :: .long x :: stk) σ I L := by
  obtain ⟨p, l, e, R, s, m, args, below, meth, c, base, D⟩ := X
  obtain ⟨hx, hb, hml, hown, hts, hK, hE, hlocks, hr, hnm, hhh, hfr, hlo, hRc, hRs, hst⟩ := C
  intro H locs ls hS hR hl
  exact lv_lmul hx hb hd (k H locs ls hS hR hl)
theorem g_ldiv (C : tkC X cc own nm nL ret hh d MC MS) {x y : Int64} (hd : decode cc pc = .ok (.ldiv, 1)) (hne : ¬ y = 0) (k : tkG X Q cs ss (pc + 1) lv (.long (x / y) :: stk) σ I L) : tkG X Q cs ss pc lv (.long y :: .long x :: stk) σ I L := by
  obtain ⟨p, l, e, R, s, m, args, below, meth, c, base, D⟩ := X
  obtain ⟨hx, hb, hml, hown, hts, hK, hE, hlocks, hr, hnm, hhh, hfr, hlo, hRc, hRs, hst⟩ := C
  intro H locs ls hS hR hl
  exact lv_ldiv hx hb hd hne (k H locs ls hS hR hl)
theorem g_lrem (C : tkC X cc own nm nL ret hh d MC MS) {x y : Int64} (hd : decode cc pc = .ok (.lrem, 1)) (hne : ¬ y = 0) (k : tkG X Q cs ss (pc + 1) lv (.long (x - x / y * y) :: stk) σ I L) : tkG X Q cs ss pc lv (.long y :: .long x :: stk) σ I L := by
  obtain ⟨p, l, e, R, s, m, args, below, meth, c, base, D⟩ := X
  obtain ⟨hx, hb, hml, hown, hts, hK, hE, hlocks, hr, hnm, hhh, hfr, hlo, hRc, hRs, hst⟩ := C
  intro H locs ls hS hR hl
  exact lv_lrem hx hb hd hne (k H locs ls hS hR hl)
theorem g_ineg (C : tkC X cc own nm nL ret hh d MC MS) {x : Int32} (hd : decode cc pc = .ok (.ineg, 1)) (k : tkG X Q cs ss (pc + 1) lv (.int (-x) :: stk) σ I L) : tkG X Q cs ss pc lv (.int x :: stk) σ I L := by
  obtain ⟨p, l, e, R, s, m, args, below, meth, c, base, D⟩ := X
  obtain ⟨hx, hb, hml, hown, hts, hK, hE, hlocks, hr, hnm, hhh, hfr, hlo, hRc, hRs, hst⟩ := C
  intro H locs ls hS hR hl
  exact lv_ineg hx hb hd (k H locs ls hS hR hl)
theorem g_lneg (C : tkC X cc own nm nL ret hh d MC MS) {x : Int64} (hd : decode cc pc = .ok (.lneg, 1)) (k : tkG X Q cs ss (pc + 1) lv (.long (-x) :: stk) σ I L) : tkG X Q cs ss pc lv (.long x :: stk) σ I L := by
  obtain ⟨p, l, e, R, s, m, args, below, meth, c, base, D⟩ := X
  obtain ⟨hx, hb, hml, hown, hts, hK, hE, hlocks, hr, hnm, hhh, hfr, hlo, hRc, hRs, hst⟩ := C
  intro H locs ls hS hR hl
  exact lv_lneg hx hb hd (k H locs ls hS hR hl)
theorem g_i2l (C : tkC X cc own nm nL ret hh d MC MS) {x : Int32} (hd : decode cc pc = .ok (.i2l, 1)) (k : tkG X Q cs ss (pc + 1) lv (.long x.toInt64 :: stk) σ I L) : tkG X Q cs ss pc lv (.int x :: stk) σ I L := by
  obtain ⟨p, l, e, R, s, m, args, below, meth, c, base, D⟩ := X
  obtain ⟨hx, hb, hml, hown, hts, hK, hE, hlocks, hr, hnm, hhh, hfr, hlo, hRc, hRs, hst⟩ := C
  intro H locs ls hS hR hl
  exact lv_i2l hx hb hd rfl (k H locs ls hS hR hl)
theorem g_l2i (C : tkC X cc own nm nL ret hh d MC MS) {x : Int64} (hd : decode cc pc = .ok (.l2i, 1)) (k : tkG X Q cs ss (pc + 1) lv (.int x.toInt32 :: stk) σ I L) : tkG X Q cs ss pc lv (.long x :: stk) σ I L := by
  obtain ⟨p, l, e, R, s, m, args, below, meth, c, base, D⟩ := X
  obtain ⟨hx, hb, hml, hown, hts, hK, hE, hlocks, hr, hnm, hhh, hfr, hlo, hRc, hRs, hst⟩ := C
  intro H locs ls hS hR hl
  exact lv_l2i hx hb hd rfl (k H locs ls hS hR hl)
theorem g_i2d (C : tkC X cc own nm nL ret hh d MC MS) {x : Int32} (hd : decode cc pc = .ok (.i2d, 1)) (k : tkG X Q cs ss (pc + 1) lv (.double (FP.i2d x) :: stk) σ I L) : tkG X Q cs ss pc lv (.int x :: stk) σ I L := by
  obtain ⟨p, l, e, R, s, m, args, below, meth, c, base, D⟩ := X
  obtain ⟨hx, hb, hml, hown, hts, hK, hE, hlocks, hr, hnm, hhh, hfr, hlo, hRc, hRs, hst⟩ := C
  intro H locs ls hS hR hl
  exact lv_i2d hx hb hd (k H locs ls hS hR hl)
theorem g_l2d (C : tkC X cc own nm nL ret hh d MC MS) {x : Int64} (hd : decode cc pc = .ok (.l2d, 1)) (k : tkG X Q cs ss (pc + 1) lv (.double (FP.l2d x) :: stk) σ I L) : tkG X Q cs ss pc lv (.long x :: stk) σ I L := by
  obtain ⟨p, l, e, R, s, m, args, below, meth, c, base, D⟩ := X
  obtain ⟨hx, hb, hml, hown, hts, hK, hE, hlocks, hr, hnm, hhh, hfr, hlo, hRc, hRs, hst⟩ := C
  intro H locs ls hS hR hl
  exact lv_l2d hx hb hd (k H locs ls hS hR hl)
theorem g_ddiv (C : tkC X cc own nm nL ret hh d MC MS) {x y : UInt64} (hd : decode cc pc = .ok (.ddiv, 1)) (hne : vf_n64 (FP.ddiv x y)) (k : tkG X Q cs ss (pc + 1) lv (.double (FP.ddiv x y) :: stk) σ I L) : tkG X Q cs ss pc lv (.double y :: .double x :: stk) σ I L := by
  obtain ⟨p, l, e, R, s, m, args, below, meth, c, base, D⟩ := X
  obtain ⟨hx, hb, hml, hown, hts, hK, hE, hlocks, hr, hnm, hhh, hfr, hlo, hRc, hRs, hst⟩ := C
  intro H locs ls hS hR hl
  exact lv_ddiv hx hb hd hne (k H locs ls hS hR hl)
theorem g_lcmp (C : tkC X cc own nm nL ret hh d MC MS) {x y : Int64} (hd : decode cc pc = .ok (.lcmp, 1)) (k : tkG X Q cs ss (pc + 1) lv (.int (lg_cmp x y) :: stk) σ I L) : tkG X Q cs ss pc lv (.long y :: .long x :: stk) σ I L := by
  obtain ⟨p, l, e, R, s, m, args, below, meth, c, base, D⟩ := X
  obtain ⟨hx, hb, hml, hown, hts, hK, hE, hlocks, hr, hnm, hhh, hfr, hlo, hRc, hRs, hst⟩ := C
  intro H locs ls hS hR hl
  exact W.lcmp hx hb hd (k H locs ls hS hR hl)
theorem g_dcmp (C : tkC X cc own nm nL ret hh d MC MS) {x y : UInt64} {op : CmpOp} (hd : decode cc pc = .ok (.dcmp op, 1)) (k : tkG X Q cs ss (pc + 1) lv (.int (Op.cmpValue (FP.dcmp x y) op) :: stk) σ I L) : tkG X Q cs ss pc lv (.double y :: .double x :: stk) σ I L := by
  obtain ⟨p, l, e, R, s, m, args, below, meth, c, base, D⟩ := X
  obtain ⟨hx, hb, hml, hown, hts, hK, hE, hlocks, hr, hnm, hhh, hfr, hlo, hRc, hRs, hst⟩ := C
  intro H locs ls hS hR hl
  exact lv_dcmp hx hb hd (k H locs ls hS hR hl)
theorem g_dup (C : tkC X cc own nm nL ret hh d MC MS) {va : Value} (hd : decode cc pc = .ok (.dup, 1)) (hva : va.category = 1) (k : tkG X Q cs ss (pc + 1) lv (va :: va :: stk) σ I L) : tkG X Q cs ss pc lv (va :: stk) σ I L := by
  obtain ⟨p, l, e, R, s, m, args, below, meth, c, base, D⟩ := X
  obtain ⟨hx, hb, hml, hown, hts, hK, hE, hlocks, hr, hnm, hhh, hfr, hlo, hRc, hRs, hst⟩ := C
  intro H locs ls hS hR hl
  exact lv_dup hx hb hd hva (k H locs ls hS hR hl)
theorem g_pop (C : tkC X cc own nm nL ret hh d MC MS) {va : Value} (hd : decode cc pc = .ok (.pop, 1)) (hva : va.category = 1) (k : tkG X Q cs ss (pc + 1) lv stk σ I L) : tkG X Q cs ss pc lv (va :: stk) σ I L := by
  obtain ⟨p, l, e, R, s, m, args, below, meth, c, base, D⟩ := X
  obtain ⟨hx, hb, hml, hown, hts, hK, hE, hlocks, hr, hnm, hhh, hfr, hlo, hRc, hRs, hst⟩ := C
  intro H locs ls hS hR hl
  exact lv_pop hx hb hd hva (k H locs ls hS hR hl)
theorem g_dup2 (C : tkC X cc own nm nL ret hh d MC MS) {va vb : Value} (hd : decode cc pc = .ok (.dup2, 1)) (hva : va.category = 1) (hvb : vb.category = 1) (k : tkG X Q cs ss (pc + 1) lv (va :: vb :: va :: vb :: stk) σ I L) : tkG X Q cs ss pc lv (va :: vb :: stk) σ I L := by
  obtain ⟨p, l, e, R, s, m, args, below, meth, c, base, D⟩ := X
  obtain ⟨hx, hb, hml, hown, hts, hK, hE, hlocks, hr, hnm, hhh, hfr, hlo, hRc, hRs, hst⟩ := C
  intro H locs ls hS hR hl
  exact lv_dup2_11 hx hb hd hva hvb (k H locs ls hS hR hl)
theorem g_if_eq (C : tkC X cc own nm nL ret hh d MC MS) {x : Int32} {off : Int} (tgt : Nat) (hd : decode cc pc = .ok (.ifCond .eq off, 3)) (ht : (pc : Int) + off = (tgt : Int)) (kt : x = 0 → tkG X Q cs ss tgt lv stk σ I L) (kf : ¬ x = 0 → tkG X Q cs ss (pc + 3) lv stk σ I L) : tkG X Q cs ss pc lv (.int x :: stk) σ I L := by
  obtain ⟨p, l, e, R, s, m, args, below, meth, c, base, D⟩ := X
  obtain ⟨hx, hb, hml, hown, hts, hK, hE, hlocks, hr, hnm, hhh, hfr, hlo, hRc, hRs, hst⟩ := C
  intro H locs ls hS hR hl
  exact lv_if_eq hx hb hd ht (fun z => kt z H locs ls hS hR hl) (fun z => kf z H locs ls hS hR hl)
theorem g_icmp_eq (C : tkC X cc own nm nL ret hh d MC MS) {x y : Int32} {off : Int} (tgt : Nat) (hd : decode cc pc = .ok (.if_icmp .eq off, 3)) (ht : (pc : Int) + off = (tgt : Int)) (kt : x = y → tkG X Q cs ss tgt lv stk σ I L) (kf : ¬ x = y → tkG X Q cs ss (pc + 3) lv stk σ I L) : tkG X Q cs ss pc lv (.int y :: .int x :: stk) σ I L := by
  obtain ⟨p, l, e, R, s, m, args, below, meth, c, base, D⟩ := X
  obtain ⟨hx, hb, hml, hown, hts, hK, hE, hlocks, hr, hnm, hhh, hfr, hlo, hRc, hRs, hst⟩ := C
  intro H locs ls hS hR hl
  exact lv_icmp_eq hx hb hd ht (fun z => kt z H locs ls hS hR hl) (fun z => kf z H locs ls hS hR hl)
theorem g_if_ne (C : tkC X cc own nm nL ret hh d MC MS) {x : Int32} {off : Int} (tgt : Nat) (hd : decode cc pc = .ok (.ifCond .ne off, 3)) (ht : (pc : Int) + off = (tgt : Int)) (kt : ¬ x = 0 → tkG X Q cs ss tgt lv stk σ I L) (kf : x = 0 → tkG X Q cs ss (pc + 3) lv stk σ I L) : tkG X Q cs ss pc lv (.int x :: stk) σ I L := by
  obtain ⟨p, l, e, R, s, m, args, below, meth, c, base, D⟩ := X
  obtain ⟨hx, hb, hml, hown, hts, hK, hE, hlocks, hr, hnm, hhh, hfr, hlo, hRc, hRs, hst⟩ := C
  intro H locs ls hS hR hl
  exact lv_if_ne hx hb hd ht (fun z => kt z H locs ls hS hR hl) (fun z => kf z H locs ls hS hR hl)
theorem g_icmp_ne (C : tkC X cc own nm nL ret hh d MC MS) {x y : Int32} {off : Int} (tgt : Nat) (hd : decode cc pc = .ok (.if_icmp .ne off, 3)) (ht : (pc : Int) + off = (tgt : Int)) (kt : ¬ x = y → tkG X Q cs ss tgt lv stk σ I L) (kf : x = y → tkG X Q cs ss (pc + 3) lv stk σ I L) : tkG X Q cs ss pc lv (.int y :: .int x :: stk) σ I L := by
  obtain ⟨p, l, e, R, s, m, args, below, meth, c, base, D⟩ := X
  obtain ⟨hx, hb, hml, hown, hts, hK, hE, hlocks, hr, hnm, hhh, hfr, hlo, hRc, hRs, hst⟩ := C
  intro H locs ls hS hR hl
  exact lv_icmp_ne hx hb hd ht (fun z => kt z H locs ls hS hR hl) (fun z => kf z H locs ls hS hR hl)
theorem g_if_lt (C : tkC X cc own nm nL ret hh d MC MS) {x : Int32} {off : Int} (tgt : Nat) (hd : decode cc pc = .ok (.ifCond .lt off, 3)) (ht : (pc : Int) + off = (tgt : Int)) (kt : x < 0 → tkG X Q cs ss tgt lv stk σ I L) (kf : ¬ x < 0 → tkG X Q cs ss (pc + 3) lv stk σ I L) : tkG X Q cs ss pc lv (.int x :: stk) σ I L := by
  obtain ⟨p, l, e, R, s, m, args, below, meth, c, base, D⟩ := X
  obtain ⟨hx, hb, hml, hown, hts, hK, hE, hlocks, hr, hnm, hhh, hfr, hlo, hRc, hRs, hst⟩ := C
  intro H locs ls hS hR hl
  exact lv_if_lt hx hb hd ht (fun z => kt z H locs ls hS hR hl) (fun z => kf z H locs ls hS hR hl)
theorem g_icmp_lt (C : tkC X cc own nm nL ret hh d MC MS) {x y : Int32} {off : Int} (tgt : Nat) (hd : decode cc pc = .ok (.if_icmp .lt off, 3)) (ht : (pc : Int) + off = (tgt : Int)) (kt : x < y → tkG X Q cs ss tgt lv stk σ I L) (kf : ¬ x < y → tkG X Q cs ss (pc + 3) lv stk σ I L) : tkG X Q cs ss pc lv (.int y :: .int x :: stk) σ I L := by
  obtain ⟨p, l, e, R, s, m, args, below, meth, c, base, D⟩ := X
  obtain ⟨hx, hb, hml, hown, hts, hK, hE, hlocks, hr, hnm, hhh, hfr, hlo, hRc, hRs, hst⟩ := C
  intro H locs ls hS hR hl
  exact lv_icmp_lt hx hb hd ht (fun z => kt z H locs ls hS hR hl) (fun z => kf z H locs ls hS hR hl)
theorem g_if_ge (C : tkC X cc own nm nL ret hh d MC MS) {x : Int32} {off : Int} (tgt : Nat) (hd : decode cc pc = .ok (.ifCond .ge off, 3)) (ht : (pc : Int) + off = (tgt : Int)) (kt : 0 ≤ x → tkG X Q cs ss tgt lv stk σ I L) (kf : ¬ 0 ≤ x → tkG X Q cs ss (pc + 3) lv stk σ I L) : tkG X Q cs ss pc lv (.int x :: stk) σ I L := by
  obtain ⟨p, l, e, R, s, m, args, below, meth, c, base, D⟩ := X
  obtain ⟨hx, hb, hml, hown, hts, hK, hE, hlocks, hr, hnm, hhh, hfr, hlo, hRc, hRs, hst⟩ := C
  intro H locs ls hS hR hl
  exact lv_if_ge hx hb hd ht (fun z => kt z H locs ls hS hR hl) (fun z => kf z H locs ls hS hR hl)
theorem g_icmp_ge (C : tkC X cc own nm nL ret hh d MC MS) {x y : Int32} {off : Int} (tgt : Nat) (hd : decode cc pc = .ok (.if_icmp .ge off, 3)) (ht : (pc : Int) + off = (tgt : Int)) (kt : y ≤ x → tkG X Q cs ss tgt lv stk σ I L) (kf : ¬ y ≤ x → tkG X Q cs ss (pc + 3) lv stk σ I L) : tkG X Q cs ss pc lv (.int y :: .int x :: stk) σ I L := by
  obtain ⟨p, l, e, R, s, m, args, below, meth, c, base, D⟩ := X
  obtain ⟨hx, hb, hml, hown, hts, hK, hE, hlocks, hr, hnm, hhh, hfr, hlo, hRc, hRs, hst⟩ := C
  intro H locs ls hS hR hl
  exact lv_icmp_ge hx hb hd ht (fun z => kt z H locs ls hS hR hl) (fun z => kf z H locs ls hS hR hl)
theorem g_if_gt (C : tkC X cc own nm nL ret hh d MC MS) {x : Int32} {off : Int} (tgt : Nat) (hd : decode cc pc = .ok (.ifCond .gt off, 3)) (ht : (pc : Int) + off = (tgt : Int)) (kt : 0 < x → tkG X Q cs ss tgt lv stk σ I L) (kf : ¬ 0 < x → tkG X Q cs ss (pc + 3) lv stk σ I L) : tkG X Q cs ss pc lv (.int x :: stk) σ I L := by
  obtain ⟨p, l, e, R, s, m, args, below, meth, c, base, D⟩ := X
  obtain ⟨hx, hb, hml, hown, hts, hK, hE, hlocks, hr, hnm, hhh, hfr, hlo, hRc, hRs, hst⟩ := C
  intro H locs ls hS hR hl
  exact lv_if_gt hx hb hd ht (fun z => kt z H locs ls hS hR hl) (fun z => kf z H locs ls hS hR hl)
theorem g_icmp_gt (C : tkC X cc own nm nL ret hh d MC MS) {x y : Int32} {off : Int} (tgt : Nat) (hd : decode cc pc = .ok (.if_icmp .gt off, 3)) (ht : (pc : Int) + off = (tgt : Int)) (kt : y < x → tkG X Q cs ss tgt lv stk σ I L) (kf : ¬ y < x → tkG X Q cs ss (pc + 3) lv stk σ I L) : tkG X Q cs ss pc lv (.int y :: .int x :: stk) σ I L := by
  obtain ⟨p, l, e, R, s, m, args, below, meth, c, base, D⟩ := X
  obtain ⟨hx, hb, hml, hown, hts, hK, hE, hlocks, hr, hnm, hhh, hfr, hlo, hRc, hRs, hst⟩ := C
  intro H locs ls hS hR hl
  exact lv_icmp_gt hx hb hd ht (fun z => kt z H locs ls hS hR hl) (fun z => kf z H locs ls hS hR hl)
theorem g_if_le (C : tkC X cc own nm nL ret hh d MC MS) {x : Int32} {off : Int} (tgt : Nat) (hd : decode cc pc = .ok (.ifCond .le off, 3)) (ht : (pc : Int) + off = (tgt : Int)) (kt : x ≤ 0 → tkG X Q cs ss tgt lv stk σ I L) (kf : ¬ x ≤ 0 → tkG X Q cs ss (pc + 3) lv stk σ I L) : tkG X Q cs ss pc lv (.int x :: stk) σ I L := by
  obtain ⟨p, l, e, R, s, m, args, below, meth, c, base, D⟩ := X
  obtain ⟨hx, hb, hml, hown, hts, hK, hE, hlocks, hr, hnm, hhh, hfr, hlo, hRc, hRs, hst⟩ := C
  intro H locs ls hS hR hl
  exact lv_if_le hx hb hd ht (fun z => kt z H locs ls hS hR hl) (fun z => kf z H locs ls hS hR hl)
theorem g_icmp_le (C : tkC X cc own nm nL ret hh d MC MS) {x y : Int32} {off : Int} (tgt : Nat) (hd : decode cc pc = .ok (.if_icmp .le off, 3)) (ht : (pc : Int) + off = (tgt : Int)) (kt : x ≤ y → tkG X Q cs ss tgt lv stk σ I L) (kf : ¬ x ≤ y → tkG X Q cs ss (pc + 3) lv stk σ I L) : tkG X Q cs ss pc lv (.int y :: .int x :: stk) σ I L := by
  obtain ⟨p, l, e, R, s, m, args, below, meth, c, base, D⟩ := X
  obtain ⟨hx, hb, hml, hown, hts, hK, hE, hlocks, hr, hnm, hhh, hfr, hlo, hRc, hRs, hst⟩ := C
  intro H locs ls hS hR hl
  exact lv_icmp_le hx hb hd ht (fun z => kt z H locs ls hS hR hl) (fun z => kf z H locs ls hS hR hl)
theorem g_goto (C : tkC X cc own nm nL ret hh d MC MS) {off : Int} (tgt : Nat) (hd : decode cc pc = .ok (.goto off, 3)) (ht : (pc : Int) + off = (tgt : Int)) (k : tkG X Q cs ss tgt lv stk σ I L) : tkG X Q cs ss pc lv stk σ I L := by
  obtain ⟨p, l, e, R, s, m, args, below, meth, c, base, D⟩ := X
  obtain ⟨hx, hb, hml, hown, hts, hK, hE, hlocks, hr, hnm, hhh, hfr, hlo, hRc, hRs, hst⟩ := C
  intro H locs ls hS hR hl
  exact lv_goto hx hb hd ht (k H locs ls hS hR hl)
theorem g_ifnonnull (C : tkC X cc own nm nL ret hh d MC MS) {x : Nat} {off : Int} (tgt : Nat) (hd : decode cc pc = .ok (.ifnonnull off, 3)) (ht : (pc : Int) + off = (tgt : Int)) (k : tkG X Q cs ss tgt lv stk σ I L) : tkG X Q cs ss pc lv (.ref x :: stk) σ I L := by
  obtain ⟨p, l, e, R, s, m, args, below, meth, c, base, D⟩ := X
  obtain ⟨hx, hb, hml, hown, hts, hK, hE, hlocks, hr, hnm, hhh, hfr, hlo, hRc, hRs, hst⟩ := C
  intro H locs ls hS hR hl
  exact lv_ifnonnull hx hb hd ht (k H locs ls hS hR hl)
theorem g_ifnonnullN (C : tkC X cc own nm nL ret hh d MC MS) {off : Int} (hd : decode cc pc = .ok (.ifnonnull off, 3)) (k : tkG X Q cs ss (pc + 3) lv stk σ I L) : tkG X Q cs ss pc lv (.null :: stk) σ I L := by
  obtain ⟨p, l, e, R, s, m, args, below, meth, c, base, D⟩ := X
  obtain ⟨hx, hb, hml, hown, hts, hK, hE, hlocks, hr, hnm, hhh, hfr, hlo, hRc, hRs, hst⟩ := C
  intro H locs ls hS hR hl
  exact lv_ifnonnullN hx hb hd (k H locs ls hS hR hl)
theorem g_null (C : tkC X cc own nm nL ret hh d MC MS)  (hd : decode cc pc = .ok (.aconst_null, 1)) (k : tkG X Q cs ss (pc + 1) lv (.null :: stk) σ I L) : tkG X Q cs ss pc lv stk σ I L := by
  obtain ⟨p, l, e, R, s, m, args, below, meth, c, base, D⟩ := X
  obtain ⟨hx, hb, hml, hown, hts, hK, hE, hlocks, hr, hnm, hhh, hfr, hlo, hRc, hRs, hst⟩ := C
  intro H locs ls hS hR hl
  exact lv_null hx hb hd (k H locs ls hS hR hl)
theorem g_aloadN_n (C : tkC X cc own nm nL ret hh d MC MS) {k0 : Fin 4} {i : Nat} (hd : decode cc pc = .ok (.aload_n k0, 1)) (hi : (k0 : Nat) = i) (hg : tkGet lv i = some .null) (k : tkG X Q cs ss (pc + 1) lv (.null :: stk) σ I L) : tkG X Q cs ss pc lv stk σ I L := by
  obtain ⟨p, l, e, R, s, m, args, below, meth, c, base, D⟩ := X
  obtain ⟨hx, hb, hml, hown, hts, hK, hE, hlocks, hr, hnm, hhh, hfr, hlo, hRc, hRs, hst⟩ := C
  intro H locs ls hS hR hl
  exact lv_aload_nN hx hb hd hi (hl.get hg) (k H locs ls hS hR hl)
theorem g_astoreN_n (C : tkC X cc own nm nL ret hh d MC MS) {k0 : Fin 4} {i : Nat} (hd : decode cc pc = .ok (.astore_n k0, 1)) (hi : (k0 : Nat) = i) (hn : i < nL) (k : tkG X Q cs ss (pc + 1) (tkSt1 lv i .null) stk σ I L) : tkG X Q cs ss pc lv (.null :: stk) σ I L := by
  obtain ⟨p, l, e, R, s, m, args, below, meth, c, base, D⟩ := X
  obtain ⟨hx, hb, hml, hown, hts, hK, hE, hlocks, hr, hnm, hhh, hfr, hlo, hRc, hRs, hst⟩ := C
  intro H locs ls hS hR hl
  exact lv_astore_nN (nL := c.maxLocals) hx hb hd hi hl (by rw [hml]; exact hn) rfl (fun ls' h' => k H locs ls' hS hR (tkLv.st1 h'))
end TKR
end
section
section TKW
theorem tk_w0 : ∀ w ∈ u_ws RX0 TX0 3, w ∈ tkAll := by decide +kernel
theorem tk_w1 : ∀ w ∈ u_ws RX1 TX1 5, w ∈ tkAll := by decide +kernel
theorem tk_w2 : ∀ w ∈ u_ws RX2 TX2 13, w ∈ tkAll := by decide +kernel
theorem tk_w3 : ∀ w ∈ u_ws RX3 TX3 5, w ∈ tkAll := by decide +kernel
theorem tk_w4 : ∀ w ∈ u_ws RX4 TX4 6, w ∈ tkAll := by decide +kernel
theorem tk_w5 : ∀ w ∈ u_ws RX5 TX5 4, w ∈ tkAll := by decide +kernel
theorem tk_w6 : ∀ w ∈ u_ws RX6 TX6 29, w ∈ tkAll := by decide +kernel
/-- the classes' tables, one theorem for all -/
theorem tk_cls : ∀ (ci : Nat) (q : vw_C), vwCl[ci]? = some q → (∀ w ∈ u_ws q.1 q.2.1 q.2.2, w ∈ tkAll) ∧ (∀ k, k < q.2.2 → parseFieldDescriptor (q.2.1 k).2.2.1 = some (tkTy ci k)) ∧ (∀ a, a < q.2.2 → ∀ b, b < q.2.2 → a ≠ b → (q.2.1 a).2.1 ≠ (q.2.1 b).2.1) ∧ (∀ k, k < q.2.2 → defaultValue (tkTy ci k) = tkVal (tkTy ci k) 0 0 none)
  | 0, q, h => by cases h; exact ⟨tk_w0, tyX0_ok, nmX0, by decide +kernel⟩
  | 1, q, h => by cases h; exact ⟨tk_w1, tyX1_ok, nmX1, by decide +kernel⟩
  | 2, q, h => by cases h; exact ⟨tk_w2, tyX2_ok, nmX2, by decide +kernel⟩
  | 3, q, h => by cases h; exact ⟨tk_w3, tyX3_ok, nmX3, by decide +kernel⟩
  | 4, q, h => by cases h; exact ⟨tk_w4, tyX4_ok, nmX4, by decide +kernel⟩
  | 5, q, h => by cases h; exact ⟨tk_w5, tyX5_ok, nmX5, by decide +kernel⟩
  | 6, q, h => by cases h; exact ⟨tk_w6, tyX6_ok, nmX6, by decide +kernel⟩
  | n + 7, q, h => by simp at h
theorem tk_lt7 {ci : Nat} {q : vw_C} (h : vwCl[ci]? = some q) : ci < 7 := (List.getElem?_eq_some_iff.mp h).1
theorem tk_ne99 {ci : Nat} {q : vw_C} (h : vwCl[ci]? = some q) : ci ≠ 99 := by have := tk_lt7 h; omega
/-- what a field of type t keeps of the three -/
theorem tkVal_int {t : FieldType} (h : t = .int ∨ t = .boolean) (x : Int32) (y : Int64) (r : Option Nat) : tkVal t x y r = .int x := by rcases h with rfl | rfl <;> rfl
def tkRefT (t : FieldType) : Bool := match t with | .object _ => true | .array _ => true | _ => false
theorem tkVal_ref {t : FieldType} (h : tkRefT t = true) (x : Int32) (y : Int64) (r : Option Nat) : tkVal t x y r = va_rf r := by cases t <;> first | rfl | cases h
end TKW
section TKMEM
variable {X : tkX} {Q : State → Prop} {cc : ByteArray} {own nm : String} {nL d MC MS cs ss pc : Nat} {ret : Option FieldType} {hh : List (Nat × Nat × Nat × Nat)} {lv : List (Option Value)} {stk : List Value} {σ : tkM} {I : tkI} {L : tkL}
/-- getfield, any type -/
theorem g_get (C : tkC X cc own nm nL ret hh d MC MS) {idx ci k n a : Nat} {q : vw_C} {v : Value} (hd : decode cc pc = .ok (.getfield idx, 3)) (hS : σ.2.1 a = (ci, n)) (hc : vwCl[ci]? = some q) (hk : k < q.2.2) (hw : Cond.fieldLink own idx (q.2.1 k).1 (q.2.1 k).2.1 (q.2.1 k).2.2.1 ∈ tkAll)
    (hv : tkVal (tkTy ci k) (I a k) (L a k) (σ.2.2 a k) = v) (kk : tkG X Q cs ss (pc + 3) lv (v :: stk) σ I L) : tkG X Q cs ss pc lv (.ref a :: stk) σ I L := by
  obtain ⟨p, l, e, R, s, m, args, below, meth, c, base, D⟩ := X
  obtain ⟨hx, hb, hml, hown, hts, hK, hE, hlocks, hr, hnm, hhh, hfr, hlo, hRc, hRs, hst⟩ := C
  intro H locs ls hSS hR hl
  obtain ⟨-, -, -, hcell⟩ := hR.at hS (tk_ne99 hc)
  obtain ⟨q', h1, cell, q1, q2, q3, q4⟩ := hcell.1 (tk_lt7 hc)
  have hq : q' = q := Option.some.inj (h1.symm.trans hc)
  subst hq
  obtain ⟨hin, -, -, -⟩ := tk_cls ci q' hc
  obtain ⟨hSl, hfc, kC, hkC, hkind⟩ := hK.1.1 ci _ hc
  obtain ⟨cf, kf, fi, f, hi, hsl⟩ := hSl k hk
  refine W.getf hx hb hown (hts _ hw) hi (u_facts hfc hkC (u_lays hts hin hk) hi).1 q1 (by rw [q3]; exact fun h => by cases h) (v := v) ?_ rfl rfl hd (kk H locs ls hSS hR hl)
  rw [hsl, q4 k hk]
  exact congrArg some hv
theorem g_getI (C : tkC X cc own nm nL ret hh d MC MS) {idx a n : Nat} (ci k : Nat) (q : vw_C) {f : Nat → Int32} (hd : decode cc pc = .ok (.getfield idx, 3)) (hS : σ.2.1 a = (ci, n)) (hI : I a = f) (hw : Cond.fieldLink own idx (q.2.1 k).1 (q.2.1 k).2.1 (q.2.1 k).2.2.1 ∈ tkAll) (hc : vwCl[ci]? = some q) (hk : k < q.2.2)
    (ht : tkTy ci k = .int ∨ tkTy ci k = .boolean) (kk : tkG X Q cs ss (pc + 3) lv (.int (f k) :: stk) σ I L) : tkG X Q cs ss pc lv (.ref a :: stk) σ I L :=
  g_get C hd hS hc hk hw (by rw [tkVal_int ht, hI]) kk
theorem g_getL (C : tkC X cc own nm nL ret hh d MC MS) {idx a n : Nat} (ci k : Nat) (q : vw_C) {f : Nat → Int64} (hd : decode cc pc = .ok (.getfield idx, 3)) (hS : σ.2.1 a = (ci, n)) (hI : L a = f) (hw : Cond.fieldLink own idx (q.2.1 k).1 (q.2.1 k).2.1 (q.2.1 k).2.2.1 ∈ tkAll) (hc : vwCl[ci]? = some q) (hk : k < q.2.2)
    (ht : tkTy ci k = .long) (kk : tkG X Q cs ss (pc + 3) lv (.long (f k) :: stk) σ I L) : tkG X Q cs ss pc lv (.ref a :: stk) σ I L :=
  g_get C hd hS hc hk hw (by rw [ht, hI]; rfl) kk
theorem g_getR (C : tkC X cc own nm nL ret hh d MC MS) {idx a n b : Nat} (ci k : Nat) (q : vw_C) (hd : decode cc pc = .ok (.getfield idx, 3)) (hS : σ.2.1 a = (ci, n)) (hr : σ.2.2 a k = some b) (hw : Cond.fieldLink own idx (q.2.1 k).1 (q.2.1 k).2.1 (q.2.1 k).2.2.1 ∈ tkAll) (hc : vwCl[ci]? = some q) (hk : k < q.2.2)
    (ht : tkRefT (tkTy ci k) = true) (kk : tkG X Q cs ss (pc + 3) lv (.ref b :: stk) σ I L) : tkG X Q cs ss pc lv (.ref a :: stk) σ I L :=
  g_get C hd hS hc hk hw (by rw [tkVal_ref ht, hr]; rfl) kk
/-- putfield, any type -/
theorem g_put (C : tkC X cc own nm nL ret hh d MC MS) {idx ci k n a : Nat} {q : vw_C} {v : Value} {σ1 : tkM} {I1 : tkI} {L1 : tkL} (hd : decode cc pc = .ok (.putfield idx, 3)) (hS : σ.2.1 a = (ci, n)) (hc : vwCl[ci]? = some q) (hk : k < q.2.2) (hw : Cond.fieldLink own idx (q.2.1 k).1 (q.2.1 k).2.1 (q.2.1 k).2.2.1 ∈ tkAll)
    (hfin : (q.2.1 k).2.2.2 = false ∨ ((q.2.1 k).2.2.2 = true ∧ nm = "<init>" ∧ (q.2.1 k).1 = own)) (hn : narrow (tkTy ci k) v = v) (hfit : fits (tkTy ci k) v = true) (hσ : σ1.1 = σ.1 ∧ σ1.2.1 = σ.2.1) (ho : ∀ b, b ≠ a → I1 b = I b ∧ L1 b = L b ∧ σ1.2.2 b = σ.2.2 b)
    (hv : ∀ j, j < q.2.2 → tkVal (tkTy ci j) (I1 a j) (L1 a j) (σ1.2.2 a j) = if j = k then v else tkVal (tkTy ci j) (I a j) (L a j) (σ.2.2 a j))
    (kk : tkG X Q cs ss (pc + 3) lv stk σ1 I1 L1) : tkG X Q cs ss pc lv (v :: .ref a :: stk) σ I L := by
  obtain ⟨p, l, e, R, s, m, args, below, meth, c, base, D⟩ := X
  obtain ⟨hx, hb, hml, hown, hts, hK, hE, hlocks, hr, hnm, hhh, hfr, hlo, hRc, hRs, hst⟩ := C
  intro H locs ls hSS hR hl
  obtain ⟨hba, -, -, hcell⟩ := hR.at hS (tk_ne99 hc)
  obtain ⟨q', h1, cell, q1, q2, q3, q4⟩ := hcell.1 (tk_lt7 hc)
  have hq : q' = q := Option.some.inj (h1.symm.trans hc)
  subst hq
  obtain ⟨hin, hty, hnms, -⟩ := tk_cls ci q' hc
  have hap := va_apart (own := own) hts hin (tkTy ci) hty hnms hK.1 hc
  obtain ⟨hSl, hfc, kC, hkC, hkind⟩ := hK.1.1 ci _ hc
  obtain ⟨cf, kf, fi, f, hi, hsl⟩ := hSl k hk
  have hlay := hts _ (hin _ (u_in_lay hk))
  have hstat := (u_facts hfc hkC (u_lays hts hin hk) hi).1
  have fin : ∀ (H1 : Heap), H1[a]? = some (cell.setSlot f.slot v) → H1.size = H.size → (∀ b, b ≠ a → H1[b]? = H[b]?) → W p l e R s m args below meth c H1 (locs ++ [⟨a, f.slot⟩]) cs ss Q (F0 m (pc + 3) ls stk) := by
    intro H1 e1 e2 e3
    refine kk H1 _ ls (hSS.put e2 e3 hba) (hR.put hba e2 e3 hσ.1 hσ.2 (fun b z => (ho b z).1) (fun b z => (ho b z).2.1) (fun b z => (ho b z).2.2) fun _ => ?_) hl
    rw [hS]
    have h7 := tk_lt7 hc
    refine ⟨fun _ => ⟨q', hc, t_OB.to (V := updV (fun j => tkVal (tkTy ci j) (I a j) (L a j) (σ.2.2 a j)) k v) ⟨_, e1, q2, q3, by rw [hsl]; exact t_set q4 hap hk v⟩ (fun j hj => by rw [hv j hj]; rfl)⟩, fun z => ?_, fun z => ?_, fun z => ?_, fun z => ?_, fun z => ?_⟩ <;> (exfalso; dsimp only at z; omega)
  have h6 := u_fits hfc hkC hkind (u_lays hts hin hk) hi (hty k hk) hn hfit
  unfold u_lay at hlay
  rcases hfin with hfin | ⟨hfin, hin2, hdecl⟩
  · rw [if_neg (by rw [hfin]; decide)] at hlay
    have h7 := u_store hfc hkC hkind hlay hi (hty k hk) hn hfit
    exact W.putK hx hb (f := f) ⟨hown, hts _ hw, ⟨_, _, _, hi⟩, hstat⟩ (by rw [q2]; exact h7) q1 q3 (by rw [hsl]; exact k2_hasslot (q4 k hk)) rfl rfl hd fin
  · rw [if_pos hfin] at hlay
    have hcf : m.cls = cf := by
      obtain ⟨_, _, c', _, _, _, -, -, hf', -, -, -, hown2, -⟩ := Cond.laysFinal_spec hlay
      have e1 : c' = cf := by have := hi.symm.trans hf'; simp at this; exact this.1.symm
      rw [hdecl] at hown2
      rw [← e1]; exact Option.some.inj (hown.symm.trans hown2)
    exact W.putFinK hx hb hown (hts _ hw) hi hstat hcf (by rw [hnm]; exact hin2) (by rw [q2]; exact h6) q1 q3 (by rw [hsl]; exact k2_hasslot (q4 k hk)) rfl rfl hd fin
theorem g_putI (C : tkC X cc own nm nL ret hh d MC MS) {idx a n : Nat} {x : Int32} (ci k : Nat) (q : vw_C) {I1 : tkI} (hd : decode cc pc = .ok (.putfield idx, 3)) (hS : σ.2.1 a = (ci, n)) (hI : tk2 I a k x = I1) (hw : Cond.fieldLink own idx (q.2.1 k).1 (q.2.1 k).2.1 (q.2.1 k).2.2.1 ∈ tkAll) (hc : vwCl[ci]? = some q) (hk : k < q.2.2)
    (hfin : (q.2.1 k).2.2.2 = false) (ht : tkTy ci k = .int) (kk : tkG X Q cs ss (pc + 3) lv stk σ I1 L) : tkG X Q cs ss pc lv (.int x :: .ref a :: stk) σ I L := by
  subst hI
  refine g_put C hd hS hc hk hw (Or.inl hfin) (by rw [ht]; rfl) (by rw [ht]; rfl) ⟨rfl, rfl⟩ (fun b z => ⟨by funext j; simp [tk2, z], rfl, rfl⟩) (fun j _ => ?_) kk
  by_cases e : j = k
  · subst e; rw [if_pos rfl, ht]; simp [tkVal, tk2]
  · rw [if_neg e]; simp [tk2, e]
theorem g_putL (C : tkC X cc own nm nL ret hh d MC MS) {idx a n : Nat} {x : Int64} (ci k : Nat) (q : vw_C) {L1 : tkL} (hd : decode cc pc = .ok (.putfield idx, 3)) (hS : σ.2.1 a = (ci, n)) (hI : tk2 L a k x = L1) (hw : Cond.fieldLink own idx (q.2.1 k).1 (q.2.1 k).2.1 (q.2.1 k).2.2.1 ∈ tkAll) (hc : vwCl[ci]? = some q) (hk : k < q.2.2)
    (hfin : (q.2.1 k).2.2.2 = false) (ht : tkTy ci k = .long) (kk : tkG X Q cs ss (pc + 3) lv stk σ I L1) : tkG X Q cs ss pc lv (.long x :: .ref a :: stk) σ I L := by
  subst hI
  refine g_put C hd hS hc hk hw (Or.inl hfin) (by rw [ht]; rfl) (by rw [ht]; rfl) ⟨rfl, rfl⟩ (fun b z => ⟨rfl, by funext j; simp [tk2, z], rfl⟩) (fun j _ => ?_) kk
  by_cases e : j = k
  · subst e; rw [if_pos rfl, ht]; simp [tkVal, tk2]
  · rw [if_neg e]; simp [tk2, e]
/-- a final field of a reference, in the constructor -/
theorem g_putF (C : tkC X cc own nm nL ret hh d MC MS) {idx a n b0 : Nat} (ci k : Nat) (q : vw_C) {r1 : Nat → Nat → Option Nat} (hd : decode cc pc = .ok (.putfield idx, 3)) (hS : σ.2.1 a = (ci, n)) (hI : tk2 σ.2.2 a k (some b0) = r1) (hw : Cond.fieldLink own idx (q.2.1 k).1 (q.2.1 k).2.1 (q.2.1 k).2.2.1 ∈ tkAll) (hc : vwCl[ci]? = some q) (hk : k < q.2.2)
    (hfin : (q.2.1 k).2.2.2 = true ∧ nm = "<init>" ∧ (q.2.1 k).1 = own) (ht : tkRefT (tkTy ci k) = true) (kk : tkG X Q cs ss (pc + 3) lv stk (σ.1, σ.2.1, r1) I L) : tkG X Q cs ss pc lv (.ref b0 :: .ref a :: stk) σ I L := by
  subst hI
  refine g_put C (σ1 := (σ.1, σ.2.1, tk2 σ.2.2 a k (some b0))) hd hS hc hk hw (Or.inr hfin) ?_ ?_ ⟨rfl, rfl⟩ (fun b z => ⟨rfl, rfl, by funext j; simp [tk2, z]⟩) (fun j _ => ?_) kk
  · cases h : tkTy ci k <;> first | rfl | (rw [h] at ht; cases ht)
  · cases h : tkTy ci k <;> first | rfl | (rw [h] at ht; cases ht)
  · by_cases e : j = k
    · subst e; rw [if_pos rfl, tkVal_ref ht]; simp [tk2, va_rf]
    · rw [if_neg e]; simp [tk2, e]
/-! arrays -/
theorem g_iald (C : tkC X cc own nm nL ret hh d MC MS) {a n : Nat} {i : Int32} {f : Nat → Int32} (hd : decode cc pc = .ok (.iaload, 1)) (hS : σ.2.1 a = (10, n)) (hI : I a = f) (hin : vp_in i n) (kk : tkG X Q cs ss (pc + 1) lv (.int (f i.toNatClampNeg) :: stk) σ I L) : tkG X Q cs ss pc lv (.int i :: .ref a :: stk) σ I L := by
  obtain ⟨p, l, e, R, s, m, args, below, meth, c, base, D⟩ := X
  obtain ⟨hx, hb, hml, hown, hts, hK, hE, hlocks, hr, hnm, hhh, hfr, hlo, hRc, hRs, hst⟩ := C
  intro H locs ls hSS hR hl
  subst hI
  have hcell := (hR.at hS (by decide)).2.2.2.2.1 rfl
  have hlt : i.toNatClampNeg < n := Nat.not_le.mp fun q => hin (Or.inr q)
  exact W.iald (v := .int (I a i.toNatClampNeg)) hx hb hcell ((hK.1.2 0 _ rfl).1 n _) (fun q => by cases q) (by show ¬ (i < 0 ∨ (arrV _ _ _).slots.size ≤ _); rw [arrV_size]; exact hin) (by show (arrV _ _ _).slots[_]? = _; rw [arrV_read _ _ hlt]) rfl rfl hd (kk H locs ls hSS hR hl)
theorem g_lald (C : tkC X cc own nm nL ret hh d MC MS) {a n : Nat} {i : Int32} {f : Nat → Int64} (hd : decode cc pc = .ok (.laload, 1)) (hS : σ.2.1 a = (11, n)) (hI : L a = f) (hin : vp_in i n) (kk : tkG X Q cs ss (pc + 1) lv (.long (f i.toNatClampNeg) :: stk) σ I L) : tkG X Q cs ss pc lv (.int i :: .ref a :: stk) σ I L := by
  obtain ⟨p, l, e, R, s, m, args, below, meth, c, base, D⟩ := X
  obtain ⟨hx, hb, hml, hown, hts, hK, hE, hlocks, hr, hnm, hhh, hfr, hlo, hRc, hRs, hst⟩ := C
  intro H locs ls hSS hR hl
  subst hI
  have hcell := (hR.at hS (by decide)).2.2.2.2.2.1 rfl
  have hlt : i.toNatClampNeg < n := Nat.not_le.mp fun q => hin (Or.inr q)
  exact W.lald (v := .long (L a i.toNatClampNeg)) hx hb hcell ((hK.1.2 1 _ rfl).1 n _) (fun q => by cases q) (by show ¬ (i < 0 ∨ (arrV _ _ _).slots.size ≤ _); rw [arrV_size]; exact hin) (by show (arrV _ _ _).slots[_]? = _; rw [arrV_read _ _ hlt]) rfl rfl hd (kk H locs ls hSS hR hl)
theorem g_zald (C : tkC X cc own nm nL ret hh d MC MS) {a n : Nat} {i : Int32} {f : Nat → Int32} (hd : decode cc pc = .ok (.baload, 1)) (hS : σ.2.1 a = (12, n)) (hI : I a = f) (hin : vp_in i n) (kk : (f i.toNatClampNeg = 0 ∨ f i.toNatClampNeg = 1) → tkG X Q cs ss (pc + 1) lv (.int (f i.toNatClampNeg) :: stk) σ I L) : tkG X Q cs ss pc lv (.int i :: .ref a :: stk) σ I L := by
  obtain ⟨p, l, e, R, s, m, args, below, meth, c, base, D⟩ := X
  obtain ⟨hx, hb, hml, hown, hts, hK, hE, hlocks, hr, hnm, hhh, hfr, hlo, hRc, hRs, hst⟩ := C
  intro H locs ls hSS hR hl
  subst hI
  obtain ⟨hcell, hfit⟩ := (hR.at hS (by decide)).2.2.2.2.2.2.1 rfl
  have hlt : i.toNatClampNeg < n := Nat.not_le.mp fun q => hin (Or.inr q)
  have h01 : I a i.toNatClampNeg = 0 ∨ I a i.toNatClampNeg = 1 := by
    have h5 := hfit _ hlt
    simpa [fits] using h5
  exact W.zald (v := .int (I a i.toNatClampNeg)) hx hb hcell ((hK.1.2 2 _ rfl).1 n _) (fun q => by cases q) (by show ¬ (i < 0 ∨ (arrV _ _ _).slots.size ≤ _); rw [arrV_size]; exact hin) (by show (arrV _ _ _).slots[_]? = _; rw [arrV_read _ _ hlt]) rfl rfl hd (kk h01 H locs ls hSS hR hl)
theorem g_dald (C : tkC X cc own nm nL ret hh d MC MS) {a n : Nat} {i : Int32} {f : Nat → Int64} (hd : decode cc pc = .ok (.daload, 1)) (hS : σ.2.1 a = (13, n)) (hI : L a = f) (hin : vp_in i n) (kk : tkG X Q cs ss (pc + 1) lv (.double (f i.toNatClampNeg).toUInt64 :: stk) σ I L) : tkG X Q cs ss pc lv (.int i :: .ref a :: stk) σ I L := by
  obtain ⟨p, l, e, R, s, m, args, below, meth, c, base, D⟩ := X
  obtain ⟨hx, hb, hml, hown, hts, hK, hE, hlocks, hr, hnm, hhh, hfr, hlo, hRc, hRs, hst⟩ := C
  intro H locs ls hSS hR hl
  subst hI
  have hcell := (hR.at hS (by decide)).2.2.2.2.2.2.2.1 rfl
  have hlt : i.toNatClampNeg < n := Nat.not_le.mp fun q => hin (Or.inr q)
  exact W.dald (v := .double (L a i.toNatClampNeg).toUInt64) hx hb hcell ((hK.1.2 3 _ rfl).1 n _) (fun q => by cases q) (by show ¬ (i < 0 ∨ (arrV _ _ _).slots.size ≤ _); rw [arrV_size]; exact hin) (by show (arrV _ _ _).slots[_]? = _; rw [arrV_read _ _ hlt]) rfl rfl hd (kk H locs ls hSS hR hl)
theorem g_aald (C : tkC X cc own nm nL ret hh d MC MS) {a n : Nat} {i : Int32} {r : Option Nat} (hd : decode cc pc = .ok (.aaload, 1)) (hS : σ.2.1 a = (14, n)) (hin : vp_in i n) (hr : σ.2.2 a i.toNatClampNeg = r) (kk : tkG X Q cs ss (pc + 1) lv (va_rf r :: stk) σ I L) : tkG X Q cs ss pc lv (.int i :: .ref a :: stk) σ I L := by
  obtain ⟨p, l, e, R, s, m, args, below, meth, c, base, D⟩ := X
  obtain ⟨hx, hb, hml, hown, hts, hK, hE, hlocks, hrt, hnm, hhh, hfr, hlo, hRc, hRs, hst⟩ := C
  intro H locs ls hSS hR hl
  subst hr
  have hcell := (hR.at hS (by decide)).2.2.2.2.2.2.2.2 rfl
  have hlt : i.toNatClampNeg < n := Nat.not_le.mp fun q => hin (Or.inr q)
  exact W.aald (v := va_rf (σ.2.2 a i.toNatClampNeg)) (ty := .object RX1) hx hb hcell ((hK.1.2 4 _ rfl).1 n _) rfl (fun q => by cases q) (by show ¬ (i < 0 ∨ (arrV _ _ _).slots.size ≤ _); rw [arrV_size]; exact hin) (by show (arrV _ _ _).slots[_]? = _; rw [arrV_read _ _ hlt]) rfl rfl hd (kk H locs ls hSS hR hl)
theorem g_iast (C : tkC X cc own nm nL ret hh d MC MS) {a n : Nat} {i x : Int32} {I1 : tkI} (hd : decode cc pc = .ok (.iastore, 1)) (hS : σ.2.1 a = (10, n)) (hI : tk2 I a i.toNatClampNeg x = I1) (hin : vp_in i n) (kk : tkG X Q cs ss (pc + 1) lv stk σ I1 L) : tkG X Q cs ss pc lv (.int x :: .int i :: .ref a :: stk) σ I L := by
  obtain ⟨p, l, e, R, s, m, args, below, meth, c, base, D⟩ := X
  obtain ⟨hx, hb, hml, hown, hts, hK, hE, hlocks, hr, hnm, hhh, hfr, hlo, hRc, hRs, hst⟩ := C
  intro H locs ls hSS hR hl
  subst hI
  obtain ⟨hba, -, -, hc⟩ := hR.at hS (by decide)
  have hcell := hc.2.1 rfl
  refine W.iast hx hb hcell ((hK.1.2 0 _ rfl).1 n _) (fun q => by cases q) (by show ¬ (i < 0 ∨ (arrV _ _ _).slots.size ≤ _); rw [arrV_size]; exact hin) rfl rfl hd fun H1 e1 z oq => ?_
  refine kk H1 _ ls (hSS.put z oq hba) (hR.put hba z oq rfl rfl (fun b q => by funext j; simp [tk2, q]) (fun _ _ => rfl) (fun _ _ => rfl) fun _ => ?_) hl
  rw [hS]
  refine ⟨fun q => absurd (show 10 < 7 from q) (by decide), fun _ => ?_, fun q => absurd (show 10 = 11 from q) (by decide), fun q => absurd (show 10 = 12 from q) (by decide), fun q => absurd (show 10 = 13 from q) (by decide), fun q => absurd (show 10 = 14 from q) (by decide)⟩
  rw [e1, arrV_store]
  congr 2
  funext j
  by_cases hq : j = i.toNatClampNeg
  · simp [updV, tk2, hq]
  · simp [updV, tk2, hq]
theorem g_last (C : tkC X cc own nm nL ret hh d MC MS) {a n : Nat} {i : Int32} {x : Int64} {L1 : tkL} (hd : decode cc pc = .ok (.lastore, 1)) (hS : σ.2.1 a = (11, n)) (hI : tk2 L a i.toNatClampNeg x = L1) (hin : vp_in i n) (kk : tkG X Q cs ss (pc + 1) lv stk σ I L1) : tkG X Q cs ss pc lv (.long x :: .int i :: .ref a :: stk) σ I L := by
  obtain ⟨p, l, e, R, s, m, args, below, meth, c, base, D⟩ := X
  obtain ⟨hx, hb, hml, hown, hts, hK, hE, hlocks, hr, hnm, hhh, hfr, hlo, hRc, hRs, hst⟩ := C
  intro H locs ls hSS hR hl
  subst hI
  obtain ⟨hba, -, -, hc⟩ := hR.at hS (by decide)
  have hcell := hc.2.2.1 rfl
  refine W.last hx hb hcell ((hK.1.2 1 _ rfl).1 n _) (fun q => by cases q) (by show ¬ (i < 0 ∨ (arrV _ _ _).slots.size ≤ _); rw [arrV_size]; exact hin) rfl rfl hd fun H1 e1 z oq => ?_
  refine kk H1 _ ls (hSS.put z oq hba) (hR.put hba z oq rfl rfl (fun _ _ => rfl) (fun b q => by funext j; simp [tk2, q]) (fun _ _ => rfl) fun _ => ?_) hl
  rw [hS]
  refine ⟨fun q => absurd (show 11 < 7 from q) (by decide), fun q => absurd (show 11 = 10 from q) (by decide), fun _ => ?_, fun q => absurd (show 11 = 12 from q) (by decide), fun q => absurd (show 11 = 13 from q) (by decide), fun q => absurd (show 11 = 14 from q) (by decide)⟩
  rw [e1, arrV_store]
  congr 2
  funext j
  by_cases hq : j = i.toNatClampNeg
  · simp [updV, tk2, hq]
  · simp [updV, tk2, hq]
theorem g_dast (C : tkC X cc own nm nL ret hh d MC MS) {a n : Nat} {i : Int32} {x : UInt64} {L1 : tkL} (hd : decode cc pc = .ok (.dastore, 1)) (hS : σ.2.1 a = (13, n)) (hI : tk2 L a i.toNatClampNeg x.toInt64 = L1) (hin : vp_in i n) (kk : tkG X Q cs ss (pc + 1) lv stk σ I L1) : tkG X Q cs ss pc lv (.double x :: .int i :: .ref a :: stk) σ I L := by
  obtain ⟨p, l, e, R, s, m, args, below, meth, c, base, D⟩ := X
  obtain ⟨hx, hb, hml, hown, hts, hK, hE, hlocks, hr, hnm, hhh, hfr, hlo, hRc, hRs, hst⟩ := C
  intro H locs ls hSS hR hl
  subst hI
  obtain ⟨hba, -, -, hc⟩ := hR.at hS (by decide)
  have hcell := hc.2.2.2.2.1 rfl
  refine W.dast hx hb hcell ((hK.1.2 3 _ rfl).1 n _) (fun q => by cases q) (by show ¬ (i < 0 ∨ (arrV _ _ _).slots.size ≤ _); rw [arrV_size]; exact hin) rfl rfl hd fun H1 e1 z oq => ?_
  refine kk H1 _ ls (hSS.put z oq hba) (hR.put hba z oq rfl rfl (fun _ _ => rfl) (fun b q => by funext j; simp [tk2, q]) (fun _ _ => rfl) fun _ => ?_) hl
  rw [hS]
  refine ⟨fun q => absurd (show 13 < 7 from q) (by decide), fun q => absurd (show 13 = 10 from q) (by decide), fun q => absurd (show 13 = 11 from q) (by decide), fun q => absurd (show 13 = 12 from q) (by decide), fun _ => ?_, fun q => absurd (show 13 = 14 from q) (by decide)⟩
  rw [e1, arrV_store]
  congr 2
  funext j
  by_cases hq : j = i.toNatClampNeg
  · simp [updV, tk2, hq]
  · simp [updV, tk2, hq]
theorem g_zast (C : tkC X cc own nm nL ret hh d MC MS) {a n : Nat} {i x : Int32} {I1 : tkI} (hd : decode cc pc = .ok (.bastore, 1)) (hS : σ.2.1 a = (12, n)) (hI : tk2 I a i.toNatClampNeg x = I1) (hin : vp_in i n) (h01 : x = 0 ∨ x = 1) (kk : tkG X Q cs ss (pc + 1) lv stk σ I1 L) : tkG X Q cs ss pc lv (.int x :: .int i :: .ref a :: stk) σ I L := by
  obtain ⟨p, l, e, R, s, m, args, below, meth, c, base, D⟩ := X
  obtain ⟨hx, hb, hml, hown, hts, hK, hE, hlocks, hr, hnm, hhh, hfr, hlo, hRc, hRs, hst⟩ := C
  intro H locs ls hSS hR hl
  subst hI
  obtain ⟨hba, -, -, hc⟩ := hR.at hS (by decide)
  obtain ⟨hcell, hfit⟩ := hc.2.2.2.1 rfl
  have hnar : narrow .boolean (.int x) = .int x := by rcases h01 with rfl | rfl <;> rfl
  refine W.zast hx hb hcell ((hK.1.2 2 _ rfl).1 n _) (fun q => by cases q) (by show ¬ (i < 0 ∨ (arrV _ _ _).slots.size ≤ _); rw [arrV_size]; exact hin) rfl rfl hd fun H1 e1 z oq => ?_
  refine kk H1 _ ls (hSS.put z oq hba) (hR.put hba z oq rfl rfl (fun b q => by funext j; simp [tk2, q]) (fun _ _ => rfl) (fun _ _ => rfl) fun _ => ?_) hl
  rw [hS]
  refine ⟨fun q => absurd (show 12 < 7 from q) (by decide), fun q => absurd (show 12 = 10 from q) (by decide), fun q => absurd (show 12 = 11 from q) (by decide), fun _ => ⟨?_, fun j hj => ?_⟩, fun q => absurd (show 12 = 13 from q) (by decide), fun q => absurd (show 12 = 14 from q) (by decide)⟩
  · rw [e1, hnar, arrV_store]
    congr 2
    funext j
    by_cases hq : j = i.toNatClampNeg
    · simp [updV, tk2, hq]
    · simp [updV, tk2, hq]
  · by_cases hq : j = i.toNatClampNeg
    · simp only [tk2, hq]
      rcases h01 with rfl | rfl <;> rfl
    · simp only [tk2, hq, and_false, if_false]
      exact hfit j hj
/-- a plant into the row of depots -/
theorem g_aast (C : tkC X cc own nm nL ret hh d MC MS) {a n v nv : Nat} {i : Int32} {r1 : Nat → Nat → Option Nat} (hd : decode cc pc = .ok (.aastore, 1)) (hS : σ.2.1 a = (14, n)) (hv : σ.2.1 v = (1, nv)) (hI : tk2 σ.2.2 a i.toNatClampNeg (some v) = r1) (hin : vp_in i n) (kk : tkG X Q cs ss (pc + 1) lv stk (σ.1, σ.2.1, r1) I L) : tkG X Q cs ss pc lv (.ref v :: .int i :: .ref a :: stk) σ I L := by
  obtain ⟨p, l, e, R, s, m, args, below, meth, c, base, D⟩ := X
  obtain ⟨hx, hb, hml, hown, hts, hK, hE, hlocks, hr, hnm, hhh, hfr, hlo, hRc, hRs, hst⟩ := C
  intro H locs ls hSS hR hl
  subst hI
  obtain ⟨hba, -, -, hc⟩ := hR.at hS (by decide)
  have hcell := hc.2.2.2.2.2 rfl
  obtain ⟨-, -, -, hcv⟩ := hR.at hv (by decide)
  obtain ⟨qv, hqv, cellV, g1, g2, g3, -⟩ := hcv.1 (show 1 < 7 by decide)
  have hcls := (hK.1.1 1 _ rfl).2
  obtain ⟨kA, comp, k1, k2, k3, -⟩ := (hK.1.2 4 _ rfl).2
  have hcomp : comp = D.1 1 := Option.some.inj (k3.symm.trans hcls.1)
  subst hcomp
  obtain ⟨kC, hkC, -⟩ := hcls.2
  have hlt : i.toNatClampNeg < n := Nat.not_le.mp fun q => hin (Or.inr q)
  have h0 : ¬ i < 0 := fun q => hin (Or.inl q)
  refine W.aast hx hb hcell (fun q h => by cases h) (fun h => by cases h) k1 k2 rfl hkC ⟨h0, by show _ < (arrV _ _ _).slots.size; rw [arrV_size]; exact hlt⟩ g1 (fun q h => by rw [g3] at h; cases h) (by rw [g2]; exact hkC) (by rw [g2]; exact va_assign hcls) rfl rfl hd fun H1 e1 z oq => ?_
  refine kk H1 _ ls (hSS.put z oq hba) (hR.put hba z oq rfl rfl (fun _ _ => rfl) (fun _ _ => rfl) (fun b q => by funext j; simp [tk2, q]) fun _ => ?_) hl
  rw [hS]
  refine ⟨fun q => absurd (show 14 < 7 from q) (by decide), fun q => absurd (show 14 = 10 from q) (by decide), fun q => absurd (show 14 = 11 from q) (by decide), fun q => absurd (show 14 = 12 from q) (by decide), fun q => absurd (show 14 = 13 from q) (by decide), fun _ => ?_⟩
  rw [e1, arrV_store]
  congr 2
  funext j
  by_cases hq : j = i.toNatClampNeg
  · simp [updV, tk2, hq, va_rf]
  · simp [updV, tk2, hq]
/-! new cells -/
def tkNw (σ : tkM) (sh : Nat × Nat) : tkM := (σ.1 + 1, tk1 σ.2.1 σ.1 sh, tk1 σ.2.2 σ.1 (fun _ => none))
def tkZI (σ : tkM) (I : tkI) : tkI := tk1 I σ.1 (fun _ => 0)
def tkZL (σ : tkM) (L : tkL) : tkL := tk1 L σ.1 (fun _ => 0)
theorem tkRel.new {D : va_G} {base : Nat} {σ : tkM} {I : tkI} {L : tkL} {H H1 : Heap} (h : tkRel D base σ I L H) {sh : Nat × Nat} (hz : H1.size = H.size + 1) (oq : ∀ q, q < H.size → H1[q]? = H[q]?)
    (hc : tkCell D H1 σ.1 sh (fun _ => 0) (fun _ => 0) (fun _ => none)) : tkRel D base (tkNw σ sh) (tkZI σ I) (tkZL σ L) H1 :=
  h.push hz oq (fun b e => by simp [tkZI, tk1, e]) (fun b e => by simp [tkZL, tk1, e]) (by simpa [tkZI, tkZL, tk1] using hc)
theorem va_S.grow {A : Nat → Prop} {H0 H H1 : Heap} {locs : List Loc} (h : va_S A H0 H locs) (z : H1.size = H.size + 1) (oq : ∀ q : Nat, q < H.size → H1[q]? = H[q]?) : va_S A H0 H1 locs :=
  ⟨Nat.le_trans h.1 (by omega), fun q h1 h2 => (oq q (Nat.lt_of_lt_of_le h1 h.1)).trans (h.2.1 q h1 h2), h.2.2⟩
theorem g_new (C : tkC X cc own nm nL ret hh d MC MS) {idx : Nat} (ci : Nat) (q : vw_C) (hd : decode cc pc = .ok (.new idx, 3)) (hw : Cond.classLink own idx q.1 ∈ tkAll) (hw2 : Cond.instantiable q.1 q.2.2 ∈ tkAll) (hw3 : Cond.initialized q.1 ∈ tkAll) (hc : vwCl[ci]? = some q) (h1 : cs + 1 ≤ MC) (h2 : ss + q.2.2 ≤ MS)
    (kk : tkG X Q (cs + 1) (ss + q.2.2) (pc + 3) lv (.ref σ.1 :: stk) (tkNw σ (ci, 0)) (tkZI σ I) (tkZL σ L)) : tkG X Q cs ss pc lv stk σ I L := by
  obtain ⟨p, l, e, R, s, m, args, below, meth, c, base, D⟩ := X
  obtain ⟨hx, hb, hml, hown, hts, hK, hE, hlocks, hr, hnm, hhh, hfr, hlo, hRc, hRs, hst⟩ := C
  intro H locs ls hSS hR hl
  obtain ⟨hin, hty, hnms, hdef⟩ := tk_cls ci q hc
  have hKn := hK.1.1 ci _ hc
  refine W.newcK hx hb hown (hts _ hw) (hts _ hw2) (hts _ hw3) rfl hd (by rw [hRc]; exact h1) (by rw [hRs]; exact h2) hKn.2.1 hR.1 fun H1 kC hkC e1 z1 o1 => ?_
  rw [← hR.1] at z1 o1
  refine kk H1 locs ls (hSS.grow z1 o1) (hR.new z1 o1 ?_) hl
  have h7 := tk_lt7 hc
  refine ⟨fun _ => ⟨q, hc, (u_born (tkTy ci) hts hin hKn hkC e1 hty).to hdef⟩, fun z => ?_, fun z => ?_, fun z => ?_, fun z => ?_, fun z => ?_⟩ <;> (exfalso; dsimp only at z; omega)
theorem g_newa_i (C : tkC X cc own nm nL ret hh d MC MS) {n : Int32} (N : Nat) (hd : decode cc pc = .ok (.newarray .int, 2)) (hw : Cond.arrayClass .int ∈ tkAll) (hn : ¬ n < 0) (hN : n.toNatClampNeg = N) (hby : N * componentBytes .int ≤ 536870912) (h1 : cs + 1 ≤ MC) (h2 : ss + N ≤ MS)
    (kk : tkG X Q (cs + 1) (ss + N) (pc + 2) lv (.ref σ.1 :: stk) (tkNw σ (10, N)) (tkZI σ I) (tkZL σ L)) : tkG X Q cs ss pc lv (.int n :: stk) σ I L := by
  obtain ⟨p, l, e, R, s, m, args, below, meth, c, base, D⟩ := X
  obtain ⟨hx, hb, hml, hown, hts, hK, hE, hlocks, hr, hnm, hhh, hfr, hlo, hRc, hRs, hst⟩ := C
  intro H locs ls hSS hR hl
  refine va_newaK (atype := .int) hx hb (hts _ hw) rfl hd rfl hn hN hby (by rw [hRc]; exact h1) (by rw [hRs]; exact h2) hR.1 fun H1 cA e1 z1 o1 hAr hNm => ?_
  rw [← hR.1] at z1 o1
  have hcA : D.1 10 = cA := Option.some.inj ((hK.1.2 0 _ rfl).2.symm.trans hNm)
  refine kk H1 locs ls (hSS.grow z1 o1) (hR.new z1 o1 ?_) hl
  have e2 : H1[σ.1]? = some (arrV (D.1 10) N (fun _ => defaultValue .int)) := by rw [hcA]; exact e1
  exact ⟨fun q => absurd (show 10 < 7 from q) (by decide), fun _ => e2, fun q => absurd (show 10 = 11 from q) (by decide), fun q => absurd (show 10 = 12 from q) (by decide), fun q => absurd (show 10 = 13 from q) (by decide), fun q => absurd (show 10 = 14 from q) (by decide)⟩
theorem g_newa_l (C : tkC X cc own nm nL ret hh d MC MS) {n : Int32} (N : Nat) (hd : decode cc pc = .ok (.newarray .long, 2)) (hw : Cond.arrayClass .long ∈ tkAll) (hn : ¬ n < 0) (hN : n.toNatClampNeg = N) (hby : N * componentBytes .long ≤ 536870912) (h1 : cs + 1 ≤ MC) (h2 : ss + N ≤ MS)
    (kk : tkG X Q (cs + 1) (ss + N) (pc + 2) lv (.ref σ.1 :: stk) (tkNw σ (11, N)) (tkZI σ I) (tkZL σ L)) : tkG X Q cs ss pc lv (.int n :: stk) σ I L := by
  obtain ⟨p, l, e, R, s, m, args, below, meth, c, base, D⟩ := X
  obtain ⟨hx, hb, hml, hown, hts, hK, hE, hlocks, hr, hnm, hhh, hfr, hlo, hRc, hRs, hst⟩ := C
  intro H locs ls hSS hR hl
  refine va_newaK (atype := .long) hx hb (hts _ hw) rfl hd rfl hn hN hby (by rw [hRc]; exact h1) (by rw [hRs]; exact h2) hR.1 fun H1 cA e1 z1 o1 hAr hNm => ?_
  rw [← hR.1] at z1 o1
  have hcA : D.1 11 = cA := Option.some.inj ((hK.1.2 1 _ rfl).2.symm.trans hNm)
  refine kk H1 locs ls (hSS.grow z1 o1) (hR.new z1 o1 ?_) hl
  have e2 : H1[σ.1]? = some (arrV (D.1 11) N (fun _ => defaultValue .long)) := by rw [hcA]; exact e1
  exact ⟨fun q => absurd (show 11 < 7 from q) (by decide), fun q => absurd (show 11 = 10 from q) (by decide), fun _ => e2, fun q => absurd (show 11 = 12 from q) (by decide), fun q => absurd (show 11 = 13 from q) (by decide), fun q => absurd (show 11 = 14 from q) (by decide)⟩
theorem g_newa_z (C : tkC X cc own nm nL ret hh d MC MS) {n : Int32} (N : Nat) (hd : decode cc pc = .ok (.newarray .boolean, 2)) (hw : Cond.arrayClass .boolean ∈ tkAll) (hn : ¬ n < 0) (hN : n.toNatClampNeg = N) (hby : N * componentBytes .boolean ≤ 536870912) (h1 : cs + 1 ≤ MC) (h2 : ss + N ≤ MS)
    (kk : tkG X Q (cs + 1) (ss + N) (pc + 2) lv (.ref σ.1 :: stk) (tkNw σ (12, N)) (tkZI σ I) (tkZL σ L)) : tkG X Q cs ss pc lv (.int n :: stk) σ I L := by
  obtain ⟨p, l, e, R, s, m, args, below, meth, c, base, D⟩ := X
  obtain ⟨hx, hb, hml, hown, hts, hK, hE, hlocks, hr, hnm, hhh, hfr, hlo, hRc, hRs, hst⟩ := C
  intro H locs ls hSS hR hl
  refine va_newaK (atype := .boolean) hx hb (hts _ hw) rfl hd rfl hn hN hby (by rw [hRc]; exact h1) (by rw [hRs]; exact h2) hR.1 fun H1 cA e1 z1 o1 hAr hNm => ?_
  rw [← hR.1] at z1 o1
  have hcA : D.1 12 = cA := Option.some.inj ((hK.1.2 2 _ rfl).2.symm.trans hNm)
  refine kk H1 locs ls (hSS.grow z1 o1) (hR.new z1 o1 ?_) hl
  have e2 : H1[σ.1]? = some (arrV (D.1 12) N (fun _ => defaultValue .boolean)) := by rw [hcA]; exact e1
  exact ⟨fun q => absurd (show 12 < 7 from q) (by decide), fun q => absurd (show 12 = 10 from q) (by decide), fun q => absurd (show 12 = 11 from q) (by decide), fun _ => ⟨e2, fun j _ => rfl⟩, fun q => absurd (show 12 = 13 from q) (by decide), fun q => absurd (show 12 = 14 from q) (by decide)⟩
theorem g_newa_d (C : tkC X cc own nm nL ret hh d MC MS) {n : Int32} (N : Nat) (hd : decode cc pc = .ok (.newarray .double, 2)) (hw : Cond.arrayClass .double ∈ tkAll) (hn : ¬ n < 0) (hN : n.toNatClampNeg = N) (hby : N * componentBytes .double ≤ 536870912) (h1 : cs + 1 ≤ MC) (h2 : ss + N ≤ MS)
    (kk : tkG X Q (cs + 1) (ss + N) (pc + 2) lv (.ref σ.1 :: stk) (tkNw σ (13, N)) (tkZI σ I) (tkZL σ L)) : tkG X Q cs ss pc lv (.int n :: stk) σ I L := by
  obtain ⟨p, l, e, R, s, m, args, below, meth, c, base, D⟩ := X
  obtain ⟨hx, hb, hml, hown, hts, hK, hE, hlocks, hr, hnm, hhh, hfr, hlo, hRc, hRs, hst⟩ := C
  intro H locs ls hSS hR hl
  refine va_newaK (atype := .double) hx hb (hts _ hw) rfl hd rfl hn hN hby (by rw [hRc]; exact h1) (by rw [hRs]; exact h2) hR.1 fun H1 cA e1 z1 o1 hAr hNm => ?_
  rw [← hR.1] at z1 o1
  have hcA : D.1 13 = cA := Option.some.inj ((hK.1.2 3 _ rfl).2.symm.trans hNm)
  refine kk H1 locs ls (hSS.grow z1 o1) (hR.new z1 o1 ?_) hl
  have e2 : H1[σ.1]? = some (arrV (D.1 13) N (fun _ => defaultValue .double)) := by rw [hcA]; exact e1
  exact ⟨fun q => absurd (show 13 < 7 from q) (by decide), fun q => absurd (show 13 = 10 from q) (by decide), fun q => absurd (show 13 = 11 from q) (by decide), fun q => absurd (show 13 = 12 from q) (by decide), fun _ => e2, fun q => absurd (show 13 = 14 from q) (by decide)⟩
theorem g_anewa (C : tkC X cc own nm nL ret hh d MC MS) {idx : Nat} {n : Int32} (N : Nat) (hd : decode cc pc = .ok (.anewarray idx, 3)) (hw : Cond.classLink own idx RX1 ∈ tkAll) (hn : ¬ n < 0) (hN : n.toNatClampNeg = N) (hby : N * 4 ≤ 536870912) (h1 : cs + 1 ≤ MC) (h2 : ss + N ≤ MS)
    (kk : tkG X Q (cs + 1) (ss + N) (pc + 3) lv (.ref σ.1 :: stk) (tkNw σ (14, N)) (tkZI σ I) (tkZL σ L)) : tkG X Q cs ss pc lv (.int n :: stk) σ I L := by
  obtain ⟨p, l, e, R, s, m, args, below, meth, c, base, D⟩ := X
  obtain ⟨hx, hb, hml, hown, hts, hK, hE, hlocks, hr, hnm, hhh, hfr, hlo, hRc, hRs, hst⟩ := C
  intro H locs ls hSS hR hl
  subst hN
  refine W.anew hx hb hown (hts _ hw) (va_AO.use hK.2.1) rfl hd rfl hn hby (by rw [hRc]; exact h1) (by rw [hRs]; exact h2) fun cA kA comp f1 f2 f3 f4 => ?_
  generalize hH1 : H.push ({ cls := cA, slots := Array.replicate n.toNatClampNeg .null, vm := .none } : Cell) = H1
  have z1 : H1.size = H.size + 1 := by rw [← hH1, Array.size_push]
  have e1 : H1[H.size]? = some (arrV cA n.toNatClampNeg (fun _ => .null)) := by rw [← hH1, Array.getElem?_push_size, ← arrV_new]
  have o1 : ∀ q : Nat, q < H.size → H1[q]? = H[q]? := fun q hq => by rw [← hH1, Array.getElem?_push, if_neg (Nat.ne_of_lt hq)]
  obtain ⟨kA', comp', -, -, -, g4⟩ := (hK.1.2 4 _ rfl).2
  have hcA : D.1 14 = cA := Option.some.inj (g4.symm.trans f1)
  rw [show (Value.ref H.size) = Value.ref σ.1 by rw [hR.1]]
  refine kk H1 locs ls (hSS.grow z1 o1) (hR.new z1 o1 ?_) hl
  have e2 : H1[σ.1]? = some (arrV (D.1 14) n.toNatClampNeg (fun _ => .null)) := by rw [hcA, ← hR.1]; exact e1
  exact ⟨fun q => absurd (show 14 < 7 from q) (by decide), fun q => absurd (show 14 = 10 from q) (by decide), fun q => absurd (show 14 = 11 from q) (by decide), fun q => absurd (show 14 = 12 from q) (by decide), fun q => absurd (show 14 = 13 from q) (by decide), fun _ => e2⟩
theorem g_objInit (C : tkC X cc own nm nL ret hh d MC MS) {idx a : Nat} (hd : decode cc pc = .ok (.invokespecial idx, 3)) (hw : Cond.methodLink own idx objectInit ∈ tkAll) (hw2 : Cond.instanceMethod objectInit ∈ tkAll) (hw3 : Cond.code objectInit ⟨#[0xb1]⟩ 1 none ∈ tkAll) (hd1 : 1 ≤ d) (hst : (stk.map fun v => v.category).sum ≤ 8) (kk : tkG X Q cs ss (pc + 3) lv stk σ I L) : tkG X Q cs ss pc lv (.ref a :: stk) σ I L := by
  obtain ⟨p, l, e, R, s, m, args, below, meth, c, base, D⟩ := X
  obtain ⟨hx, hb, hml, hown, hts, hK, hE, hlocks, hr, hnm, hhh, hfr, hlo, hRc, hRs, hst9⟩ := C
  intro H locs ls hSS hR hl
  exact W.objInit hx hb hown (hts _ hw) (hts _ hw2) (hts _ hw3) rfl hl.1 rfl hd (by omega) (by show 2 * 0 + _ + 12 ≤ _; omega) (kk H locs ls hSS hR hl)
end TKMEM
end
section
section TKCALL
variable {X : tkX} {Q : State → Prop} {cc : ByteArray} {own nm : String} {nL d MC MS cs ss pc : Nat} {ret : Option FieldType} {hh : List (Nat × Nat × Nat × Nat)} {lv : List (Option Value)} {stk : List Value} {σ : tkM} {I : tkI} {L : tkL}
theorem tk_nn {z : Int32} (hz : ¬ z < 0) : z.toInt = (z.toNatClampNeg : Int) := by
  have hz0 : (0 : Int) ≤ z.toInt := by
    have := Int32.not_lt.mp hz
    simpa using Int32.le_iff_toInt_le.mp this
  show z.toInt = ((z.toInt.toNat : Nat) : Int)
  omega
/-! System.arraycopy -/
theorem g_copy_i (C : tkC X cc own nm nL ret hh d MC MS) {idx a a0 ns nd : Nat} {sp dp n : Int32} {I1 : tkI} (hd : decode cc pc = .ok (.invokestatic idx, 3)) (hw1 : Cond.methodLink own idx arraycopyName ∈ tkAll) (hw2 : Cond.native arraycopyName ∈ tkAll) (hw3 : Cond.static arraycopyName ∈ tkAll) (hw4 : Cond.initialized "java/lang/System" ∈ tkAll)
    (hs0 : σ.2.1 a0 = (10, ns)) (hs1 : σ.2.1 a = (10, nd)) (hI : tk1 I a (va_cpy (I a0) (I a) sp.toNatClampNeg dp.toNatClampNeg n.toNatClampNeg) = I1) (h1 : ¬ sp < 0) (h2 : ¬ dp < 0) (h3 : ¬ n < 0) (h4 : sp.toNatClampNeg + n.toNatClampNeg ≤ ns) (h5 : dp.toNatClampNeg + n.toNatClampNeg ≤ nd)
    (hd2 : 2 ≤ d) (hstk : (stk.map fun v => v.category).sum ≤ 8) (kk : tkG X Q cs ss (pc + 3) lv stk σ I1 L) : tkG X Q cs ss pc lv (.int n :: .int dp :: .ref a :: .int sp :: .ref a0 :: stk) σ I L := by
  obtain ⟨p, l, e, R, s, m, args, below, meth, c, base, D⟩ := X
  obtain ⟨hx, hb, hml, hown, hts, hK, hE, hlocks, hr, hnm, hhh, hfr, hlo, hRc, hRs, hst⟩ := C
  intro H locs ls hSS hR hl T hT X
  subst hI
  obtain ⟨-, -, -, hcs⟩ := hR.at hs0 (by decide)
  obtain ⟨hba, hla, hlz, hcd⟩ := hR.at hs1 (by decide)
  have hc0 : H[a0]? = some (arrV (D.1 10) ns (fun j => .int (I a0 j))) := hcs.2.1 rfl
  have hc1 : H[a]? = some (arrV (D.1 10) nd (fun j => .int (I a j))) := hcd.2.1 rfl
  obtain ⟨-, k0, hk0, cm0, hkk0⟩ := (hK.1.2 0 _ rfl).1 ns (fun j => .int (I a0 j))
  obtain ⟨-, k1, hk1, cm1, hkk1⟩ := (hK.1.2 0 _ rfl).1 nd (fun j => .int (I a j))
  obtain ⟨vm', X', step⟩ := X.arraycopy hx hown (hts _ hw1) (hts _ hw2) (hts _ hw3) (hts _ hw4) (src := a0) (dst := a) (cs := arrV (D.1 10) ns (fun j => .int (I a0 j))) (cd := arrV (D.1 10) nd (fun j => .int (I a j))) (srcPos := sp) (destPos := dp) (n := n) (by rw [hT]; exact hc0) (by rw [hT]; exact hc1)
    (fun _ h => by cases h) (fun _ h => by cases h) (fun h => by cases h) (fun h => by cases h) hk0 hk1 hkk0 hkk1 (by simp [refKind]) h1 h2 h3
    (by rw [tk_nn h1, tk_nn h3, arrV_size]; omega) (by rw [tk_nn h2, tk_nn h3, arrV_size]; omega)
    (fun vm₁ _ i hi => by
      have e9 : (arrV (D.1 10) ns (fun j => .int (I a0 j))).slots.getD (sp.toNatClampNeg + i) .null = .int (I a0 (sp.toNatClampNeg + i)) := by
        rw [Array.getD_eq_getD_getElem?, arrV_read _ _ (by omega)]
        rfl
      refine ⟨?_, ?_⟩
      · rw [e9]
        exact rfl
      · rw [e9]
        exact trivial)
    (g := F0 m pc ls (.int n :: .int dp :: .ref a :: .int sp :: .ref a0 :: stk)) rfl (by exact hl.1) (rest := stk) rfl (by rw [hb]; exact hd) (by omega) (by
      have e8 : nativeFrameWords "java/lang/System" "arraycopy" 5 + 11 ≤ 60 := by decide
      show 2 * 0 + _ + _ ≤ _
      omega)
  have e1 : copied (arrV (D.1 10) ns (fun j => .int (I a0 j))) (arrV (D.1 10) nd (fun j => .int (I a j))) sp dp n = arrV (D.1 10) nd (fun j => .int (va_cpy (I a0) (I a) sp.toNatClampNeg dp.toNatClampNeg n.toNatClampNeg j)) := va_copied (fun z => .int z) _ _ (I a0) (I a) h4
  rw [e1] at X' step
  generalize hN : arrV (D.1 10) nd (fun j => .int (va_cpy (I a0) (I a) sp.toNatClampNeg dp.toNatClampNeg n.toNatClampNeg j)) = N at X' step
  have hheap : ((T.setVm vm').setCell a N).heap = H.setIfInBounds a N := by rw [← hT]; rfl
  have oq : ∀ q : Nat, q ≠ a → (H.setIfInBounds a N)[q]? = H[q]? := fun q hq => by simp [Array.getElem?_setIfInBounds, Ne.symm hq]
  have hz : (H.setIfInBounds a N).size = H.size := by simp
  have e2 : (H.setIfInBounds a N)[a]? = some (arrV (D.1 10) nd (fun j => .int (tk1 I a (va_cpy (I a0) (I a) sp.toNatClampNeg dp.toNatClampNeg n.toNatClampNeg) a j))) := by
    simp only [tk1, if_true, hN]
    simp [Array.getElem?_setIfInBounds, hlz]
  obtain ⟨t, a1, b1⟩ := kk (H.setIfInBounds a N) _ ls ⟨by rw [hz]; exact hSS.1, fun q g1 g2 => by
      rw [oq q (fun e => g2 (by rw [e]; exact hba))]
      exact hSS.2.1 q g1 g2, fun q hq => by
      rcases List.mem_append.mp hq with h | h
      · exact hSS.2.2 q h
      · obtain ⟨z, -, hz9⟩ := List.mem_map.mp h
        rw [← hz9]
        exact hba⟩ (hR.put hba hz oq rfl rfl (fun b q => by simp [tk1, q]) (fun _ _ => rfl) (fun _ _ => rfl) (fun _ => by
      rw [hs1]
      exact ⟨fun q => absurd (show 10 < 7 from q) (by decide), fun _ => e2, fun q => absurd (show 10 = 11 from q) (by decide), fun q => absurd (show 10 = 12 from q) (by decide), fun q => absurd (show 10 = 13 from q) (by decide), fun q => absurd (show 10 = 14 from q) (by decide)⟩)) hl _ hheap X'
  exact ⟨t, step t a1, b1⟩
theorem g_copy_z (C : tkC X cc own nm nL ret hh d MC MS) {idx a a0 ns nd : Nat} {sp dp n : Int32} {I1 : tkI} (hd : decode cc pc = .ok (.invokestatic idx, 3)) (hw1 : Cond.methodLink own idx arraycopyName ∈ tkAll) (hw2 : Cond.native arraycopyName ∈ tkAll) (hw3 : Cond.static arraycopyName ∈ tkAll) (hw4 : Cond.initialized "java/lang/System" ∈ tkAll)
    (hs0 : σ.2.1 a0 = (12, ns)) (hs1 : σ.2.1 a = (12, nd)) (hI : tk1 I a (va_cpy (I a0) (I a) sp.toNatClampNeg dp.toNatClampNeg n.toNatClampNeg) = I1) (h1 : ¬ sp < 0) (h2 : ¬ dp < 0) (h3 : ¬ n < 0) (h4 : sp.toNatClampNeg + n.toNatClampNeg ≤ ns) (h5 : dp.toNatClampNeg + n.toNatClampNeg ≤ nd)
    (hd2 : 2 ≤ d) (hstk : (stk.map fun v => v.category).sum ≤ 8) (kk : tkG X Q cs ss (pc + 3) lv stk σ I1 L) : tkG X Q cs ss pc lv (.int n :: .int dp :: .ref a :: .int sp :: .ref a0 :: stk) σ I L := by
  obtain ⟨p, l, e, R, s, m, args, below, meth, c, base, D⟩ := X
  obtain ⟨hx, hb, hml, hown, hts, hK, hE, hlocks, hr, hnm, hhh, hfr, hlo, hRc, hRs, hst⟩ := C
  intro H locs ls hSS hR hl T hT X
  subst hI
  obtain ⟨-, -, -, hcs⟩ := hR.at hs0 (by decide)
  obtain ⟨hba, hla, hlz, hcd⟩ := hR.at hs1 (by decide)
  have hc0 : H[a0]? = some (arrV (D.1 12) ns (fun j => .int (I a0 j))) := (hcs.2.2.2.1 rfl).1
  have hc1 : H[a]? = some (arrV (D.1 12) nd (fun j => .int (I a j))) := (hcd.2.2.2.1 rfl).1
  obtain ⟨-, k0, hk0, cm0, hkk0⟩ := (hK.1.2 2 _ rfl).1 ns (fun j => .int (I a0 j))
  obtain ⟨-, k1, hk1, cm1, hkk1⟩ := (hK.1.2 2 _ rfl).1 nd (fun j => .int (I a j))
  obtain ⟨vm', X', step⟩ := X.arraycopy hx hown (hts _ hw1) (hts _ hw2) (hts _ hw3) (hts _ hw4) (src := a0) (dst := a) (cs := arrV (D.1 12) ns (fun j => .int (I a0 j))) (cd := arrV (D.1 12) nd (fun j => .int (I a j))) (srcPos := sp) (destPos := dp) (n := n) (by rw [hT]; exact hc0) (by rw [hT]; exact hc1)
    (fun _ h => by cases h) (fun _ h => by cases h) (fun h => by cases h) (fun h => by cases h) hk0 hk1 hkk0 hkk1 (by simp [refKind]) h1 h2 h3
    (by rw [tk_nn h1, tk_nn h3, arrV_size]; omega) (by rw [tk_nn h2, tk_nn h3, arrV_size]; omega)
    (fun vm₁ _ i hi => by
      have e9 : (arrV (D.1 12) ns (fun j => .int (I a0 j))).slots.getD (sp.toNatClampNeg + i) .null = .int (I a0 (sp.toNatClampNeg + i)) := by
        rw [Array.getD_eq_getD_getElem?, arrV_read _ _ (by omega)]
        rfl
      refine ⟨?_, ?_⟩
      · rw [e9]
        exact by exact (hcs.2.2.2.1 rfl).2 _ (by show _ < ns; omega)
      · rw [e9]
        exact trivial)
    (g := F0 m pc ls (.int n :: .int dp :: .ref a :: .int sp :: .ref a0 :: stk)) rfl (by exact hl.1) (rest := stk) rfl (by rw [hb]; exact hd) (by omega) (by
      have e8 : nativeFrameWords "java/lang/System" "arraycopy" 5 + 11 ≤ 60 := by decide
      show 2 * 0 + _ + _ ≤ _
      omega)
  have e1 : copied (arrV (D.1 12) ns (fun j => .int (I a0 j))) (arrV (D.1 12) nd (fun j => .int (I a j))) sp dp n = arrV (D.1 12) nd (fun j => .int (va_cpy (I a0) (I a) sp.toNatClampNeg dp.toNatClampNeg n.toNatClampNeg j)) := va_copied (fun z => .int z) _ _ (I a0) (I a) h4
  rw [e1] at X' step
  generalize hN : arrV (D.1 12) nd (fun j => .int (va_cpy (I a0) (I a) sp.toNatClampNeg dp.toNatClampNeg n.toNatClampNeg j)) = N at X' step
  have hheap : ((T.setVm vm').setCell a N).heap = H.setIfInBounds a N := by rw [← hT]; rfl
  have oq : ∀ q : Nat, q ≠ a → (H.setIfInBounds a N)[q]? = H[q]? := fun q hq => by simp [Array.getElem?_setIfInBounds, Ne.symm hq]
  have hz : (H.setIfInBounds a N).size = H.size := by simp
  have e2 : (H.setIfInBounds a N)[a]? = some (arrV (D.1 12) nd (fun j => .int (tk1 I a (va_cpy (I a0) (I a) sp.toNatClampNeg dp.toNatClampNeg n.toNatClampNeg) a j))) := by
    simp only [tk1, if_true, hN]
    simp [Array.getElem?_setIfInBounds, hlz]
  have hfit2 : ∀ j, j < nd → fits .boolean (.int (tk1 I a (va_cpy (I a0) (I a) sp.toNatClampNeg dp.toNatClampNeg n.toNatClampNeg) a j)) = true := by
    intro j hj
    simp only [tk1, if_true, va_cpy]
    split
    · exact (hcs.2.2.2.1 rfl).2 _ (by show _ < ns; omega)
    · exact (hcd.2.2.2.1 rfl).2 j hj
  obtain ⟨t, a1, b1⟩ := kk (H.setIfInBounds a N) _ ls ⟨by rw [hz]; exact hSS.1, fun q g1 g2 => by
      rw [oq q (fun e => g2 (by rw [e]; exact hba))]
      exact hSS.2.1 q g1 g2, fun q hq => by
      rcases List.mem_append.mp hq with h | h
      · exact hSS.2.2 q h
      · obtain ⟨z, -, hz9⟩ := List.mem_map.mp h
        rw [← hz9]
        exact hba⟩ (hR.put hba hz oq rfl rfl (fun b q => by simp [tk1, q]) (fun _ _ => rfl) (fun _ _ => rfl) (fun _ => by
      rw [hs1]
      exact ⟨fun q => absurd (show 12 < 7 from q) (by decide), fun q => absurd (show 12 = 10 from q) (by decide), fun q => absurd (show 12 = 11 from q) (by decide), fun _ => ⟨e2, hfit2⟩, fun q => absurd (show 12 = 13 from q) (by decide), fun q => absurd (show 12 = 14 from q) (by decide)⟩)) hl _ hheap X'
  exact ⟨t, step t a1, b1⟩
theorem g_copy_l (C : tkC X cc own nm nL ret hh d MC MS) {idx a a0 ns nd : Nat} {sp dp n : Int32} {L1 : tkL} (hd : decode cc pc = .ok (.invokestatic idx, 3)) (hw1 : Cond.methodLink own idx arraycopyName ∈ tkAll) (hw2 : Cond.native arraycopyName ∈ tkAll) (hw3 : Cond.static arraycopyName ∈ tkAll) (hw4 : Cond.initialized "java/lang/System" ∈ tkAll)
    (hs0 : σ.2.1 a0 = (11, ns)) (hs1 : σ.2.1 a = (11, nd)) (hI : tk1 L a (va_cpy (L a0) (L a) sp.toNatClampNeg dp.toNatClampNeg n.toNatClampNeg) = L1) (h1 : ¬ sp < 0) (h2 : ¬ dp < 0) (h3 : ¬ n < 0) (h4 : sp.toNatClampNeg + n.toNatClampNeg ≤ ns) (h5 : dp.toNatClampNeg + n.toNatClampNeg ≤ nd)
    (hd2 : 2 ≤ d) (hstk : (stk.map fun v => v.category).sum ≤ 8) (kk : tkG X Q cs ss (pc + 3) lv stk σ I L1) : tkG X Q cs ss pc lv (.int n :: .int dp :: .ref a :: .int sp :: .ref a0 :: stk) σ I L := by
  obtain ⟨p, l, e, R, s, m, args, below, meth, c, base, D⟩ := X
  obtain ⟨hx, hb, hml, hown, hts, hK, hE, hlocks, hr, hnm, hhh, hfr, hlo, hRc, hRs, hst⟩ := C
  intro H locs ls hSS hR hl T hT X
  subst hI
  obtain ⟨-, -, -, hcs⟩ := hR.at hs0 (by decide)
  obtain ⟨hba, hla, hlz, hcd⟩ := hR.at hs1 (by decide)
  have hc0 : H[a0]? = some (arrV (D.1 11) ns (fun j => .long (L a0 j))) := hcs.2.2.1 rfl
  have hc1 : H[a]? = some (arrV (D.1 11) nd (fun j => .long (L a j))) := hcd.2.2.1 rfl
  obtain ⟨-, k0, hk0, cm0, hkk0⟩ := (hK.1.2 1 _ rfl).1 ns (fun j => .long (L a0 j))
  obtain ⟨-, k1, hk1, cm1, hkk1⟩ := (hK.1.2 1 _ rfl).1 nd (fun j => .long (L a j))
  obtain ⟨vm', X', step⟩ := X.arraycopy hx hown (hts _ hw1) (hts _ hw2) (hts _ hw3) (hts _ hw4) (src := a0) (dst := a) (cs := arrV (D.1 11) ns (fun j => .long (L a0 j))) (cd := arrV (D.1 11) nd (fun j => .long (L a j))) (srcPos := sp) (destPos := dp) (n := n) (by rw [hT]; exact hc0) (by rw [hT]; exact hc1)
    (fun _ h => by cases h) (fun _ h => by cases h) (fun h => by cases h) (fun h => by cases h) hk0 hk1 hkk0 hkk1 (by simp [refKind]) h1 h2 h3
    (by rw [tk_nn h1, tk_nn h3, arrV_size]; omega) (by rw [tk_nn h2, tk_nn h3, arrV_size]; omega)
    (fun vm₁ _ i hi => by
      have e9 : (arrV (D.1 11) ns (fun j => .long (L a0 j))).slots.getD (sp.toNatClampNeg + i) .null = .long (L a0 (sp.toNatClampNeg + i)) := by
        rw [Array.getD_eq_getD_getElem?, arrV_read _ _ (by omega)]
        rfl
      refine ⟨?_, ?_⟩
      · rw [e9]
        exact rfl
      · rw [e9]
        exact trivial)
    (g := F0 m pc ls (.int n :: .int dp :: .ref a :: .int sp :: .ref a0 :: stk)) rfl (by exact hl.1) (rest := stk) rfl (by rw [hb]; exact hd) (by omega) (by
      have e8 : nativeFrameWords "java/lang/System" "arraycopy" 5 + 11 ≤ 60 := by decide
      show 2 * 0 + _ + _ ≤ _
      omega)
  have e1 : copied (arrV (D.1 11) ns (fun j => .long (L a0 j))) (arrV (D.1 11) nd (fun j => .long (L a j))) sp dp n = arrV (D.1 11) nd (fun j => .long (va_cpy (L a0) (L a) sp.toNatClampNeg dp.toNatClampNeg n.toNatClampNeg j)) := va_copied (fun z => .long z) _ _ (L a0) (L a) h4
  rw [e1] at X' step
  generalize hN : arrV (D.1 11) nd (fun j => .long (va_cpy (L a0) (L a) sp.toNatClampNeg dp.toNatClampNeg n.toNatClampNeg j)) = N at X' step
  have hheap : ((T.setVm vm').setCell a N).heap = H.setIfInBounds a N := by rw [← hT]; rfl
  have oq : ∀ q : Nat, q ≠ a → (H.setIfInBounds a N)[q]? = H[q]? := fun q hq => by simp [Array.getElem?_setIfInBounds, Ne.symm hq]
  have hz : (H.setIfInBounds a N).size = H.size := by simp
  have e2 : (H.setIfInBounds a N)[a]? = some (arrV (D.1 11) nd (fun j => .long (tk1 L a (va_cpy (L a0) (L a) sp.toNatClampNeg dp.toNatClampNeg n.toNatClampNeg) a j))) := by
    simp only [tk1, if_true, hN]
    simp [Array.getElem?_setIfInBounds, hlz]
  obtain ⟨t, a1, b1⟩ := kk (H.setIfInBounds a N) _ ls ⟨by rw [hz]; exact hSS.1, fun q g1 g2 => by
      rw [oq q (fun e => g2 (by rw [e]; exact hba))]
      exact hSS.2.1 q g1 g2, fun q hq => by
      rcases List.mem_append.mp hq with h | h
      · exact hSS.2.2 q h
      · obtain ⟨z, -, hz9⟩ := List.mem_map.mp h
        rw [← hz9]
        exact hba⟩ (hR.put hba hz oq rfl rfl (fun _ _ => rfl) (fun b q => by simp [tk1, q]) (fun _ _ => rfl) (fun _ => by
      rw [hs1]
      exact ⟨fun q => absurd (show 11 < 7 from q) (by decide), fun q => absurd (show 11 = 10 from q) (by decide), fun _ => e2, fun q => absurd (show 11 = 12 from q) (by decide), fun q => absurd (show 11 = 13 from q) (by decide), fun q => absurd (show 11 = 14 from q) (by decide)⟩)) hl _ hheap X'
  exact ⟨t, step t a1, b1⟩
/-! a method's standing facts -/
def tkMth (y : MethodName) (cc : ByteArray) (maxL : Nat) (ret : Option FieldType) (n : Nat) : Prop :=
  Cond.code y cc maxL ret ∈ tkAll ∧ Cond.initialized y.cls ∈ tkAll ∧ maxL ≤ 18 ∧ (y.cls ≠ "java/lang/invoke/MethodHandle" ∧ y.cls ≠ "java/lang/invoke/VarHandle" ∧ (parseMethodDescriptor y.desc).map (fun d => d.parameters.length) = some n)
theorem tkMth.len {y : MethodName} {cc : ByteArray} {maxL n : Nat} {ret : Option FieldType} (h : tkMth y cc maxL ret n) : ∀ sig, parseMethodDescriptor y.desc = some sig → n = sig.parameters.length := by
  intro sig hs
  have h2 := h.2.2.2.2.2
  rw [hs] at h2
  exact (Option.some.inj h2).symm
theorem tkPc.blind {base : Nat} {D : va_G} {a : List Value} : FrameBlind (tkPc base D a σ I L) := by
  intro v U g mk h
  obtain ⟨h1, h2, h3, h4⟩ := h
  refine ⟨h1, ?_, ?_, h4⟩
  · exact ⟨va_K.moved (u := U) (U := U.calling g mk v) (Vm.Alike.refl U.vm) h2.1, va_AO.moved (u := U) (U := U.calling g mk v) (Vm.Alike.refl U.vm) h2.2.1, fun q hq => (h2.2.2.1 q hq).imp fun _ z => vk_R.same (u := U) (U := U.calling g mk v) rfl z, fun q hq => va_Nc.moved (u := U) (U := U.calling g mk v) (Vm.Alike.refl U.vm) (h2.2.2.2 q hq)⟩
  · exact ⟨vx_Zq.moved (u := U) (U := U.calling g mk v) (Vm.Alike.refl U.vm) h3.1, vx_Zq.moved (u := U) (U := U.calling g mk v) (Vm.Alike.refl U.vm) h3.2⟩
theorem tkPc.go {base : Nat} {D : va_G} {a : List Value} {s : State} {H : Heap} {locs : List Loc} (hK : tkK D s) (hE : tkE base s s.heap) (hS : va_S (fun q => base ≤ q) s.heap H locs) (hR : tkRel D base σ I L H) : ∀ U : State, U.heap = H → s.WarmedH U.vm → tkPc base D a σ I L a.toArray U := by
  intro U hU hW
  exact ⟨rfl, hK.warm hW, by rw [hU]; exact (hE.warm hW).kept hS.2.1, by rw [hU]; exact hR⟩
/-- behind any call -/
theorem tk_after {p : Program} {l : Launch} {e : Env} {R : Room} {s : State} {m : MethodId} {args : Array Value} {below : List Frame} {meth : Method} {c : Code} {base : Nat} {D : va_G} {H : Heap} {locs : List Loc} {ls : Array Slot} {mc ms : Nat} {st0 rest : List Value} {a : Array Value} {lo : Bool} {out : tkOut} {σ' : tkM} {I' : tkI} {L' : tkL}
    (hr : vx_Run p l e R s m args below meth c H locs cs ss mc ms (F0 m pc ls st0) rest (tkQc lo base D out σ' I' L' a) (tkXC base D out σ' I' L') (fun q => base ≤ q)) (hS : va_S (fun q => base ≤ q) s.heap H locs) (hl : tkLv ls c.maxLocals lv)
    (kr : ∀ v n, out = .inl v → σ'.1 ≤ n → (lo = false → n = σ'.1) → tkG (p, l, e, R, s, m, args, below, meth, c, base, D) Q (cs + mc) (ss + ms) (pc + 3) lv (v.toList ++ rest) (n, σ'.2) I' L')
    (kt : ∀ E n, out = .inr E → σ'.1 ≤ n → tkT (p, l, e, R, s, m, args, below, meth, c, base, D) Q (cs + mc) (ss + ms) pc lv rest (n, σ'.2) I' L' E) : W p l e R s m args below meth c H locs cs ss Q (F0 m pc ls st0) := by
  intro T hT X
  rcases hr T hT X with ⟨v, st₀, t, T', L9, h0, X', hL, e1, e2, ⟨⟨v', ho, hv⟩, ⟨n, hn, hn2, hR'⟩, hF⟩, st⟩ | ⟨q, st₀, t, T', L9, E, ce, h0, X', hL, e1, e2, ⟨ho, ⟨n, hn, hR'⟩, hF⟩, hce, hcv, hcl, st⟩
  · have hv2 : v' = v := by cases hv; rfl
    subst hv2
    obtain ⟨k1, k2, k3⟩ := vx_keep h0 e1 hS (fun q _ z => z) (fun q z => z) hL hF
    obtain ⟨t2, a1, b1⟩ := kr v' n ho hn hn2 T'.heap (locs ++ L9) ls k3 (by rw [e1]; exact hR') hl T' rfl X'
    exact ⟨t2, st t2 a1, b1⟩
  · obtain ⟨k1, k2, k3⟩ := vx_keep h0 e1 hS (fun q _ z => z) (fun q z => z) hL hF
    obtain ⟨t2, a1, b1⟩ := kt E n ho hn T'.heap (locs ++ L9) ls q ce k3 (by rw [e1]; exact hR') hl (by rw [e1]; exact hce) hcv hcl T' rfl X'
    exact ⟨t2, st.trans a1, b1⟩
theorem tk_room {d d' maxL : Nat} {R : Room} {mc ms : Nat} (h : d' + 1 ≤ d) (hm : maxL ≤ 18) (h1 : d ≤ R.frames) (h2 : 37 * d ≤ R.locals) : (tkRm d' mc ms).frames + 1 ≤ R.frames ∧ 8 + (maxL + 11) + (tkRm d' mc ms).locals ≤ R.locals := by
  constructor
  · show d' + 1 ≤ R.frames; omega
  · show 8 + (maxL + 11) + 37 * d' ≤ R.locals; omega
variable {lo : Bool} {idx d' mc ms maxL : Nat} {y : MethodName} {bytes : ByteArray} {ret' : Option FieldType} {As rest : List Value} {out : tkOut} {σ' : tkM} {I' : tkI} {L' : tkL} {b : Nat}
/-- what a callee's words ask -/
theorem tk_words {s : State} {args : Array Value} {w : Cond} (hts : ∀ w ∈ tkAll, w.before args s = true) (hw : w ∈ tkAll) : ∀ z ∈ w :: tkAll, ∀ (a' : Array Value) (U : State), s.WarmedH U.vm → z.before a' U = true := by
  intro z hz a' U hW
  have hz' : z ∈ tkAll := by rcases List.mem_cons.mp hz with rfl | h; exact hw; exact h
  exact tk_rides hW hts z hz'
theorem g_callV (C : tkC X cc own nm nL ret hh d MC MS) {nb ci : Nat} {q : vw_C} (hd : decode cc pc = .ok (.invokevirtual idx, 3)) (hM : tkMth y bytes maxL ret' As.length) (hl1 : Cond.methodLink own idx y ∈ tkAll) (hl2 : Cond.instanceMethod y ∈ tkAll) (hl3 : Cond.selects y.cls y y ∈ tkAll) (hcon : tkCon lo (.code y bytes maxL ret') y d' (.ref b :: As) σ I L mc ms out σ' I' L')
    (hS : σ.2.1 b = (ci, nb)) (hc : vwCl[ci]? = some q) (hq : q.1 = y.cls) (hroom : d' + 1 ≤ d ∧ cs + mc ≤ MC ∧ ss + ms ≤ MS ∧ (rest.map fun v => v.category).sum ≤ 8) (hstk : stk = As.reverse ++ .ref b :: rest)
    (kr : ∀ v n, out = .inl v → σ'.1 ≤ n → (lo = false → n = σ'.1) → tkG X Q (cs + mc) (ss + ms) (pc + 3) lv (v.toList ++ rest) (n, σ'.2) I' L')
    (kt : ∀ E n, out = .inr E → σ'.1 ≤ n → tkT X Q (cs + mc) (ss + ms) pc lv rest (n, σ'.2) I' L' E) : tkG X Q cs ss pc lv stk σ I L := by
  obtain ⟨p, l, e, R, s, m, args, below, meth, c, base, D⟩ := X
  obtain ⟨hx, hb, hml, hown, hts, hK, hE, hlocks, hr, hnm, hhh, hfr, hlo, hRc, hRs, hst⟩ := C
  intro H locs ls hSS hR hl
  obtain ⟨h1, h2, h3, h4⟩ := hroom
  obtain ⟨-, -, -, hcell⟩ := hR.at hS (tk_ne99 hc)
  obtain ⟨q', hq1, cell, q1, q2, q3, q4⟩ := hcell.1 (tk_lt7 hc)
  have hR2 := tk_room (mc := mc) (ms := ms) h1 hM.2.2.1 hfr hlo
  exact tk_after (vx_runV (C := y.cls) (b := b) (As := As) (rest := rest) (nL := nL) (n := As.length) (bytes := bytes) (maxL := maxL) (ret := ret') (rm := tkRm d' mc ms) ⟨hx, hb, hml, hown, hts⟩ (hcon l hst base D)
    ⟨⟨rfl, rfl, hR2.1, hR2.2, tk_words hts hM.1, List.mem_cons_self, hts _ hM.1, hts _ hM.2.1, ⟨hM.2.2.2.1, hM.2.2.2.2.1⟩, hM.len, hts _ hl1⟩, hts _ hl2, hts _ hl3⟩
    ⟨tkPc.blind, ⟨cell, q1, by rw [q3]; rfl, by rw [q2, ← hq]; exact (hK.1.1 ci _ hc).2.1⟩, tkPc.go hK hE hSS hR⟩ rfl rfl (by rw [← hml]; exact hl.1) hstk (lv_room h4) hd ⟨by rw [hRc]; exact h2, by rw [hRs]; exact h3⟩) hSS hl kr kt
theorem g_callS (C : tkC X cc own nm nL ret hh d MC MS) (hd : decode cc pc = .ok (.invokestatic idx, 3)) (hM : tkMth y bytes maxL ret' As.length) (hl1 : Cond.methodLink own idx y ∈ tkAll) (hl2 : Cond.static y ∈ tkAll) (hcon : tkCon lo (.code y bytes maxL ret') y d' As σ I L mc ms out σ' I' L')
    (hroom : d' + 1 ≤ d ∧ cs + mc ≤ MC ∧ ss + ms ≤ MS ∧ (rest.map fun v => v.category).sum ≤ 8) (hstk : stk = As.reverse ++ rest)
    (kr : ∀ v n, out = .inl v → σ'.1 ≤ n → (lo = false → n = σ'.1) → tkG X Q (cs + mc) (ss + ms) (pc + 3) lv (v.toList ++ rest) (n, σ'.2) I' L')
    (kt : ∀ E n, out = .inr E → σ'.1 ≤ n → tkT X Q (cs + mc) (ss + ms) pc lv rest (n, σ'.2) I' L' E) : tkG X Q cs ss pc lv stk σ I L := by
  obtain ⟨p, l, e, R, s, m, args, below, meth, c, base, D⟩ := X
  obtain ⟨hx, hb, hml, hown, hts, hK, hE, hlocks, hr, hnm, hhh, hfr, hlo, hRc, hRs, hst⟩ := C
  intro H locs ls hSS hR hl
  obtain ⟨h1, h2, h3, h4⟩ := hroom
  have hR2 := tk_room (mc := mc) (ms := ms) h1 hM.2.2.1 hfr hlo
  exact tk_after (vx_runS (As := As) (rest := rest) (nL := nL) (n := As.length) (bytes := bytes) (maxL := maxL) (ret := ret') (rm := tkRm d' mc ms) ⟨hx, hb, hml, hown, hts⟩ (hcon l hst base D)
    ⟨⟨rfl, rfl, hR2.1, hR2.2, tk_words hts hM.1, List.mem_cons_self, hts _ hM.1, hts _ hM.2.1, ⟨hM.2.2.2.1, hM.2.2.2.2.1⟩, hM.len, hts _ hl1⟩, hts _ hl2⟩
    ⟨tkPc.blind, tkPc.go hK hE hSS hR⟩ rfl rfl (by rw [← hml]; exact hl.1) hstk (lv_room h4) hd ⟨by rw [hRc]; exact h2, by rw [hRs]; exact h3⟩) hSS hl kr kt
theorem g_callSN (C : tkC X cc own nm nL ret hh d MC MS) {host : String} (hd : decode cc pc = .ok (.invokestatic idx, 3)) (hM : tkMth y bytes maxL ret' As.length) (hl1 : Cond.methodLinkNest own idx y host ∈ tkAll) (hl2 : Cond.static y ∈ tkAll) (hcon : tkCon lo (.code y bytes maxL ret') y d' As σ I L mc ms out σ' I' L')
    (hroom : d' + 1 ≤ d ∧ cs + mc ≤ MC ∧ ss + ms ≤ MS ∧ (rest.map fun v => v.category).sum ≤ 8) (hstk : stk = As.reverse ++ rest)
    (kr : ∀ v n, out = .inl v → σ'.1 ≤ n → (lo = false → n = σ'.1) → tkG X Q (cs + mc) (ss + ms) (pc + 3) lv (v.toList ++ rest) (n, σ'.2) I' L')
    (kt : ∀ E n, out = .inr E → σ'.1 ≤ n → tkT X Q (cs + mc) (ss + ms) pc lv rest (n, σ'.2) I' L' E) : tkG X Q cs ss pc lv stk σ I L := by
  obtain ⟨p, l, e, R, s, m, args, below, meth, c, base, D⟩ := X
  obtain ⟨hx, hb, hml, hown, hts, hK, hE, hlocks, hr, hnm, hhh, hfr, hlo, hRc, hRs, hst⟩ := C
  intro H locs ls hSS hR hl
  obtain ⟨h1, h2, h3, h4⟩ := hroom
  have hR2 := tk_room (mc := mc) (ms := ms) h1 hM.2.2.1 hfr hlo
  exact tk_after (vx_runSN (As := As) (rest := rest) (nL := nL) (n := As.length) (bytes := bytes) (maxL := maxL) (ret := ret') (rm := tkRm d' mc ms) ⟨hx, hb, hml, hown, hts⟩ (hcon l hst base D)
    ⟨⟨⟨rfl, rfl, hR2.1, hR2.2, tk_words hts hM.1, List.mem_cons_self⟩, hts _ hM.1, hts _ hM.2.1, ⟨hM.2.2.2.1, hM.2.2.2.2.1⟩, hM.len, hts _ hl1⟩, hts _ hl2, trivial⟩
    ⟨tkPc.blind, tkPc.go hK hE hSS hR⟩ rfl rfl (by rw [← hml]; exact hl.1) hstk (lv_room h4) hd ⟨by rw [hRc]; exact h2, by rw [hRs]; exact h3⟩) hSS hl kr kt
theorem g_callI (C : tkC X cc own nm nL ret hh d MC MS) (hd : decode cc pc = .ok (.invokespecial idx, 3)) (hM : tkMth y bytes maxL none As.length) (hl1 : Cond.methodLink own idx y ∈ tkAll) (hl2 : Cond.instanceMethod y ∈ tkAll) (hy : y.name = "<init>") (hcon : tkCon lo (.code y bytes maxL none) y d' (.ref b :: As) σ I L mc ms out σ' I' L')
    (hroom : d' + 1 ≤ d ∧ cs + mc ≤ MC ∧ ss + ms ≤ MS ∧ (rest.map fun v => v.category).sum ≤ 8) (hstk : stk = As.reverse ++ .ref b :: rest)
    (kr : ∀ v n, out = .inl v → σ'.1 ≤ n → (lo = false → n = σ'.1) → tkG X Q (cs + mc) (ss + ms) (pc + 3) lv (v.toList ++ rest) (n, σ'.2) I' L')
    (kt : ∀ E n, out = .inr E → σ'.1 ≤ n → tkT X Q (cs + mc) (ss + ms) pc lv rest (n, σ'.2) I' L' E) : tkG X Q cs ss pc lv stk σ I L := by
  obtain ⟨p, l, e, R, s, m, args, below, meth, c, base, D⟩ := X
  obtain ⟨hx, hb, hml, hown, hts, hK, hE, hlocks, hr, hnm, hhh, hfr, hlo, hRc, hRs, hst⟩ := C
  intro H locs ls hSS hR hl
  obtain ⟨h1, h2, h3, h4⟩ := hroom
  have hR2 := tk_room (mc := mc) (ms := ms) h1 hM.2.2.1 hfr hlo
  exact tk_after (vx_runI (b := b) (As := As) (rest := rest) (nL := nL) (n := As.length) (bytes := bytes) (maxL := maxL) (rm := tkRm d' mc ms) ⟨hx, hb, hml, hown, hts⟩ (hcon l hst base D)
    ⟨⟨rfl, rfl, hR2.1, hR2.2, tk_words hts hM.1, List.mem_cons_self, hts _ hM.1, hts _ hM.2.1, ⟨hM.2.2.2.1, hM.2.2.2.2.1⟩, hM.len, hts _ hl1⟩, hy, hts _ hl2⟩
    ⟨tkPc.blind, tkPc.go hK hE hSS hR⟩ rfl rfl (by rw [← hml]; exact hl.1) hstk (lv_room h4) hd ⟨by rw [hRc]; exact h2, by rw [hRs]; exact h3⟩) hSS hl kr kt
theorem g_callIN (C : tkC X cc own nm nL ret hh d MC MS) {host : String} (hd : decode cc pc = .ok (.invokespecial idx, 3)) (hM : tkMth y bytes maxL none As.length) (hl1 : Cond.methodLinkNest own idx y host ∈ tkAll) (hl2 : Cond.instanceMethod y ∈ tkAll) (hy : y.name = "<init>") (hcon : tkCon lo (.code y bytes maxL none) y d' (.ref b :: As) σ I L mc ms out σ' I' L')
    (hroom : d' + 1 ≤ d ∧ cs + mc ≤ MC ∧ ss + ms ≤ MS ∧ (rest.map fun v => v.category).sum ≤ 8) (hstk : stk = As.reverse ++ .ref b :: rest)
    (kr : ∀ v n, out = .inl v → σ'.1 ≤ n → (lo = false → n = σ'.1) → tkG X Q (cs + mc) (ss + ms) (pc + 3) lv (v.toList ++ rest) (n, σ'.2) I' L')
    (kt : ∀ E n, out = .inr E → σ'.1 ≤ n → tkT X Q (cs + mc) (ss + ms) pc lv rest (n, σ'.2) I' L' E) : tkG X Q cs ss pc lv stk σ I L := by
  obtain ⟨p, l, e, R, s, m, args, below, meth, c, base, D⟩ := X
  obtain ⟨hx, hb, hml, hown, hts, hK, hE, hlocks, hr, hnm, hhh, hfr, hlo, hRc, hRs, hst⟩ := C
  intro H locs ls hSS hR hl
  obtain ⟨h1, h2, h3, h4⟩ := hroom
  have hR2 := tk_room (mc := mc) (ms := ms) h1 hM.2.2.1 hfr hlo
  exact tk_after (vx_runIN (b := b) (As := As) (rest := rest) (nL := nL) (n := As.length) (bytes := bytes) (maxL := maxL) (rm := tkRm d' mc ms) ⟨hx, hb, hml, hown, hts⟩ (hcon l hst base D)
    ⟨⟨⟨rfl, rfl, hR2.1, hR2.2, tk_words hts hM.1, List.mem_cons_self⟩, hts _ hM.1, hts _ hM.2.1, ⟨hM.2.2.2.1, hM.2.2.2.2.1⟩, hM.len, hts _ hl1⟩, hy, hts _ hl2⟩
    ⟨tkPc.blind, tkPc.go hK hE hSS hR⟩ rfl rfl (by rw [← hml]; exact hl.1) hstk (lv_room h4) hd ⟨by rw [hRc]; exact h2, by rw [hRs]; exact h3⟩) hSS hl kr kt
/-- a static method with a table of handlers -/
def tkMthH (y : MethodName) (cc : ByteArray) (maxL : Nat) (ret : Option FieldType) (hh : List (Nat × Nat × Nat × Nat)) (n : Nat) : Prop :=
  Cond.codeWith y cc maxL ret hh ∈ tkAll ∧ Cond.initialized y.cls ∈ tkAll ∧ maxL ≤ 18 ∧ (y.cls ≠ "java/lang/invoke/MethodHandle" ∧ y.cls ≠ "java/lang/invoke/VarHandle" ∧ (parseMethodDescriptor y.desc).map (fun d => d.parameters.length) = some n)
theorem tkMthH.len {y : MethodName} {cc : ByteArray} {maxL n : Nat} {ret : Option FieldType} {hh : List (Nat × Nat × Nat × Nat)} (h : tkMthH y cc maxL ret hh n) : ∀ sig, parseMethodDescriptor y.desc = some sig → n = sig.parameters.length := by
  intro sig hs
  have h2 := h.2.2.2.2.2
  rw [hs] at h2
  exact (Option.some.inj h2).symm
theorem g_callSH (C : tkC X cc own nm nL ret hh d MC MS) {hh' : List (Nat × Nat × Nat × Nat)} (hd : decode cc pc = .ok (.invokestatic idx, 3)) (hM : tkMthH y bytes maxL ret' hh' As.length) (hl1 : Cond.methodLink own idx y ∈ tkAll) (hl2 : Cond.static y ∈ tkAll) (hcon : tkCon lo (.codeWith y bytes maxL ret' hh') y d' As σ I L mc ms out σ' I' L')
    (hroom : d' + 1 ≤ d ∧ cs + mc ≤ MC ∧ ss + ms ≤ MS ∧ (rest.map fun v => v.category).sum ≤ 8) (hstk : stk = As.reverse ++ rest)
    (kr : ∀ v n, out = .inl v → σ'.1 ≤ n → (lo = false → n = σ'.1) → tkG X Q (cs + mc) (ss + ms) (pc + 3) lv (v.toList ++ rest) (n, σ'.2) I' L')
    (kt : ∀ E n, out = .inr E → σ'.1 ≤ n → tkT X Q (cs + mc) (ss + ms) pc lv rest (n, σ'.2) I' L' E) : tkG X Q cs ss pc lv stk σ I L := by
  obtain ⟨p, l, e, R, s, m, args, below, meth, c, base, D⟩ := X
  obtain ⟨hx, hb, hml, hown, hts, hK, hE, hlocks, hr, hnm, hhh, hfr, hlo, hRc, hRs, hst⟩ := C
  intro H locs ls hSS hR hl
  obtain ⟨h1, h2, h3, h4⟩ := hroom
  have hR2 := tk_room (mc := mc) (ms := ms) h1 hM.2.2.1 hfr hlo
  exact tk_after (vx_runSX (hh := hh') (As := As) (rest := rest) (nL := nL) (n := As.length) (bytes := bytes) (maxL := maxL) (ret := ret') (rm := tkRm d' mc ms) ⟨hx, hb, hml, hown, hts⟩ (hcon l hst base D)
    ⟨⟨rfl, rfl, hR2.1, hR2.2, tk_words hts hM.1, List.mem_cons_self⟩, hts _ hM.1, hts _ hM.2.1, ⟨hM.2.2.2.1, hM.2.2.2.2.1⟩, hM.len, hts _ hl1, hts _ hl2⟩
    ⟨tkPc.blind, tkPc.go hK hE hSS hR⟩ rfl rfl (by rw [← hml]; exact hl.1) hstk (lv_room h4) hd ⟨by rw [hRc]; exact h2, by rw [hRs]; exact h3⟩) hSS hl kr kt
end TKCALL
section TKEND
variable {X : tkX} {Q : State → Prop} {cc : ByteArray} {own nm : String} {nL d MC MS cs ss pc : Nat} {ret : Option FieldType} {hh : List (Nat × Nat × Nat × Nat)} {lv : List (Option Value)} {stk : List Value} {σ σ' : tkM} {I I' : tkI} {L L' : tkL} {lo : Bool} {mc ms : Nat} {out : tkOut}
/-- what an end says: the answer, and the memory as told -/
def tkEnd (lo : Bool) (out : tkOut) (σ' : tkM) (I' : tkI) (L' : tkL) (v : Option Value) (σ : tkM) (I : tkI) (L : tkL) : Prop := out = .inl v ∧ (σ'.1 ≤ σ.1 ∧ (lo = false → σ.1 = σ'.1)) ∧ σ.2 = σ'.2 ∧ I = I' ∧ L = L'
theorem tkEnd.rf {out : tkOut} {v : Option Value} (h : out = .inl v) (hI : I = I') (hL : L = L') : tkEnd lo out σ I' L' v σ I L := ⟨h, ⟨Nat.le_refl _, fun _ => rfl⟩, rfl, hI, hL⟩
theorem tkQc.of {base : Nat} {D : va_G} {s t : State} {H : Heap} {locs : List Loc} {v : Option Value} {args : Array Value} (h : tkEnd lo out σ' I' L' v σ I L) (hS : va_S (fun q => base ≤ q) s.heap H locs) (hR : tkRel D base σ I L H) (ht : t.heap = H) : tkQc lo base D out σ' I' L' args s (.returned v) t := by
  obtain ⟨h1, ⟨h2, h3⟩, h4, h5, h6⟩ := h
  subst h5; subst h6
  refine ⟨⟨v, h1, rfl⟩, ⟨σ.1, h2, h3, ?_⟩, hS.F ht⟩
  rw [ht, ← h4]
  exact hR
theorem g_ireturn (C : tkC X cc own nm nL (some .int) hh d MC MS) {x : Int32} (hd : decode cc pc = .ok (.ireturn, 1)) (hz : cs ≤ mc ∧ ss ≤ ms) (h : tkEnd lo out σ' I' L' (some (.int x)) σ I L) : tkG X (tkQ lo X mc ms out σ' I' L') cs ss pc lv [.int x] σ I L := by
  obtain ⟨p, l, e, R, s, m, args, below, meth, c, base, D⟩ := X
  obtain ⟨hx, hb, hml, hown, hts, hK, hE, hlocks, hr, hnm, hhh, hfr, hlo, hRc, hRs, hst⟩ := C
  intro H locs ls hSS hR hl
  exact W.widen hz.1 hz.2 (vx_ret (W.iret hx hb hr (fun t ht hW => tkQc.of h hSS hR ht) hSS.2.2 hd hlocks))
theorem g_zreturn (C : tkC X cc own nm nL (some .boolean) hh d MC MS) {x : Int32} (hd : decode cc pc = .ok (.ireturn, 1)) (hz : cs ≤ mc ∧ ss ≤ ms) (h01 : x = 0 ∨ x = 1) (h : tkEnd lo out σ' I' L' (some (.int x)) σ I L) : tkG X (tkQ lo X mc ms out σ' I' L') cs ss pc lv [.int x] σ I L := by
  obtain ⟨p, l, e, R, s, m, args, below, meth, c, base, D⟩ := X
  obtain ⟨hx, hb, hml, hown, hts, hK, hE, hlocks, hr, hnm, hhh, hfr, hlo, hRc, hRs, hst⟩ := C
  intro H locs ls hSS hR hl
  exact W.widen hz.1 hz.2 (vx_ret (W.zret hx hb hr (by rcases h01 with rfl | rfl <;> rfl) (fun t ht hW => tkQc.of h hSS hR ht) hSS.2.2 hd hlocks))
theorem g_lreturn (C : tkC X cc own nm nL (some .long) hh d MC MS) {x : Int64} (hd : decode cc pc = .ok (.lreturn, 1)) (hz : cs ≤ mc ∧ ss ≤ ms) (h : tkEnd lo out σ' I' L' (some (.long x)) σ I L) : tkG X (tkQ lo X mc ms out σ' I' L') cs ss pc lv [.long x] σ I L := by
  obtain ⟨p, l, e, R, s, m, args, below, meth, c, base, D⟩ := X
  obtain ⟨hx, hb, hml, hown, hts, hK, hE, hlocks, hr, hnm, hhh, hfr, hlo, hRc, hRs, hst⟩ := C
  intro H locs ls hSS hR hl
  exact W.widen hz.1 hz.2 (vx_ret (W.lret hx hb hr (fun t ht hW => tkQc.of h hSS hR ht) hSS.2.2 hd hlocks))
theorem g_dreturn (C : tkC X cc own nm nL (some .double) hh d MC MS) {x : UInt64} (hd : decode cc pc = .ok (.dreturn, 1)) (hz : cs ≤ mc ∧ ss ≤ ms) (h : tkEnd lo out σ' I' L' (some (.double x)) σ I L) : tkG X (tkQ lo X mc ms out σ' I' L') cs ss pc lv [.double x] σ I L := by
  obtain ⟨p, l, e, R, s, m, args, below, meth, c, base, D⟩ := X
  obtain ⟨hx, hb, hml, hown, hts, hK, hE, hlocks, hr, hnm, hhh, hfr, hlo, hRc, hRs, hst⟩ := C
  intro H locs ls hSS hR hl
  exact W.widen hz.1 hz.2 (vx_ret (W.dret hx hb hr (fun t ht hW => tkQc.of h hSS hR ht) hSS.2.2 hd hlocks))
theorem g_return (C : tkC X cc own nm nL none hh d MC MS) (hd : decode cc pc = .ok (.return_, 1)) (hz : cs ≤ mc ∧ ss ≤ ms) (h : tkEnd lo out σ' I' L' none σ I L) : tkG X (tkQ lo X mc ms out σ' I' L') cs ss pc lv [] σ I L := by
  obtain ⟨p, l, e, R, s, m, args, below, meth, c, base, D⟩ := X
  obtain ⟨hx, hb, hml, hown, hts, hK, hE, hlocks, hr, hnm, hhh, hfr, hlo, hRc, hRs, hst⟩ := C
  intro H locs ls hSS hR hl
  exact W.widen hz.1 hz.2 (vx_ret (W.vret hx hb hr (fun t ht hW => tkQc.of h hSS hR ht) hSS.2.2 hd hlocks))
/-- thrown on, past a method without handlers -/
theorem g_out (C : tkC X cc own nm nL ret [] d MC MS) {E : String} (hz : cs ≤ mc ∧ ss ≤ ms) (ho : out = .inr E) (hσ : σ'.1 ≤ σ.1 ∧ σ.2 = σ'.2) (hI : I = I') (hL : L = L') : tkT X (tkQ lo X mc ms out σ' I' L') cs ss pc lv stk σ I L E := by
  obtain ⟨p, l, e, R, s, m, args, below, meth, c, base, D⟩ := X
  obtain ⟨hx, hb, hml, hown, hts, hK, hE, hlocks, hr, hnm, hhh, hfr, hlo, hRc, hRs, hst⟩ := C
  intro H locs ls q ce hSS hR hl hce hcv hcl
  subst hI; subst hL
  have hno : ∀ x ∈ c.exceptionTable.toList, covers x pc = false := by
    intro x hx9
    rw [hhh] at hx9
    cases hx9
  refine vx_out hno hlocks hce hcv hcl (fun t ht hW => ⟨ho, ⟨σ.1, hσ.1, ?_⟩, hSS.F ht⟩) hSS.2.2 hz.1 hz.2
  rw [ht, ← hσ.2]
  exact hR
/-- throw new E("text") -/
theorem g_throwS (C : tkC X cc RX5 nm nL ret [] d MC MS) {ik is ic : Nat} {E text : String} (d0 : decode cc pc = .ok (.new ik, 3)) (d3 : decode cc (pc + 3) = .ok (.dup, 1)) (d4 : decode cc (pc + 4) = .ok (.ldc is, 2)) (d6 : decode cc (pc + 6) = .ok (.invokespecial ic, 3)) (d9 : decode cc (pc + 9) = .ok (.athrow, 1))
    (hf : Bundle.fit E = true) (hk : Cond.classLink RX5 ik E ∈ tkAll) (hini : Cond.initialized E ∈ tkAll) (hstr : (is, text) ∈ tkStr) (hat : ∀ w ∈ vx_atS RX5 ic E ["java/lang/RuntimeException", "java/lang/Exception"], w ∈ tkAll)
    (hgood : ∀ w ∈ Cond.classLink RX5 ik E :: Cond.initialized E :: vx_atS RX5 ic E ["java/lang/RuntimeException", "java/lang/Exception"], vx_ot w = true)
    (hroom : 6 ≤ d ∧ cs + 1 ≤ MC ∧ ss + 6 ≤ MS ∧ (stk.map fun v => v.category).sum ≤ 8) (hz : cs + 1 ≤ mc ∧ ss + 6 ≤ ms) (ho : out = .inr E) (hσ : σ'.1 ≤ σ.1 ∧ σ.2 = σ'.2) (hI : I = I') (hL : L = L') : tkG X (tkQ lo X mc ms out σ' I' L') cs ss pc lv stk σ I L := by
  obtain ⟨p, l, e, R, s, m, args, below, meth, c, base, D⟩ := X
  obtain ⟨hx, hb, hml, hown, hts, hK, hE, hlocks, hr, hnm, hhh, hfr, hlo, hRc, hRs, hst⟩ := C
  intro H locs ls hSS hR hl
  subst hI; subst hL
  obtain ⟨sa, hsa⟩ := hK.2.2.1 _ hstr
  have hno : ∀ x ∈ c.exceptionTable.toList, covers x (pc + 9) = false := by
    intro x hx9
    rw [hhh] at hx9
    cases hx9
  obtain ⟨r1, r2, r3, r4⟩ := hroom
  refine vx_throwS (own := RX5) (cls := E) (names := ["java/lang/RuntimeException", "java/lang/Exception"]) (text := text) (sa := sa) hx hb hst hown hf (by decide) (hts _ hk) (hts _ hini) hsa (fun w hw => hts w (hat w hw)) hgood hE.1 hE.2 hSS hl.1 d0 d3 d4 d6 d9 hno (by show 2 + 3 < R.frames; omega) (by show _ + (13 * (2 + 1) + 43) ≤ R.locals; omega) (by rw [hRc]; exact r2) (by rw [hRs]; exact r3) hlocks ?_ hSS.2.2 hz.1 hz.2
  intro t hal hsz hkeep
  refine ⟨ho, ⟨t.heap.size, Nat.le_trans hσ.1 (by rw [← hR.1]; exact hsz), ?_⟩, ?_⟩
  · rw [← hσ.2]
    exact hR.grow rfl (by rw [← hR.1]; exact hsz) hkeep
  · exact ⟨Nat.le_trans hSS.1 hsz, fun q h1 h2 => by rw [hkeep q (Nat.lt_of_lt_of_le h1 hSS.1)]; exact hSS.2.1 q h1 h2⟩
/-- caught -/
theorem g_catch (C : tkC X cc own nm nL ret hh d MC MS) {E name : String} (pre : List ExceptionTableEntry) (x : ExceptionTableEntry) (suf : List ExceptionTableEntry) (hsplit : tableOf hh = pre ++ x :: suf)
    (hpass : ∀ z ∈ pre, covers z pc = false ∨ (z.catchType ≠ 0 ∧ ∃ n9 : String, Cond.classLink own z.catchType n9 ∈ tkAll ∧ (E, n9) ∈ tkNc)) (hcov : covers x pc = true) (h0 : x.catchType ≠ 0) (hlink : Cond.classLink own x.catchType name ∈ tkAll) (hcast : Cond.castable E name ∈ tkAll)
    (kk : ∀ q : Nat, tkG X Q cs ss x.handlerPc lv [.ref q] σ I L) : tkT X Q cs ss pc lv stk σ I L E := by
  obtain ⟨p, l, e, R, s, m, args, below, meth, c, base, D⟩ := X
  obtain ⟨hx, hb, hml, hown, hts, hK, hE, hlocks, hr, hnm, hhh, hfr, hlo, hRc, hRs, hst⟩ := C
  intro H locs ls q ce hSS hR hl hce hcv hcl
  refine vx_catch hown pre x suf (by rw [hhh]; exact hsplit) (fun z hz => ?_) hcov h0 (hts _ hlink) (hts _ hcast) hce hcv hcl (kk q H locs ls hSS hR hl)
  rcases hpass z hz with h | ⟨h1, n9, h2, h3⟩
  · exact Or.inl h
  · exact Or.inr ⟨h1, n9, hts _ h2, hK.2.2.2 _ h3⟩
end TKEND
end

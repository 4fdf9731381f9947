section
-- ===== PART A: goes FIRST, ahead of the names: the tables' words, and 'selects' of the private methods out of them =====
/-- a private method of a class that the tables say can be made, by its rows of tables_1 -/
def lw_okq (q : MethodName × Nat) : Prop := (q.1.cls ≠ "java/lang/invoke/MethodHandle" ∧ q.1.cls ≠ "java/lang/invoke/VarHandle") ∧ Cond.instantiable q.1.cls q.2 ∈ tables_1 ∧ Cond.privateMethod q.1 ∈ tables_1 ∧ Cond.instanceMethod q.1 ∈ tables_1
theorem lw_p0 : lw_okq (⟨"java/lang/Throwable", "fillInStackTrace", "(I)Ljava/lang/Throwable;"⟩, 6) := ⟨⟨by decide +kernel, by decide +kernel⟩, List.mem_of_getElem? (i := 293) (by decide +kernel), List.mem_of_getElem? (i := 291) (by decide +kernel), List.mem_of_getElem? (i := 292) (by decide +kernel)⟩
theorem lw_p1 : lw_okq (⟨"TankPlant", "needTank", "(I)V"⟩, 4) := ⟨⟨by decide +kernel, by decide +kernel⟩, List.mem_of_getElem? (i := 17) (by decide +kernel), List.mem_of_getElem? (i := 360) (by decide +kernel), List.mem_of_getElem? (i := 361) (by decide +kernel)⟩
theorem lw_p2 : lw_okq (⟨"TankPlant", "needTankOrOutside", "(I)V"⟩, 4) := ⟨⟨by decide +kernel, by decide +kernel⟩, List.mem_of_getElem? (i := 17) (by decide +kernel), List.mem_of_getElem? (i := 393) (by decide +kernel), List.mem_of_getElem? (i := 394) (by decide +kernel)⟩
theorem lw_p3 : lw_okq (⟨"TankPlant", "needSwitch", "(I)V"⟩, 4) := ⟨⟨by decide +kernel, by decide +kernel⟩, List.mem_of_getElem? (i := 17) (by decide +kernel), List.mem_of_getElem? (i := 397) (by decide +kernel), List.mem_of_getElem? (i := 398) (by decide +kernel)⟩
theorem lw_p4 : lw_okq (⟨"TankPlant", "needPump", "(I)V"⟩, 4) := ⟨⟨by decide +kernel, by decide +kernel⟩, List.mem_of_getElem? (i := 17) (by decide +kernel), List.mem_of_getElem? (i := 434) (by decide +kernel), List.mem_of_getElem? (i := 435) (by decide +kernel)⟩
theorem lw_p5 : lw_okq (⟨"TankPlant$Plant", "tick", "()I"⟩, 5) := ⟨⟨by decide +kernel, by decide +kernel⟩, List.mem_of_getElem? (i := 25) (by decide +kernel), List.mem_of_getElem? (i := 454) (by decide +kernel), List.mem_of_getElem? (i := 455) (by decide +kernel)⟩
theorem lw_p6 : lw_okq (⟨"TankPlant$Pumps", "move", "(ILTankPlant$Tanks;)V"⟩, 13) := ⟨⟨by decide +kernel, by decide +kernel⟩, List.mem_of_getElem? (i := 93) (by decide +kernel), List.mem_of_getElem? (i := 482) (by decide +kernel), List.mem_of_getElem? (i := 483) (by decide +kernel)⟩
theorem lw_p7 : lw_okq (⟨"TankPlant$Pumps", "enter", "(II)V"⟩, 13) := ⟨⟨by decide +kernel, by decide +kernel⟩, List.mem_of_getElem? (i := 93) (by decide +kernel), List.mem_of_getElem? (i := 489) (by decide +kernel), List.mem_of_getElem? (i := 490) (by decide +kernel)⟩
theorem lw_p8 : lw_okq (⟨"TankPlant$Plant", "repeatLast", "(I)I"⟩, 5) := ⟨⟨by decide +kernel, by decide +kernel⟩, List.mem_of_getElem? (i := 25) (by decide +kernel), List.mem_of_getElem? (i := 498) (by decide +kernel), List.mem_of_getElem? (i := 499) (by decide +kernel)⟩
theorem lw_p9 : lw_okq (⟨"TankPlant$Pumps", "steadyTicksOf", "(ILTankPlant$Tanks;I)I"⟩, 13) := ⟨⟨by decide +kernel, by decide +kernel⟩, List.mem_of_getElem? (i := 93) (by decide +kernel), List.mem_of_getElem? (i := 520) (by decide +kernel), List.mem_of_getElem? (i := 521) (by decide +kernel)⟩
theorem lw_p10 : lw_okq (⟨"TankPlant", "needLogged", "(I)V"⟩, 4) := ⟨⟨by decide +kernel, by decide +kernel⟩, List.mem_of_getElem? (i := 17) (by decide +kernel), List.mem_of_getElem? (i := 650) (by decide +kernel), List.mem_of_getElem? (i := 651) (by decide +kernel)⟩
theorem lw_p11 : lw_okq (⟨"TankPlantModel", "fail", "(I)I"⟩, 29) := ⟨⟨by decide +kernel, by decide +kernel⟩, List.mem_of_getElem? (i := 688) (by decide +kernel), List.mem_of_getElem? (i := 792) (by decide +kernel), List.mem_of_getElem? (i := 793) (by decide +kernel)⟩
theorem lw_p12 : lw_okq (⟨"TankPlantModel", "isTank", "(I)Z"⟩, 29) := ⟨⟨by decide +kernel, by decide +kernel⟩, List.mem_of_getElem? (i := 688) (by decide +kernel), List.mem_of_getElem? (i := 800) (by decide +kernel), List.mem_of_getElem? (i := 801) (by decide +kernel)⟩
theorem lw_p13 : lw_okq (⟨"TankPlantModel", "isSwitch", "(I)Z"⟩, 29) := ⟨⟨by decide +kernel, by decide +kernel⟩, List.mem_of_getElem? (i := 688) (by decide +kernel), List.mem_of_getElem? (i := 808) (by decide +kernel), List.mem_of_getElem? (i := 809) (by decide +kernel)⟩
theorem lw_p14 : lw_okq (⟨"TankPlantModel", "isPump", "(I)Z"⟩, 29) := ⟨⟨by decide +kernel, by decide +kernel⟩, List.mem_of_getElem? (i := 688) (by decide +kernel), List.mem_of_getElem? (i := 824) (by decide +kernel), List.mem_of_getElem? (i := 825) (by decide +kernel)⟩
theorem lw_p15 : lw_okq (⟨"TankPlantModel", "tick", "()I"⟩, 29) := ⟨⟨by decide +kernel, by decide +kernel⟩, List.mem_of_getElem? (i := 688) (by decide +kernel), List.mem_of_getElem? (i := 832) (by decide +kernel), List.mem_of_getElem? (i := 833) (by decide +kernel)⟩
def lw_privs_1 : List (MethodName × Nat) := [(⟨"java/lang/Throwable", "fillInStackTrace", "(I)Ljava/lang/Throwable;"⟩, 6), (⟨"TankPlant", "needTank", "(I)V"⟩, 4), (⟨"TankPlant", "needTankOrOutside", "(I)V"⟩, 4), (⟨"TankPlant", "needSwitch", "(I)V"⟩, 4), (⟨"TankPlant", "needPump", "(I)V"⟩, 4), (⟨"TankPlant$Plant", "tick", "()I"⟩, 5), (⟨"TankPlant$Pumps", "move", "(ILTankPlant$Tanks;)V"⟩, 13), (⟨"TankPlant$Pumps", "enter", "(II)V"⟩, 13), (⟨"TankPlant$Plant", "repeatLast", "(I)I"⟩, 5), (⟨"TankPlant$Pumps", "steadyTicksOf", "(ILTankPlant$Tanks;I)I"⟩, 13), (⟨"TankPlant", "needLogged", "(I)V"⟩, 4), (⟨"TankPlantModel", "fail", "(I)I"⟩, 29), (⟨"TankPlantModel", "isTank", "(I)Z"⟩, 29), (⟨"TankPlantModel", "isSwitch", "(I)Z"⟩, 29), (⟨"TankPlantModel", "isPump", "(I)Z"⟩, 29), (⟨"TankPlantModel", "tick", "()I"⟩, 29)]
theorem lw_r1 : ∀ q ∈ lw_privs_1, lw_okq q := List.forall_mem_cons.mpr ⟨lw_p0, List.forall_mem_cons.mpr ⟨lw_p1, List.forall_mem_cons.mpr ⟨lw_p2, List.forall_mem_cons.mpr ⟨lw_p3, List.forall_mem_cons.mpr ⟨lw_p4, List.forall_mem_cons.mpr ⟨lw_p5, List.forall_mem_cons.mpr ⟨lw_p6, List.forall_mem_cons.mpr ⟨lw_p7, List.forall_mem_cons.mpr ⟨lw_p8, List.forall_mem_cons.mpr ⟨lw_p9, List.forall_mem_cons.mpr ⟨lw_p10, List.forall_mem_cons.mpr ⟨lw_p11, List.forall_mem_cons.mpr ⟨lw_p12, List.forall_mem_cons.mpr ⟨lw_p13, List.forall_mem_cons.mpr ⟨lw_p14, List.forall_mem_cons.mpr ⟨lw_p15, fun _ h => absurd h List.not_mem_nil⟩⟩⟩⟩⟩⟩⟩⟩⟩⟩⟩⟩⟩⟩⟩⟩
theorem lw_p16 : lw_okq (⟨"TankPlantModel", "turn", "()I"⟩, 29) := ⟨⟨by decide +kernel, by decide +kernel⟩, List.mem_of_getElem? (i := 688) (by decide +kernel), List.mem_of_getElem? (i := 836) (by decide +kernel), List.mem_of_getElem? (i := 837) (by decide +kernel)⟩
theorem lw_p17 : lw_okq (⟨"TankPlantModel", "log", "(I)V"⟩, 29) := ⟨⟨by decide +kernel, by decide +kernel⟩, List.mem_of_getElem? (i := 688) (by decide +kernel), List.mem_of_getElem? (i := 840) (by decide +kernel), List.mem_of_getElem? (i := 841) (by decide +kernel)⟩
theorem lw_p18 : lw_okq (⟨"TankPlantModel", "pump", "(I)V"⟩, 29) := ⟨⟨by decide +kernel, by decide +kernel⟩, List.mem_of_getElem? (i := 688) (by decide +kernel), List.mem_of_getElem? (i := 844) (by decide +kernel), List.mem_of_getElem? (i := 845) (by decide +kernel)⟩
theorem lw_p19 : lw_okq (⟨"TankPlantModel", "write", "(I)V"⟩, 29) := ⟨⟨by decide +kernel, by decide +kernel⟩, List.mem_of_getElem? (i := 688) (by decide +kernel), List.mem_of_getElem? (i := 857) (by decide +kernel), List.mem_of_getElem? (i := 858) (by decide +kernel)⟩
theorem lw_p20 : lw_okq (⟨"TankPlantModel", "put", "(J)V"⟩, 29) := ⟨⟨by decide +kernel, by decide +kernel⟩, List.mem_of_getElem? (i := 688) (by decide +kernel), List.mem_of_getElem? (i := 861) (by decide +kernel), List.mem_of_getElem? (i := 862) (by decide +kernel)⟩
theorem lw_p21 : lw_okq (⟨"TankPlantModel", "read", "(I)V"⟩, 29) := ⟨⟨by decide +kernel, by decide +kernel⟩, List.mem_of_getElem? (i := 688) (by decide +kernel), List.mem_of_getElem? (i := 865) (by decide +kernel), List.mem_of_getElem? (i := 866) (by decide +kernel)⟩
theorem lw_p22 : lw_okq (⟨"TankPlantModel", "take", "()J"⟩, 29) := ⟨⟨by decide +kernel, by decide +kernel⟩, List.mem_of_getElem? (i := 688) (by decide +kernel), List.mem_of_getElem? (i := 869) (by decide +kernel), List.mem_of_getElem? (i := 870) (by decide +kernel)⟩
theorem lw_p23 : lw_okq (⟨"TankPlantModel", "isLogged", "(I)Z"⟩, 29) := ⟨⟨by decide +kernel, by decide +kernel⟩, List.mem_of_getElem? (i := 688) (by decide +kernel), List.mem_of_getElem? (i := 917) (by decide +kernel), List.mem_of_getElem? (i := 918) (by decide +kernel)⟩
def lw_privs_2 : List (MethodName × Nat) := [(⟨"TankPlantModel", "turn", "()I"⟩, 29), (⟨"TankPlantModel", "log", "(I)V"⟩, 29), (⟨"TankPlantModel", "pump", "(I)V"⟩, 29), (⟨"TankPlantModel", "write", "(I)V"⟩, 29), (⟨"TankPlantModel", "put", "(J)V"⟩, 29), (⟨"TankPlantModel", "read", "(I)V"⟩, 29), (⟨"TankPlantModel", "take", "()J"⟩, 29), (⟨"TankPlantModel", "isLogged", "(I)Z"⟩, 29)]
theorem lw_r2 : ∀ q ∈ lw_privs_2, lw_okq q := List.forall_mem_cons.mpr ⟨lw_p16, List.forall_mem_cons.mpr ⟨lw_p17, List.forall_mem_cons.mpr ⟨lw_p18, List.forall_mem_cons.mpr ⟨lw_p19, List.forall_mem_cons.mpr ⟨lw_p20, List.forall_mem_cons.mpr ⟨lw_p21, List.forall_mem_cons.mpr ⟨lw_p22, List.forall_mem_cons.mpr ⟨lw_p23, fun _ h => absurd h List.not_mem_nil⟩⟩⟩⟩⟩⟩⟩⟩
def lw_privs : List (MethodName × Nat) := lw_privs_1 ++ (lw_privs_2)
def lw_tbl : List Cond := k2_sels lw_privs ++ tables_1
theorem lw_privs_ok : ∀ q ∈ lw_privs, lw_okq q := by
  show ∀ q ∈ lw_privs_1 ++ (lw_privs_2), lw_okq q
  exact List.forall_mem_append.mpr ⟨lw_r1, lw_r2⟩
/-- the streams that the claim lets the run draw from -/
abbrev lw_cs : List Choice := [Jvm.Choice.named "NaN.bits"]
theorem lw_bits : nanBits ∈ lw_cs := by first | decide | exact List.mem_cons_self | simp [lw_cs, nanBits]

def RX0 : String := "TankPlant$ChangeLog"
def TX0 : u_T := fun k => match k with
  | 0 => ("TankPlant$ChangeLog", "count", "J", false)
  | 1 => ("TankPlant$ChangeLog", "times", "[J", true)
  | _ => ("TankPlant$ChangeLog", "numbers", "[I", true)
def tyX0 : Nat → FieldType := fun k => match k with
  | 0 => .long
  | 1 => .array .long
  | _ => .array .int
abbrev wsX00 : List Cond := u_ws RX0 TX0 3
theorem nmX0 : ∀ a, a < 3 → ∀ b, b < 3 → a ≠ b → (TX0 a).2.1 ≠ (TX0 b).2.1 := by decide +kernel
theorem tyX0_ok : ∀ k, k < 3 → parseFieldDescriptor (TX0 k).2.2.1 = some (tyX0 k) := by decide +kernel
abbrev cX0_init : ByteArray := prog_2_method_1_code
def yX0_init : MethodName := ⟨RX0, "<init>", "()V"⟩
abbrev cX0_note : ByteArray := prog_2_method_2_code
def yX0_note : MethodName := ⟨RX0, "note", "(JI)V"⟩
abbrev cX0_kept : ByteArray := prog_2_method_3_code
def yX0_kept : MethodName := ⟨RX0, "kept", "()I"⟩
abbrev cX0_slotOf : ByteArray := prog_2_method_4_code
def yX0_slotOf : MethodName := ⟨RX0, "slotOf", "(I)I"⟩
abbrev cX0_copyFrom : ByteArray := prog_2_method_5_code
def yX0_copyFrom : MethodName := ⟨RX0, "copyFrom", "(LTankPlant$ChangeLog;)V"⟩
def RX1 : String := "TankPlant$Plant"
def TX1 : u_T := fun k => match k with
  | 0 => ("TankPlant$Plant", "tanks", "LTankPlant$Tanks;", true)
  | 1 => ("TankPlant$Plant", "switches", "LTankPlant$Switches;", true)
  | 2 => ("TankPlant$Plant", "pumps", "LTankPlant$Pumps;", true)
  | 3 => ("TankPlant$Plant", "log", "LTankPlant$ChangeLog;", true)
  | _ => ("TankPlant$Plant", "time", "J", false)
def tyX1 : Nat → FieldType := fun k => match k with
  | 0 => .object "TankPlant$Tanks"
  | 1 => .object "TankPlant$Switches"
  | 2 => .object "TankPlant$Pumps"
  | 3 => .object "TankPlant$ChangeLog"
  | _ => .long
abbrev wsX10 : List Cond := u_ws RX1 TX1 5
theorem nmX1 : ∀ a, a < 5 → ∀ b, b < 5 → a ≠ b → (TX1 a).2.1 ≠ (TX1 b).2.1 := by decide +kernel
theorem tyX1_ok : ∀ k, k < 5 → parseFieldDescriptor (TX1 k).2.2.1 = some (tyX1 k) := by decide +kernel
abbrev cX1_init : ByteArray := prog_3_method_1_code
def yX1_init : MethodName := ⟨RX1, "<init>", "()V"⟩
abbrev cX1_copyFrom : ByteArray := prog_3_method_2_code
def yX1_copyFrom : MethodName := ⟨RX1, "copyFrom", "(LTankPlant$Plant;)V"⟩
abbrev cX1_advance : ByteArray := prog_3_method_3_code
def yX1_advance : MethodName := ⟨RX1, "advance", "(I)I"⟩
abbrev cX1_advanceUntil : ByteArray := prog_3_method_4_code
def yX1_advanceUntil : MethodName := ⟨RX1, "advanceUntil", "(IIZI)I"⟩
abbrev cX1_advanceToChange : ByteArray := prog_3_method_5_code
def yX1_advanceToChange : MethodName := ⟨RX1, "advanceToChange", "(I)I"⟩
abbrev cX1_tick : ByteArray := prog_3_method_6_code
def yX1_tick : MethodName := ⟨RX1, "tick", "()I"⟩
abbrev cX1_repeatLast : ByteArray := prog_3_method_7_code
def yX1_repeatLast : MethodName := ⟨RX1, "repeatLast", "(I)I"⟩
def RX2 : String := "TankPlant$Pumps"
def TX2 : u_T := fun k => match k with
  | 0 => ("TankPlant$Pumps", "count", "I", false)
  | 1 => ("TankPlant$Pumps", "from", "[I", true)
  | 2 => ("TankPlant$Pumps", "to", "[I", true)
  | 3 => ("TankPlant$Pumps", "rate", "[I", true)
  | 4 => ("TankPlant$Pumps", "lift", "[I", true)
  | 5 => ("TankPlant$Pumps", "control", "[I", true)
  | 6 => ("TankPlant$Pumps", "inverted", "[Z", true)
  | 7 => ("TankPlant$Pumps", "total", "[J", true)
  | 8 => ("TankPlant$Pumps", "energy", "[J", true)
  | 9 => ("TankPlant$Pumps", "shortTicks", "[J", true)
  | 10 => ("TankPlant$Pumps", "amount", "[I", true)
  | 11 => ("TankPlant$Pumps", "sourceLeft", "[I", true)
  | _ => ("TankPlant$Pumps", "roomLeft", "[I", true)
def tyX2 : Nat → FieldType := fun k => match k with
  | 0 => .int
  | 1 => .array .int
  | 2 => .array .int
  | 3 => .array .int
  | 4 => .array .int
  | 5 => .array .int
  | 6 => .array .boolean
  | 7 => .array .long
  | 8 => .array .long
  | 9 => .array .long
  | 10 => .array .int
  | 11 => .array .int
  | _ => .array .int
abbrev wsX20 : List Cond := u_ws RX2 TX2 13
theorem nmX2 : ∀ a, a < 13 → ∀ b, b < 13 → a ≠ b → (TX2 a).2.1 ≠ (TX2 b).2.1 := by decide +kernel
theorem tyX2_ok : ∀ k, k < 13 → parseFieldDescriptor (TX2 k).2.2.1 = some (tyX2 k) := by decide +kernel
abbrev cX2_init : ByteArray := prog_4_method_1_code
def yX2_init : MethodName := ⟨RX2, "<init>", "()V"⟩
abbrev cX2_append : ByteArray := prog_4_method_2_code
def yX2_append : MethodName := ⟨RX2, "append", "(IIIIIZ)I"⟩
abbrev cX2_copyFrom : ByteArray := prog_4_method_3_code
def yX2_copyFrom : MethodName := ⟨RX2, "copyFrom", "(LTankPlant$Pumps;)V"⟩
abbrev cX2_isActive : ByteArray := prog_4_method_4_code
def yX2_isActive : MethodName := ⟨RX2, "isActive", "(ILTankPlant$Switches;)Z"⟩
abbrev cX2_moveAll : ByteArray := prog_4_method_5_code
def yX2_moveAll : MethodName := ⟨RX2, "moveAll", "(LTankPlant$Tanks;LTankPlant$Switches;)V"⟩
abbrev cX2_move : ByteArray := prog_4_method_6_code
def yX2_move : MethodName := ⟨RX2, "move", "(ILTankPlant$Tanks;)V"⟩
abbrev cX2_enter : ByteArray := prog_4_method_7_code
def yX2_enter : MethodName := ⟨RX2, "enter", "(II)V"⟩
abbrev cX2_steadyTicks : ByteArray := prog_4_method_8_code
def yX2_steadyTicks : MethodName := ⟨RX2, "steadyTicks", "(LTankPlant$Tanks;LTankPlant$Switches;I)I"⟩
abbrev cX2_steadyTicksOf : ByteArray := prog_4_method_9_code
def yX2_steadyTicksOf : MethodName := ⟨RX2, "steadyTicksOf", "(ILTankPlant$Tanks;I)I"⟩
abbrev cX2_repeat : ByteArray := prog_4_method_10_code
def yX2_repeat : MethodName := ⟨RX2, "repeat", "(LTankPlant$Switches;I)V"⟩
abbrev cX2_cameIn : ByteArray := prog_4_method_11_code
def yX2_cameIn : MethodName := ⟨RX2, "cameIn", "()J"⟩
abbrev cX2_wentOut : ByteArray := prog_4_method_12_code
def yX2_wentOut : MethodName := ⟨RX2, "wentOut", "()J"⟩
abbrev cX2_mixedInto : ByteArray := prog_4_method_13_code
def yX2_mixedInto : MethodName := ⟨RX2, "mixedInto", "(J)J"⟩
def RX3 : String := "TankPlant$Switches"
def TX3 : u_T := fun k => match k with
  | 0 => ("TankPlant$Switches", "count", "I", false)
  | 1 => ("TankPlant$Switches", "tank", "[I", true)
  | 2 => ("TankPlant$Switches", "low", "[I", true)
  | 3 => ("TankPlant$Switches", "high", "[I", true)
  | _ => ("TankPlant$Switches", "on", "[Z", true)
def tyX3 : Nat → FieldType := fun k => match k with
  | 0 => .int
  | 1 => .array .int
  | 2 => .array .int
  | 3 => .array .int
  | _ => .array .boolean
abbrev wsX30 : List Cond := u_ws RX3 TX3 5
theorem nmX3 : ∀ a, a < 5 → ∀ b, b < 5 → a ≠ b → (TX3 a).2.1 ≠ (TX3 b).2.1 := by decide +kernel
theorem tyX3_ok : ∀ k, k < 5 → parseFieldDescriptor (TX3 k).2.2.1 = some (tyX3 k) := by decide +kernel
abbrev cX3_init : ByteArray := prog_5_method_1_code
def yX3_init : MethodName := ⟨RX3, "<init>", "()V"⟩
abbrev cX3_append : ByteArray := prog_5_method_2_code
def yX3_append : MethodName := ⟨RX3, "append", "(III)I"⟩
abbrev cX3_copyFrom : ByteArray := prog_5_method_3_code
def yX3_copyFrom : MethodName := ⟨RX3, "copyFrom", "(LTankPlant$Switches;)V"⟩
abbrev cX3_follow : ByteArray := prog_5_method_4_code
def yX3_follow : MethodName := ⟨RX3, "follow", "(LTankPlant$Tanks;LTankPlant$ChangeLog;J)I"⟩
abbrev cX3_steadyTicks : ByteArray := prog_5_method_5_code
def yX3_steadyTicks : MethodName := ⟨RX3, "steadyTicks", "(LTankPlant$Tanks;I)I"⟩
abbrev cX3_mixedInto : ByteArray := prog_5_method_6_code
def yX3_mixedInto : MethodName := ⟨RX3, "mixedInto", "(J)J"⟩
def RX4 : String := "TankPlant$Tanks"
def TX4 : u_T := fun k => match k with
  | 0 => ("TankPlant$Tanks", "count", "I", false)
  | 1 => ("TankPlant$Tanks", "capacity", "[I", true)
  | 2 => ("TankPlant$Tanks", "level", "[I", true)
  | 3 => ("TankPlant$Tanks", "leak", "[I", true)
  | 4 => ("TankPlant$Tanks", "levelSum", "[J", true)
  | _ => ("TankPlant$Tanks", "before", "[I", true)
def tyX4 : Nat → FieldType := fun k => match k with
  | 0 => .int
  | 1 => .array .int
  | 2 => .array .int
  | 3 => .array .int
  | 4 => .array .long
  | _ => .array .int
abbrev wsX40 : List Cond := u_ws RX4 TX4 6
theorem nmX4 : ∀ a, a < 6 → ∀ b, b < 6 → a ≠ b → (TX4 a).2.1 ≠ (TX4 b).2.1 := by decide +kernel
theorem tyX4_ok : ∀ k, k < 6 → parseFieldDescriptor (TX4 k).2.2.1 = some (tyX4 k) := by decide +kernel
abbrev cX4_init : ByteArray := prog_6_method_1_code
def yX4_init : MethodName := ⟨RX4, "<init>", "()V"⟩
abbrev cX4_append : ByteArray := prog_6_method_2_code
def yX4_append : MethodName := ⟨RX4, "append", "(III)I"⟩
abbrev cX4_copyFrom : ByteArray := prog_6_method_3_code
def yX4_copyFrom : MethodName := ⟨RX4, "copyFrom", "(LTankPlant$Tanks;)V"⟩
abbrev cX4_noteLevels : ByteArray := prog_6_method_4_code
def yX4_noteLevels : MethodName := ⟨RX4, "noteLevels", "()V"⟩
abbrev cX4_leakAndSum : ByteArray := prog_6_method_5_code
def yX4_leakAndSum : MethodName := ⟨RX4, "leakAndSum", "()V"⟩
abbrev cX4_drift : ByteArray := prog_6_method_6_code
def yX4_drift : MethodName := ⟨RX4, "drift", "(I)I"⟩
abbrev cX4_hasReached : ByteArray := prog_6_method_7_code
def yX4_hasReached : MethodName := ⟨RX4, "hasReached", "(IIZ)Z"⟩
abbrev cX4_ticksShortOf : ByteArray := prog_6_method_8_code
def yX4_ticksShortOf : MethodName := ⟨RX4, "ticksShortOf", "(IIZI)I"⟩
abbrev cX4_steadyTicks : ByteArray := prog_6_method_9_code
def yX4_steadyTicks : MethodName := ⟨RX4, "steadyTicks", "(I)I"⟩
abbrev cX4_repeat : ByteArray := prog_6_method_10_code
def yX4_repeat : MethodName := ⟨RX4, "repeat", "(I)V"⟩
abbrev cX4_mixedInto : ByteArray := prog_6_method_11_code
def yX4_mixedInto : MethodName := ⟨RX4, "mixedInto", "(J)J"⟩
def RX5 : String := "TankPlant"
def TX5 : u_T := fun k => match k with
  | 0 => ("TankPlant", "plant", "LTankPlant$Plant;", true)
  | 1 => ("TankPlant", "trial", "LTankPlant$Plant;", true)
  | 2 => ("TankPlant", "depots", "[LTankPlant$Plant;", true)
  | _ => ("TankPlant", "depotCount", "I", false)
def tyX5 : Nat → FieldType := fun k => match k with
  | 0 => .object "TankPlant$Plant"
  | 1 => .object "TankPlant$Plant"
  | 2 => .array (.object "TankPlant$Plant")
  | _ => .int
abbrev wsX50 : List Cond := u_ws RX5 TX5 4
theorem nmX5 : ∀ a, a < 4 → ∀ b, b < 4 → a ≠ b → (TX5 a).2.1 ≠ (TX5 b).2.1 := by decide +kernel
theorem tyX5_ok : ∀ k, k < 4 → parseFieldDescriptor (TX5 k).2.2.1 = some (tyX5 k) := by decide +kernel
abbrev cX5_init : ByteArray := prog_1_method_1_code
def yX5_init : MethodName := ⟨RX5, "<init>", "()V"⟩
abbrev cX5_addTank : ByteArray := prog_1_method_2_code
def yX5_addTank : MethodName := ⟨RX5, "addTank", "(III)I"⟩
abbrev cX5_addSwitch : ByteArray := prog_1_method_3_code
def yX5_addSwitch : MethodName := ⟨RX5, "addSwitch", "(III)I"⟩
abbrev cX5_addPump : ByteArray := prog_1_method_4_code
def yX5_addPump : MethodName := ⟨RX5, "addPump", "(IIIIIZ)I"⟩
abbrev cX5_setLevel : ByteArray := prog_1_method_5_code
def yX5_setLevel : MethodName := ⟨RX5, "setLevel", "(II)I"⟩
abbrev cX5_setLeak : ByteArray := prog_1_method_6_code
def yX5_setLeak : MethodName := ⟨RX5, "setLeak", "(II)I"⟩
abbrev cX5_setRate : ByteArray := prog_1_method_7_code
def yX5_setRate : MethodName := ⟨RX5, "setRate", "(II)I"⟩
abbrev cX5_run : ByteArray := prog_1_method_8_code
def yX5_run : MethodName := ⟨RX5, "run", "(I)I"⟩
abbrev cX5_runUntil : ByteArray := prog_1_method_9_code
def yX5_runUntil : MethodName := ⟨RX5, "runUntil", "(IIZI)I"⟩
abbrev cX5_nextChange : ByteArray := prog_1_method_10_code
def yX5_nextChange : MethodName := ⟨RX5, "nextChange", "(I)I"⟩
abbrev cX5_time : ByteArray := prog_1_method_11_code
def yX5_time : MethodName := ⟨RX5, "time", "()J"⟩
abbrev cX5_level : ByteArray := prog_1_method_12_code
def yX5_level : MethodName := ⟨RX5, "level", "(I)I"⟩
abbrev cX5_levelSum : ByteArray := prog_1_method_13_code
def yX5_levelSum : MethodName := ⟨RX5, "levelSum", "(I)J"⟩
abbrev cX5_meanLevel : ByteArray := prog_1_method_14_code
def yX5_meanLevel : MethodName := ⟨RX5, "meanLevel", "(I)D"⟩
abbrev cX5_isOn : ByteArray := prog_1_method_15_code
def yX5_isOn : MethodName := ⟨RX5, "isOn", "(I)Z"⟩
abbrev cX5_total : ByteArray := prog_1_method_16_code
def yX5_total : MethodName := ⟨RX5, "total", "(I)J"⟩
abbrev cX5_energy : ByteArray := prog_1_method_17_code
def yX5_energy : MethodName := ⟨RX5, "energy", "(I)J"⟩
abbrev cX5_shortTicks : ByteArray := prog_1_method_18_code
def yX5_shortTicks : MethodName := ⟨RX5, "shortTicks", "(I)J"⟩
abbrev cX5_balance : ByteArray := prog_1_method_19_code
def yX5_balance : MethodName := ⟨RX5, "balance", "()J"⟩
abbrev cX5_changeCount : ByteArray := prog_1_method_20_code
def yX5_changeCount : MethodName := ⟨RX5, "changeCount", "()J"⟩
abbrev cX5_changeTime : ByteArray := prog_1_method_21_code
def yX5_changeTime : MethodName := ⟨RX5, "changeTime", "(I)J"⟩
abbrev cX5_changeSwitch : ByteArray := prog_1_method_22_code
def yX5_changeSwitch : MethodName := ⟨RX5, "changeSwitch", "(I)I"⟩
abbrev cX5_save : ByteArray := prog_1_method_23_code
def yX5_save : MethodName := ⟨RX5, "save", "()I"⟩
abbrev cX5_restore : ByteArray := prog_1_method_24_code
def yX5_restore : MethodName := ⟨RX5, "restore", "()I"⟩
abbrev cX5_digest : ByteArray := prog_1_method_25_code
def yX5_digest : MethodName := ⟨RX5, "digest", "()J"⟩
abbrev cX5_needTank : ByteArray := prog_1_method_26_code
def yX5_needTank : MethodName := ⟨RX5, "needTank", "(I)V"⟩
abbrev cX5_needTankOrOutside : ByteArray := prog_1_method_27_code
def yX5_needTankOrOutside : MethodName := ⟨RX5, "needTankOrOutside", "(I)V"⟩
abbrev cX5_needSwitch : ByteArray := prog_1_method_28_code
def yX5_needSwitch : MethodName := ⟨RX5, "needSwitch", "(I)V"⟩
abbrev cX5_needPump : ByteArray := prog_1_method_29_code
def yX5_needPump : MethodName := ⟨RX5, "needPump", "(I)V"⟩
abbrev cX5_needLogged : ByteArray := prog_1_method_30_code
def yX5_needLogged : MethodName := ⟨RX5, "needLogged", "(I)V"⟩
abbrev cX5_needAmount : ByteArray := prog_1_method_31_code
def yX5_needAmount : MethodName := ⟨RX5, "needAmount", "(II)V"⟩
abbrev cX5_needLeak : ByteArray := prog_1_method_32_code
def yX5_needLeak : MethodName := ⟨RX5, "needLeak", "(I)V"⟩
abbrev cX5_needRate : ByteArray := prog_1_method_33_code
def yX5_needRate : MethodName := ⟨RX5, "needRate", "(I)V"⟩
abbrev cX5_needTicks : ByteArray := prog_1_method_34_code
def yX5_needTicks : MethodName := ⟨RX5, "needTicks", "(II)V"⟩
abbrev cX5_isWithin : ByteArray := prog_1_method_35_code
def yX5_isWithin : MethodName := ⟨RX5, "isWithin", "(III)Z"⟩
abbrev cX5_mix : ByteArray := prog_1_method_36_code
def yX5_mix : MethodName := ⟨RX5, "mix", "(JJ)J"⟩
abbrev cX5_ticksWhile : ByteArray := prog_1_method_37_code
def yX5_ticksWhile : MethodName := ⟨RX5, "ticksWhile", "(JJI)I"⟩
def RX6 : String := "TankPlantModel"
def TX6 : u_T := fun k => match k with
  | 0 => ("TankPlantModel", "thrown", "I", false)
  | 1 => ("TankPlantModel", "tanks", "I", false)
  | 2 => ("TankPlantModel", "capacities", "[I", true)
  | 3 => ("TankPlantModel", "switches", "I", false)
  | 4 => ("TankPlantModel", "watched", "[I", true)
  | 5 => ("TankPlantModel", "lows", "[I", true)
  | 6 => ("TankPlantModel", "highs", "[I", true)
  | 7 => ("TankPlantModel", "pumps", "I", false)
  | 8 => ("TankPlantModel", "froms", "[I", true)
  | 9 => ("TankPlantModel", "tos", "[I", true)
  | 10 => ("TankPlantModel", "lifts", "[I", true)
  | 11 => ("TankPlantModel", "controls", "[I", true)
  | 12 => ("TankPlantModel", "areInverted", "[Z", true)
  | 13 => ("TankPlantModel", "levels", "[I", true)
  | 14 => ("TankPlantModel", "leaks", "[I", true)
  | 15 => ("TankPlantModel", "sums", "[J", true)
  | 16 => ("TankPlantModel", "areOn", "[Z", true)
  | 17 => ("TankPlantModel", "rates", "[I", true)
  | 18 => ("TankPlantModel", "totals", "[J", true)
  | 19 => ("TankPlantModel", "energies", "[J", true)
  | 20 => ("TankPlantModel", "shorts", "[J", true)
  | 21 => ("TankPlantModel", "time", "J", false)
  | 22 => ("TankPlantModel", "changes", "J", false)
  | 23 => ("TankPlantModel", "logged", "I", false)
  | 24 => ("TankPlantModel", "logTimes", "[J", true)
  | 25 => ("TankPlantModel", "logSwitches", "[I", true)
  | 26 => ("TankPlantModel", "depots", "I", false)
  | 27 => ("TankPlantModel", "stored", "[J", true)
  | _ => ("TankPlantModel", "at", "I", false)
def tyX6 : Nat → FieldType := fun k => match k with
  | 0 => .int
  | 1 => .int
  | 2 => .array .int
  | 3 => .int
  | 4 => .array .int
  | 5 => .array .int
  | 6 => .array .int
  | 7 => .int
  | 8 => .array .int
  | 9 => .array .int
  | 10 => .array .int
  | 11 => .array .int
  | 12 => .array .boolean
  | 13 => .array .int
  | 14 => .array .int
  | 15 => .array .long
  | 16 => .array .boolean
  | 17 => .array .int
  | 18 => .array .long
  | 19 => .array .long
  | 20 => .array .long
  | 21 => .long
  | 22 => .long
  | 23 => .int
  | 24 => .array .long
  | 25 => .array .int
  | 26 => .int
  | 27 => .array .long
  | _ => .int
abbrev wsX60 : List Cond := u_ws RX6 TX6 29
theorem nmX6 : ∀ a, a < 29 → ∀ b, b < 29 → a ≠ b → (TX6 a).2.1 ≠ (TX6 b).2.1 := by decide +kernel
theorem tyX6_ok : ∀ k, k < 29 → parseFieldDescriptor (TX6 k).2.2.1 = some (tyX6 k) := by decide +kernel
abbrev cX6_init : ByteArray := prog_8_method_1_code
def yX6_init : MethodName := ⟨RX6, "<init>", "()V"⟩
abbrev cX6_thrown : ByteArray := prog_8_method_2_code
def yX6_thrown : MethodName := ⟨RX6, "thrown", "()I"⟩
abbrev cX6_fail : ByteArray := prog_8_method_3_code
def yX6_fail : MethodName := ⟨RX6, "fail", "(I)I"⟩
abbrev cX6_isTank : ByteArray := prog_8_method_4_code
def yX6_isTank : MethodName := ⟨RX6, "isTank", "(I)Z"⟩
abbrev cX6_isSwitch : ByteArray := prog_8_method_5_code
def yX6_isSwitch : MethodName := ⟨RX6, "isSwitch", "(I)Z"⟩
abbrev cX6_isPump : ByteArray := prog_8_method_6_code
def yX6_isPump : MethodName := ⟨RX6, "isPump", "(I)Z"⟩
abbrev cX6_addTank : ByteArray := prog_8_method_7_code
def yX6_addTank : MethodName := ⟨RX6, "addTank", "(III)I"⟩
abbrev cX6_addSwitch : ByteArray := prog_8_method_8_code
def yX6_addSwitch : MethodName := ⟨RX6, "addSwitch", "(III)I"⟩
abbrev cX6_addPump : ByteArray := prog_8_method_9_code
def yX6_addPump : MethodName := ⟨RX6, "addPump", "(IIIIIZ)I"⟩
abbrev cX6_setLevel : ByteArray := prog_8_method_10_code
def yX6_setLevel : MethodName := ⟨RX6, "setLevel", "(II)I"⟩
abbrev cX6_setLeak : ByteArray := prog_8_method_11_code
def yX6_setLeak : MethodName := ⟨RX6, "setLeak", "(II)I"⟩
abbrev cX6_setRate : ByteArray := prog_8_method_12_code
def yX6_setRate : MethodName := ⟨RX6, "setRate", "(II)I"⟩
abbrev cX6_log : ByteArray := prog_8_method_13_code
def yX6_log : MethodName := ⟨RX6, "log", "(I)V"⟩
abbrev cX6_turn : ByteArray := prog_8_method_14_code
def yX6_turn : MethodName := ⟨RX6, "turn", "()I"⟩
abbrev cX6_pump : ByteArray := prog_8_method_15_code
def yX6_pump : MethodName := ⟨RX6, "pump", "(I)V"⟩
abbrev cX6_tick : ByteArray := prog_8_method_16_code
def yX6_tick : MethodName := ⟨RX6, "tick", "()I"⟩
abbrev cX6_run : ByteArray := prog_8_method_17_code
def yX6_run : MethodName := ⟨RX6, "run", "(I)I"⟩
abbrev cX6_runUntil : ByteArray := prog_8_method_18_code
def yX6_runUntil : MethodName := ⟨RX6, "runUntil", "(IIZI)I"⟩
abbrev cX6_nextChange : ByteArray := prog_8_method_19_code
def yX6_nextChange : MethodName := ⟨RX6, "nextChange", "(I)I"⟩
abbrev cX6_time : ByteArray := prog_8_method_20_code
def yX6_time : MethodName := ⟨RX6, "time", "()J"⟩
abbrev cX6_level : ByteArray := prog_8_method_21_code
def yX6_level : MethodName := ⟨RX6, "level", "(I)I"⟩
abbrev cX6_levelSum : ByteArray := prog_8_method_22_code
def yX6_levelSum : MethodName := ⟨RX6, "levelSum", "(I)J"⟩
abbrev cX6_meanLevel : ByteArray := prog_8_method_23_code
def yX6_meanLevel : MethodName := ⟨RX6, "meanLevel", "(I)D"⟩
abbrev cX6_isOn : ByteArray := prog_8_method_24_code
def yX6_isOn : MethodName := ⟨RX6, "isOn", "(I)Z"⟩
abbrev cX6_total : ByteArray := prog_8_method_25_code
def yX6_total : MethodName := ⟨RX6, "total", "(I)J"⟩
abbrev cX6_energy : ByteArray := prog_8_method_26_code
def yX6_energy : MethodName := ⟨RX6, "energy", "(I)J"⟩
abbrev cX6_shortTicks : ByteArray := prog_8_method_27_code
def yX6_shortTicks : MethodName := ⟨RX6, "shortTicks", "(I)J"⟩
abbrev cX6_balance : ByteArray := prog_8_method_28_code
def yX6_balance : MethodName := ⟨RX6, "balance", "()J"⟩
abbrev cX6_changeCount : ByteArray := prog_8_method_29_code
def yX6_changeCount : MethodName := ⟨RX6, "changeCount", "()J"⟩
abbrev cX6_isLogged : ByteArray := prog_8_method_30_code
def yX6_isLogged : MethodName := ⟨RX6, "isLogged", "(I)Z"⟩
abbrev cX6_changeTime : ByteArray := prog_8_method_31_code
def yX6_changeTime : MethodName := ⟨RX6, "changeTime", "(I)J"⟩
abbrev cX6_changeSwitch : ByteArray := prog_8_method_32_code
def yX6_changeSwitch : MethodName := ⟨RX6, "changeSwitch", "(I)I"⟩
abbrev cX6_put : ByteArray := prog_8_method_33_code
def yX6_put : MethodName := ⟨RX6, "put", "(J)V"⟩
abbrev cX6_take : ByteArray := prog_8_method_34_code
def yX6_take : MethodName := ⟨RX6, "take", "()J"⟩
abbrev cX6_write : ByteArray := prog_8_method_35_code
def yX6_write : MethodName := ⟨RX6, "write", "(I)V"⟩
abbrev cX6_read : ByteArray := prog_8_method_36_code
def yX6_read : MethodName := ⟨RX6, "read", "(I)V"⟩
abbrev cX6_save : ByteArray := prog_8_method_37_code
def yX6_save : MethodName := ⟨RX6, "save", "()I"⟩
abbrev cX6_restore : ByteArray := prog_8_method_38_code
def yX6_restore : MethodName := ⟨RX6, "restore", "()I"⟩
abbrev cX6_digest : ByteArray := prog_8_method_39_code
def yX6_digest : MethodName := ⟨RX6, "digest", "()J"⟩
def RJ9 : String := "java/lang/Math"
def TJ9 : u_T := fun k => match k with
  | _ => ("", "", "", false)
def tyJ9 : Nat → FieldType := fun k => match k with
  | _ => .int
abbrev wsJ90 : List Cond := u_ws RJ9 TJ9 0
theorem nmJ9 : ∀ a, a < 0 → ∀ b, b < 0 → a ≠ b → (TJ9 a).2.1 ≠ (TJ9 b).2.1 := by decide +kernel
theorem tyJ9_ok : ∀ k, k < 0 → parseFieldDescriptor (TJ9 k).2.2.1 = some (tyJ9 k) := by decide +kernel
abbrev cJ9_min_7cf53 : ByteArray := prog_13_method_69_code
def yJ9_min_7cf53 : MethodName := ⟨RJ9, "min", "(II)I"⟩
abbrev cJ9_min_f86c9 : ByteArray := prog_13_method_70_code
def yJ9_min_f86c9 : MethodName := ⟨RJ9, "min", "(JJ)J"⟩
def RJ0 : String := "java/lang/String"
def TJ0 : u_T := fun k => match k with
  | _ => ("", "", "", false)
def tyJ0 : Nat → FieldType := fun k => match k with
  | _ => .int
abbrev wsJ00 : List Cond := u_ws RJ0 TJ0 0
theorem nmJ0 : ∀ a, a < 0 → ∀ b, b < 0 → a ≠ b → (TJ0 a).2.1 ≠ (TJ0 b).2.1 := by decide +kernel
theorem tyJ0_ok : ∀ k, k < 0 → parseFieldDescriptor (TJ0 k).2.2.1 = some (tyJ0 k) := by decide +kernel
def RJ10 : String := "java/lang/System"
def TJ10 : u_T := fun k => match k with
  | _ => ("", "", "", false)
def tyJ10 : Nat → FieldType := fun k => match k with
  | _ => .int
abbrev wsJ100 : List Cond := u_ws RJ10 TJ10 0
theorem nmJ10 : ∀ a, a < 0 → ∀ b, b < 0 → a ≠ b → (TJ10 a).2.1 ≠ (TJ10 b).2.1 := by decide +kernel
theorem tyJ10_ok : ∀ k, k < 0 → parseFieldDescriptor (TJ10 k).2.2.1 = some (tyJ10 k) := by decide +kernel
def RL : String := "TankPlantLaw"
abbrev cL_addTank : ByteArray := method_3_code
def yL_addTank : MethodName := ⟨RL, "addTank", "(LTankPlant;III[J)I"⟩
abbrev cL_addSwitch : ByteArray := method_4_code
def yL_addSwitch : MethodName := ⟨RL, "addSwitch", "(LTankPlant;III[J)I"⟩
abbrev cL_addPump : ByteArray := method_5_code
def yL_addPump : MethodName := ⟨RL, "addPump", "(LTankPlant;IIIIIZ[J)I"⟩
abbrev cL_setLevel : ByteArray := method_6_code
def yL_setLevel : MethodName := ⟨RL, "setLevel", "(LTankPlant;II[J)I"⟩
abbrev cL_setLeak : ByteArray := method_7_code
def yL_setLeak : MethodName := ⟨RL, "setLeak", "(LTankPlant;II[J)I"⟩
abbrev cL_setRate : ByteArray := method_8_code
def yL_setRate : MethodName := ⟨RL, "setRate", "(LTankPlant;II[J)I"⟩
abbrev cL_run : ByteArray := method_9_code
def yL_run : MethodName := ⟨RL, "run", "(LTankPlant;I[J)I"⟩
abbrev cL_runUntil : ByteArray := method_10_code
def yL_runUntil : MethodName := ⟨RL, "runUntil", "(LTankPlant;IIZI[J)I"⟩
abbrev cL_nextChange : ByteArray := method_11_code
def yL_nextChange : MethodName := ⟨RL, "nextChange", "(LTankPlant;I[J)I"⟩
abbrev cL_level : ByteArray := method_12_code
def yL_level : MethodName := ⟨RL, "level", "(LTankPlant;I[J)I"⟩
abbrev cL_levelSum : ByteArray := method_13_code
def yL_levelSum : MethodName := ⟨RL, "levelSum", "(LTankPlant;I[J)I"⟩
abbrev cL_meanLevel : ByteArray := method_14_code
def yL_meanLevel : MethodName := ⟨RL, "meanLevel", "(LTankPlant;I[D)I"⟩
abbrev cL_isOn : ByteArray := method_15_code
def yL_isOn : MethodName := ⟨RL, "isOn", "(LTankPlant;I[J)I"⟩
abbrev cL_total : ByteArray := method_16_code
def yL_total : MethodName := ⟨RL, "total", "(LTankPlant;I[J)I"⟩
abbrev cL_energy : ByteArray := method_17_code
def yL_energy : MethodName := ⟨RL, "energy", "(LTankPlant;I[J)I"⟩
abbrev cL_shortTicks : ByteArray := method_18_code
def yL_shortTicks : MethodName := ⟨RL, "shortTicks", "(LTankPlant;I[J)I"⟩
abbrev cL_changeTime : ByteArray := method_19_code
def yL_changeTime : MethodName := ⟨RL, "changeTime", "(LTankPlant;I[J)I"⟩
abbrev cL_changeSwitch : ByteArray := method_20_code
def yL_changeSwitch : MethodName := ⟨RL, "changeSwitch", "(LTankPlant;I[J)I"⟩
abbrev cL_save : ByteArray := method_21_code
def yL_save : MethodName := ⟨RL, "save", "(LTankPlant;[J)I"⟩
abbrev cL_restore : ByteArray := method_22_code
def yL_restore : MethodName := ⟨RL, "restore", "(LTankPlant;[J)I"⟩
abbrev cL_law : ByteArray := code
def yL_law : MethodName := ⟨RL, "law", "([I)Z"⟩
abbrev vwCl : List vw_C := [(RX0, TX0, 3), (RX1, TX1, 5), (RX2, TX2, 13), (RX3, TX3, 5), (RX4, TX4, 6), (RX5, TX5, 4), (RX6, TX6, 29)]
end
section
theorem dX0_init_0 : decode cX0_init 0 = .ok (.aload_n 0, 1) := by decide +kernel
theorem dX0_init_1 : decode cX0_init 1 = .ok (.invokespecial 3, 3) := by decide +kernel
theorem dX0_init_4 : decode cX0_init 4 = .ok (.aload_n 0, 1) := by decide +kernel
theorem dX0_init_5 : decode cX0_init 5 = .ok (.bipush 30, 2) := by decide +kernel
theorem dX0_init_7 : decode cX0_init 7 = .ok (.newarray .long, 2) := by decide +kernel
theorem dX0_init_9 : decode cX0_init 9 = .ok (.putfield 9, 3) := by decide +kernel
theorem dX0_init_12 : decode cX0_init 12 = .ok (.aload_n 0, 1) := by decide +kernel
theorem dX0_init_13 : decode cX0_init 13 = .ok (.bipush 30, 2) := by decide +kernel
theorem dX0_init_15 : decode cX0_init 15 = .ok (.newarray .int, 2) := by decide +kernel
theorem dX0_init_17 : decode cX0_init 17 = .ok (.putfield 15, 3) := by decide +kernel
theorem dX0_init_20 : decode cX0_init 20 = .ok (.return_, 1) := by decide +kernel
theorem dX0_note_0 : decode cX0_note 0 = .ok (.aload_n 0, 1) := by decide +kernel
theorem dX0_note_1 : decode cX0_note 1 = .ok (.getfield 19, 3) := by decide +kernel
theorem dX0_note_4 : decode cX0_note 4 = .ok (.ldc2_w 23, 3) := by decide +kernel
theorem dX0_note_7 : decode cX0_note 7 = .ok (.lrem, 1) := by decide +kernel
theorem dX0_note_8 : decode cX0_note 8 = .ok (.l2i, 1) := by decide +kernel
theorem dX0_note_9 : decode cX0_note 9 = .ok (.istore 4, 2) := by decide +kernel
theorem dX0_note_11 : decode cX0_note 11 = .ok (.aload_n 0, 1) := by decide +kernel
theorem dX0_note_12 : decode cX0_note 12 = .ok (.getfield 9, 3) := by decide +kernel
theorem dX0_note_15 : decode cX0_note 15 = .ok (.iload 4, 2) := by decide +kernel
theorem dX0_note_17 : decode cX0_note 17 = .ok (.lload_n 1, 1) := by decide +kernel
theorem dX0_note_18 : decode cX0_note 18 = .ok (.lastore, 1) := by decide +kernel
theorem dX0_note_19 : decode cX0_note 19 = .ok (.aload_n 0, 1) := by decide +kernel
theorem dX0_note_20 : decode cX0_note 20 = .ok (.getfield 15, 3) := by decide +kernel
theorem dX0_note_23 : decode cX0_note 23 = .ok (.iload 4, 2) := by decide +kernel
theorem dX0_note_25 : decode cX0_note 25 = .ok (.iload_n 3, 1) := by decide +kernel
theorem dX0_note_26 : decode cX0_note 26 = .ok (.iastore, 1) := by decide +kernel
theorem dX0_note_27 : decode cX0_note 27 = .ok (.aload_n 0, 1) := by decide +kernel
theorem dX0_note_28 : decode cX0_note 28 = .ok (.dup, 1) := by decide +kernel
theorem dX0_note_29 : decode cX0_note 29 = .ok (.getfield 19, 3) := by decide +kernel
theorem dX0_note_32 : decode cX0_note 32 = .ok (.lconst 1, 1) := by decide +kernel
theorem dX0_note_33 : decode cX0_note 33 = .ok (.ladd, 1) := by decide +kernel
theorem dX0_note_34 : decode cX0_note 34 = .ok (.putfield 19, 3) := by decide +kernel
theorem dX0_note_37 : decode cX0_note 37 = .ok (.return_, 1) := by decide +kernel
theorem dX0_kept_0 : decode cX0_kept 0 = .ok (.aload_n 0, 1) := by decide +kernel
theorem dX0_kept_1 : decode cX0_kept 1 = .ok (.getfield 19, 3) := by decide +kernel
theorem dX0_kept_4 : decode cX0_kept 4 = .ok (.ldc2_w 23, 3) := by decide +kernel
theorem dX0_kept_7 : decode cX0_kept 7 = .ok (.invokestatic 25, 3) := by decide +kernel
theorem dX0_kept_10 : decode cX0_kept 10 = .ok (.l2i, 1) := by decide +kernel
theorem dX0_kept_11 : decode cX0_kept 11 = .ok (.ireturn, 1) := by decide +kernel
theorem dX0_slotOf_0 : decode cX0_slotOf 0 = .ok (.aload_n 0, 1) := by decide +kernel
theorem dX0_slotOf_1 : decode cX0_slotOf 1 = .ok (.getfield 19, 3) := by decide +kernel
theorem dX0_slotOf_4 : decode cX0_slotOf 4 = .ok (.aload_n 0, 1) := by decide +kernel
theorem dX0_slotOf_5 : decode cX0_slotOf 5 = .ok (.invokevirtual 31, 3) := by decide +kernel
theorem dX0_slotOf_8 : decode cX0_slotOf 8 = .ok (.i2l, 1) := by decide +kernel
theorem dX0_slotOf_9 : decode cX0_slotOf 9 = .ok (.lsub, 1) := by decide +kernel
theorem dX0_slotOf_10 : decode cX0_slotOf 10 = .ok (.iload_n 1, 1) := by decide +kernel
theorem dX0_slotOf_11 : decode cX0_slotOf 11 = .ok (.i2l, 1) := by decide +kernel
theorem dX0_slotOf_12 : decode cX0_slotOf 12 = .ok (.ladd, 1) := by decide +kernel
theorem dX0_slotOf_13 : decode cX0_slotOf 13 = .ok (.ldc2_w 23, 3) := by decide +kernel
theorem dX0_slotOf_16 : decode cX0_slotOf 16 = .ok (.lrem, 1) := by decide +kernel
theorem dX0_slotOf_17 : decode cX0_slotOf 17 = .ok (.l2i, 1) := by decide +kernel
theorem dX0_slotOf_18 : decode cX0_slotOf 18 = .ok (.ireturn, 1) := by decide +kernel
theorem dX0_copyFrom_0 : decode cX0_copyFrom 0 = .ok (.aload_n 0, 1) := by decide +kernel
theorem dX0_copyFrom_1 : decode cX0_copyFrom 1 = .ok (.aload_n 1, 1) := by decide +kernel
theorem dX0_copyFrom_2 : decode cX0_copyFrom 2 = .ok (.getfield 19, 3) := by decide +kernel
theorem dX0_copyFrom_5 : decode cX0_copyFrom 5 = .ok (.putfield 19, 3) := by decide +kernel
theorem dX0_copyFrom_8 : decode cX0_copyFrom 8 = .ok (.aload_n 1, 1) := by decide +kernel
theorem dX0_copyFrom_9 : decode cX0_copyFrom 9 = .ok (.getfield 9, 3) := by decide +kernel
theorem dX0_copyFrom_12 : decode cX0_copyFrom 12 = .ok (.iconst 0, 1) := by decide +kernel
theorem dX0_copyFrom_13 : decode cX0_copyFrom 13 = .ok (.aload_n 0, 1) := by decide +kernel
theorem dX0_copyFrom_14 : decode cX0_copyFrom 14 = .ok (.getfield 9, 3) := by decide +kernel
theorem dX0_copyFrom_17 : decode cX0_copyFrom 17 = .ok (.iconst 0, 1) := by decide +kernel
theorem dX0_copyFrom_18 : decode cX0_copyFrom 18 = .ok (.bipush 30, 2) := by decide +kernel
theorem dX0_copyFrom_20 : decode cX0_copyFrom 20 = .ok (.invokestatic 35, 3) := by decide +kernel
theorem dX0_copyFrom_23 : decode cX0_copyFrom 23 = .ok (.aload_n 1, 1) := by decide +kernel
theorem dX0_copyFrom_24 : decode cX0_copyFrom 24 = .ok (.getfield 15, 3) := by decide +kernel
theorem dX0_copyFrom_27 : decode cX0_copyFrom 27 = .ok (.iconst 0, 1) := by decide +kernel
theorem dX0_copyFrom_28 : decode cX0_copyFrom 28 = .ok (.aload_n 0, 1) := by decide +kernel
theorem dX0_copyFrom_29 : decode cX0_copyFrom 29 = .ok (.getfield 15, 3) := by decide +kernel
theorem dX0_copyFrom_32 : decode cX0_copyFrom 32 = .ok (.iconst 0, 1) := by decide +kernel
theorem dX0_copyFrom_33 : decode cX0_copyFrom 33 = .ok (.bipush 30, 2) := by decide +kernel
theorem dX0_copyFrom_35 : decode cX0_copyFrom 35 = .ok (.invokestatic 35, 3) := by decide +kernel
theorem dX0_copyFrom_38 : decode cX0_copyFrom 38 = .ok (.return_, 1) := by decide +kernel
theorem dX1_init_0 : decode cX1_init 0 = .ok (.aload_n 0, 1) := by decide +kernel
theorem dX1_init_1 : decode cX1_init 1 = .ok (.invokespecial 1, 3) := by decide +kernel
theorem dX1_init_4 : decode cX1_init 4 = .ok (.aload_n 0, 1) := by decide +kernel
theorem dX1_init_5 : decode cX1_init 5 = .ok (.new 7, 3) := by decide +kernel
theorem dX1_init_8 : decode cX1_init 8 = .ok (.dup, 1) := by decide +kernel
theorem dX1_init_9 : decode cX1_init 9 = .ok (.invokespecial 9, 3) := by decide +kernel
theorem dX1_init_12 : decode cX1_init 12 = .ok (.putfield 10, 3) := by decide +kernel
theorem dX1_init_15 : decode cX1_init 15 = .ok (.aload_n 0, 1) := by decide +kernel
theorem dX1_init_16 : decode cX1_init 16 = .ok (.new 16, 3) := by decide +kernel
theorem dX1_init_19 : decode cX1_init 19 = .ok (.dup, 1) := by decide +kernel
theorem dX1_init_20 : decode cX1_init 20 = .ok (.invokespecial 18, 3) := by decide +kernel
theorem dX1_init_23 : decode cX1_init 23 = .ok (.putfield 19, 3) := by decide +kernel
theorem dX1_init_26 : decode cX1_init 26 = .ok (.aload_n 0, 1) := by decide +kernel
theorem dX1_init_27 : decode cX1_init 27 = .ok (.new 23, 3) := by decide +kernel
theorem dX1_init_30 : decode cX1_init 30 = .ok (.dup, 1) := by decide +kernel
theorem dX1_init_31 : decode cX1_init 31 = .ok (.invokespecial 25, 3) := by decide +kernel
theorem dX1_init_34 : decode cX1_init 34 = .ok (.putfield 26, 3) := by decide +kernel
theorem dX1_init_37 : decode cX1_init 37 = .ok (.aload_n 0, 1) := by decide +kernel
theorem dX1_init_38 : decode cX1_init 38 = .ok (.new 30, 3) := by decide +kernel
theorem dX1_init_41 : decode cX1_init 41 = .ok (.dup, 1) := by decide +kernel
theorem dX1_init_42 : decode cX1_init 42 = .ok (.invokespecial 32, 3) := by decide +kernel
theorem dX1_init_45 : decode cX1_init 45 = .ok (.putfield 33, 3) := by decide +kernel
theorem dX1_init_48 : decode cX1_init 48 = .ok (.return_, 1) := by decide +kernel
theorem dX1_copyFrom_0 : decode cX1_copyFrom 0 = .ok (.aload_n 0, 1) := by decide +kernel
theorem dX1_copyFrom_1 : decode cX1_copyFrom 1 = .ok (.getfield 10, 3) := by decide +kernel
theorem dX1_copyFrom_4 : decode cX1_copyFrom 4 = .ok (.aload_n 1, 1) := by decide +kernel
theorem dX1_copyFrom_5 : decode cX1_copyFrom 5 = .ok (.getfield 10, 3) := by decide +kernel
theorem dX1_copyFrom_8 : decode cX1_copyFrom 8 = .ok (.invokevirtual 37, 3) := by decide +kernel
theorem dX1_copyFrom_11 : decode cX1_copyFrom 11 = .ok (.aload_n 0, 1) := by decide +kernel
theorem dX1_copyFrom_12 : decode cX1_copyFrom 12 = .ok (.getfield 19, 3) := by decide +kernel
theorem dX1_copyFrom_15 : decode cX1_copyFrom 15 = .ok (.aload_n 1, 1) := by decide +kernel
theorem dX1_copyFrom_16 : decode cX1_copyFrom 16 = .ok (.getfield 19, 3) := by decide +kernel
theorem dX1_copyFrom_19 : decode cX1_copyFrom 19 = .ok (.invokevirtual 41, 3) := by decide +kernel
theorem dX1_copyFrom_22 : decode cX1_copyFrom 22 = .ok (.aload_n 0, 1) := by decide +kernel
theorem dX1_copyFrom_23 : decode cX1_copyFrom 23 = .ok (.getfield 26, 3) := by decide +kernel
theorem dX1_copyFrom_26 : decode cX1_copyFrom 26 = .ok (.aload_n 1, 1) := by decide +kernel
theorem dX1_copyFrom_27 : decode cX1_copyFrom 27 = .ok (.getfield 26, 3) := by decide +kernel
theorem dX1_copyFrom_30 : decode cX1_copyFrom 30 = .ok (.invokevirtual 44, 3) := by decide +kernel
theorem dX1_copyFrom_33 : decode cX1_copyFrom 33 = .ok (.aload_n 0, 1) := by decide +kernel
theorem dX1_copyFrom_34 : decode cX1_copyFrom 34 = .ok (.getfield 33, 3) := by decide +kernel
theorem dX1_copyFrom_37 : decode cX1_copyFrom 37 = .ok (.aload_n 1, 1) := by decide +kernel
theorem dX1_copyFrom_38 : decode cX1_copyFrom 38 = .ok (.getfield 33, 3) := by decide +kernel
theorem dX1_copyFrom_41 : decode cX1_copyFrom 41 = .ok (.invokevirtual 47, 3) := by decide +kernel
theorem dX1_copyFrom_44 : decode cX1_copyFrom 44 = .ok (.aload_n 0, 1) := by decide +kernel
theorem dX1_copyFrom_45 : decode cX1_copyFrom 45 = .ok (.aload_n 1, 1) := by decide +kernel
theorem dX1_copyFrom_46 : decode cX1_copyFrom 46 = .ok (.getfield 50, 3) := by decide +kernel
theorem dX1_copyFrom_49 : decode cX1_copyFrom 49 = .ok (.putfield 50, 3) := by decide +kernel
theorem dX1_copyFrom_52 : decode cX1_copyFrom 52 = .ok (.return_, 1) := by decide +kernel
theorem dX1_advance_0 : decode cX1_advance 0 = .ok (.iconst 0, 1) := by decide +kernel
theorem dX1_advance_1 : decode cX1_advance 1 = .ok (.istore_n 2, 1) := by decide +kernel
theorem dX1_advance_2 : decode cX1_advance 2 = .ok (.iconst 0, 1) := by decide +kernel
theorem dX1_advance_3 : decode cX1_advance 3 = .ok (.istore_n 3, 1) := by decide +kernel
theorem dX1_advance_4 : decode cX1_advance 4 = .ok (.iload_n 3, 1) := by decide +kernel
theorem dX1_advance_5 : decode cX1_advance 5 = .ok (.iload_n 1, 1) := by decide +kernel
theorem dX1_advance_6 : decode cX1_advance 6 = .ok (.if_icmp .ge 28, 3) := by decide +kernel
theorem dX1_advance_9 : decode cX1_advance 9 = .ok (.iload_n 2, 1) := by decide +kernel
theorem dX1_advance_10 : decode cX1_advance 10 = .ok (.aload_n 0, 1) := by decide +kernel
theorem dX1_advance_11 : decode cX1_advance 11 = .ok (.invokevirtual 54, 3) := by decide +kernel
theorem dX1_advance_14 : decode cX1_advance 14 = .ok (.iadd, 1) := by decide +kernel
theorem dX1_advance_15 : decode cX1_advance 15 = .ok (.istore_n 2, 1) := by decide +kernel
theorem dX1_advance_16 : decode cX1_advance 16 = .ok (.iload_n 3, 1) := by decide +kernel
theorem dX1_advance_17 : decode cX1_advance 17 = .ok (.aload_n 0, 1) := by decide +kernel
theorem dX1_advance_18 : decode cX1_advance 18 = .ok (.iload_n 1, 1) := by decide +kernel
theorem dX1_advance_19 : decode cX1_advance 19 = .ok (.iload_n 3, 1) := by decide +kernel
theorem dX1_advance_20 : decode cX1_advance 20 = .ok (.isub, 1) := by decide +kernel
theorem dX1_advance_21 : decode cX1_advance 21 = .ok (.iconst 1, 1) := by decide +kernel
theorem dX1_advance_22 : decode cX1_advance 22 = .ok (.isub, 1) := by decide +kernel
theorem dX1_advance_23 : decode cX1_advance 23 = .ok (.invokevirtual 58, 3) := by decide +kernel
theorem dX1_advance_26 : decode cX1_advance 26 = .ok (.iadd, 1) := by decide +kernel
theorem dX1_advance_27 : decode cX1_advance 27 = .ok (.istore_n 3, 1) := by decide +kernel
theorem dX1_advance_28 : decode cX1_advance 28 = .ok (.iinc 3 1, 3) := by decide +kernel
theorem dX1_advance_31 : decode cX1_advance 31 = .ok (.goto (-27), 3) := by decide +kernel
theorem dX1_advance_34 : decode cX1_advance 34 = .ok (.iload_n 2, 1) := by decide +kernel
theorem dX1_advance_35 : decode cX1_advance 35 = .ok (.ireturn, 1) := by decide +kernel
theorem dX1_advanceUntil_0 : decode cX1_advanceUntil 0 = .ok (.aload_n 0, 1) := by decide +kernel
theorem dX1_advanceUntil_1 : decode cX1_advanceUntil 1 = .ok (.getfield 10, 3) := by decide +kernel
theorem dX1_advanceUntil_4 : decode cX1_advanceUntil 4 = .ok (.iload_n 1, 1) := by decide +kernel
theorem dX1_advanceUntil_5 : decode cX1_advanceUntil 5 = .ok (.iload_n 2, 1) := by decide +kernel
theorem dX1_advanceUntil_6 : decode cX1_advanceUntil 6 = .ok (.iload_n 3, 1) := by decide +kernel
theorem dX1_advanceUntil_7 : decode cX1_advanceUntil 7 = .ok (.invokevirtual 62, 3) := by decide +kernel
theorem dX1_advanceUntil_10 : decode cX1_advanceUntil 10 = .ok (.ifCond .eq 5, 3) := by decide +kernel
theorem dX1_advanceUntil_13 : decode cX1_advanceUntil 13 = .ok (.iconst 0, 1) := by decide +kernel
theorem dX1_advanceUntil_14 : decode cX1_advanceUntil 14 = .ok (.ireturn, 1) := by decide +kernel
theorem dX1_advanceUntil_15 : decode cX1_advanceUntil 15 = .ok (.iconst 1, 1) := by decide +kernel
theorem dX1_advanceUntil_16 : decode cX1_advanceUntil 16 = .ok (.istore 5, 2) := by decide +kernel
theorem dX1_advanceUntil_18 : decode cX1_advanceUntil 18 = .ok (.iload 5, 2) := by decide +kernel
theorem dX1_advanceUntil_20 : decode cX1_advanceUntil 20 = .ok (.iload 4, 2) := by decide +kernel
theorem dX1_advanceUntil_22 : decode cX1_advanceUntil 22 = .ok (.if_icmp .gt 54, 3) := by decide +kernel
theorem dX1_advanceUntil_25 : decode cX1_advanceUntil 25 = .ok (.aload_n 0, 1) := by decide +kernel
theorem dX1_advanceUntil_26 : decode cX1_advanceUntil 26 = .ok (.invokevirtual 54, 3) := by decide +kernel
theorem dX1_advanceUntil_29 : decode cX1_advanceUntil 29 = .ok (.pop, 1) := by decide +kernel
theorem dX1_advanceUntil_30 : decode cX1_advanceUntil 30 = .ok (.aload_n 0, 1) := by decide +kernel
theorem dX1_advanceUntil_31 : decode cX1_advanceUntil 31 = .ok (.getfield 10, 3) := by decide +kernel
theorem dX1_advanceUntil_34 : decode cX1_advanceUntil 34 = .ok (.iload_n 1, 1) := by decide +kernel
theorem dX1_advanceUntil_35 : decode cX1_advanceUntil 35 = .ok (.iload_n 2, 1) := by decide +kernel
theorem dX1_advanceUntil_36 : decode cX1_advanceUntil 36 = .ok (.iload_n 3, 1) := by decide +kernel
theorem dX1_advanceUntil_37 : decode cX1_advanceUntil 37 = .ok (.invokevirtual 62, 3) := by decide +kernel
theorem dX1_advanceUntil_40 : decode cX1_advanceUntil 40 = .ok (.ifCond .eq 6, 3) := by decide +kernel
theorem dX1_advanceUntil_43 : decode cX1_advanceUntil 43 = .ok (.iload 5, 2) := by decide +kernel
theorem dX1_advanceUntil_45 : decode cX1_advanceUntil 45 = .ok (.ireturn, 1) := by decide +kernel
theorem dX1_advanceUntil_46 : decode cX1_advanceUntil 46 = .ok (.iload 5, 2) := by decide +kernel
theorem dX1_advanceUntil_48 : decode cX1_advanceUntil 48 = .ok (.aload_n 0, 1) := by decide +kernel
theorem dX1_advanceUntil_49 : decode cX1_advanceUntil 49 = .ok (.aload_n 0, 1) := by decide +kernel
theorem dX1_advanceUntil_50 : decode cX1_advanceUntil 50 = .ok (.getfield 10, 3) := by decide +kernel
theorem dX1_advanceUntil_53 : decode cX1_advanceUntil 53 = .ok (.iload_n 1, 1) := by decide +kernel
theorem dX1_advanceUntil_54 : decode cX1_advanceUntil 54 = .ok (.iload_n 2, 1) := by decide +kernel
theorem dX1_advanceUntil_55 : decode cX1_advanceUntil 55 = .ok (.iload_n 3, 1) := by decide +kernel
theorem dX1_advanceUntil_56 : decode cX1_advanceUntil 56 = .ok (.iload 4, 2) := by decide +kernel
theorem dX1_advanceUntil_58 : decode cX1_advanceUntil 58 = .ok (.iload 5, 2) := by decide +kernel
theorem dX1_advanceUntil_60 : decode cX1_advanceUntil 60 = .ok (.isub, 1) := by decide +kernel
theorem dX1_advanceUntil_61 : decode cX1_advanceUntil 61 = .ok (.invokevirtual 66, 3) := by decide +kernel
theorem dX1_advanceUntil_64 : decode cX1_advanceUntil 64 = .ok (.invokevirtual 58, 3) := by decide +kernel
theorem dX1_advanceUntil_67 : decode cX1_advanceUntil 67 = .ok (.iadd, 1) := by decide +kernel
theorem dX1_advanceUntil_68 : decode cX1_advanceUntil 68 = .ok (.istore 5, 2) := by decide +kernel
theorem dX1_advanceUntil_70 : decode cX1_advanceUntil 70 = .ok (.iinc 5 1, 3) := by decide +kernel
theorem dX1_advanceUntil_73 : decode cX1_advanceUntil 73 = .ok (.goto (-55), 3) := by decide +kernel
theorem dX1_advanceUntil_76 : decode cX1_advanceUntil 76 = .ok (.iconst (-1), 1) := by decide +kernel
theorem dX1_advanceUntil_77 : decode cX1_advanceUntil 77 = .ok (.ireturn, 1) := by decide +kernel
theorem dX1_advanceToChange_0 : decode cX1_advanceToChange 0 = .ok (.iconst 1, 1) := by decide +kernel
theorem dX1_advanceToChange_1 : decode cX1_advanceToChange 1 = .ok (.istore_n 2, 1) := by decide +kernel
theorem dX1_advanceToChange_2 : decode cX1_advanceToChange 2 = .ok (.iload_n 2, 1) := by decide +kernel
theorem dX1_advanceToChange_3 : decode cX1_advanceToChange 3 = .ok (.iload_n 1, 1) := by decide +kernel
theorem dX1_advanceToChange_4 : decode cX1_advanceToChange 4 = .ok (.if_icmp .gt 28, 3) := by decide +kernel
theorem dX1_advanceToChange_7 : decode cX1_advanceToChange 7 = .ok (.aload_n 0, 1) := by decide +kernel
theorem dX1_advanceToChange_8 : decode cX1_advanceToChange 8 = .ok (.invokevirtual 54, 3) := by decide +kernel
theorem dX1_advanceToChange_11 : decode cX1_advanceToChange 11 = .ok (.ifCond .le 5, 3) := by decide +kernel
theorem dX1_advanceToChange_14 : decode cX1_advanceToChange 14 = .ok (.iload_n 2, 1) := by decide +kernel
theorem dX1_advanceToChange_15 : decode cX1_advanceToChange 15 = .ok (.ireturn, 1) := by decide +kernel
theorem dX1_advanceToChange_16 : decode cX1_advanceToChange 16 = .ok (.iload_n 2, 1) := by decide +kernel
theorem dX1_advanceToChange_17 : decode cX1_advanceToChange 17 = .ok (.aload_n 0, 1) := by decide +kernel
theorem dX1_advanceToChange_18 : decode cX1_advanceToChange 18 = .ok (.iload_n 1, 1) := by decide +kernel
theorem dX1_advanceToChange_19 : decode cX1_advanceToChange 19 = .ok (.iload_n 2, 1) := by decide +kernel
theorem dX1_advanceToChange_20 : decode cX1_advanceToChange 20 = .ok (.isub, 1) := by decide +kernel
theorem dX1_advanceToChange_21 : decode cX1_advanceToChange 21 = .ok (.invokevirtual 58, 3) := by decide +kernel
theorem dX1_advanceToChange_24 : decode cX1_advanceToChange 24 = .ok (.iadd, 1) := by decide +kernel
theorem dX1_advanceToChange_25 : decode cX1_advanceToChange 25 = .ok (.istore_n 2, 1) := by decide +kernel
theorem dX1_advanceToChange_26 : decode cX1_advanceToChange 26 = .ok (.iinc 2 1, 3) := by decide +kernel
theorem dX1_advanceToChange_29 : decode cX1_advanceToChange 29 = .ok (.goto (-27), 3) := by decide +kernel
theorem dX1_advanceToChange_32 : decode cX1_advanceToChange 32 = .ok (.iconst (-1), 1) := by decide +kernel
theorem dX1_advanceToChange_33 : decode cX1_advanceToChange 33 = .ok (.ireturn, 1) := by decide +kernel
theorem dX1_tick_0 : decode cX1_tick 0 = .ok (.aload_n 0, 1) := by decide +kernel
theorem dX1_tick_1 : decode cX1_tick 1 = .ok (.getfield 10, 3) := by decide +kernel
theorem dX1_tick_4 : decode cX1_tick 4 = .ok (.invokevirtual 70, 3) := by decide +kernel
theorem dX1_tick_7 : decode cX1_tick 7 = .ok (.aload_n 0, 1) := by decide +kernel
theorem dX1_tick_8 : decode cX1_tick 8 = .ok (.getfield 19, 3) := by decide +kernel
theorem dX1_tick_11 : decode cX1_tick 11 = .ok (.aload_n 0, 1) := by decide +kernel
theorem dX1_tick_12 : decode cX1_tick 12 = .ok (.getfield 10, 3) := by decide +kernel
theorem dX1_tick_15 : decode cX1_tick 15 = .ok (.aload_n 0, 1) := by decide +kernel
theorem dX1_tick_16 : decode cX1_tick 16 = .ok (.getfield 33, 3) := by decide +kernel
theorem dX1_tick_19 : decode cX1_tick 19 = .ok (.aload_n 0, 1) := by decide +kernel
theorem dX1_tick_20 : decode cX1_tick 20 = .ok (.getfield 50, 3) := by decide +kernel
theorem dX1_tick_23 : decode cX1_tick 23 = .ok (.invokevirtual 73, 3) := by decide +kernel
theorem dX1_tick_26 : decode cX1_tick 26 = .ok (.istore_n 1, 1) := by decide +kernel
theorem dX1_tick_27 : decode cX1_tick 27 = .ok (.aload_n 0, 1) := by decide +kernel
theorem dX1_tick_28 : decode cX1_tick 28 = .ok (.getfield 26, 3) := by decide +kernel
theorem dX1_tick_31 : decode cX1_tick 31 = .ok (.aload_n 0, 1) := by decide +kernel
theorem dX1_tick_32 : decode cX1_tick 32 = .ok (.getfield 10, 3) := by decide +kernel
theorem dX1_tick_35 : decode cX1_tick 35 = .ok (.aload_n 0, 1) := by decide +kernel
theorem dX1_tick_36 : decode cX1_tick 36 = .ok (.getfield 19, 3) := by decide +kernel
theorem dX1_tick_39 : decode cX1_tick 39 = .ok (.invokevirtual 77, 3) := by decide +kernel
theorem dX1_tick_42 : decode cX1_tick 42 = .ok (.aload_n 0, 1) := by decide +kernel
theorem dX1_tick_43 : decode cX1_tick 43 = .ok (.getfield 10, 3) := by decide +kernel
theorem dX1_tick_46 : decode cX1_tick 46 = .ok (.invokevirtual 81, 3) := by decide +kernel
theorem dX1_tick_49 : decode cX1_tick 49 = .ok (.aload_n 0, 1) := by decide +kernel
theorem dX1_tick_50 : decode cX1_tick 50 = .ok (.dup, 1) := by decide +kernel
theorem dX1_tick_51 : decode cX1_tick 51 = .ok (.getfield 50, 3) := by decide +kernel
theorem dX1_tick_54 : decode cX1_tick 54 = .ok (.lconst 1, 1) := by decide +kernel
theorem dX1_tick_55 : decode cX1_tick 55 = .ok (.ladd, 1) := by decide +kernel
theorem dX1_tick_56 : decode cX1_tick 56 = .ok (.putfield 50, 3) := by decide +kernel
theorem dX1_tick_59 : decode cX1_tick 59 = .ok (.iload_n 1, 1) := by decide +kernel
theorem dX1_tick_60 : decode cX1_tick 60 = .ok (.ireturn, 1) := by decide +kernel
theorem dX1_repeatLast_0 : decode cX1_repeatLast 0 = .ok (.aload_n 0, 1) := by decide +kernel
theorem dX1_repeatLast_1 : decode cX1_repeatLast 1 = .ok (.getfield 19, 3) := by decide +kernel
theorem dX1_repeatLast_4 : decode cX1_repeatLast 4 = .ok (.aload_n 0, 1) := by decide +kernel
theorem dX1_repeatLast_5 : decode cX1_repeatLast 5 = .ok (.getfield 10, 3) := by decide +kernel
theorem dX1_repeatLast_8 : decode cX1_repeatLast 8 = .ok (.iload_n 1, 1) := by decide +kernel
theorem dX1_repeatLast_9 : decode cX1_repeatLast 9 = .ok (.invokevirtual 84, 3) := by decide +kernel
theorem dX1_repeatLast_12 : decode cX1_repeatLast 12 = .ok (.istore_n 2, 1) := by decide +kernel
theorem dX1_repeatLast_13 : decode cX1_repeatLast 13 = .ok (.aload_n 0, 1) := by decide +kernel
theorem dX1_repeatLast_14 : decode cX1_repeatLast 14 = .ok (.getfield 26, 3) := by decide +kernel
theorem dX1_repeatLast_17 : decode cX1_repeatLast 17 = .ok (.aload_n 0, 1) := by decide +kernel
theorem dX1_repeatLast_18 : decode cX1_repeatLast 18 = .ok (.getfield 10, 3) := by decide +kernel
theorem dX1_repeatLast_21 : decode cX1_repeatLast 21 = .ok (.aload_n 0, 1) := by decide +kernel
theorem dX1_repeatLast_22 : decode cX1_repeatLast 22 = .ok (.getfield 19, 3) := by decide +kernel
theorem dX1_repeatLast_25 : decode cX1_repeatLast 25 = .ok (.iload_n 2, 1) := by decide +kernel
theorem dX1_repeatLast_26 : decode cX1_repeatLast 26 = .ok (.invokevirtual 88, 3) := by decide +kernel
theorem dX1_repeatLast_29 : decode cX1_repeatLast 29 = .ok (.istore_n 2, 1) := by decide +kernel
theorem dX1_repeatLast_30 : decode cX1_repeatLast 30 = .ok (.aload_n 0, 1) := by decide +kernel
theorem dX1_repeatLast_31 : decode cX1_repeatLast 31 = .ok (.getfield 10, 3) := by decide +kernel
theorem dX1_repeatLast_34 : decode cX1_repeatLast 34 = .ok (.iload_n 2, 1) := by decide +kernel
theorem dX1_repeatLast_35 : decode cX1_repeatLast 35 = .ok (.invokevirtual 91, 3) := by decide +kernel
theorem dX1_repeatLast_38 : decode cX1_repeatLast 38 = .ok (.istore_n 2, 1) := by decide +kernel
theorem dX1_repeatLast_39 : decode cX1_repeatLast 39 = .ok (.iload_n 2, 1) := by decide +kernel
theorem dX1_repeatLast_40 : decode cX1_repeatLast 40 = .ok (.ifCond .gt 5, 3) := by decide +kernel
theorem dX1_repeatLast_43 : decode cX1_repeatLast 43 = .ok (.iconst 0, 1) := by decide +kernel
theorem dX1_repeatLast_44 : decode cX1_repeatLast 44 = .ok (.ireturn, 1) := by decide +kernel
theorem dX1_repeatLast_45 : decode cX1_repeatLast 45 = .ok (.aload_n 0, 1) := by decide +kernel
theorem dX1_repeatLast_46 : decode cX1_repeatLast 46 = .ok (.getfield 26, 3) := by decide +kernel
theorem dX1_repeatLast_49 : decode cX1_repeatLast 49 = .ok (.aload_n 0, 1) := by decide +kernel
theorem dX1_repeatLast_50 : decode cX1_repeatLast 50 = .ok (.getfield 19, 3) := by decide +kernel
theorem dX1_repeatLast_53 : decode cX1_repeatLast 53 = .ok (.iload_n 2, 1) := by decide +kernel
theorem dX1_repeatLast_54 : decode cX1_repeatLast 54 = .ok (.invokevirtual 93, 3) := by decide +kernel
theorem dX1_repeatLast_57 : decode cX1_repeatLast 57 = .ok (.aload_n 0, 1) := by decide +kernel
theorem dX1_repeatLast_58 : decode cX1_repeatLast 58 = .ok (.getfield 10, 3) := by decide +kernel
theorem dX1_repeatLast_61 : decode cX1_repeatLast 61 = .ok (.iload_n 2, 1) := by decide +kernel
theorem dX1_repeatLast_62 : decode cX1_repeatLast 62 = .ok (.invokevirtual 97, 3) := by decide +kernel
theorem dX1_repeatLast_65 : decode cX1_repeatLast 65 = .ok (.aload_n 0, 1) := by decide +kernel
theorem dX1_repeatLast_66 : decode cX1_repeatLast 66 = .ok (.dup, 1) := by decide +kernel
theorem dX1_repeatLast_67 : decode cX1_repeatLast 67 = .ok (.getfield 50, 3) := by decide +kernel
theorem dX1_repeatLast_70 : decode cX1_repeatLast 70 = .ok (.iload_n 2, 1) := by decide +kernel
theorem dX1_repeatLast_71 : decode cX1_repeatLast 71 = .ok (.i2l, 1) := by decide +kernel
theorem dX1_repeatLast_72 : decode cX1_repeatLast 72 = .ok (.ladd, 1) := by decide +kernel
theorem dX1_repeatLast_73 : decode cX1_repeatLast 73 = .ok (.putfield 50, 3) := by decide +kernel
theorem dX1_repeatLast_76 : decode cX1_repeatLast 76 = .ok (.iload_n 2, 1) := by decide +kernel
theorem dX1_repeatLast_77 : decode cX1_repeatLast 77 = .ok (.ireturn, 1) := by decide +kernel
theorem dX2_init_0 : decode cX2_init 0 = .ok (.aload_n 0, 1) := by decide +kernel
theorem dX2_init_1 : decode cX2_init 1 = .ok (.invokespecial 3, 3) := by decide +kernel
theorem dX2_init_4 : decode cX2_init 4 = .ok (.aload_n 0, 1) := by decide +kernel
theorem dX2_init_5 : decode cX2_init 5 = .ok (.bipush 16, 2) := by decide +kernel
theorem dX2_init_7 : decode cX2_init 7 = .ok (.newarray .int, 2) := by decide +kernel
theorem dX2_init_9 : decode cX2_init 9 = .ok (.putfield 9, 3) := by decide +kernel
theorem dX2_init_12 : decode cX2_init 12 = .ok (.aload_n 0, 1) := by decide +kernel
theorem dX2_init_13 : decode cX2_init 13 = .ok (.bipush 16, 2) := by decide +kernel
theorem dX2_init_15 : decode cX2_init 15 = .ok (.newarray .int, 2) := by decide +kernel
theorem dX2_init_17 : decode cX2_init 17 = .ok (.putfield 15, 3) := by decide +kernel
theorem dX2_init_20 : decode cX2_init 20 = .ok (.aload_n 0, 1) := by decide +kernel
theorem dX2_init_21 : decode cX2_init 21 = .ok (.bipush 16, 2) := by decide +kernel
theorem dX2_init_23 : decode cX2_init 23 = .ok (.newarray .int, 2) := by decide +kernel
theorem dX2_init_25 : decode cX2_init 25 = .ok (.putfield 18, 3) := by decide +kernel
theorem dX2_init_28 : decode cX2_init 28 = .ok (.aload_n 0, 1) := by decide +kernel
theorem dX2_init_29 : decode cX2_init 29 = .ok (.bipush 16, 2) := by decide +kernel
theorem dX2_init_31 : decode cX2_init 31 = .ok (.newarray .int, 2) := by decide +kernel
theorem dX2_init_33 : decode cX2_init 33 = .ok (.putfield 21, 3) := by decide +kernel
theorem dX2_init_36 : decode cX2_init 36 = .ok (.aload_n 0, 1) := by decide +kernel
theorem dX2_init_37 : decode cX2_init 37 = .ok (.bipush 16, 2) := by decide +kernel
theorem dX2_init_39 : decode cX2_init 39 = .ok (.newarray .int, 2) := by decide +kernel
theorem dX2_init_41 : decode cX2_init 41 = .ok (.putfield 24, 3) := by decide +kernel
theorem dX2_init_44 : decode cX2_init 44 = .ok (.aload_n 0, 1) := by decide +kernel
theorem dX2_init_45 : decode cX2_init 45 = .ok (.bipush 16, 2) := by decide +kernel
theorem dX2_init_47 : decode cX2_init 47 = .ok (.newarray .boolean, 2) := by decide +kernel
theorem dX2_init_49 : decode cX2_init 49 = .ok (.putfield 27, 3) := by decide +kernel
theorem dX2_init_52 : decode cX2_init 52 = .ok (.aload_n 0, 1) := by decide +kernel
theorem dX2_init_53 : decode cX2_init 53 = .ok (.bipush 16, 2) := by decide +kernel
theorem dX2_init_55 : decode cX2_init 55 = .ok (.newarray .long, 2) := by decide +kernel
theorem dX2_init_57 : decode cX2_init 57 = .ok (.putfield 31, 3) := by decide +kernel
theorem dX2_init_60 : decode cX2_init 60 = .ok (.aload_n 0, 1) := by decide +kernel
theorem dX2_init_61 : decode cX2_init 61 = .ok (.bipush 16, 2) := by decide +kernel
theorem dX2_init_63 : decode cX2_init 63 = .ok (.newarray .long, 2) := by decide +kernel
theorem dX2_init_65 : decode cX2_init 65 = .ok (.putfield 35, 3) := by decide +kernel
theorem dX2_init_68 : decode cX2_init 68 = .ok (.aload_n 0, 1) := by decide +kernel
theorem dX2_init_69 : decode cX2_init 69 = .ok (.bipush 16, 2) := by decide +kernel
theorem dX2_init_71 : decode cX2_init 71 = .ok (.newarray .long, 2) := by decide +kernel
theorem dX2_init_73 : decode cX2_init 73 = .ok (.putfield 38, 3) := by decide +kernel
theorem dX2_init_76 : decode cX2_init 76 = .ok (.aload_n 0, 1) := by decide +kernel
theorem dX2_init_77 : decode cX2_init 77 = .ok (.bipush 16, 2) := by decide +kernel
theorem dX2_init_79 : decode cX2_init 79 = .ok (.newarray .int, 2) := by decide +kernel
theorem dX2_init_81 : decode cX2_init 81 = .ok (.putfield 41, 3) := by decide +kernel
theorem dX2_init_84 : decode cX2_init 84 = .ok (.aload_n 0, 1) := by decide +kernel
theorem dX2_init_85 : decode cX2_init 85 = .ok (.bipush 16, 2) := by decide +kernel
theorem dX2_init_87 : decode cX2_init 87 = .ok (.newarray .int, 2) := by decide +kernel
theorem dX2_init_89 : decode cX2_init 89 = .ok (.putfield 44, 3) := by decide +kernel
theorem dX2_init_92 : decode cX2_init 92 = .ok (.aload_n 0, 1) := by decide +kernel
theorem dX2_init_93 : decode cX2_init 93 = .ok (.bipush 16, 2) := by decide +kernel
theorem dX2_init_95 : decode cX2_init 95 = .ok (.newarray .int, 2) := by decide +kernel
theorem dX2_init_97 : decode cX2_init 97 = .ok (.putfield 47, 3) := by decide +kernel
theorem dX2_init_100 : decode cX2_init 100 = .ok (.return_, 1) := by decide +kernel
theorem dX2_append_0 : decode cX2_append 0 = .ok (.aload_n 0, 1) := by decide +kernel
theorem dX2_append_1 : decode cX2_append 1 = .ok (.getfield 50, 3) := by decide +kernel
theorem dX2_append_4 : decode cX2_append 4 = .ok (.istore 7, 2) := by decide +kernel
theorem dX2_append_6 : decode cX2_append 6 = .ok (.aload_n 0, 1) := by decide +kernel
theorem dX2_append_7 : decode cX2_append 7 = .ok (.getfield 9, 3) := by decide +kernel
theorem dX2_append_10 : decode cX2_append 10 = .ok (.iload 7, 2) := by decide +kernel
theorem dX2_append_12 : decode cX2_append 12 = .ok (.iload_n 1, 1) := by decide +kernel
theorem dX2_append_13 : decode cX2_append 13 = .ok (.iastore, 1) := by decide +kernel
theorem dX2_append_14 : decode cX2_append 14 = .ok (.aload_n 0, 1) := by decide +kernel
theorem dX2_append_15 : decode cX2_append 15 = .ok (.getfield 15, 3) := by decide +kernel
theorem dX2_append_18 : decode cX2_append 18 = .ok (.iload 7, 2) := by decide +kernel
theorem dX2_append_20 : decode cX2_append 20 = .ok (.iload_n 2, 1) := by decide +kernel
theorem dX2_append_21 : decode cX2_append 21 = .ok (.iastore, 1) := by decide +kernel
theorem dX2_append_22 : decode cX2_append 22 = .ok (.aload_n 0, 1) := by decide +kernel
theorem dX2_append_23 : decode cX2_append 23 = .ok (.getfield 18, 3) := by decide +kernel
theorem dX2_append_26 : decode cX2_append 26 = .ok (.iload 7, 2) := by decide +kernel
theorem dX2_append_28 : decode cX2_append 28 = .ok (.iload_n 3, 1) := by decide +kernel
theorem dX2_append_29 : decode cX2_append 29 = .ok (.iastore, 1) := by decide +kernel
theorem dX2_append_30 : decode cX2_append 30 = .ok (.aload_n 0, 1) := by decide +kernel
theorem dX2_append_31 : decode cX2_append 31 = .ok (.getfield 21, 3) := by decide +kernel
theorem dX2_append_34 : decode cX2_append 34 = .ok (.iload 7, 2) := by decide +kernel
theorem dX2_append_36 : decode cX2_append 36 = .ok (.iload 4, 2) := by decide +kernel
theorem dX2_append_38 : decode cX2_append 38 = .ok (.iastore, 1) := by decide +kernel
theorem dX2_append_39 : decode cX2_append 39 = .ok (.aload_n 0, 1) := by decide +kernel
theorem dX2_append_40 : decode cX2_append 40 = .ok (.getfield 24, 3) := by decide +kernel
theorem dX2_append_43 : decode cX2_append 43 = .ok (.iload 7, 2) := by decide +kernel
theorem dX2_append_45 : decode cX2_append 45 = .ok (.iload 5, 2) := by decide +kernel
theorem dX2_append_47 : decode cX2_append 47 = .ok (.iastore, 1) := by decide +kernel
theorem dX2_append_48 : decode cX2_append 48 = .ok (.aload_n 0, 1) := by decide +kernel
theorem dX2_append_49 : decode cX2_append 49 = .ok (.getfield 27, 3) := by decide +kernel
theorem dX2_append_52 : decode cX2_append 52 = .ok (.iload 7, 2) := by decide +kernel
theorem dX2_append_54 : decode cX2_append 54 = .ok (.iload 6, 2) := by decide +kernel
theorem dX2_append_56 : decode cX2_append 56 = .ok (.bastore, 1) := by decide +kernel
theorem dX2_append_57 : decode cX2_append 57 = .ok (.aload_n 0, 1) := by decide +kernel
theorem dX2_append_58 : decode cX2_append 58 = .ok (.getfield 31, 3) := by decide +kernel
theorem dX2_append_61 : decode cX2_append 61 = .ok (.iload 7, 2) := by decide +kernel
theorem dX2_append_63 : decode cX2_append 63 = .ok (.lconst 0, 1) := by decide +kernel
theorem dX2_append_64 : decode cX2_append 64 = .ok (.lastore, 1) := by decide +kernel
theorem dX2_append_65 : decode cX2_append 65 = .ok (.aload_n 0, 1) := by decide +kernel
theorem dX2_append_66 : decode cX2_append 66 = .ok (.getfield 35, 3) := by decide +kernel
theorem dX2_append_69 : decode cX2_append 69 = .ok (.iload 7, 2) := by decide +kernel
theorem dX2_append_71 : decode cX2_append 71 = .ok (.lconst 0, 1) := by decide +kernel
theorem dX2_append_72 : decode cX2_append 72 = .ok (.lastore, 1) := by decide +kernel
theorem dX2_append_73 : decode cX2_append 73 = .ok (.aload_n 0, 1) := by decide +kernel
theorem dX2_append_74 : decode cX2_append 74 = .ok (.getfield 38, 3) := by decide +kernel
theorem dX2_append_77 : decode cX2_append 77 = .ok (.iload 7, 2) := by decide +kernel
theorem dX2_append_79 : decode cX2_append 79 = .ok (.lconst 0, 1) := by decide +kernel
theorem dX2_append_80 : decode cX2_append 80 = .ok (.lastore, 1) := by decide +kernel
theorem dX2_append_81 : decode cX2_append 81 = .ok (.aload_n 0, 1) := by decide +kernel
theorem dX2_append_82 : decode cX2_append 82 = .ok (.dup, 1) := by decide +kernel
theorem dX2_append_83 : decode cX2_append 83 = .ok (.getfield 50, 3) := by decide +kernel
theorem dX2_append_86 : decode cX2_append 86 = .ok (.iconst 1, 1) := by decide +kernel
theorem dX2_append_87 : decode cX2_append 87 = .ok (.iadd, 1) := by decide +kernel
theorem dX2_append_88 : decode cX2_append 88 = .ok (.putfield 50, 3) := by decide +kernel
theorem dX2_append_91 : decode cX2_append 91 = .ok (.iload 7, 2) := by decide +kernel
theorem dX2_append_93 : decode cX2_append 93 = .ok (.ireturn, 1) := by decide +kernel
theorem dX2_copyFrom_0 : decode cX2_copyFrom 0 = .ok (.aload_n 0, 1) := by decide +kernel
theorem dX2_copyFrom_1 : decode cX2_copyFrom 1 = .ok (.aload_n 1, 1) := by decide +kernel
theorem dX2_copyFrom_2 : decode cX2_copyFrom 2 = .ok (.getfield 50, 3) := by decide +kernel
theorem dX2_copyFrom_5 : decode cX2_copyFrom 5 = .ok (.putfield 50, 3) := by decide +kernel
theorem dX2_copyFrom_8 : decode cX2_copyFrom 8 = .ok (.aload_n 1, 1) := by decide +kernel
theorem dX2_copyFrom_9 : decode cX2_copyFrom 9 = .ok (.getfield 9, 3) := by decide +kernel
theorem dX2_copyFrom_12 : decode cX2_copyFrom 12 = .ok (.iconst 0, 1) := by decide +kernel
theorem dX2_copyFrom_13 : decode cX2_copyFrom 13 = .ok (.aload_n 0, 1) := by decide +kernel
theorem dX2_copyFrom_14 : decode cX2_copyFrom 14 = .ok (.getfield 9, 3) := by decide +kernel
theorem dX2_copyFrom_17 : decode cX2_copyFrom 17 = .ok (.iconst 0, 1) := by decide +kernel
theorem dX2_copyFrom_18 : decode cX2_copyFrom 18 = .ok (.bipush 16, 2) := by decide +kernel
theorem dX2_copyFrom_20 : decode cX2_copyFrom 20 = .ok (.invokestatic 54, 3) := by decide +kernel
theorem dX2_copyFrom_23 : decode cX2_copyFrom 23 = .ok (.aload_n 1, 1) := by decide +kernel
theorem dX2_copyFrom_24 : decode cX2_copyFrom 24 = .ok (.getfield 15, 3) := by decide +kernel
theorem dX2_copyFrom_27 : decode cX2_copyFrom 27 = .ok (.iconst 0, 1) := by decide +kernel
theorem dX2_copyFrom_28 : decode cX2_copyFrom 28 = .ok (.aload_n 0, 1) := by decide +kernel
theorem dX2_copyFrom_29 : decode cX2_copyFrom 29 = .ok (.getfield 15, 3) := by decide +kernel
theorem dX2_copyFrom_32 : decode cX2_copyFrom 32 = .ok (.iconst 0, 1) := by decide +kernel
theorem dX2_copyFrom_33 : decode cX2_copyFrom 33 = .ok (.bipush 16, 2) := by decide +kernel
theorem dX2_copyFrom_35 : decode cX2_copyFrom 35 = .ok (.invokestatic 54, 3) := by decide +kernel
theorem dX2_copyFrom_38 : decode cX2_copyFrom 38 = .ok (.aload_n 1, 1) := by decide +kernel
theorem dX2_copyFrom_39 : decode cX2_copyFrom 39 = .ok (.getfield 18, 3) := by decide +kernel
theorem dX2_copyFrom_42 : decode cX2_copyFrom 42 = .ok (.iconst 0, 1) := by decide +kernel
theorem dX2_copyFrom_43 : decode cX2_copyFrom 43 = .ok (.aload_n 0, 1) := by decide +kernel
theorem dX2_copyFrom_44 : decode cX2_copyFrom 44 = .ok (.getfield 18, 3) := by decide +kernel
theorem dX2_copyFrom_47 : decode cX2_copyFrom 47 = .ok (.iconst 0, 1) := by decide +kernel
theorem dX2_copyFrom_48 : decode cX2_copyFrom 48 = .ok (.bipush 16, 2) := by decide +kernel
theorem dX2_copyFrom_50 : decode cX2_copyFrom 50 = .ok (.invokestatic 54, 3) := by decide +kernel
theorem dX2_copyFrom_53 : decode cX2_copyFrom 53 = .ok (.aload_n 1, 1) := by decide +kernel
theorem dX2_copyFrom_54 : decode cX2_copyFrom 54 = .ok (.getfield 21, 3) := by decide +kernel
theorem dX2_copyFrom_57 : decode cX2_copyFrom 57 = .ok (.iconst 0, 1) := by decide +kernel
theorem dX2_copyFrom_58 : decode cX2_copyFrom 58 = .ok (.aload_n 0, 1) := by decide +kernel
theorem dX2_copyFrom_59 : decode cX2_copyFrom 59 = .ok (.getfield 21, 3) := by decide +kernel
theorem dX2_copyFrom_62 : decode cX2_copyFrom 62 = .ok (.iconst 0, 1) := by decide +kernel
theorem dX2_copyFrom_63 : decode cX2_copyFrom 63 = .ok (.bipush 16, 2) := by decide +kernel
theorem dX2_copyFrom_65 : decode cX2_copyFrom 65 = .ok (.invokestatic 54, 3) := by decide +kernel
theorem dX2_copyFrom_68 : decode cX2_copyFrom 68 = .ok (.aload_n 1, 1) := by decide +kernel
theorem dX2_copyFrom_69 : decode cX2_copyFrom 69 = .ok (.getfield 24, 3) := by decide +kernel
theorem dX2_copyFrom_72 : decode cX2_copyFrom 72 = .ok (.iconst 0, 1) := by decide +kernel
theorem dX2_copyFrom_73 : decode cX2_copyFrom 73 = .ok (.aload_n 0, 1) := by decide +kernel
theorem dX2_copyFrom_74 : decode cX2_copyFrom 74 = .ok (.getfield 24, 3) := by decide +kernel
theorem dX2_copyFrom_77 : decode cX2_copyFrom 77 = .ok (.iconst 0, 1) := by decide +kernel
theorem dX2_copyFrom_78 : decode cX2_copyFrom 78 = .ok (.bipush 16, 2) := by decide +kernel
theorem dX2_copyFrom_80 : decode cX2_copyFrom 80 = .ok (.invokestatic 54, 3) := by decide +kernel
theorem dX2_copyFrom_83 : decode cX2_copyFrom 83 = .ok (.aload_n 1, 1) := by decide +kernel
theorem dX2_copyFrom_84 : decode cX2_copyFrom 84 = .ok (.getfield 27, 3) := by decide +kernel
theorem dX2_copyFrom_87 : decode cX2_copyFrom 87 = .ok (.iconst 0, 1) := by decide +kernel
theorem dX2_copyFrom_88 : decode cX2_copyFrom 88 = .ok (.aload_n 0, 1) := by decide +kernel
theorem dX2_copyFrom_89 : decode cX2_copyFrom 89 = .ok (.getfield 27, 3) := by decide +kernel
theorem dX2_copyFrom_92 : decode cX2_copyFrom 92 = .ok (.iconst 0, 1) := by decide +kernel
theorem dX2_copyFrom_93 : decode cX2_copyFrom 93 = .ok (.bipush 16, 2) := by decide +kernel
theorem dX2_copyFrom_95 : decode cX2_copyFrom 95 = .ok (.invokestatic 54, 3) := by decide +kernel
theorem dX2_copyFrom_98 : decode cX2_copyFrom 98 = .ok (.aload_n 1, 1) := by decide +kernel
theorem dX2_copyFrom_99 : decode cX2_copyFrom 99 = .ok (.getfield 31, 3) := by decide +kernel
theorem dX2_copyFrom_102 : decode cX2_copyFrom 102 = .ok (.iconst 0, 1) := by decide +kernel
theorem dX2_copyFrom_103 : decode cX2_copyFrom 103 = .ok (.aload_n 0, 1) := by decide +kernel
theorem dX2_copyFrom_104 : decode cX2_copyFrom 104 = .ok (.getfield 31, 3) := by decide +kernel
theorem dX2_copyFrom_107 : decode cX2_copyFrom 107 = .ok (.iconst 0, 1) := by decide +kernel
theorem dX2_copyFrom_108 : decode cX2_copyFrom 108 = .ok (.bipush 16, 2) := by decide +kernel
theorem dX2_copyFrom_110 : decode cX2_copyFrom 110 = .ok (.invokestatic 54, 3) := by decide +kernel
theorem dX2_copyFrom_113 : decode cX2_copyFrom 113 = .ok (.aload_n 1, 1) := by decide +kernel
theorem dX2_copyFrom_114 : decode cX2_copyFrom 114 = .ok (.getfield 35, 3) := by decide +kernel
theorem dX2_copyFrom_117 : decode cX2_copyFrom 117 = .ok (.iconst 0, 1) := by decide +kernel
theorem dX2_copyFrom_118 : decode cX2_copyFrom 118 = .ok (.aload_n 0, 1) := by decide +kernel
theorem dX2_copyFrom_119 : decode cX2_copyFrom 119 = .ok (.getfield 35, 3) := by decide +kernel
theorem dX2_copyFrom_122 : decode cX2_copyFrom 122 = .ok (.iconst 0, 1) := by decide +kernel
theorem dX2_copyFrom_123 : decode cX2_copyFrom 123 = .ok (.bipush 16, 2) := by decide +kernel
theorem dX2_copyFrom_125 : decode cX2_copyFrom 125 = .ok (.invokestatic 54, 3) := by decide +kernel
theorem dX2_copyFrom_128 : decode cX2_copyFrom 128 = .ok (.aload_n 1, 1) := by decide +kernel
theorem dX2_copyFrom_129 : decode cX2_copyFrom 129 = .ok (.getfield 38, 3) := by decide +kernel
theorem dX2_copyFrom_132 : decode cX2_copyFrom 132 = .ok (.iconst 0, 1) := by decide +kernel
theorem dX2_copyFrom_133 : decode cX2_copyFrom 133 = .ok (.aload_n 0, 1) := by decide +kernel
theorem dX2_copyFrom_134 : decode cX2_copyFrom 134 = .ok (.getfield 38, 3) := by decide +kernel
theorem dX2_copyFrom_137 : decode cX2_copyFrom 137 = .ok (.iconst 0, 1) := by decide +kernel
theorem dX2_copyFrom_138 : decode cX2_copyFrom 138 = .ok (.bipush 16, 2) := by decide +kernel
theorem dX2_copyFrom_140 : decode cX2_copyFrom 140 = .ok (.invokestatic 54, 3) := by decide +kernel
theorem dX2_copyFrom_143 : decode cX2_copyFrom 143 = .ok (.return_, 1) := by decide +kernel
theorem dX2_isActive_0 : decode cX2_isActive 0 = .ok (.aload_n 0, 1) := by decide +kernel
theorem dX2_isActive_1 : decode cX2_isActive 1 = .ok (.getfield 24, 3) := by decide +kernel
theorem dX2_isActive_4 : decode cX2_isActive 4 = .ok (.iload_n 1, 1) := by decide +kernel
theorem dX2_isActive_5 : decode cX2_isActive 5 = .ok (.iaload, 1) := by decide +kernel
theorem dX2_isActive_6 : decode cX2_isActive 6 = .ok (.istore_n 3, 1) := by decide +kernel
theorem dX2_isActive_7 : decode cX2_isActive 7 = .ok (.iload_n 3, 1) := by decide +kernel
theorem dX2_isActive_8 : decode cX2_isActive 8 = .ok (.iconst (-1), 1) := by decide +kernel
theorem dX2_isActive_9 : decode cX2_isActive 9 = .ok (.if_icmp .eq 18, 3) := by decide +kernel
theorem dX2_isActive_12 : decode cX2_isActive 12 = .ok (.aload_n 2, 1) := by decide +kernel
theorem dX2_isActive_13 : decode cX2_isActive 13 = .ok (.getfield 60, 3) := by decide +kernel
theorem dX2_isActive_16 : decode cX2_isActive 16 = .ok (.iload_n 3, 1) := by decide +kernel
theorem dX2_isActive_17 : decode cX2_isActive 17 = .ok (.baload, 1) := by decide +kernel
theorem dX2_isActive_18 : decode cX2_isActive 18 = .ok (.aload_n 0, 1) := by decide +kernel
theorem dX2_isActive_19 : decode cX2_isActive 19 = .ok (.getfield 27, 3) := by decide +kernel
theorem dX2_isActive_22 : decode cX2_isActive 22 = .ok (.iload_n 1, 1) := by decide +kernel
theorem dX2_isActive_23 : decode cX2_isActive 23 = .ok (.baload, 1) := by decide +kernel
theorem dX2_isActive_24 : decode cX2_isActive 24 = .ok (.if_icmp .eq 7, 3) := by decide +kernel
theorem dX2_isActive_27 : decode cX2_isActive 27 = .ok (.iconst 1, 1) := by decide +kernel
theorem dX2_isActive_28 : decode cX2_isActive 28 = .ok (.goto 4, 3) := by decide +kernel
theorem dX2_isActive_31 : decode cX2_isActive 31 = .ok (.iconst 0, 1) := by decide +kernel
theorem dX2_isActive_32 : decode cX2_isActive 32 = .ok (.ireturn, 1) := by decide +kernel
theorem dX2_moveAll_0 : decode cX2_moveAll 0 = .ok (.iconst 0, 1) := by decide +kernel
theorem dX2_moveAll_1 : decode cX2_moveAll 1 = .ok (.istore_n 3, 1) := by decide +kernel
theorem dX2_moveAll_2 : decode cX2_moveAll 2 = .ok (.iload_n 3, 1) := by decide +kernel
theorem dX2_moveAll_3 : decode cX2_moveAll 3 = .ok (.aload_n 0, 1) := by decide +kernel
theorem dX2_moveAll_4 : decode cX2_moveAll 4 = .ok (.getfield 50, 3) := by decide +kernel
theorem dX2_moveAll_7 : decode cX2_moveAll 7 = .ok (.if_icmp .ge 30, 3) := by decide +kernel
theorem dX2_moveAll_10 : decode cX2_moveAll 10 = .ok (.aload_n 0, 1) := by decide +kernel
theorem dX2_moveAll_11 : decode cX2_moveAll 11 = .ok (.iload_n 3, 1) := by decide +kernel
theorem dX2_moveAll_12 : decode cX2_moveAll 12 = .ok (.aload_n 2, 1) := by decide +kernel
theorem dX2_moveAll_13 : decode cX2_moveAll 13 = .ok (.invokevirtual 65, 3) := by decide +kernel
theorem dX2_moveAll_16 : decode cX2_moveAll 16 = .ok (.ifCond .eq 15, 3) := by decide +kernel
theorem dX2_moveAll_19 : decode cX2_moveAll 19 = .ok (.aload_n 0, 1) := by decide +kernel
theorem dX2_moveAll_20 : decode cX2_moveAll 20 = .ok (.iload_n 3, 1) := by decide +kernel
theorem dX2_moveAll_21 : decode cX2_moveAll 21 = .ok (.aload_n 1, 1) := by decide +kernel
theorem dX2_moveAll_22 : decode cX2_moveAll 22 = .ok (.invokevirtual 69, 3) := by decide +kernel
theorem dX2_moveAll_25 : decode cX2_moveAll 25 = .ok (.aload_n 0, 1) := by decide +kernel
theorem dX2_moveAll_26 : decode cX2_moveAll 26 = .ok (.iload_n 3, 1) := by decide +kernel
theorem dX2_moveAll_27 : decode cX2_moveAll 27 = .ok (.iconst 1, 1) := by decide +kernel
theorem dX2_moveAll_28 : decode cX2_moveAll 28 = .ok (.invokevirtual 73, 3) := by decide +kernel
theorem dX2_moveAll_31 : decode cX2_moveAll 31 = .ok (.iinc 3 1, 3) := by decide +kernel
theorem dX2_moveAll_34 : decode cX2_moveAll 34 = .ok (.goto (-32), 3) := by decide +kernel
theorem dX2_moveAll_37 : decode cX2_moveAll 37 = .ok (.return_, 1) := by decide +kernel
theorem dX2_move_0 : decode cX2_move 0 = .ok (.aload_n 0, 1) := by decide +kernel
theorem dX2_move_1 : decode cX2_move 1 = .ok (.getfield 9, 3) := by decide +kernel
theorem dX2_move_4 : decode cX2_move 4 = .ok (.iload_n 1, 1) := by decide +kernel
theorem dX2_move_5 : decode cX2_move 5 = .ok (.iaload, 1) := by decide +kernel
theorem dX2_move_6 : decode cX2_move 6 = .ok (.istore_n 3, 1) := by decide +kernel
theorem dX2_move_7 : decode cX2_move 7 = .ok (.aload_n 0, 1) := by decide +kernel
theorem dX2_move_8 : decode cX2_move 8 = .ok (.getfield 15, 3) := by decide +kernel
theorem dX2_move_11 : decode cX2_move 11 = .ok (.iload_n 1, 1) := by decide +kernel
theorem dX2_move_12 : decode cX2_move 12 = .ok (.iaload, 1) := by decide +kernel
theorem dX2_move_13 : decode cX2_move 13 = .ok (.istore 4, 2) := by decide +kernel
theorem dX2_move_15 : decode cX2_move 15 = .ok (.aload_n 0, 1) := by decide +kernel
theorem dX2_move_16 : decode cX2_move 16 = .ok (.getfield 18, 3) := by decide +kernel
theorem dX2_move_19 : decode cX2_move 19 = .ok (.iload_n 1, 1) := by decide +kernel
theorem dX2_move_20 : decode cX2_move 20 = .ok (.iaload, 1) := by decide +kernel
theorem dX2_move_21 : decode cX2_move 21 = .ok (.istore 5, 2) := by decide +kernel
theorem dX2_move_23 : decode cX2_move 23 = .ok (.iload_n 3, 1) := by decide +kernel
theorem dX2_move_24 : decode cX2_move 24 = .ok (.iconst (-1), 1) := by decide +kernel
theorem dX2_move_25 : decode cX2_move 25 = .ok (.if_icmp .eq 16, 3) := by decide +kernel
theorem dX2_move_28 : decode cX2_move 28 = .ok (.iload 5, 2) := by decide +kernel
theorem dX2_move_30 : decode cX2_move 30 = .ok (.aload_n 2, 1) := by decide +kernel
theorem dX2_move_31 : decode cX2_move 31 = .ok (.getfield 77, 3) := by decide +kernel
theorem dX2_move_34 : decode cX2_move 34 = .ok (.iload_n 3, 1) := by decide +kernel
theorem dX2_move_35 : decode cX2_move 35 = .ok (.iaload, 1) := by decide +kernel
theorem dX2_move_36 : decode cX2_move 36 = .ok (.invokestatic 82, 3) := by decide +kernel
theorem dX2_move_39 : decode cX2_move 39 = .ok (.istore 5, 2) := by decide +kernel
theorem dX2_move_41 : decode cX2_move 41 = .ok (.iload 4, 2) := by decide +kernel
theorem dX2_move_43 : decode cX2_move 43 = .ok (.iconst (-1), 1) := by decide +kernel
theorem dX2_move_44 : decode cX2_move 44 = .ok (.if_icmp .eq 25, 3) := by decide +kernel
theorem dX2_move_47 : decode cX2_move 47 = .ok (.iload 5, 2) := by decide +kernel
theorem dX2_move_49 : decode cX2_move 49 = .ok (.aload_n 2, 1) := by decide +kernel
theorem dX2_move_50 : decode cX2_move 50 = .ok (.getfield 88, 3) := by decide +kernel
theorem dX2_move_53 : decode cX2_move 53 = .ok (.iload 4, 2) := by decide +kernel
theorem dX2_move_55 : decode cX2_move 55 = .ok (.iaload, 1) := by decide +kernel
theorem dX2_move_56 : decode cX2_move 56 = .ok (.aload_n 2, 1) := by decide +kernel
theorem dX2_move_57 : decode cX2_move 57 = .ok (.getfield 77, 3) := by decide +kernel
theorem dX2_move_60 : decode cX2_move 60 = .ok (.iload 4, 2) := by decide +kernel
theorem dX2_move_62 : decode cX2_move 62 = .ok (.iaload, 1) := by decide +kernel
theorem dX2_move_63 : decode cX2_move 63 = .ok (.isub, 1) := by decide +kernel
theorem dX2_move_64 : decode cX2_move 64 = .ok (.invokestatic 82, 3) := by decide +kernel
theorem dX2_move_67 : decode cX2_move 67 = .ok (.istore 5, 2) := by decide +kernel
theorem dX2_move_69 : decode cX2_move 69 = .ok (.iload_n 3, 1) := by decide +kernel
theorem dX2_move_70 : decode cX2_move 70 = .ok (.iconst (-1), 1) := by decide +kernel
theorem dX2_move_71 : decode cX2_move 71 = .ok (.if_icmp .eq 26, 3) := by decide +kernel
theorem dX2_move_74 : decode cX2_move 74 = .ok (.aload_n 2, 1) := by decide +kernel
theorem dX2_move_75 : decode cX2_move 75 = .ok (.getfield 77, 3) := by decide +kernel
theorem dX2_move_78 : decode cX2_move 78 = .ok (.iload_n 3, 1) := by decide +kernel
theorem dX2_move_79 : decode cX2_move 79 = .ok (.dup2, 1) := by decide +kernel
theorem dX2_move_80 : decode cX2_move 80 = .ok (.iaload, 1) := by decide +kernel
theorem dX2_move_81 : decode cX2_move 81 = .ok (.iload 5, 2) := by decide +kernel
theorem dX2_move_83 : decode cX2_move 83 = .ok (.isub, 1) := by decide +kernel
theorem dX2_move_84 : decode cX2_move 84 = .ok (.iastore, 1) := by decide +kernel
theorem dX2_move_85 : decode cX2_move 85 = .ok (.aload_n 0, 1) := by decide +kernel
theorem dX2_move_86 : decode cX2_move 86 = .ok (.getfield 44, 3) := by decide +kernel
theorem dX2_move_89 : decode cX2_move 89 = .ok (.iload_n 1, 1) := by decide +kernel
theorem dX2_move_90 : decode cX2_move 90 = .ok (.aload_n 2, 1) := by decide +kernel
theorem dX2_move_91 : decode cX2_move 91 = .ok (.getfield 77, 3) := by decide +kernel
theorem dX2_move_94 : decode cX2_move 94 = .ok (.iload_n 3, 1) := by decide +kernel
theorem dX2_move_95 : decode cX2_move 95 = .ok (.iaload, 1) := by decide +kernel
theorem dX2_move_96 : decode cX2_move 96 = .ok (.iastore, 1) := by decide +kernel
theorem dX2_move_97 : decode cX2_move 97 = .ok (.iload 4, 2) := by decide +kernel
theorem dX2_move_99 : decode cX2_move 99 = .ok (.iconst (-1), 1) := by decide +kernel
theorem dX2_move_100 : decode cX2_move 100 = .ok (.if_icmp .eq 36, 3) := by decide +kernel
theorem dX2_move_103 : decode cX2_move 103 = .ok (.aload_n 2, 1) := by decide +kernel
theorem dX2_move_104 : decode cX2_move 104 = .ok (.getfield 77, 3) := by decide +kernel
theorem dX2_move_107 : decode cX2_move 107 = .ok (.iload 4, 2) := by decide +kernel
theorem dX2_move_109 : decode cX2_move 109 = .ok (.dup2, 1) := by decide +kernel
theorem dX2_move_110 : decode cX2_move 110 = .ok (.iaload, 1) := by decide +kernel
theorem dX2_move_111 : decode cX2_move 111 = .ok (.iload 5, 2) := by decide +kernel
theorem dX2_move_113 : decode cX2_move 113 = .ok (.iadd, 1) := by decide +kernel
theorem dX2_move_114 : decode cX2_move 114 = .ok (.iastore, 1) := by decide +kernel
theorem dX2_move_115 : decode cX2_move 115 = .ok (.aload_n 0, 1) := by decide +kernel
theorem dX2_move_116 : decode cX2_move 116 = .ok (.getfield 47, 3) := by decide +kernel
theorem dX2_move_119 : decode cX2_move 119 = .ok (.iload_n 1, 1) := by decide +kernel
theorem dX2_move_120 : decode cX2_move 120 = .ok (.aload_n 2, 1) := by decide +kernel
theorem dX2_move_121 : decode cX2_move 121 = .ok (.getfield 88, 3) := by decide +kernel
theorem dX2_move_124 : decode cX2_move 124 = .ok (.iload 4, 2) := by decide +kernel
theorem dX2_move_126 : decode cX2_move 126 = .ok (.iaload, 1) := by decide +kernel
theorem dX2_move_127 : decode cX2_move 127 = .ok (.aload_n 2, 1) := by decide +kernel
theorem dX2_move_128 : decode cX2_move 128 = .ok (.getfield 77, 3) := by decide +kernel
theorem dX2_move_131 : decode cX2_move 131 = .ok (.iload 4, 2) := by decide +kernel
theorem dX2_move_133 : decode cX2_move 133 = .ok (.iaload, 1) := by decide +kernel
theorem dX2_move_134 : decode cX2_move 134 = .ok (.isub, 1) := by decide +kernel
theorem dX2_move_135 : decode cX2_move 135 = .ok (.iastore, 1) := by decide +kernel
theorem dX2_move_136 : decode cX2_move 136 = .ok (.aload_n 0, 1) := by decide +kernel
theorem dX2_move_137 : decode cX2_move 137 = .ok (.getfield 41, 3) := by decide +kernel
theorem dX2_move_140 : decode cX2_move 140 = .ok (.iload_n 1, 1) := by decide +kernel
theorem dX2_move_141 : decode cX2_move 141 = .ok (.iload 5, 2) := by decide +kernel
theorem dX2_move_143 : decode cX2_move 143 = .ok (.iastore, 1) := by decide +kernel
theorem dX2_move_144 : decode cX2_move 144 = .ok (.return_, 1) := by decide +kernel
theorem dX2_enter_0 : decode cX2_enter 0 = .ok (.aload_n 0, 1) := by decide +kernel
theorem dX2_enter_1 : decode cX2_enter 1 = .ok (.getfield 41, 3) := by decide +kernel
theorem dX2_enter_4 : decode cX2_enter 4 = .ok (.iload_n 1, 1) := by decide +kernel
theorem dX2_enter_5 : decode cX2_enter 5 = .ok (.iaload, 1) := by decide +kernel
theorem dX2_enter_6 : decode cX2_enter 6 = .ok (.i2l, 1) := by decide +kernel
theorem dX2_enter_7 : decode cX2_enter 7 = .ok (.iload_n 2, 1) := by decide +kernel
theorem dX2_enter_8 : decode cX2_enter 8 = .ok (.i2l, 1) := by decide +kernel
theorem dX2_enter_9 : decode cX2_enter 9 = .ok (.lmul, 1) := by decide +kernel
theorem dX2_enter_10 : decode cX2_enter 10 = .ok (.lstore_n 3, 1) := by decide +kernel
theorem dX2_enter_11 : decode cX2_enter 11 = .ok (.aload_n 0, 1) := by decide +kernel
theorem dX2_enter_12 : decode cX2_enter 12 = .ok (.getfield 31, 3) := by decide +kernel
theorem dX2_enter_15 : decode cX2_enter 15 = .ok (.iload_n 1, 1) := by decide +kernel
theorem dX2_enter_16 : decode cX2_enter 16 = .ok (.dup2, 1) := by decide +kernel
theorem dX2_enter_17 : decode cX2_enter 17 = .ok (.laload, 1) := by decide +kernel
theorem dX2_enter_18 : decode cX2_enter 18 = .ok (.lload_n 3, 1) := by decide +kernel
theorem dX2_enter_19 : decode cX2_enter 19 = .ok (.ladd, 1) := by decide +kernel
theorem dX2_enter_20 : decode cX2_enter 20 = .ok (.lastore, 1) := by decide +kernel
theorem dX2_enter_21 : decode cX2_enter 21 = .ok (.aload_n 0, 1) := by decide +kernel
theorem dX2_enter_22 : decode cX2_enter 22 = .ok (.getfield 35, 3) := by decide +kernel
theorem dX2_enter_25 : decode cX2_enter 25 = .ok (.iload_n 1, 1) := by decide +kernel
theorem dX2_enter_26 : decode cX2_enter 26 = .ok (.dup2, 1) := by decide +kernel
theorem dX2_enter_27 : decode cX2_enter 27 = .ok (.laload, 1) := by decide +kernel
theorem dX2_enter_28 : decode cX2_enter 28 = .ok (.lload_n 3, 1) := by decide +kernel
theorem dX2_enter_29 : decode cX2_enter 29 = .ok (.aload_n 0, 1) := by decide +kernel
theorem dX2_enter_30 : decode cX2_enter 30 = .ok (.getfield 21, 3) := by decide +kernel
theorem dX2_enter_33 : decode cX2_enter 33 = .ok (.iload_n 1, 1) := by decide +kernel
theorem dX2_enter_34 : decode cX2_enter 34 = .ok (.iaload, 1) := by decide +kernel
theorem dX2_enter_35 : decode cX2_enter 35 = .ok (.i2l, 1) := by decide +kernel
theorem dX2_enter_36 : decode cX2_enter 36 = .ok (.lmul, 1) := by decide +kernel
theorem dX2_enter_37 : decode cX2_enter 37 = .ok (.ladd, 1) := by decide +kernel
theorem dX2_enter_38 : decode cX2_enter 38 = .ok (.lastore, 1) := by decide +kernel
theorem dX2_enter_39 : decode cX2_enter 39 = .ok (.aload_n 0, 1) := by decide +kernel
theorem dX2_enter_40 : decode cX2_enter 40 = .ok (.getfield 41, 3) := by decide +kernel
theorem dX2_enter_43 : decode cX2_enter 43 = .ok (.iload_n 1, 1) := by decide +kernel
theorem dX2_enter_44 : decode cX2_enter 44 = .ok (.iaload, 1) := by decide +kernel
theorem dX2_enter_45 : decode cX2_enter 45 = .ok (.aload_n 0, 1) := by decide +kernel
theorem dX2_enter_46 : decode cX2_enter 46 = .ok (.getfield 18, 3) := by decide +kernel
theorem dX2_enter_49 : decode cX2_enter 49 = .ok (.iload_n 1, 1) := by decide +kernel
theorem dX2_enter_50 : decode cX2_enter 50 = .ok (.iaload, 1) := by decide +kernel
theorem dX2_enter_51 : decode cX2_enter 51 = .ok (.if_icmp .ge 14, 3) := by decide +kernel
theorem dX2_enter_54 : decode cX2_enter 54 = .ok (.aload_n 0, 1) := by decide +kernel
theorem dX2_enter_55 : decode cX2_enter 55 = .ok (.getfield 38, 3) := by decide +kernel
theorem dX2_enter_58 : decode cX2_enter 58 = .ok (.iload_n 1, 1) := by decide +kernel
theorem dX2_enter_59 : decode cX2_enter 59 = .ok (.dup2, 1) := by decide +kernel
theorem dX2_enter_60 : decode cX2_enter 60 = .ok (.laload, 1) := by decide +kernel
theorem dX2_enter_61 : decode cX2_enter 61 = .ok (.iload_n 2, 1) := by decide +kernel
theorem dX2_enter_62 : decode cX2_enter 62 = .ok (.i2l, 1) := by decide +kernel
theorem dX2_enter_63 : decode cX2_enter 63 = .ok (.ladd, 1) := by decide +kernel
theorem dX2_enter_64 : decode cX2_enter 64 = .ok (.lastore, 1) := by decide +kernel
theorem dX2_enter_65 : decode cX2_enter 65 = .ok (.return_, 1) := by decide +kernel
theorem dX2_steadyTicks_0 : decode cX2_steadyTicks 0 = .ok (.iload_n 3, 1) := by decide +kernel
theorem dX2_steadyTicks_1 : decode cX2_steadyTicks 1 = .ok (.istore 4, 2) := by decide +kernel
theorem dX2_steadyTicks_3 : decode cX2_steadyTicks 3 = .ok (.iconst 0, 1) := by decide +kernel
theorem dX2_steadyTicks_4 : decode cX2_steadyTicks 4 = .ok (.istore 5, 2) := by decide +kernel
theorem dX2_steadyTicks_6 : decode cX2_steadyTicks 6 = .ok (.iload 5, 2) := by decide +kernel
theorem dX2_steadyTicks_8 : decode cX2_steadyTicks 8 = .ok (.aload_n 0, 1) := by decide +kernel
theorem dX2_steadyTicks_9 : decode cX2_steadyTicks 9 = .ok (.getfield 50, 3) := by decide +kernel
theorem dX2_steadyTicks_12 : decode cX2_steadyTicks 12 = .ok (.if_icmp .ge 35, 3) := by decide +kernel
theorem dX2_steadyTicks_15 : decode cX2_steadyTicks 15 = .ok (.iload 4, 2) := by decide +kernel
theorem dX2_steadyTicks_17 : decode cX2_steadyTicks 17 = .ok (.ifCond .le 30, 3) := by decide +kernel
theorem dX2_steadyTicks_20 : decode cX2_steadyTicks 20 = .ok (.aload_n 0, 1) := by decide +kernel
theorem dX2_steadyTicks_21 : decode cX2_steadyTicks 21 = .ok (.iload 5, 2) := by decide +kernel
theorem dX2_steadyTicks_23 : decode cX2_steadyTicks 23 = .ok (.aload_n 2, 1) := by decide +kernel
theorem dX2_steadyTicks_24 : decode cX2_steadyTicks 24 = .ok (.invokevirtual 65, 3) := by decide +kernel
theorem dX2_steadyTicks_27 : decode cX2_steadyTicks 27 = .ok (.ifCond .eq 14, 3) := by decide +kernel
theorem dX2_steadyTicks_30 : decode cX2_steadyTicks 30 = .ok (.aload_n 0, 1) := by decide +kernel
theorem dX2_steadyTicks_31 : decode cX2_steadyTicks 31 = .ok (.iload 5, 2) := by decide +kernel
theorem dX2_steadyTicks_33 : decode cX2_steadyTicks 33 = .ok (.aload_n 1, 1) := by decide +kernel
theorem dX2_steadyTicks_34 : decode cX2_steadyTicks 34 = .ok (.iload 4, 2) := by decide +kernel
theorem dX2_steadyTicks_36 : decode cX2_steadyTicks 36 = .ok (.invokevirtual 91, 3) := by decide +kernel
theorem dX2_steadyTicks_39 : decode cX2_steadyTicks 39 = .ok (.istore 4, 2) := by decide +kernel
theorem dX2_steadyTicks_41 : decode cX2_steadyTicks 41 = .ok (.iinc 5 1, 3) := by decide +kernel
theorem dX2_steadyTicks_44 : decode cX2_steadyTicks 44 = .ok (.goto (-38), 3) := by decide +kernel
theorem dX2_steadyTicks_47 : decode cX2_steadyTicks 47 = .ok (.iload 4, 2) := by decide +kernel
theorem dX2_steadyTicks_49 : decode cX2_steadyTicks 49 = .ok (.ireturn, 1) := by decide +kernel
theorem dX2_steadyTicksOf_0 : decode cX2_steadyTicksOf 0 = .ok (.iload_n 3, 1) := by decide +kernel
theorem dX2_steadyTicksOf_1 : decode cX2_steadyTicksOf 1 = .ok (.istore 4, 2) := by decide +kernel
theorem dX2_steadyTicksOf_3 : decode cX2_steadyTicksOf 3 = .ok (.aload_n 0, 1) := by decide +kernel
theorem dX2_steadyTicksOf_4 : decode cX2_steadyTicksOf 4 = .ok (.getfield 41, 3) := by decide +kernel
theorem dX2_steadyTicksOf_7 : decode cX2_steadyTicksOf 7 = .ok (.iload_n 1, 1) := by decide +kernel
theorem dX2_steadyTicksOf_8 : decode cX2_steadyTicksOf 8 = .ok (.iaload, 1) := by decide +kernel
theorem dX2_steadyTicksOf_9 : decode cX2_steadyTicksOf 9 = .ok (.aload_n 0, 1) := by decide +kernel
theorem dX2_steadyTicksOf_10 : decode cX2_steadyTicksOf 10 = .ok (.getfield 18, 3) := by decide +kernel
theorem dX2_steadyTicksOf_13 : decode cX2_steadyTicksOf 13 = .ok (.iload_n 1, 1) := by decide +kernel
theorem dX2_steadyTicksOf_14 : decode cX2_steadyTicksOf 14 = .ok (.iaload, 1) := by decide +kernel
theorem dX2_steadyTicksOf_15 : decode cX2_steadyTicksOf 15 = .ok (.if_icmp .ne 7, 3) := by decide +kernel
theorem dX2_steadyTicksOf_18 : decode cX2_steadyTicksOf 18 = .ok (.iconst 1, 1) := by decide +kernel
theorem dX2_steadyTicksOf_19 : decode cX2_steadyTicksOf 19 = .ok (.goto 4, 3) := by decide +kernel
theorem dX2_steadyTicksOf_22 : decode cX2_steadyTicksOf 22 = .ok (.iconst 0, 1) := by decide +kernel
theorem dX2_steadyTicksOf_23 : decode cX2_steadyTicksOf 23 = .ok (.istore 5, 2) := by decide +kernel
theorem dX2_steadyTicksOf_25 : decode cX2_steadyTicksOf 25 = .ok (.aload_n 0, 1) := by decide +kernel
theorem dX2_steadyTicksOf_26 : decode cX2_steadyTicksOf 26 = .ok (.getfield 9, 3) := by decide +kernel
theorem dX2_steadyTicksOf_29 : decode cX2_steadyTicksOf 29 = .ok (.iload_n 1, 1) := by decide +kernel
theorem dX2_steadyTicksOf_30 : decode cX2_steadyTicksOf 30 = .ok (.iaload, 1) := by decide +kernel
theorem dX2_steadyTicksOf_31 : decode cX2_steadyTicksOf 31 = .ok (.iconst (-1), 1) := by decide +kernel
theorem dX2_steadyTicksOf_32 : decode cX2_steadyTicksOf 32 = .ok (.if_icmp .eq 58, 3) := by decide +kernel
theorem dX2_steadyTicksOf_35 : decode cX2_steadyTicksOf 35 = .ok (.aload_n 2, 1) := by decide +kernel
theorem dX2_steadyTicksOf_36 : decode cX2_steadyTicksOf 36 = .ok (.aload_n 0, 1) := by decide +kernel
theorem dX2_steadyTicksOf_37 : decode cX2_steadyTicksOf 37 = .ok (.getfield 9, 3) := by decide +kernel
theorem dX2_steadyTicksOf_40 : decode cX2_steadyTicksOf 40 = .ok (.iload_n 1, 1) := by decide +kernel
theorem dX2_steadyTicksOf_41 : decode cX2_steadyTicksOf 41 = .ok (.iaload, 1) := by decide +kernel
theorem dX2_steadyTicksOf_42 : decode cX2_steadyTicksOf 42 = .ok (.invokevirtual 95, 3) := by decide +kernel
theorem dX2_steadyTicksOf_45 : decode cX2_steadyTicksOf 45 = .ok (.istore 6, 2) := by decide +kernel
theorem dX2_steadyTicksOf_47 : decode cX2_steadyTicksOf 47 = .ok (.aload_n 0, 1) := by decide +kernel
theorem dX2_steadyTicksOf_48 : decode cX2_steadyTicksOf 48 = .ok (.getfield 44, 3) := by decide +kernel
theorem dX2_steadyTicksOf_51 : decode cX2_steadyTicksOf 51 = .ok (.iload_n 1, 1) := by decide +kernel
theorem dX2_steadyTicksOf_52 : decode cX2_steadyTicksOf 52 = .ok (.iaload, 1) := by decide +kernel
theorem dX2_steadyTicksOf_53 : decode cX2_steadyTicksOf 53 = .ok (.i2l, 1) := by decide +kernel
theorem dX2_steadyTicksOf_54 : decode cX2_steadyTicksOf 54 = .ok (.iload 6, 2) := by decide +kernel
theorem dX2_steadyTicksOf_56 : decode cX2_steadyTicksOf 56 = .ok (.i2l, 1) := by decide +kernel
theorem dX2_steadyTicksOf_57 : decode cX2_steadyTicksOf 57 = .ok (.iload 4, 2) := by decide +kernel
theorem dX2_steadyTicksOf_59 : decode cX2_steadyTicksOf 59 = .ok (.invokestatic 99, 3) := by decide +kernel
theorem dX2_steadyTicksOf_62 : decode cX2_steadyTicksOf 62 = .ok (.istore 4, 2) := by decide +kernel
theorem dX2_steadyTicksOf_64 : decode cX2_steadyTicksOf 64 = .ok (.iload 5, 2) := by decide +kernel
theorem dX2_steadyTicksOf_66 : decode cX2_steadyTicksOf 66 = .ok (.ifCond .ne 17, 3) := by decide +kernel
theorem dX2_steadyTicksOf_69 : decode cX2_steadyTicksOf 69 = .ok (.aload_n 0, 1) := by decide +kernel
theorem dX2_steadyTicksOf_70 : decode cX2_steadyTicksOf 70 = .ok (.getfield 44, 3) := by decide +kernel
theorem dX2_steadyTicksOf_73 : decode cX2_steadyTicksOf 73 = .ok (.iload_n 1, 1) := by decide +kernel
theorem dX2_steadyTicksOf_74 : decode cX2_steadyTicksOf 74 = .ok (.iaload, 1) := by decide +kernel
theorem dX2_steadyTicksOf_75 : decode cX2_steadyTicksOf 75 = .ok (.ifCond .ne 12, 3) := by decide +kernel
theorem dX2_steadyTicksOf_78 : decode cX2_steadyTicksOf 78 = .ok (.iload 6, 2) := by decide +kernel
theorem dX2_steadyTicksOf_80 : decode cX2_steadyTicksOf 80 = .ok (.ifCond .ne 7, 3) := by decide +kernel
theorem dX2_steadyTicksOf_83 : decode cX2_steadyTicksOf 83 = .ok (.iconst 1, 1) := by decide +kernel
theorem dX2_steadyTicksOf_84 : decode cX2_steadyTicksOf 84 = .ok (.goto 4, 3) := by decide +kernel
theorem dX2_steadyTicksOf_87 : decode cX2_steadyTicksOf 87 = .ok (.iconst 0, 1) := by decide +kernel
theorem dX2_steadyTicksOf_88 : decode cX2_steadyTicksOf 88 = .ok (.istore 5, 2) := by decide +kernel
theorem dX2_steadyTicksOf_90 : decode cX2_steadyTicksOf 90 = .ok (.aload_n 0, 1) := by decide +kernel
theorem dX2_steadyTicksOf_91 : decode cX2_steadyTicksOf 91 = .ok (.getfield 15, 3) := by decide +kernel
theorem dX2_steadyTicksOf_94 : decode cX2_steadyTicksOf 94 = .ok (.iload_n 1, 1) := by decide +kernel
theorem dX2_steadyTicksOf_95 : decode cX2_steadyTicksOf 95 = .ok (.iaload, 1) := by decide +kernel
theorem dX2_steadyTicksOf_96 : decode cX2_steadyTicksOf 96 = .ok (.iconst (-1), 1) := by decide +kernel
theorem dX2_steadyTicksOf_97 : decode cX2_steadyTicksOf 97 = .ok (.if_icmp .eq 59, 3) := by decide +kernel
theorem dX2_steadyTicksOf_100 : decode cX2_steadyTicksOf 100 = .ok (.aload_n 2, 1) := by decide +kernel
theorem dX2_steadyTicksOf_101 : decode cX2_steadyTicksOf 101 = .ok (.aload_n 0, 1) := by decide +kernel
theorem dX2_steadyTicksOf_102 : decode cX2_steadyTicksOf 102 = .ok (.getfield 15, 3) := by decide +kernel
theorem dX2_steadyTicksOf_105 : decode cX2_steadyTicksOf 105 = .ok (.iload_n 1, 1) := by decide +kernel
theorem dX2_steadyTicksOf_106 : decode cX2_steadyTicksOf 106 = .ok (.iaload, 1) := by decide +kernel
theorem dX2_steadyTicksOf_107 : decode cX2_steadyTicksOf 107 = .ok (.invokevirtual 95, 3) := by decide +kernel
theorem dX2_steadyTicksOf_110 : decode cX2_steadyTicksOf 110 = .ok (.istore 6, 2) := by decide +kernel
theorem dX2_steadyTicksOf_112 : decode cX2_steadyTicksOf 112 = .ok (.aload_n 0, 1) := by decide +kernel
theorem dX2_steadyTicksOf_113 : decode cX2_steadyTicksOf 113 = .ok (.getfield 47, 3) := by decide +kernel
theorem dX2_steadyTicksOf_116 : decode cX2_steadyTicksOf 116 = .ok (.iload_n 1, 1) := by decide +kernel
theorem dX2_steadyTicksOf_117 : decode cX2_steadyTicksOf 117 = .ok (.iaload, 1) := by decide +kernel
theorem dX2_steadyTicksOf_118 : decode cX2_steadyTicksOf 118 = .ok (.i2l, 1) := by decide +kernel
theorem dX2_steadyTicksOf_119 : decode cX2_steadyTicksOf 119 = .ok (.iload 6, 2) := by decide +kernel
theorem dX2_steadyTicksOf_121 : decode cX2_steadyTicksOf 121 = .ok (.ineg, 1) := by decide +kernel
theorem dX2_steadyTicksOf_122 : decode cX2_steadyTicksOf 122 = .ok (.i2l, 1) := by decide +kernel
theorem dX2_steadyTicksOf_123 : decode cX2_steadyTicksOf 123 = .ok (.iload 4, 2) := by decide +kernel
theorem dX2_steadyTicksOf_125 : decode cX2_steadyTicksOf 125 = .ok (.invokestatic 99, 3) := by decide +kernel
theorem dX2_steadyTicksOf_128 : decode cX2_steadyTicksOf 128 = .ok (.istore 4, 2) := by decide +kernel
theorem dX2_steadyTicksOf_130 : decode cX2_steadyTicksOf 130 = .ok (.iload 5, 2) := by decide +kernel
theorem dX2_steadyTicksOf_132 : decode cX2_steadyTicksOf 132 = .ok (.ifCond .ne 17, 3) := by decide +kernel
theorem dX2_steadyTicksOf_135 : decode cX2_steadyTicksOf 135 = .ok (.aload_n 0, 1) := by decide +kernel
theorem dX2_steadyTicksOf_136 : decode cX2_steadyTicksOf 136 = .ok (.getfield 47, 3) := by decide +kernel
theorem dX2_steadyTicksOf_139 : decode cX2_steadyTicksOf 139 = .ok (.iload_n 1, 1) := by decide +kernel
theorem dX2_steadyTicksOf_140 : decode cX2_steadyTicksOf 140 = .ok (.iaload, 1) := by decide +kernel
theorem dX2_steadyTicksOf_141 : decode cX2_steadyTicksOf 141 = .ok (.ifCond .ne 12, 3) := by decide +kernel
theorem dX2_steadyTicksOf_144 : decode cX2_steadyTicksOf 144 = .ok (.iload 6, 2) := by decide +kernel
theorem dX2_steadyTicksOf_146 : decode cX2_steadyTicksOf 146 = .ok (.ifCond .ne 7, 3) := by decide +kernel
theorem dX2_steadyTicksOf_149 : decode cX2_steadyTicksOf 149 = .ok (.iconst 1, 1) := by decide +kernel
theorem dX2_steadyTicksOf_150 : decode cX2_steadyTicksOf 150 = .ok (.goto 4, 3) := by decide +kernel
theorem dX2_steadyTicksOf_153 : decode cX2_steadyTicksOf 153 = .ok (.iconst 0, 1) := by decide +kernel
theorem dX2_steadyTicksOf_154 : decode cX2_steadyTicksOf 154 = .ok (.istore 5, 2) := by decide +kernel
theorem dX2_steadyTicksOf_156 : decode cX2_steadyTicksOf 156 = .ok (.iload 5, 2) := by decide +kernel
theorem dX2_steadyTicksOf_158 : decode cX2_steadyTicksOf 158 = .ok (.ifCond .eq 8, 3) := by decide +kernel
theorem dX2_steadyTicksOf_161 : decode cX2_steadyTicksOf 161 = .ok (.iload 4, 2) := by decide +kernel
theorem dX2_steadyTicksOf_163 : decode cX2_steadyTicksOf 163 = .ok (.goto 4, 3) := by decide +kernel
theorem dX2_steadyTicksOf_166 : decode cX2_steadyTicksOf 166 = .ok (.iconst 0, 1) := by decide +kernel
theorem dX2_steadyTicksOf_167 : decode cX2_steadyTicksOf 167 = .ok (.ireturn, 1) := by decide +kernel
theorem dX2_repeat_0 : decode cX2_repeat 0 = .ok (.iconst 0, 1) := by decide +kernel
theorem dX2_repeat_1 : decode cX2_repeat 1 = .ok (.istore_n 3, 1) := by decide +kernel
theorem dX2_repeat_2 : decode cX2_repeat 2 = .ok (.iload_n 3, 1) := by decide +kernel
theorem dX2_repeat_3 : decode cX2_repeat 3 = .ok (.aload_n 0, 1) := by decide +kernel
theorem dX2_repeat_4 : decode cX2_repeat 4 = .ok (.getfield 50, 3) := by decide +kernel
theorem dX2_repeat_7 : decode cX2_repeat 7 = .ok (.if_icmp .ge 24, 3) := by decide +kernel
theorem dX2_repeat_10 : decode cX2_repeat 10 = .ok (.aload_n 0, 1) := by decide +kernel
theorem dX2_repeat_11 : decode cX2_repeat 11 = .ok (.iload_n 3, 1) := by decide +kernel
theorem dX2_repeat_12 : decode cX2_repeat 12 = .ok (.aload_n 1, 1) := by decide +kernel
theorem dX2_repeat_13 : decode cX2_repeat 13 = .ok (.invokevirtual 65, 3) := by decide +kernel
theorem dX2_repeat_16 : decode cX2_repeat 16 = .ok (.ifCond .eq 9, 3) := by decide +kernel
theorem dX2_repeat_19 : decode cX2_repeat 19 = .ok (.aload_n 0, 1) := by decide +kernel
theorem dX2_repeat_20 : decode cX2_repeat 20 = .ok (.iload_n 3, 1) := by decide +kernel
theorem dX2_repeat_21 : decode cX2_repeat 21 = .ok (.iload_n 2, 1) := by decide +kernel
theorem dX2_repeat_22 : decode cX2_repeat 22 = .ok (.invokevirtual 73, 3) := by decide +kernel
theorem dX2_repeat_25 : decode cX2_repeat 25 = .ok (.iinc 3 1, 3) := by decide +kernel
theorem dX2_repeat_28 : decode cX2_repeat 28 = .ok (.goto (-26), 3) := by decide +kernel
theorem dX2_repeat_31 : decode cX2_repeat 31 = .ok (.return_, 1) := by decide +kernel
theorem dX2_cameIn_0 : decode cX2_cameIn 0 = .ok (.lconst 0, 1) := by decide +kernel
theorem dX2_cameIn_1 : decode cX2_cameIn 1 = .ok (.lstore_n 1, 1) := by decide +kernel
theorem dX2_cameIn_2 : decode cX2_cameIn 2 = .ok (.iconst 0, 1) := by decide +kernel
theorem dX2_cameIn_3 : decode cX2_cameIn 3 = .ok (.istore_n 3, 1) := by decide +kernel
theorem dX2_cameIn_4 : decode cX2_cameIn 4 = .ok (.iload_n 3, 1) := by decide +kernel
theorem dX2_cameIn_5 : decode cX2_cameIn 5 = .ok (.aload_n 0, 1) := by decide +kernel
theorem dX2_cameIn_6 : decode cX2_cameIn 6 = .ok (.getfield 50, 3) := by decide +kernel
theorem dX2_cameIn_9 : decode cX2_cameIn 9 = .ok (.if_icmp .ge 32, 3) := by decide +kernel
theorem dX2_cameIn_12 : decode cX2_cameIn 12 = .ok (.lload_n 1, 1) := by decide +kernel
theorem dX2_cameIn_13 : decode cX2_cameIn 13 = .ok (.aload_n 0, 1) := by decide +kernel
theorem dX2_cameIn_14 : decode cX2_cameIn 14 = .ok (.getfield 9, 3) := by decide +kernel
theorem dX2_cameIn_17 : decode cX2_cameIn 17 = .ok (.iload_n 3, 1) := by decide +kernel
theorem dX2_cameIn_18 : decode cX2_cameIn 18 = .ok (.iaload, 1) := by decide +kernel
theorem dX2_cameIn_19 : decode cX2_cameIn 19 = .ok (.iconst (-1), 1) := by decide +kernel
theorem dX2_cameIn_20 : decode cX2_cameIn 20 = .ok (.if_icmp .ne 12, 3) := by decide +kernel
theorem dX2_cameIn_23 : decode cX2_cameIn 23 = .ok (.aload_n 0, 1) := by decide +kernel
theorem dX2_cameIn_24 : decode cX2_cameIn 24 = .ok (.getfield 31, 3) := by decide +kernel
theorem dX2_cameIn_27 : decode cX2_cameIn 27 = .ok (.iload_n 3, 1) := by decide +kernel
theorem dX2_cameIn_28 : decode cX2_cameIn 28 = .ok (.laload, 1) := by decide +kernel
theorem dX2_cameIn_29 : decode cX2_cameIn 29 = .ok (.goto 4, 3) := by decide +kernel
theorem dX2_cameIn_32 : decode cX2_cameIn 32 = .ok (.lconst 0, 1) := by decide +kernel
theorem dX2_cameIn_33 : decode cX2_cameIn 33 = .ok (.ladd, 1) := by decide +kernel
theorem dX2_cameIn_34 : decode cX2_cameIn 34 = .ok (.lstore_n 1, 1) := by decide +kernel
theorem dX2_cameIn_35 : decode cX2_cameIn 35 = .ok (.iinc 3 1, 3) := by decide +kernel
theorem dX2_cameIn_38 : decode cX2_cameIn 38 = .ok (.goto (-34), 3) := by decide +kernel
theorem dX2_cameIn_41 : decode cX2_cameIn 41 = .ok (.lload_n 1, 1) := by decide +kernel
theorem dX2_cameIn_42 : decode cX2_cameIn 42 = .ok (.lreturn, 1) := by decide +kernel
theorem dX2_wentOut_0 : decode cX2_wentOut 0 = .ok (.lconst 0, 1) := by decide +kernel
theorem dX2_wentOut_1 : decode cX2_wentOut 1 = .ok (.lstore_n 1, 1) := by decide +kernel
theorem dX2_wentOut_2 : decode cX2_wentOut 2 = .ok (.iconst 0, 1) := by decide +kernel
theorem dX2_wentOut_3 : decode cX2_wentOut 3 = .ok (.istore_n 3, 1) := by decide +kernel
theorem dX2_wentOut_4 : decode cX2_wentOut 4 = .ok (.iload_n 3, 1) := by decide +kernel
theorem dX2_wentOut_5 : decode cX2_wentOut 5 = .ok (.aload_n 0, 1) := by decide +kernel
theorem dX2_wentOut_6 : decode cX2_wentOut 6 = .ok (.getfield 50, 3) := by decide +kernel
theorem dX2_wentOut_9 : decode cX2_wentOut 9 = .ok (.if_icmp .ge 32, 3) := by decide +kernel
theorem dX2_wentOut_12 : decode cX2_wentOut 12 = .ok (.lload_n 1, 1) := by decide +kernel
theorem dX2_wentOut_13 : decode cX2_wentOut 13 = .ok (.aload_n 0, 1) := by decide +kernel
theorem dX2_wentOut_14 : decode cX2_wentOut 14 = .ok (.getfield 15, 3) := by decide +kernel
theorem dX2_wentOut_17 : decode cX2_wentOut 17 = .ok (.iload_n 3, 1) := by decide +kernel
theorem dX2_wentOut_18 : decode cX2_wentOut 18 = .ok (.iaload, 1) := by decide +kernel
theorem dX2_wentOut_19 : decode cX2_wentOut 19 = .ok (.iconst (-1), 1) := by decide +kernel
theorem dX2_wentOut_20 : decode cX2_wentOut 20 = .ok (.if_icmp .ne 12, 3) := by decide +kernel
theorem dX2_wentOut_23 : decode cX2_wentOut 23 = .ok (.aload_n 0, 1) := by decide +kernel
theorem dX2_wentOut_24 : decode cX2_wentOut 24 = .ok (.getfield 31, 3) := by decide +kernel
theorem dX2_wentOut_27 : decode cX2_wentOut 27 = .ok (.iload_n 3, 1) := by decide +kernel
theorem dX2_wentOut_28 : decode cX2_wentOut 28 = .ok (.laload, 1) := by decide +kernel
theorem dX2_wentOut_29 : decode cX2_wentOut 29 = .ok (.goto 4, 3) := by decide +kernel
theorem dX2_wentOut_32 : decode cX2_wentOut 32 = .ok (.lconst 0, 1) := by decide +kernel
theorem dX2_wentOut_33 : decode cX2_wentOut 33 = .ok (.ladd, 1) := by decide +kernel
theorem dX2_wentOut_34 : decode cX2_wentOut 34 = .ok (.lstore_n 1, 1) := by decide +kernel
theorem dX2_wentOut_35 : decode cX2_wentOut 35 = .ok (.iinc 3 1, 3) := by decide +kernel
theorem dX2_wentOut_38 : decode cX2_wentOut 38 = .ok (.goto (-34), 3) := by decide +kernel
theorem dX2_wentOut_41 : decode cX2_wentOut 41 = .ok (.lload_n 1, 1) := by decide +kernel
theorem dX2_wentOut_42 : decode cX2_wentOut 42 = .ok (.lreturn, 1) := by decide +kernel
theorem dX2_mixedInto_0 : decode cX2_mixedInto 0 = .ok (.lload_n 1, 1) := by decide +kernel
theorem dX2_mixedInto_1 : decode cX2_mixedInto 1 = .ok (.lstore_n 3, 1) := by decide +kernel
theorem dX2_mixedInto_2 : decode cX2_mixedInto 2 = .ok (.iconst 0, 1) := by decide +kernel
theorem dX2_mixedInto_3 : decode cX2_mixedInto 3 = .ok (.istore 5, 2) := by decide +kernel
theorem dX2_mixedInto_5 : decode cX2_mixedInto 5 = .ok (.iload 5, 2) := by decide +kernel
theorem dX2_mixedInto_7 : decode cX2_mixedInto 7 = .ok (.aload_n 0, 1) := by decide +kernel
theorem dX2_mixedInto_8 : decode cX2_mixedInto 8 = .ok (.getfield 50, 3) := by decide +kernel
theorem dX2_mixedInto_11 : decode cX2_mixedInto 11 = .ok (.if_icmp .ge 54, 3) := by decide +kernel
theorem dX2_mixedInto_14 : decode cX2_mixedInto 14 = .ok (.lload_n 3, 1) := by decide +kernel
theorem dX2_mixedInto_15 : decode cX2_mixedInto 15 = .ok (.aload_n 0, 1) := by decide +kernel
theorem dX2_mixedInto_16 : decode cX2_mixedInto 16 = .ok (.getfield 18, 3) := by decide +kernel
theorem dX2_mixedInto_19 : decode cX2_mixedInto 19 = .ok (.iload 5, 2) := by decide +kernel
theorem dX2_mixedInto_21 : decode cX2_mixedInto 21 = .ok (.iaload, 1) := by decide +kernel
theorem dX2_mixedInto_22 : decode cX2_mixedInto 22 = .ok (.i2l, 1) := by decide +kernel
theorem dX2_mixedInto_23 : decode cX2_mixedInto 23 = .ok (.invokestatic 103, 3) := by decide +kernel
theorem dX2_mixedInto_26 : decode cX2_mixedInto 26 = .ok (.aload_n 0, 1) := by decide +kernel
theorem dX2_mixedInto_27 : decode cX2_mixedInto 27 = .ok (.getfield 31, 3) := by decide +kernel
theorem dX2_mixedInto_30 : decode cX2_mixedInto 30 = .ok (.iload 5, 2) := by decide +kernel
theorem dX2_mixedInto_32 : decode cX2_mixedInto 32 = .ok (.laload, 1) := by decide +kernel
theorem dX2_mixedInto_33 : decode cX2_mixedInto 33 = .ok (.invokestatic 103, 3) := by decide +kernel
theorem dX2_mixedInto_36 : decode cX2_mixedInto 36 = .ok (.lstore_n 3, 1) := by decide +kernel
theorem dX2_mixedInto_37 : decode cX2_mixedInto 37 = .ok (.lload_n 3, 1) := by decide +kernel
theorem dX2_mixedInto_38 : decode cX2_mixedInto 38 = .ok (.aload_n 0, 1) := by decide +kernel
theorem dX2_mixedInto_39 : decode cX2_mixedInto 39 = .ok (.getfield 35, 3) := by decide +kernel
theorem dX2_mixedInto_42 : decode cX2_mixedInto 42 = .ok (.iload 5, 2) := by decide +kernel
theorem dX2_mixedInto_44 : decode cX2_mixedInto 44 = .ok (.laload, 1) := by decide +kernel
theorem dX2_mixedInto_45 : decode cX2_mixedInto 45 = .ok (.invokestatic 103, 3) := by decide +kernel
theorem dX2_mixedInto_48 : decode cX2_mixedInto 48 = .ok (.aload_n 0, 1) := by decide +kernel
theorem dX2_mixedInto_49 : decode cX2_mixedInto 49 = .ok (.getfield 38, 3) := by decide +kernel
theorem dX2_mixedInto_52 : decode cX2_mixedInto 52 = .ok (.iload 5, 2) := by decide +kernel
theorem dX2_mixedInto_54 : decode cX2_mixedInto 54 = .ok (.laload, 1) := by decide +kernel
theorem dX2_mixedInto_55 : decode cX2_mixedInto 55 = .ok (.invokestatic 103, 3) := by decide +kernel
theorem dX2_mixedInto_58 : decode cX2_mixedInto 58 = .ok (.lstore_n 3, 1) := by decide +kernel
theorem dX2_mixedInto_59 : decode cX2_mixedInto 59 = .ok (.iinc 5 1, 3) := by decide +kernel
theorem dX2_mixedInto_62 : decode cX2_mixedInto 62 = .ok (.goto (-57), 3) := by decide +kernel
theorem dX2_mixedInto_65 : decode cX2_mixedInto 65 = .ok (.lload_n 3, 1) := by decide +kernel
theorem dX2_mixedInto_66 : decode cX2_mixedInto 66 = .ok (.lreturn, 1) := by decide +kernel
theorem dX3_init_0 : decode cX3_init 0 = .ok (.aload_n 0, 1) := by decide +kernel
theorem dX3_init_1 : decode cX3_init 1 = .ok (.invokespecial 3, 3) := by decide +kernel
theorem dX3_init_4 : decode cX3_init 4 = .ok (.aload_n 0, 1) := by decide +kernel
theorem dX3_init_5 : decode cX3_init 5 = .ok (.bipush 10, 2) := by decide +kernel
theorem dX3_init_7 : decode cX3_init 7 = .ok (.newarray .int, 2) := by decide +kernel
theorem dX3_init_9 : decode cX3_init 9 = .ok (.putfield 9, 3) := by decide +kernel
theorem dX3_init_12 : decode cX3_init 12 = .ok (.aload_n 0, 1) := by decide +kernel
theorem dX3_init_13 : decode cX3_init 13 = .ok (.bipush 10, 2) := by decide +kernel
theorem dX3_init_15 : decode cX3_init 15 = .ok (.newarray .int, 2) := by decide +kernel
theorem dX3_init_17 : decode cX3_init 17 = .ok (.putfield 15, 3) := by decide +kernel
theorem dX3_init_20 : decode cX3_init 20 = .ok (.aload_n 0, 1) := by decide +kernel
theorem dX3_init_21 : decode cX3_init 21 = .ok (.bipush 10, 2) := by decide +kernel
theorem dX3_init_23 : decode cX3_init 23 = .ok (.newarray .int, 2) := by decide +kernel
theorem dX3_init_25 : decode cX3_init 25 = .ok (.putfield 18, 3) := by decide +kernel
theorem dX3_init_28 : decode cX3_init 28 = .ok (.aload_n 0, 1) := by decide +kernel
theorem dX3_init_29 : decode cX3_init 29 = .ok (.bipush 10, 2) := by decide +kernel
theorem dX3_init_31 : decode cX3_init 31 = .ok (.newarray .boolean, 2) := by decide +kernel
theorem dX3_init_33 : decode cX3_init 33 = .ok (.putfield 21, 3) := by decide +kernel
theorem dX3_init_36 : decode cX3_init 36 = .ok (.return_, 1) := by decide +kernel
theorem dX3_append_0 : decode cX3_append 0 = .ok (.aload_n 0, 1) := by decide +kernel
theorem dX3_append_1 : decode cX3_append 1 = .ok (.getfield 25, 3) := by decide +kernel
theorem dX3_append_4 : decode cX3_append 4 = .ok (.istore 4, 2) := by decide +kernel
theorem dX3_append_6 : decode cX3_append 6 = .ok (.aload_n 0, 1) := by decide +kernel
theorem dX3_append_7 : decode cX3_append 7 = .ok (.getfield 9, 3) := by decide +kernel
theorem dX3_append_10 : decode cX3_append 10 = .ok (.iload 4, 2) := by decide +kernel
theorem dX3_append_12 : decode cX3_append 12 = .ok (.iload_n 1, 1) := by decide +kernel
theorem dX3_append_13 : decode cX3_append 13 = .ok (.iastore, 1) := by decide +kernel
theorem dX3_append_14 : decode cX3_append 14 = .ok (.aload_n 0, 1) := by decide +kernel
theorem dX3_append_15 : decode cX3_append 15 = .ok (.getfield 15, 3) := by decide +kernel
theorem dX3_append_18 : decode cX3_append 18 = .ok (.iload 4, 2) := by decide +kernel
theorem dX3_append_20 : decode cX3_append 20 = .ok (.iload_n 2, 1) := by decide +kernel
theorem dX3_append_21 : decode cX3_append 21 = .ok (.iastore, 1) := by decide +kernel
theorem dX3_append_22 : decode cX3_append 22 = .ok (.aload_n 0, 1) := by decide +kernel
theorem dX3_append_23 : decode cX3_append 23 = .ok (.getfield 18, 3) := by decide +kernel
theorem dX3_append_26 : decode cX3_append 26 = .ok (.iload 4, 2) := by decide +kernel
theorem dX3_append_28 : decode cX3_append 28 = .ok (.iload_n 3, 1) := by decide +kernel
theorem dX3_append_29 : decode cX3_append 29 = .ok (.iastore, 1) := by decide +kernel
theorem dX3_append_30 : decode cX3_append 30 = .ok (.aload_n 0, 1) := by decide +kernel
theorem dX3_append_31 : decode cX3_append 31 = .ok (.getfield 21, 3) := by decide +kernel
theorem dX3_append_34 : decode cX3_append 34 = .ok (.iload 4, 2) := by decide +kernel
theorem dX3_append_36 : decode cX3_append 36 = .ok (.iconst 0, 1) := by decide +kernel
theorem dX3_append_37 : decode cX3_append 37 = .ok (.bastore, 1) := by decide +kernel
theorem dX3_append_38 : decode cX3_append 38 = .ok (.aload_n 0, 1) := by decide +kernel
theorem dX3_append_39 : decode cX3_append 39 = .ok (.dup, 1) := by decide +kernel
theorem dX3_append_40 : decode cX3_append 40 = .ok (.getfield 25, 3) := by decide +kernel
theorem dX3_append_43 : decode cX3_append 43 = .ok (.iconst 1, 1) := by decide +kernel
theorem dX3_append_44 : decode cX3_append 44 = .ok (.iadd, 1) := by decide +kernel
theorem dX3_append_45 : decode cX3_append 45 = .ok (.putfield 25, 3) := by decide +kernel
theorem dX3_append_48 : decode cX3_append 48 = .ok (.iload 4, 2) := by decide +kernel
theorem dX3_append_50 : decode cX3_append 50 = .ok (.ireturn, 1) := by decide +kernel
theorem dX3_copyFrom_0 : decode cX3_copyFrom 0 = .ok (.aload_n 0, 1) := by decide +kernel
theorem dX3_copyFrom_1 : decode cX3_copyFrom 1 = .ok (.aload_n 1, 1) := by decide +kernel
theorem dX3_copyFrom_2 : decode cX3_copyFrom 2 = .ok (.getfield 25, 3) := by decide +kernel
theorem dX3_copyFrom_5 : decode cX3_copyFrom 5 = .ok (.putfield 25, 3) := by decide +kernel
theorem dX3_copyFrom_8 : decode cX3_copyFrom 8 = .ok (.aload_n 1, 1) := by decide +kernel
theorem dX3_copyFrom_9 : decode cX3_copyFrom 9 = .ok (.getfield 9, 3) := by decide +kernel
theorem dX3_copyFrom_12 : decode cX3_copyFrom 12 = .ok (.iconst 0, 1) := by decide +kernel
theorem dX3_copyFrom_13 : decode cX3_copyFrom 13 = .ok (.aload_n 0, 1) := by decide +kernel
theorem dX3_copyFrom_14 : decode cX3_copyFrom 14 = .ok (.getfield 9, 3) := by decide +kernel
theorem dX3_copyFrom_17 : decode cX3_copyFrom 17 = .ok (.iconst 0, 1) := by decide +kernel
theorem dX3_copyFrom_18 : decode cX3_copyFrom 18 = .ok (.bipush 10, 2) := by decide +kernel
theorem dX3_copyFrom_20 : decode cX3_copyFrom 20 = .ok (.invokestatic 29, 3) := by decide +kernel
theorem dX3_copyFrom_23 : decode cX3_copyFrom 23 = .ok (.aload_n 1, 1) := by decide +kernel
theorem dX3_copyFrom_24 : decode cX3_copyFrom 24 = .ok (.getfield 15, 3) := by decide +kernel
theorem dX3_copyFrom_27 : decode cX3_copyFrom 27 = .ok (.iconst 0, 1) := by decide +kernel
theorem dX3_copyFrom_28 : decode cX3_copyFrom 28 = .ok (.aload_n 0, 1) := by decide +kernel
theorem dX3_copyFrom_29 : decode cX3_copyFrom 29 = .ok (.getfield 15, 3) := by decide +kernel
theorem dX3_copyFrom_32 : decode cX3_copyFrom 32 = .ok (.iconst 0, 1) := by decide +kernel
theorem dX3_copyFrom_33 : decode cX3_copyFrom 33 = .ok (.bipush 10, 2) := by decide +kernel
theorem dX3_copyFrom_35 : decode cX3_copyFrom 35 = .ok (.invokestatic 29, 3) := by decide +kernel
theorem dX3_copyFrom_38 : decode cX3_copyFrom 38 = .ok (.aload_n 1, 1) := by decide +kernel
theorem dX3_copyFrom_39 : decode cX3_copyFrom 39 = .ok (.getfield 18, 3) := by decide +kernel
theorem dX3_copyFrom_42 : decode cX3_copyFrom 42 = .ok (.iconst 0, 1) := by decide +kernel
theorem dX3_copyFrom_43 : decode cX3_copyFrom 43 = .ok (.aload_n 0, 1) := by decide +kernel
theorem dX3_copyFrom_44 : decode cX3_copyFrom 44 = .ok (.getfield 18, 3) := by decide +kernel
theorem dX3_copyFrom_47 : decode cX3_copyFrom 47 = .ok (.iconst 0, 1) := by decide +kernel
theorem dX3_copyFrom_48 : decode cX3_copyFrom 48 = .ok (.bipush 10, 2) := by decide +kernel
theorem dX3_copyFrom_50 : decode cX3_copyFrom 50 = .ok (.invokestatic 29, 3) := by decide +kernel
theorem dX3_copyFrom_53 : decode cX3_copyFrom 53 = .ok (.aload_n 1, 1) := by decide +kernel
theorem dX3_copyFrom_54 : decode cX3_copyFrom 54 = .ok (.getfield 21, 3) := by decide +kernel
theorem dX3_copyFrom_57 : decode cX3_copyFrom 57 = .ok (.iconst 0, 1) := by decide +kernel
theorem dX3_copyFrom_58 : decode cX3_copyFrom 58 = .ok (.aload_n 0, 1) := by decide +kernel
theorem dX3_copyFrom_59 : decode cX3_copyFrom 59 = .ok (.getfield 21, 3) := by decide +kernel
theorem dX3_copyFrom_62 : decode cX3_copyFrom 62 = .ok (.iconst 0, 1) := by decide +kernel
theorem dX3_copyFrom_63 : decode cX3_copyFrom 63 = .ok (.bipush 10, 2) := by decide +kernel
theorem dX3_copyFrom_65 : decode cX3_copyFrom 65 = .ok (.invokestatic 29, 3) := by decide +kernel
theorem dX3_copyFrom_68 : decode cX3_copyFrom 68 = .ok (.return_, 1) := by decide +kernel
theorem dX3_follow_0 : decode cX3_follow 0 = .ok (.iconst 0, 1) := by decide +kernel
theorem dX3_follow_1 : decode cX3_follow 1 = .ok (.istore 5, 2) := by decide +kernel
theorem dX3_follow_3 : decode cX3_follow 3 = .ok (.iconst 0, 1) := by decide +kernel
theorem dX3_follow_4 : decode cX3_follow 4 = .ok (.istore 6, 2) := by decide +kernel
theorem dX3_follow_6 : decode cX3_follow 6 = .ok (.iload 6, 2) := by decide +kernel
theorem dX3_follow_8 : decode cX3_follow 8 = .ok (.aload_n 0, 1) := by decide +kernel
theorem dX3_follow_9 : decode cX3_follow 9 = .ok (.getfield 25, 3) := by decide +kernel
theorem dX3_follow_12 : decode cX3_follow 12 = .ok (.if_icmp .ge 103, 3) := by decide +kernel
theorem dX3_follow_15 : decode cX3_follow 15 = .ok (.aload_n 1, 1) := by decide +kernel
theorem dX3_follow_16 : decode cX3_follow 16 = .ok (.getfield 35, 3) := by decide +kernel
theorem dX3_follow_19 : decode cX3_follow 19 = .ok (.aload_n 0, 1) := by decide +kernel
theorem dX3_follow_20 : decode cX3_follow 20 = .ok (.getfield 9, 3) := by decide +kernel
theorem dX3_follow_23 : decode cX3_follow 23 = .ok (.iload 6, 2) := by decide +kernel
theorem dX3_follow_25 : decode cX3_follow 25 = .ok (.iaload, 1) := by decide +kernel
theorem dX3_follow_26 : decode cX3_follow 26 = .ok (.iaload, 1) := by decide +kernel
theorem dX3_follow_27 : decode cX3_follow 27 = .ok (.istore 7, 2) := by decide +kernel
theorem dX3_follow_29 : decode cX3_follow 29 = .ok (.aload_n 0, 1) := by decide +kernel
theorem dX3_follow_30 : decode cX3_follow 30 = .ok (.getfield 21, 3) := by decide +kernel
theorem dX3_follow_33 : decode cX3_follow 33 = .ok (.iload 6, 2) := by decide +kernel
theorem dX3_follow_35 : decode cX3_follow 35 = .ok (.baload, 1) := by decide +kernel
theorem dX3_follow_36 : decode cX3_follow 36 = .ok (.ifCond .eq 23, 3) := by decide +kernel
theorem dX3_follow_39 : decode cX3_follow 39 = .ok (.iload 7, 2) := by decide +kernel
theorem dX3_follow_41 : decode cX3_follow 41 = .ok (.aload_n 0, 1) := by decide +kernel
theorem dX3_follow_42 : decode cX3_follow 42 = .ok (.getfield 18, 3) := by decide +kernel
theorem dX3_follow_45 : decode cX3_follow 45 = .ok (.iload 6, 2) := by decide +kernel
theorem dX3_follow_47 : decode cX3_follow 47 = .ok (.iaload, 1) := by decide +kernel
theorem dX3_follow_48 : decode cX3_follow 48 = .ok (.if_icmp .ge 7, 3) := by decide +kernel
theorem dX3_follow_51 : decode cX3_follow 51 = .ok (.iconst 1, 1) := by decide +kernel
theorem dX3_follow_52 : decode cX3_follow 52 = .ok (.goto 24, 3) := by decide +kernel
theorem dX3_follow_55 : decode cX3_follow 55 = .ok (.iconst 0, 1) := by decide +kernel
theorem dX3_follow_56 : decode cX3_follow 56 = .ok (.goto 20, 3) := by decide +kernel
theorem dX3_follow_59 : decode cX3_follow 59 = .ok (.iload 7, 2) := by decide +kernel
theorem dX3_follow_61 : decode cX3_follow 61 = .ok (.aload_n 0, 1) := by decide +kernel
theorem dX3_follow_62 : decode cX3_follow 62 = .ok (.getfield 15, 3) := by decide +kernel
theorem dX3_follow_65 : decode cX3_follow 65 = .ok (.iload 6, 2) := by decide +kernel
theorem dX3_follow_67 : decode cX3_follow 67 = .ok (.iaload, 1) := by decide +kernel
theorem dX3_follow_68 : decode cX3_follow 68 = .ok (.if_icmp .gt 7, 3) := by decide +kernel
theorem dX3_follow_71 : decode cX3_follow 71 = .ok (.iconst 1, 1) := by decide +kernel
theorem dX3_follow_72 : decode cX3_follow 72 = .ok (.goto 4, 3) := by decide +kernel
theorem dX3_follow_75 : decode cX3_follow 75 = .ok (.iconst 0, 1) := by decide +kernel
theorem dX3_follow_76 : decode cX3_follow 76 = .ok (.istore 8, 2) := by decide +kernel
theorem dX3_follow_78 : decode cX3_follow 78 = .ok (.iload 8, 2) := by decide +kernel
theorem dX3_follow_80 : decode cX3_follow 80 = .ok (.aload_n 0, 1) := by decide +kernel
theorem dX3_follow_81 : decode cX3_follow 81 = .ok (.getfield 21, 3) := by decide +kernel
theorem dX3_follow_84 : decode cX3_follow 84 = .ok (.iload 6, 2) := by decide +kernel
theorem dX3_follow_86 : decode cX3_follow 86 = .ok (.baload, 1) := by decide +kernel
theorem dX3_follow_87 : decode cX3_follow 87 = .ok (.if_icmp .eq 22, 3) := by decide +kernel
theorem dX3_follow_90 : decode cX3_follow 90 = .ok (.aload_n 0, 1) := by decide +kernel
theorem dX3_follow_91 : decode cX3_follow 91 = .ok (.getfield 21, 3) := by decide +kernel
theorem dX3_follow_94 : decode cX3_follow 94 = .ok (.iload 6, 2) := by decide +kernel
theorem dX3_follow_96 : decode cX3_follow 96 = .ok (.iload 8, 2) := by decide +kernel
theorem dX3_follow_98 : decode cX3_follow 98 = .ok (.bastore, 1) := by decide +kernel
theorem dX3_follow_99 : decode cX3_follow 99 = .ok (.aload_n 2, 1) := by decide +kernel
theorem dX3_follow_100 : decode cX3_follow 100 = .ok (.lload_n 3, 1) := by decide +kernel
theorem dX3_follow_101 : decode cX3_follow 101 = .ok (.iload 6, 2) := by decide +kernel
theorem dX3_follow_103 : decode cX3_follow 103 = .ok (.invokevirtual 40, 3) := by decide +kernel
theorem dX3_follow_106 : decode cX3_follow 106 = .ok (.iinc 5 1, 3) := by decide +kernel
theorem dX3_follow_109 : decode cX3_follow 109 = .ok (.iinc 6 1, 3) := by decide +kernel
theorem dX3_follow_112 : decode cX3_follow 112 = .ok (.goto (-106), 3) := by decide +kernel
theorem dX3_follow_115 : decode cX3_follow 115 = .ok (.iload 5, 2) := by decide +kernel
theorem dX3_follow_117 : decode cX3_follow 117 = .ok (.ireturn, 1) := by decide +kernel
theorem dX3_steadyTicks_0 : decode cX3_steadyTicks 0 = .ok (.iload_n 2, 1) := by decide +kernel
theorem dX3_steadyTicks_1 : decode cX3_steadyTicks 1 = .ok (.istore_n 3, 1) := by decide +kernel
theorem dX3_steadyTicks_2 : decode cX3_steadyTicks 2 = .ok (.iconst 0, 1) := by decide +kernel
theorem dX3_steadyTicks_3 : decode cX3_steadyTicks 3 = .ok (.istore 4, 2) := by decide +kernel
theorem dX3_steadyTicks_5 : decode cX3_steadyTicks 5 = .ok (.iload 4, 2) := by decide +kernel
theorem dX3_steadyTicks_7 : decode cX3_steadyTicks 7 = .ok (.aload_n 0, 1) := by decide +kernel
theorem dX3_steadyTicks_8 : decode cX3_steadyTicks 8 = .ok (.getfield 25, 3) := by decide +kernel
theorem dX3_steadyTicks_11 : decode cX3_steadyTicks 11 = .ok (.if_icmp .ge 95, 3) := by decide +kernel
theorem dX3_steadyTicks_14 : decode cX3_steadyTicks 14 = .ok (.iload_n 3, 1) := by decide +kernel
theorem dX3_steadyTicks_15 : decode cX3_steadyTicks 15 = .ok (.ifCond .le 91, 3) := by decide +kernel
theorem dX3_steadyTicks_18 : decode cX3_steadyTicks 18 = .ok (.aload_n 1, 1) := by decide +kernel
theorem dX3_steadyTicks_19 : decode cX3_steadyTicks 19 = .ok (.getfield 46, 3) := by decide +kernel
theorem dX3_steadyTicks_22 : decode cX3_steadyTicks 22 = .ok (.aload_n 0, 1) := by decide +kernel
theorem dX3_steadyTicks_23 : decode cX3_steadyTicks 23 = .ok (.getfield 9, 3) := by decide +kernel
theorem dX3_steadyTicks_26 : decode cX3_steadyTicks 26 = .ok (.iload 4, 2) := by decide +kernel
theorem dX3_steadyTicks_28 : decode cX3_steadyTicks 28 = .ok (.iaload, 1) := by decide +kernel
theorem dX3_steadyTicks_29 : decode cX3_steadyTicks 29 = .ok (.iaload, 1) := by decide +kernel
theorem dX3_steadyTicks_30 : decode cX3_steadyTicks 30 = .ok (.istore 5, 2) := by decide +kernel
theorem dX3_steadyTicks_32 : decode cX3_steadyTicks 32 = .ok (.aload_n 1, 1) := by decide +kernel
theorem dX3_steadyTicks_33 : decode cX3_steadyTicks 33 = .ok (.aload_n 0, 1) := by decide +kernel
theorem dX3_steadyTicks_34 : decode cX3_steadyTicks 34 = .ok (.getfield 9, 3) := by decide +kernel
theorem dX3_steadyTicks_37 : decode cX3_steadyTicks 37 = .ok (.iload 4, 2) := by decide +kernel
theorem dX3_steadyTicks_39 : decode cX3_steadyTicks 39 = .ok (.iaload, 1) := by decide +kernel
theorem dX3_steadyTicks_40 : decode cX3_steadyTicks 40 = .ok (.invokevirtual 49, 3) := by decide +kernel
theorem dX3_steadyTicks_43 : decode cX3_steadyTicks 43 = .ok (.istore 6, 2) := by decide +kernel
theorem dX3_steadyTicks_45 : decode cX3_steadyTicks 45 = .ok (.aload_n 0, 1) := by decide +kernel
theorem dX3_steadyTicks_46 : decode cX3_steadyTicks 46 = .ok (.getfield 21, 3) := by decide +kernel
theorem dX3_steadyTicks_49 : decode cX3_steadyTicks 49 = .ok (.iload 4, 2) := by decide +kernel
theorem dX3_steadyTicks_51 : decode cX3_steadyTicks 51 = .ok (.baload, 1) := by decide +kernel
theorem dX3_steadyTicks_52 : decode cX3_steadyTicks 52 = .ok (.ifCond .eq 27, 3) := by decide +kernel
theorem dX3_steadyTicks_55 : decode cX3_steadyTicks 55 = .ok (.aload_n 0, 1) := by decide +kernel
theorem dX3_steadyTicks_56 : decode cX3_steadyTicks 56 = .ok (.getfield 18, 3) := by decide +kernel
theorem dX3_steadyTicks_59 : decode cX3_steadyTicks 59 = .ok (.iload 4, 2) := by decide +kernel
theorem dX3_steadyTicks_61 : decode cX3_steadyTicks 61 = .ok (.iaload, 1) := by decide +kernel
theorem dX3_steadyTicks_62 : decode cX3_steadyTicks 62 = .ok (.iconst 1, 1) := by decide +kernel
theorem dX3_steadyTicks_63 : decode cX3_steadyTicks 63 = .ok (.isub, 1) := by decide +kernel
theorem dX3_steadyTicks_64 : decode cX3_steadyTicks 64 = .ok (.iload 5, 2) := by decide +kernel
theorem dX3_steadyTicks_66 : decode cX3_steadyTicks 66 = .ok (.isub, 1) := by decide +kernel
theorem dX3_steadyTicks_67 : decode cX3_steadyTicks 67 = .ok (.i2l, 1) := by decide +kernel
theorem dX3_steadyTicks_68 : decode cX3_steadyTicks 68 = .ok (.iload 6, 2) := by decide +kernel
theorem dX3_steadyTicks_70 : decode cX3_steadyTicks 70 = .ok (.ineg, 1) := by decide +kernel
theorem dX3_steadyTicks_71 : decode cX3_steadyTicks 71 = .ok (.i2l, 1) := by decide +kernel
theorem dX3_steadyTicks_72 : decode cX3_steadyTicks 72 = .ok (.iload_n 3, 1) := by decide +kernel
theorem dX3_steadyTicks_73 : decode cX3_steadyTicks 73 = .ok (.invokestatic 53, 3) := by decide +kernel
theorem dX3_steadyTicks_76 : decode cX3_steadyTicks 76 = .ok (.goto 23, 3) := by decide +kernel
theorem dX3_steadyTicks_79 : decode cX3_steadyTicks 79 = .ok (.iload 5, 2) := by decide +kernel
theorem dX3_steadyTicks_81 : decode cX3_steadyTicks 81 = .ok (.aload_n 0, 1) := by decide +kernel
theorem dX3_steadyTicks_82 : decode cX3_steadyTicks 82 = .ok (.getfield 15, 3) := by decide +kernel
theorem dX3_steadyTicks_85 : decode cX3_steadyTicks 85 = .ok (.iload 4, 2) := by decide +kernel
theorem dX3_steadyTicks_87 : decode cX3_steadyTicks 87 = .ok (.iaload, 1) := by decide +kernel
theorem dX3_steadyTicks_88 : decode cX3_steadyTicks 88 = .ok (.isub, 1) := by decide +kernel
theorem dX3_steadyTicks_89 : decode cX3_steadyTicks 89 = .ok (.iconst 1, 1) := by decide +kernel
theorem dX3_steadyTicks_90 : decode cX3_steadyTicks 90 = .ok (.isub, 1) := by decide +kernel
theorem dX3_steadyTicks_91 : decode cX3_steadyTicks 91 = .ok (.i2l, 1) := by decide +kernel
theorem dX3_steadyTicks_92 : decode cX3_steadyTicks 92 = .ok (.iload 6, 2) := by decide +kernel
theorem dX3_steadyTicks_94 : decode cX3_steadyTicks 94 = .ok (.i2l, 1) := by decide +kernel
theorem dX3_steadyTicks_95 : decode cX3_steadyTicks 95 = .ok (.iload_n 3, 1) := by decide +kernel
theorem dX3_steadyTicks_96 : decode cX3_steadyTicks 96 = .ok (.invokestatic 53, 3) := by decide +kernel
theorem dX3_steadyTicks_99 : decode cX3_steadyTicks 99 = .ok (.istore_n 3, 1) := by decide +kernel
theorem dX3_steadyTicks_100 : decode cX3_steadyTicks 100 = .ok (.iinc 4 1, 3) := by decide +kernel
theorem dX3_steadyTicks_103 : decode cX3_steadyTicks 103 = .ok (.goto (-98), 3) := by decide +kernel
theorem dX3_steadyTicks_106 : decode cX3_steadyTicks 106 = .ok (.iload_n 3, 1) := by decide +kernel
theorem dX3_steadyTicks_107 : decode cX3_steadyTicks 107 = .ok (.ireturn, 1) := by decide +kernel
theorem dX3_mixedInto_0 : decode cX3_mixedInto 0 = .ok (.lload_n 1, 1) := by decide +kernel
theorem dX3_mixedInto_1 : decode cX3_mixedInto 1 = .ok (.lstore_n 3, 1) := by decide +kernel
theorem dX3_mixedInto_2 : decode cX3_mixedInto 2 = .ok (.iconst 0, 1) := by decide +kernel
theorem dX3_mixedInto_3 : decode cX3_mixedInto 3 = .ok (.istore 5, 2) := by decide +kernel
theorem dX3_mixedInto_5 : decode cX3_mixedInto 5 = .ok (.iload 5, 2) := by decide +kernel
theorem dX3_mixedInto_7 : decode cX3_mixedInto 7 = .ok (.aload_n 0, 1) := by decide +kernel
theorem dX3_mixedInto_8 : decode cX3_mixedInto 8 = .ok (.getfield 25, 3) := by decide +kernel
theorem dX3_mixedInto_11 : decode cX3_mixedInto 11 = .ok (.if_icmp .ge 29, 3) := by decide +kernel
theorem dX3_mixedInto_14 : decode cX3_mixedInto 14 = .ok (.lload_n 3, 1) := by decide +kernel
theorem dX3_mixedInto_15 : decode cX3_mixedInto 15 = .ok (.aload_n 0, 1) := by decide +kernel
theorem dX3_mixedInto_16 : decode cX3_mixedInto 16 = .ok (.getfield 21, 3) := by decide +kernel
theorem dX3_mixedInto_19 : decode cX3_mixedInto 19 = .ok (.iload 5, 2) := by decide +kernel
theorem dX3_mixedInto_21 : decode cX3_mixedInto 21 = .ok (.baload, 1) := by decide +kernel
theorem dX3_mixedInto_22 : decode cX3_mixedInto 22 = .ok (.ifCond .eq 7, 3) := by decide +kernel
theorem dX3_mixedInto_25 : decode cX3_mixedInto 25 = .ok (.lconst 1, 1) := by decide +kernel
theorem dX3_mixedInto_26 : decode cX3_mixedInto 26 = .ok (.goto 4, 3) := by decide +kernel
theorem dX3_mixedInto_29 : decode cX3_mixedInto 29 = .ok (.lconst 0, 1) := by decide +kernel
theorem dX3_mixedInto_30 : decode cX3_mixedInto 30 = .ok (.invokestatic 57, 3) := by decide +kernel
theorem dX3_mixedInto_33 : decode cX3_mixedInto 33 = .ok (.lstore_n 3, 1) := by decide +kernel
theorem dX3_mixedInto_34 : decode cX3_mixedInto 34 = .ok (.iinc 5 1, 3) := by decide +kernel
theorem dX3_mixedInto_37 : decode cX3_mixedInto 37 = .ok (.goto (-32), 3) := by decide +kernel
theorem dX3_mixedInto_40 : decode cX3_mixedInto 40 = .ok (.lload_n 3, 1) := by decide +kernel
theorem dX3_mixedInto_41 : decode cX3_mixedInto 41 = .ok (.lreturn, 1) := by decide +kernel
theorem dX4_init_0 : decode cX4_init 0 = .ok (.aload_n 0, 1) := by decide +kernel
theorem dX4_init_1 : decode cX4_init 1 = .ok (.invokespecial 3, 3) := by decide +kernel
theorem dX4_init_4 : decode cX4_init 4 = .ok (.aload_n 0, 1) := by decide +kernel
theorem dX4_init_5 : decode cX4_init 5 = .ok (.bipush 8, 2) := by decide +kernel
theorem dX4_init_7 : decode cX4_init 7 = .ok (.newarray .int, 2) := by decide +kernel
theorem dX4_init_9 : decode cX4_init 9 = .ok (.putfield 9, 3) := by decide +kernel
theorem dX4_init_12 : decode cX4_init 12 = .ok (.aload_n 0, 1) := by decide +kernel
theorem dX4_init_13 : decode cX4_init 13 = .ok (.bipush 8, 2) := by decide +kernel
theorem dX4_init_15 : decode cX4_init 15 = .ok (.newarray .int, 2) := by decide +kernel
theorem dX4_init_17 : decode cX4_init 17 = .ok (.putfield 15, 3) := by decide +kernel
theorem dX4_init_20 : decode cX4_init 20 = .ok (.aload_n 0, 1) := by decide +kernel
theorem dX4_init_21 : decode cX4_init 21 = .ok (.bipush 8, 2) := by decide +kernel
theorem dX4_init_23 : decode cX4_init 23 = .ok (.newarray .int, 2) := by decide +kernel
theorem dX4_init_25 : decode cX4_init 25 = .ok (.putfield 18, 3) := by decide +kernel
theorem dX4_init_28 : decode cX4_init 28 = .ok (.aload_n 0, 1) := by decide +kernel
theorem dX4_init_29 : decode cX4_init 29 = .ok (.bipush 8, 2) := by decide +kernel
theorem dX4_init_31 : decode cX4_init 31 = .ok (.newarray .long, 2) := by decide +kernel
theorem dX4_init_33 : decode cX4_init 33 = .ok (.putfield 21, 3) := by decide +kernel
theorem dX4_init_36 : decode cX4_init 36 = .ok (.aload_n 0, 1) := by decide +kernel
theorem dX4_init_37 : decode cX4_init 37 = .ok (.bipush 8, 2) := by decide +kernel
theorem dX4_init_39 : decode cX4_init 39 = .ok (.newarray .int, 2) := by decide +kernel
theorem dX4_init_41 : decode cX4_init 41 = .ok (.putfield 25, 3) := by decide +kernel
theorem dX4_init_44 : decode cX4_init 44 = .ok (.return_, 1) := by decide +kernel
theorem dX4_append_0 : decode cX4_append 0 = .ok (.aload_n 0, 1) := by decide +kernel
theorem dX4_append_1 : decode cX4_append 1 = .ok (.getfield 28, 3) := by decide +kernel
theorem dX4_append_4 : decode cX4_append 4 = .ok (.istore 4, 2) := by decide +kernel
theorem dX4_append_6 : decode cX4_append 6 = .ok (.aload_n 0, 1) := by decide +kernel
theorem dX4_append_7 : decode cX4_append 7 = .ok (.getfield 9, 3) := by decide +kernel
theorem dX4_append_10 : decode cX4_append 10 = .ok (.iload 4, 2) := by decide +kernel
theorem dX4_append_12 : decode cX4_append 12 = .ok (.iload_n 1, 1) := by decide +kernel
theorem dX4_append_13 : decode cX4_append 13 = .ok (.iastore, 1) := by decide +kernel
theorem dX4_append_14 : decode cX4_append 14 = .ok (.aload_n 0, 1) := by decide +kernel
theorem dX4_append_15 : decode cX4_append 15 = .ok (.getfield 15, 3) := by decide +kernel
theorem dX4_append_18 : decode cX4_append 18 = .ok (.iload 4, 2) := by decide +kernel
theorem dX4_append_20 : decode cX4_append 20 = .ok (.iload_n 2, 1) := by decide +kernel
theorem dX4_append_21 : decode cX4_append 21 = .ok (.iastore, 1) := by decide +kernel
theorem dX4_append_22 : decode cX4_append 22 = .ok (.aload_n 0, 1) := by decide +kernel
theorem dX4_append_23 : decode cX4_append 23 = .ok (.getfield 18, 3) := by decide +kernel
theorem dX4_append_26 : decode cX4_append 26 = .ok (.iload 4, 2) := by decide +kernel
theorem dX4_append_28 : decode cX4_append 28 = .ok (.iload_n 3, 1) := by decide +kernel
theorem dX4_append_29 : decode cX4_append 29 = .ok (.iastore, 1) := by decide +kernel
theorem dX4_append_30 : decode cX4_append 30 = .ok (.aload_n 0, 1) := by decide +kernel
theorem dX4_append_31 : decode cX4_append 31 = .ok (.getfield 21, 3) := by decide +kernel
theorem dX4_append_34 : decode cX4_append 34 = .ok (.iload 4, 2) := by decide +kernel
theorem dX4_append_36 : decode cX4_append 36 = .ok (.lconst 0, 1) := by decide +kernel
theorem dX4_append_37 : decode cX4_append 37 = .ok (.lastore, 1) := by decide +kernel
theorem dX4_append_38 : decode cX4_append 38 = .ok (.aload_n 0, 1) := by decide +kernel
theorem dX4_append_39 : decode cX4_append 39 = .ok (.dup, 1) := by decide +kernel
theorem dX4_append_40 : decode cX4_append 40 = .ok (.getfield 28, 3) := by decide +kernel
theorem dX4_append_43 : decode cX4_append 43 = .ok (.iconst 1, 1) := by decide +kernel
theorem dX4_append_44 : decode cX4_append 44 = .ok (.iadd, 1) := by decide +kernel
theorem dX4_append_45 : decode cX4_append 45 = .ok (.putfield 28, 3) := by decide +kernel
theorem dX4_append_48 : decode cX4_append 48 = .ok (.iload 4, 2) := by decide +kernel
theorem dX4_append_50 : decode cX4_append 50 = .ok (.ireturn, 1) := by decide +kernel
theorem dX4_copyFrom_0 : decode cX4_copyFrom 0 = .ok (.aload_n 0, 1) := by decide +kernel
theorem dX4_copyFrom_1 : decode cX4_copyFrom 1 = .ok (.aload_n 1, 1) := by decide +kernel
theorem dX4_copyFrom_2 : decode cX4_copyFrom 2 = .ok (.getfield 28, 3) := by decide +kernel
theorem dX4_copyFrom_5 : decode cX4_copyFrom 5 = .ok (.putfield 28, 3) := by decide +kernel
theorem dX4_copyFrom_8 : decode cX4_copyFrom 8 = .ok (.aload_n 1, 1) := by decide +kernel
theorem dX4_copyFrom_9 : decode cX4_copyFrom 9 = .ok (.getfield 9, 3) := by decide +kernel
theorem dX4_copyFrom_12 : decode cX4_copyFrom 12 = .ok (.iconst 0, 1) := by decide +kernel
theorem dX4_copyFrom_13 : decode cX4_copyFrom 13 = .ok (.aload_n 0, 1) := by decide +kernel
theorem dX4_copyFrom_14 : decode cX4_copyFrom 14 = .ok (.getfield 9, 3) := by decide +kernel
theorem dX4_copyFrom_17 : decode cX4_copyFrom 17 = .ok (.iconst 0, 1) := by decide +kernel
theorem dX4_copyFrom_18 : decode cX4_copyFrom 18 = .ok (.bipush 8, 2) := by decide +kernel
theorem dX4_copyFrom_20 : decode cX4_copyFrom 20 = .ok (.invokestatic 32, 3) := by decide +kernel
theorem dX4_copyFrom_23 : decode cX4_copyFrom 23 = .ok (.aload_n 1, 1) := by decide +kernel
theorem dX4_copyFrom_24 : decode cX4_copyFrom 24 = .ok (.getfield 15, 3) := by decide +kernel
theorem dX4_copyFrom_27 : decode cX4_copyFrom 27 = .ok (.iconst 0, 1) := by decide +kernel
theorem dX4_copyFrom_28 : decode cX4_copyFrom 28 = .ok (.aload_n 0, 1) := by decide +kernel
theorem dX4_copyFrom_29 : decode cX4_copyFrom 29 = .ok (.getfield 15, 3) := by decide +kernel
theorem dX4_copyFrom_32 : decode cX4_copyFrom 32 = .ok (.iconst 0, 1) := by decide +kernel
theorem dX4_copyFrom_33 : decode cX4_copyFrom 33 = .ok (.bipush 8, 2) := by decide +kernel
theorem dX4_copyFrom_35 : decode cX4_copyFrom 35 = .ok (.invokestatic 32, 3) := by decide +kernel
theorem dX4_copyFrom_38 : decode cX4_copyFrom 38 = .ok (.aload_n 1, 1) := by decide +kernel
theorem dX4_copyFrom_39 : decode cX4_copyFrom 39 = .ok (.getfield 18, 3) := by decide +kernel
theorem dX4_copyFrom_42 : decode cX4_copyFrom 42 = .ok (.iconst 0, 1) := by decide +kernel
theorem dX4_copyFrom_43 : decode cX4_copyFrom 43 = .ok (.aload_n 0, 1) := by decide +kernel
theorem dX4_copyFrom_44 : decode cX4_copyFrom 44 = .ok (.getfield 18, 3) := by decide +kernel
theorem dX4_copyFrom_47 : decode cX4_copyFrom 47 = .ok (.iconst 0, 1) := by decide +kernel
theorem dX4_copyFrom_48 : decode cX4_copyFrom 48 = .ok (.bipush 8, 2) := by decide +kernel
theorem dX4_copyFrom_50 : decode cX4_copyFrom 50 = .ok (.invokestatic 32, 3) := by decide +kernel
theorem dX4_copyFrom_53 : decode cX4_copyFrom 53 = .ok (.aload_n 1, 1) := by decide +kernel
theorem dX4_copyFrom_54 : decode cX4_copyFrom 54 = .ok (.getfield 21, 3) := by decide +kernel
theorem dX4_copyFrom_57 : decode cX4_copyFrom 57 = .ok (.iconst 0, 1) := by decide +kernel
theorem dX4_copyFrom_58 : decode cX4_copyFrom 58 = .ok (.aload_n 0, 1) := by decide +kernel
theorem dX4_copyFrom_59 : decode cX4_copyFrom 59 = .ok (.getfield 21, 3) := by decide +kernel
theorem dX4_copyFrom_62 : decode cX4_copyFrom 62 = .ok (.iconst 0, 1) := by decide +kernel
theorem dX4_copyFrom_63 : decode cX4_copyFrom 63 = .ok (.bipush 8, 2) := by decide +kernel
theorem dX4_copyFrom_65 : decode cX4_copyFrom 65 = .ok (.invokestatic 32, 3) := by decide +kernel
theorem dX4_copyFrom_68 : decode cX4_copyFrom 68 = .ok (.return_, 1) := by decide +kernel
theorem dX4_noteLevels_0 : decode cX4_noteLevels 0 = .ok (.aload_n 0, 1) := by decide +kernel
theorem dX4_noteLevels_1 : decode cX4_noteLevels 1 = .ok (.getfield 15, 3) := by decide +kernel
theorem dX4_noteLevels_4 : decode cX4_noteLevels 4 = .ok (.iconst 0, 1) := by decide +kernel
theorem dX4_noteLevels_5 : decode cX4_noteLevels 5 = .ok (.aload_n 0, 1) := by decide +kernel
theorem dX4_noteLevels_6 : decode cX4_noteLevels 6 = .ok (.getfield 25, 3) := by decide +kernel
theorem dX4_noteLevels_9 : decode cX4_noteLevels 9 = .ok (.iconst 0, 1) := by decide +kernel
theorem dX4_noteLevels_10 : decode cX4_noteLevels 10 = .ok (.bipush 8, 2) := by decide +kernel
theorem dX4_noteLevels_12 : decode cX4_noteLevels 12 = .ok (.invokestatic 32, 3) := by decide +kernel
theorem dX4_noteLevels_15 : decode cX4_noteLevels 15 = .ok (.return_, 1) := by decide +kernel
theorem dX4_leakAndSum_0 : decode cX4_leakAndSum 0 = .ok (.iconst 0, 1) := by decide +kernel
theorem dX4_leakAndSum_1 : decode cX4_leakAndSum 1 = .ok (.istore_n 1, 1) := by decide +kernel
theorem dX4_leakAndSum_2 : decode cX4_leakAndSum 2 = .ok (.iload_n 1, 1) := by decide +kernel
theorem dX4_leakAndSum_3 : decode cX4_leakAndSum 3 = .ok (.aload_n 0, 1) := by decide +kernel
theorem dX4_leakAndSum_4 : decode cX4_leakAndSum 4 = .ok (.getfield 28, 3) := by decide +kernel
theorem dX4_leakAndSum_7 : decode cX4_leakAndSum 7 = .ok (.if_icmp .ge 49, 3) := by decide +kernel
theorem dX4_leakAndSum_10 : decode cX4_leakAndSum 10 = .ok (.aload_n 0, 1) := by decide +kernel
theorem dX4_leakAndSum_11 : decode cX4_leakAndSum 11 = .ok (.getfield 15, 3) := by decide +kernel
theorem dX4_leakAndSum_14 : decode cX4_leakAndSum 14 = .ok (.iload_n 1, 1) := by decide +kernel
theorem dX4_leakAndSum_15 : decode cX4_leakAndSum 15 = .ok (.dup2, 1) := by decide +kernel
theorem dX4_leakAndSum_16 : decode cX4_leakAndSum 16 = .ok (.iaload, 1) := by decide +kernel
theorem dX4_leakAndSum_17 : decode cX4_leakAndSum 17 = .ok (.aload_n 0, 1) := by decide +kernel
theorem dX4_leakAndSum_18 : decode cX4_leakAndSum 18 = .ok (.getfield 18, 3) := by decide +kernel
theorem dX4_leakAndSum_21 : decode cX4_leakAndSum 21 = .ok (.iload_n 1, 1) := by decide +kernel
theorem dX4_leakAndSum_22 : decode cX4_leakAndSum 22 = .ok (.iaload, 1) := by decide +kernel
theorem dX4_leakAndSum_23 : decode cX4_leakAndSum 23 = .ok (.aload_n 0, 1) := by decide +kernel
theorem dX4_leakAndSum_24 : decode cX4_leakAndSum 24 = .ok (.getfield 15, 3) := by decide +kernel
theorem dX4_leakAndSum_27 : decode cX4_leakAndSum 27 = .ok (.iload_n 1, 1) := by decide +kernel
theorem dX4_leakAndSum_28 : decode cX4_leakAndSum 28 = .ok (.iaload, 1) := by decide +kernel
theorem dX4_leakAndSum_29 : decode cX4_leakAndSum 29 = .ok (.invokestatic 38, 3) := by decide +kernel
theorem dX4_leakAndSum_32 : decode cX4_leakAndSum 32 = .ok (.isub, 1) := by decide +kernel
theorem dX4_leakAndSum_33 : decode cX4_leakAndSum 33 = .ok (.iastore, 1) := by decide +kernel
theorem dX4_leakAndSum_34 : decode cX4_leakAndSum 34 = .ok (.aload_n 0, 1) := by decide +kernel
theorem dX4_leakAndSum_35 : decode cX4_leakAndSum 35 = .ok (.getfield 21, 3) := by decide +kernel
theorem dX4_leakAndSum_38 : decode cX4_leakAndSum 38 = .ok (.iload_n 1, 1) := by decide +kernel
theorem dX4_leakAndSum_39 : decode cX4_leakAndSum 39 = .ok (.dup2, 1) := by decide +kernel
theorem dX4_leakAndSum_40 : decode cX4_leakAndSum 40 = .ok (.laload, 1) := by decide +kernel
theorem dX4_leakAndSum_41 : decode cX4_leakAndSum 41 = .ok (.aload_n 0, 1) := by decide +kernel
theorem dX4_leakAndSum_42 : decode cX4_leakAndSum 42 = .ok (.getfield 15, 3) := by decide +kernel
theorem dX4_leakAndSum_45 : decode cX4_leakAndSum 45 = .ok (.iload_n 1, 1) := by decide +kernel
theorem dX4_leakAndSum_46 : decode cX4_leakAndSum 46 = .ok (.iaload, 1) := by decide +kernel
theorem dX4_leakAndSum_47 : decode cX4_leakAndSum 47 = .ok (.i2l, 1) := by decide +kernel
theorem dX4_leakAndSum_48 : decode cX4_leakAndSum 48 = .ok (.ladd, 1) := by decide +kernel
theorem dX4_leakAndSum_49 : decode cX4_leakAndSum 49 = .ok (.lastore, 1) := by decide +kernel
theorem dX4_leakAndSum_50 : decode cX4_leakAndSum 50 = .ok (.iinc 1 1, 3) := by decide +kernel
theorem dX4_leakAndSum_53 : decode cX4_leakAndSum 53 = .ok (.goto (-51), 3) := by decide +kernel
theorem dX4_leakAndSum_56 : decode cX4_leakAndSum 56 = .ok (.return_, 1) := by decide +kernel
theorem dX4_drift_0 : decode cX4_drift 0 = .ok (.aload_n 0, 1) := by decide +kernel
theorem dX4_drift_1 : decode cX4_drift 1 = .ok (.getfield 15, 3) := by decide +kernel
theorem dX4_drift_4 : decode cX4_drift 4 = .ok (.iload_n 1, 1) := by decide +kernel
theorem dX4_drift_5 : decode cX4_drift 5 = .ok (.iaload, 1) := by decide +kernel
theorem dX4_drift_6 : decode cX4_drift 6 = .ok (.aload_n 0, 1) := by decide +kernel
theorem dX4_drift_7 : decode cX4_drift 7 = .ok (.getfield 25, 3) := by decide +kernel
theorem dX4_drift_10 : decode cX4_drift 10 = .ok (.iload_n 1, 1) := by decide +kernel
theorem dX4_drift_11 : decode cX4_drift 11 = .ok (.iaload, 1) := by decide +kernel
theorem dX4_drift_12 : decode cX4_drift 12 = .ok (.isub, 1) := by decide +kernel
theorem dX4_drift_13 : decode cX4_drift 13 = .ok (.ireturn, 1) := by decide +kernel
theorem dX4_hasReached_0 : decode cX4_hasReached 0 = .ok (.iload_n 3, 1) := by decide +kernel
theorem dX4_hasReached_1 : decode cX4_hasReached 1 = .ok (.ifCond .eq 21, 3) := by decide +kernel
theorem dX4_hasReached_4 : decode cX4_hasReached 4 = .ok (.aload_n 0, 1) := by decide +kernel
theorem dX4_hasReached_5 : decode cX4_hasReached 5 = .ok (.getfield 15, 3) := by decide +kernel
theorem dX4_hasReached_8 : decode cX4_hasReached 8 = .ok (.iload_n 1, 1) := by decide +kernel
theorem dX4_hasReached_9 : decode cX4_hasReached 9 = .ok (.iaload, 1) := by decide +kernel
theorem dX4_hasReached_10 : decode cX4_hasReached 10 = .ok (.iload_n 2, 1) := by decide +kernel
theorem dX4_hasReached_11 : decode cX4_hasReached 11 = .ok (.if_icmp .gt 7, 3) := by decide +kernel
theorem dX4_hasReached_14 : decode cX4_hasReached 14 = .ok (.iconst 1, 1) := by decide +kernel
theorem dX4_hasReached_15 : decode cX4_hasReached 15 = .ok (.goto 22, 3) := by decide +kernel
theorem dX4_hasReached_18 : decode cX4_hasReached 18 = .ok (.iconst 0, 1) := by decide +kernel
theorem dX4_hasReached_19 : decode cX4_hasReached 19 = .ok (.goto 18, 3) := by decide +kernel
theorem dX4_hasReached_22 : decode cX4_hasReached 22 = .ok (.aload_n 0, 1) := by decide +kernel
theorem dX4_hasReached_23 : decode cX4_hasReached 23 = .ok (.getfield 15, 3) := by decide +kernel
theorem dX4_hasReached_26 : decode cX4_hasReached 26 = .ok (.iload_n 1, 1) := by decide +kernel
theorem dX4_hasReached_27 : decode cX4_hasReached 27 = .ok (.iaload, 1) := by decide +kernel
theorem dX4_hasReached_28 : decode cX4_hasReached 28 = .ok (.iload_n 2, 1) := by decide +kernel
theorem dX4_hasReached_29 : decode cX4_hasReached 29 = .ok (.if_icmp .lt 7, 3) := by decide +kernel
theorem dX4_hasReached_32 : decode cX4_hasReached 32 = .ok (.iconst 1, 1) := by decide +kernel
theorem dX4_hasReached_33 : decode cX4_hasReached 33 = .ok (.goto 4, 3) := by decide +kernel
theorem dX4_hasReached_36 : decode cX4_hasReached 36 = .ok (.iconst 0, 1) := by decide +kernel
theorem dX4_hasReached_37 : decode cX4_hasReached 37 = .ok (.ireturn, 1) := by decide +kernel
theorem dX4_ticksShortOf_0 : decode cX4_ticksShortOf 0 = .ok (.iload_n 3, 1) := by decide +kernel
theorem dX4_ticksShortOf_1 : decode cX4_ticksShortOf 1 = .ok (.ifCond .eq 16, 3) := by decide +kernel
theorem dX4_ticksShortOf_4 : decode cX4_ticksShortOf 4 = .ok (.aload_n 0, 1) := by decide +kernel
theorem dX4_ticksShortOf_5 : decode cX4_ticksShortOf 5 = .ok (.getfield 15, 3) := by decide +kernel
theorem dX4_ticksShortOf_8 : decode cX4_ticksShortOf 8 = .ok (.iload_n 1, 1) := by decide +kernel
theorem dX4_ticksShortOf_9 : decode cX4_ticksShortOf 9 = .ok (.iaload, 1) := by decide +kernel
theorem dX4_ticksShortOf_10 : decode cX4_ticksShortOf 10 = .ok (.i2l, 1) := by decide +kernel
theorem dX4_ticksShortOf_11 : decode cX4_ticksShortOf 11 = .ok (.iload_n 2, 1) := by decide +kernel
theorem dX4_ticksShortOf_12 : decode cX4_ticksShortOf 12 = .ok (.i2l, 1) := by decide +kernel
theorem dX4_ticksShortOf_13 : decode cX4_ticksShortOf 13 = .ok (.lsub, 1) := by decide +kernel
theorem dX4_ticksShortOf_14 : decode cX4_ticksShortOf 14 = .ok (.goto 13, 3) := by decide +kernel
theorem dX4_ticksShortOf_17 : decode cX4_ticksShortOf 17 = .ok (.iload_n 2, 1) := by decide +kernel
theorem dX4_ticksShortOf_18 : decode cX4_ticksShortOf 18 = .ok (.i2l, 1) := by decide +kernel
theorem dX4_ticksShortOf_19 : decode cX4_ticksShortOf 19 = .ok (.aload_n 0, 1) := by decide +kernel
theorem dX4_ticksShortOf_20 : decode cX4_ticksShortOf 20 = .ok (.getfield 15, 3) := by decide +kernel
theorem dX4_ticksShortOf_23 : decode cX4_ticksShortOf 23 = .ok (.iload_n 1, 1) := by decide +kernel
theorem dX4_ticksShortOf_24 : decode cX4_ticksShortOf 24 = .ok (.iaload, 1) := by decide +kernel
theorem dX4_ticksShortOf_25 : decode cX4_ticksShortOf 25 = .ok (.i2l, 1) := by decide +kernel
theorem dX4_ticksShortOf_26 : decode cX4_ticksShortOf 26 = .ok (.lsub, 1) := by decide +kernel
theorem dX4_ticksShortOf_27 : decode cX4_ticksShortOf 27 = .ok (.lstore 5, 2) := by decide +kernel
theorem dX4_ticksShortOf_29 : decode cX4_ticksShortOf 29 = .ok (.iload_n 3, 1) := by decide +kernel
theorem dX4_ticksShortOf_30 : decode cX4_ticksShortOf 30 = .ok (.ifCond .eq 12, 3) := by decide +kernel
theorem dX4_ticksShortOf_33 : decode cX4_ticksShortOf 33 = .ok (.aload_n 0, 1) := by decide +kernel
theorem dX4_ticksShortOf_34 : decode cX4_ticksShortOf 34 = .ok (.iload_n 1, 1) := by decide +kernel
theorem dX4_ticksShortOf_35 : decode cX4_ticksShortOf 35 = .ok (.invokevirtual 44, 3) := by decide +kernel
theorem dX4_ticksShortOf_38 : decode cX4_ticksShortOf 38 = .ok (.i2l, 1) := by decide +kernel
theorem dX4_ticksShortOf_39 : decode cX4_ticksShortOf 39 = .ok (.goto 10, 3) := by decide +kernel
theorem dX4_ticksShortOf_42 : decode cX4_ticksShortOf 42 = .ok (.aload_n 0, 1) := by decide +kernel
theorem dX4_ticksShortOf_43 : decode cX4_ticksShortOf 43 = .ok (.iload_n 1, 1) := by decide +kernel
theorem dX4_ticksShortOf_44 : decode cX4_ticksShortOf 44 = .ok (.invokevirtual 44, 3) := by decide +kernel
theorem dX4_ticksShortOf_47 : decode cX4_ticksShortOf 47 = .ok (.ineg, 1) := by decide +kernel
theorem dX4_ticksShortOf_48 : decode cX4_ticksShortOf 48 = .ok (.i2l, 1) := by decide +kernel
theorem dX4_ticksShortOf_49 : decode cX4_ticksShortOf 49 = .ok (.lstore 7, 2) := by decide +kernel
theorem dX4_ticksShortOf_51 : decode cX4_ticksShortOf 51 = .ok (.lload 5, 2) := by decide +kernel
theorem dX4_ticksShortOf_53 : decode cX4_ticksShortOf 53 = .ok (.lconst 1, 1) := by decide +kernel
theorem dX4_ticksShortOf_54 : decode cX4_ticksShortOf 54 = .ok (.lsub, 1) := by decide +kernel
theorem dX4_ticksShortOf_55 : decode cX4_ticksShortOf 55 = .ok (.lload 7, 2) := by decide +kernel
theorem dX4_ticksShortOf_57 : decode cX4_ticksShortOf 57 = .ok (.iload 4, 2) := by decide +kernel
theorem dX4_ticksShortOf_59 : decode cX4_ticksShortOf 59 = .ok (.invokestatic 48, 3) := by decide +kernel
theorem dX4_ticksShortOf_62 : decode cX4_ticksShortOf 62 = .ok (.ireturn, 1) := by decide +kernel
theorem dX4_steadyTicks_0 : decode cX4_steadyTicks 0 = .ok (.iload_n 1, 1) := by decide +kernel
theorem dX4_steadyTicks_1 : decode cX4_steadyTicks 1 = .ok (.istore_n 2, 1) := by decide +kernel
theorem dX4_steadyTicks_2 : decode cX4_steadyTicks 2 = .ok (.iconst 0, 1) := by decide +kernel
theorem dX4_steadyTicks_3 : decode cX4_steadyTicks 3 = .ok (.istore_n 3, 1) := by decide +kernel
theorem dX4_steadyTicks_4 : decode cX4_steadyTicks 4 = .ok (.iload_n 3, 1) := by decide +kernel
theorem dX4_steadyTicks_5 : decode cX4_steadyTicks 5 = .ok (.aload_n 0, 1) := by decide +kernel
theorem dX4_steadyTicks_6 : decode cX4_steadyTicks 6 = .ok (.getfield 28, 3) := by decide +kernel
theorem dX4_steadyTicks_9 : decode cX4_steadyTicks 9 = .ok (.if_icmp .ge 31, 3) := by decide +kernel
theorem dX4_steadyTicks_12 : decode cX4_steadyTicks 12 = .ok (.iload_n 2, 1) := by decide +kernel
theorem dX4_steadyTicks_13 : decode cX4_steadyTicks 13 = .ok (.ifCond .le 27, 3) := by decide +kernel
theorem dX4_steadyTicks_16 : decode cX4_steadyTicks 16 = .ok (.aload_n 0, 1) := by decide +kernel
theorem dX4_steadyTicks_17 : decode cX4_steadyTicks 17 = .ok (.getfield 15, 3) := by decide +kernel
theorem dX4_steadyTicks_20 : decode cX4_steadyTicks 20 = .ok (.iload_n 3, 1) := by decide +kernel
theorem dX4_steadyTicks_21 : decode cX4_steadyTicks 21 = .ok (.iaload, 1) := by decide +kernel
theorem dX4_steadyTicks_22 : decode cX4_steadyTicks 22 = .ok (.i2l, 1) := by decide +kernel
theorem dX4_steadyTicks_23 : decode cX4_steadyTicks 23 = .ok (.aload_n 0, 1) := by decide +kernel
theorem dX4_steadyTicks_24 : decode cX4_steadyTicks 24 = .ok (.iload_n 3, 1) := by decide +kernel
theorem dX4_steadyTicks_25 : decode cX4_steadyTicks 25 = .ok (.invokevirtual 44, 3) := by decide +kernel
theorem dX4_steadyTicks_28 : decode cX4_steadyTicks 28 = .ok (.i2l, 1) := by decide +kernel
theorem dX4_steadyTicks_29 : decode cX4_steadyTicks 29 = .ok (.iload_n 2, 1) := by decide +kernel
theorem dX4_steadyTicks_30 : decode cX4_steadyTicks 30 = .ok (.invokestatic 48, 3) := by decide +kernel
theorem dX4_steadyTicks_33 : decode cX4_steadyTicks 33 = .ok (.istore_n 2, 1) := by decide +kernel
theorem dX4_steadyTicks_34 : decode cX4_steadyTicks 34 = .ok (.iinc 3 1, 3) := by decide +kernel
theorem dX4_steadyTicks_37 : decode cX4_steadyTicks 37 = .ok (.goto (-33), 3) := by decide +kernel
theorem dX4_steadyTicks_40 : decode cX4_steadyTicks 40 = .ok (.iload_n 2, 1) := by decide +kernel
theorem dX4_steadyTicks_41 : decode cX4_steadyTicks 41 = .ok (.ireturn, 1) := by decide +kernel
theorem dX4_repeat_0 : decode cX4_repeat 0 = .ok (.iload_n 1, 1) := by decide +kernel
theorem dX4_repeat_1 : decode cX4_repeat 1 = .ok (.i2l, 1) := by decide +kernel
theorem dX4_repeat_2 : decode cX4_repeat 2 = .ok (.iload_n 1, 1) := by decide +kernel
theorem dX4_repeat_3 : decode cX4_repeat 3 = .ok (.iconst 1, 1) := by decide +kernel
theorem dX4_repeat_4 : decode cX4_repeat 4 = .ok (.iadd, 1) := by decide +kernel
theorem dX4_repeat_5 : decode cX4_repeat 5 = .ok (.i2l, 1) := by decide +kernel
theorem dX4_repeat_6 : decode cX4_repeat 6 = .ok (.lmul, 1) := by decide +kernel
theorem dX4_repeat_7 : decode cX4_repeat 7 = .ok (.ldc2_w 52, 3) := by decide +kernel
theorem dX4_repeat_10 : decode cX4_repeat 10 = .ok (.ldiv, 1) := by decide +kernel
theorem dX4_repeat_11 : decode cX4_repeat 11 = .ok (.lstore_n 2, 1) := by decide +kernel
theorem dX4_repeat_12 : decode cX4_repeat 12 = .ok (.iconst 0, 1) := by decide +kernel
theorem dX4_repeat_13 : decode cX4_repeat 13 = .ok (.istore 4, 2) := by decide +kernel
theorem dX4_repeat_15 : decode cX4_repeat 15 = .ok (.iload 4, 2) := by decide +kernel
theorem dX4_repeat_17 : decode cX4_repeat 17 = .ok (.aload_n 0, 1) := by decide +kernel
theorem dX4_repeat_18 : decode cX4_repeat 18 = .ok (.getfield 28, 3) := by decide +kernel
theorem dX4_repeat_21 : decode cX4_repeat 21 = .ok (.if_icmp .ge 58, 3) := by decide +kernel
theorem dX4_repeat_24 : decode cX4_repeat 24 = .ok (.aload_n 0, 1) := by decide +kernel
theorem dX4_repeat_25 : decode cX4_repeat 25 = .ok (.iload 4, 2) := by decide +kernel
theorem dX4_repeat_27 : decode cX4_repeat 27 = .ok (.invokevirtual 44, 3) := by decide +kernel
theorem dX4_repeat_30 : decode cX4_repeat 30 = .ok (.istore 5, 2) := by decide +kernel
theorem dX4_repeat_32 : decode cX4_repeat 32 = .ok (.aload_n 0, 1) := by decide +kernel
theorem dX4_repeat_33 : decode cX4_repeat 33 = .ok (.getfield 21, 3) := by decide +kernel
theorem dX4_repeat_36 : decode cX4_repeat 36 = .ok (.iload 4, 2) := by decide +kernel
theorem dX4_repeat_38 : decode cX4_repeat 38 = .ok (.dup2, 1) := by decide +kernel
theorem dX4_repeat_39 : decode cX4_repeat 39 = .ok (.laload, 1) := by decide +kernel
theorem dX4_repeat_40 : decode cX4_repeat 40 = .ok (.aload_n 0, 1) := by decide +kernel
theorem dX4_repeat_41 : decode cX4_repeat 41 = .ok (.getfield 15, 3) := by decide +kernel
theorem dX4_repeat_44 : decode cX4_repeat 44 = .ok (.iload 4, 2) := by decide +kernel
theorem dX4_repeat_46 : decode cX4_repeat 46 = .ok (.iaload, 1) := by decide +kernel
theorem dX4_repeat_47 : decode cX4_repeat 47 = .ok (.i2l, 1) := by decide +kernel
theorem dX4_repeat_48 : decode cX4_repeat 48 = .ok (.iload_n 1, 1) := by decide +kernel
theorem dX4_repeat_49 : decode cX4_repeat 49 = .ok (.i2l, 1) := by decide +kernel
theorem dX4_repeat_50 : decode cX4_repeat 50 = .ok (.lmul, 1) := by decide +kernel
theorem dX4_repeat_51 : decode cX4_repeat 51 = .ok (.iload 5, 2) := by decide +kernel
theorem dX4_repeat_53 : decode cX4_repeat 53 = .ok (.i2l, 1) := by decide +kernel
theorem dX4_repeat_54 : decode cX4_repeat 54 = .ok (.lload_n 2, 1) := by decide +kernel
theorem dX4_repeat_55 : decode cX4_repeat 55 = .ok (.lmul, 1) := by decide +kernel
theorem dX4_repeat_56 : decode cX4_repeat 56 = .ok (.ladd, 1) := by decide +kernel
theorem dX4_repeat_57 : decode cX4_repeat 57 = .ok (.ladd, 1) := by decide +kernel
theorem dX4_repeat_58 : decode cX4_repeat 58 = .ok (.lastore, 1) := by decide +kernel
theorem dX4_repeat_59 : decode cX4_repeat 59 = .ok (.aload_n 0, 1) := by decide +kernel
theorem dX4_repeat_60 : decode cX4_repeat 60 = .ok (.getfield 15, 3) := by decide +kernel
theorem dX4_repeat_63 : decode cX4_repeat 63 = .ok (.iload 4, 2) := by decide +kernel
theorem dX4_repeat_65 : decode cX4_repeat 65 = .ok (.dup2, 1) := by decide +kernel
theorem dX4_repeat_66 : decode cX4_repeat 66 = .ok (.iaload, 1) := by decide +kernel
theorem dX4_repeat_67 : decode cX4_repeat 67 = .ok (.iload 5, 2) := by decide +kernel
theorem dX4_repeat_69 : decode cX4_repeat 69 = .ok (.iload_n 1, 1) := by decide +kernel
theorem dX4_repeat_70 : decode cX4_repeat 70 = .ok (.imul, 1) := by decide +kernel
theorem dX4_repeat_71 : decode cX4_repeat 71 = .ok (.iadd, 1) := by decide +kernel
theorem dX4_repeat_72 : decode cX4_repeat 72 = .ok (.iastore, 1) := by decide +kernel
theorem dX4_repeat_73 : decode cX4_repeat 73 = .ok (.iinc 4 1, 3) := by decide +kernel
theorem dX4_repeat_76 : decode cX4_repeat 76 = .ok (.goto (-61), 3) := by decide +kernel
theorem dX4_repeat_79 : decode cX4_repeat 79 = .ok (.return_, 1) := by decide +kernel
theorem dX4_mixedInto_0 : decode cX4_mixedInto 0 = .ok (.lload_n 1, 1) := by decide +kernel
theorem dX4_mixedInto_1 : decode cX4_mixedInto 1 = .ok (.lstore_n 3, 1) := by decide +kernel
theorem dX4_mixedInto_2 : decode cX4_mixedInto 2 = .ok (.iconst 0, 1) := by decide +kernel
theorem dX4_mixedInto_3 : decode cX4_mixedInto 3 = .ok (.istore 5, 2) := by decide +kernel
theorem dX4_mixedInto_5 : decode cX4_mixedInto 5 = .ok (.iload 5, 2) := by decide +kernel
theorem dX4_mixedInto_7 : decode cX4_mixedInto 7 = .ok (.aload_n 0, 1) := by decide +kernel
theorem dX4_mixedInto_8 : decode cX4_mixedInto 8 = .ok (.getfield 28, 3) := by decide +kernel
theorem dX4_mixedInto_11 : decode cX4_mixedInto 11 = .ok (.if_icmp .ge 33, 3) := by decide +kernel
theorem dX4_mixedInto_14 : decode cX4_mixedInto 14 = .ok (.lload_n 3, 1) := by decide +kernel
theorem dX4_mixedInto_15 : decode cX4_mixedInto 15 = .ok (.aload_n 0, 1) := by decide +kernel
theorem dX4_mixedInto_16 : decode cX4_mixedInto 16 = .ok (.getfield 15, 3) := by decide +kernel
theorem dX4_mixedInto_19 : decode cX4_mixedInto 19 = .ok (.iload 5, 2) := by decide +kernel
theorem dX4_mixedInto_21 : decode cX4_mixedInto 21 = .ok (.iaload, 1) := by decide +kernel
theorem dX4_mixedInto_22 : decode cX4_mixedInto 22 = .ok (.i2l, 1) := by decide +kernel
theorem dX4_mixedInto_23 : decode cX4_mixedInto 23 = .ok (.invokestatic 54, 3) := by decide +kernel
theorem dX4_mixedInto_26 : decode cX4_mixedInto 26 = .ok (.aload_n 0, 1) := by decide +kernel
theorem dX4_mixedInto_27 : decode cX4_mixedInto 27 = .ok (.getfield 18, 3) := by decide +kernel
theorem dX4_mixedInto_30 : decode cX4_mixedInto 30 = .ok (.iload 5, 2) := by decide +kernel
theorem dX4_mixedInto_32 : decode cX4_mixedInto 32 = .ok (.iaload, 1) := by decide +kernel
theorem dX4_mixedInto_33 : decode cX4_mixedInto 33 = .ok (.i2l, 1) := by decide +kernel
theorem dX4_mixedInto_34 : decode cX4_mixedInto 34 = .ok (.invokestatic 54, 3) := by decide +kernel
theorem dX4_mixedInto_37 : decode cX4_mixedInto 37 = .ok (.lstore_n 3, 1) := by decide +kernel
theorem dX4_mixedInto_38 : decode cX4_mixedInto 38 = .ok (.iinc 5 1, 3) := by decide +kernel
theorem dX4_mixedInto_41 : decode cX4_mixedInto 41 = .ok (.goto (-36), 3) := by decide +kernel
theorem dX4_mixedInto_44 : decode cX4_mixedInto 44 = .ok (.lload_n 3, 1) := by decide +kernel
theorem dX4_mixedInto_45 : decode cX4_mixedInto 45 = .ok (.lreturn, 1) := by decide +kernel
theorem dX5_init_0 : decode cX5_init 0 = .ok (.aload_n 0, 1) := by decide +kernel
theorem dX5_init_1 : decode cX5_init 1 = .ok (.invokespecial 1, 3) := by decide +kernel
theorem dX5_init_4 : decode cX5_init 4 = .ok (.aload_n 0, 1) := by decide +kernel
theorem dX5_init_5 : decode cX5_init 5 = .ok (.new 7, 3) := by decide +kernel
theorem dX5_init_8 : decode cX5_init 8 = .ok (.dup, 1) := by decide +kernel
theorem dX5_init_9 : decode cX5_init 9 = .ok (.invokespecial 9, 3) := by decide +kernel
theorem dX5_init_12 : decode cX5_init 12 = .ok (.putfield 10, 3) := by decide +kernel
theorem dX5_init_15 : decode cX5_init 15 = .ok (.aload_n 0, 1) := by decide +kernel
theorem dX5_init_16 : decode cX5_init 16 = .ok (.new 7, 3) := by decide +kernel
theorem dX5_init_19 : decode cX5_init 19 = .ok (.dup, 1) := by decide +kernel
theorem dX5_init_20 : decode cX5_init 20 = .ok (.invokespecial 9, 3) := by decide +kernel
theorem dX5_init_23 : decode cX5_init 23 = .ok (.putfield 16, 3) := by decide +kernel
theorem dX5_init_26 : decode cX5_init 26 = .ok (.aload_n 0, 1) := by decide +kernel
theorem dX5_init_27 : decode cX5_init 27 = .ok (.iconst 4, 1) := by decide +kernel
theorem dX5_init_28 : decode cX5_init 28 = .ok (.anewarray 7, 3) := by decide +kernel
theorem dX5_init_31 : decode cX5_init 31 = .ok (.putfield 19, 3) := by decide +kernel
theorem dX5_init_34 : decode cX5_init 34 = .ok (.aload_n 0, 1) := by decide +kernel
theorem dX5_init_35 : decode cX5_init 35 = .ok (.iconst 0, 1) := by decide +kernel
theorem dX5_init_36 : decode cX5_init 36 = .ok (.putfield 23, 3) := by decide +kernel
theorem dX5_init_39 : decode cX5_init 39 = .ok (.return_, 1) := by decide +kernel
theorem dX5_addTank_0 : decode cX5_addTank 0 = .ok (.iload_n 1, 1) := by decide +kernel
theorem dX5_addTank_1 : decode cX5_addTank 1 = .ok (.iconst 1, 1) := by decide +kernel
theorem dX5_addTank_2 : decode cX5_addTank 2 = .ok (.ldc 27, 2) := by decide +kernel
theorem dX5_addTank_4 : decode cX5_addTank 4 = .ok (.invokestatic 28, 3) := by decide +kernel
theorem dX5_addTank_7 : decode cX5_addTank 7 = .ok (.ifCond .ne 13, 3) := by decide +kernel
theorem dX5_addTank_10 : decode cX5_addTank 10 = .ok (.new 32, 3) := by decide +kernel
theorem dX5_addTank_13 : decode cX5_addTank 13 = .ok (.dup, 1) := by decide +kernel
theorem dX5_addTank_14 : decode cX5_addTank 14 = .ok (.ldc 34, 2) := by decide +kernel
theorem dX5_addTank_16 : decode cX5_addTank 16 = .ok (.invokespecial 36, 3) := by decide +kernel
theorem dX5_addTank_19 : decode cX5_addTank 19 = .ok (.athrow, 1) := by decide +kernel
theorem dX5_addTank_20 : decode cX5_addTank 20 = .ok (.iload_n 2, 1) := by decide +kernel
theorem dX5_addTank_21 : decode cX5_addTank 21 = .ok (.iload_n 1, 1) := by decide +kernel
theorem dX5_addTank_22 : decode cX5_addTank 22 = .ok (.invokestatic 39, 3) := by decide +kernel
theorem dX5_addTank_25 : decode cX5_addTank 25 = .ok (.iload_n 3, 1) := by decide +kernel
theorem dX5_addTank_26 : decode cX5_addTank 26 = .ok (.invokestatic 43, 3) := by decide +kernel
theorem dX5_addTank_29 : decode cX5_addTank 29 = .ok (.aload_n 0, 1) := by decide +kernel
theorem dX5_addTank_30 : decode cX5_addTank 30 = .ok (.getfield 10, 3) := by decide +kernel
theorem dX5_addTank_33 : decode cX5_addTank 33 = .ok (.getfield 47, 3) := by decide +kernel
theorem dX5_addTank_36 : decode cX5_addTank 36 = .ok (.getfield 51, 3) := by decide +kernel
theorem dX5_addTank_39 : decode cX5_addTank 39 = .ok (.bipush 8, 2) := by decide +kernel
theorem dX5_addTank_41 : decode cX5_addTank 41 = .ok (.if_icmp .lt 13, 3) := by decide +kernel
theorem dX5_addTank_44 : decode cX5_addTank 44 = .ok (.new 56, 3) := by decide +kernel
theorem dX5_addTank_47 : decode cX5_addTank 47 = .ok (.dup, 1) := by decide +kernel
theorem dX5_addTank_48 : decode cX5_addTank 48 = .ok (.ldc 58, 2) := by decide +kernel
theorem dX5_addTank_50 : decode cX5_addTank 50 = .ok (.invokespecial 60, 3) := by decide +kernel
theorem dX5_addTank_53 : decode cX5_addTank 53 = .ok (.athrow, 1) := by decide +kernel
theorem dX5_addTank_54 : decode cX5_addTank 54 = .ok (.aload_n 0, 1) := by decide +kernel
theorem dX5_addTank_55 : decode cX5_addTank 55 = .ok (.getfield 10, 3) := by decide +kernel
theorem dX5_addTank_58 : decode cX5_addTank 58 = .ok (.getfield 47, 3) := by decide +kernel
theorem dX5_addTank_61 : decode cX5_addTank 61 = .ok (.iload_n 1, 1) := by decide +kernel
theorem dX5_addTank_62 : decode cX5_addTank 62 = .ok (.iload_n 2, 1) := by decide +kernel
theorem dX5_addTank_63 : decode cX5_addTank 63 = .ok (.iload_n 3, 1) := by decide +kernel
theorem dX5_addTank_64 : decode cX5_addTank 64 = .ok (.invokevirtual 61, 3) := by decide +kernel
theorem dX5_addTank_67 : decode cX5_addTank 67 = .ok (.ireturn, 1) := by decide +kernel
theorem dX5_addSwitch_0 : decode cX5_addSwitch 0 = .ok (.aload_n 0, 1) := by decide +kernel
theorem dX5_addSwitch_1 : decode cX5_addSwitch 1 = .ok (.iload_n 1, 1) := by decide +kernel
theorem dX5_addSwitch_2 : decode cX5_addSwitch 2 = .ok (.invokevirtual 65, 3) := by decide +kernel
theorem dX5_addSwitch_5 : decode cX5_addSwitch 5 = .ok (.iload_n 2, 1) := by decide +kernel
theorem dX5_addSwitch_6 : decode cX5_addSwitch 6 = .ok (.ifCond .lt 24, 3) := by decide +kernel
theorem dX5_addSwitch_9 : decode cX5_addSwitch 9 = .ok (.iload_n 2, 1) := by decide +kernel
theorem dX5_addSwitch_10 : decode cX5_addSwitch 10 = .ok (.iload_n 3, 1) := by decide +kernel
theorem dX5_addSwitch_11 : decode cX5_addSwitch 11 = .ok (.if_icmp .ge 19, 3) := by decide +kernel
theorem dX5_addSwitch_14 : decode cX5_addSwitch 14 = .ok (.iload_n 3, 1) := by decide +kernel
theorem dX5_addSwitch_15 : decode cX5_addSwitch 15 = .ok (.aload_n 0, 1) := by decide +kernel
theorem dX5_addSwitch_16 : decode cX5_addSwitch 16 = .ok (.getfield 10, 3) := by decide +kernel
theorem dX5_addSwitch_19 : decode cX5_addSwitch 19 = .ok (.getfield 47, 3) := by decide +kernel
theorem dX5_addSwitch_22 : decode cX5_addSwitch 22 = .ok (.getfield 68, 3) := by decide +kernel
theorem dX5_addSwitch_25 : decode cX5_addSwitch 25 = .ok (.iload_n 1, 1) := by decide +kernel
theorem dX5_addSwitch_26 : decode cX5_addSwitch 26 = .ok (.iaload, 1) := by decide +kernel
theorem dX5_addSwitch_27 : decode cX5_addSwitch 27 = .ok (.if_icmp .le 13, 3) := by decide +kernel
theorem dX5_addSwitch_30 : decode cX5_addSwitch 30 = .ok (.new 32, 3) := by decide +kernel
theorem dX5_addSwitch_33 : decode cX5_addSwitch 33 = .ok (.dup, 1) := by decide +kernel
theorem dX5_addSwitch_34 : decode cX5_addSwitch 34 = .ok (.ldc 72, 2) := by decide +kernel
theorem dX5_addSwitch_36 : decode cX5_addSwitch 36 = .ok (.invokespecial 36, 3) := by decide +kernel
theorem dX5_addSwitch_39 : decode cX5_addSwitch 39 = .ok (.athrow, 1) := by decide +kernel
theorem dX5_addSwitch_40 : decode cX5_addSwitch 40 = .ok (.aload_n 0, 1) := by decide +kernel
theorem dX5_addSwitch_41 : decode cX5_addSwitch 41 = .ok (.getfield 10, 3) := by decide +kernel
theorem dX5_addSwitch_44 : decode cX5_addSwitch 44 = .ok (.getfield 74, 3) := by decide +kernel
theorem dX5_addSwitch_47 : decode cX5_addSwitch 47 = .ok (.getfield 78, 3) := by decide +kernel
theorem dX5_addSwitch_50 : decode cX5_addSwitch 50 = .ok (.bipush 10, 2) := by decide +kernel
theorem dX5_addSwitch_52 : decode cX5_addSwitch 52 = .ok (.if_icmp .lt 13, 3) := by decide +kernel
theorem dX5_addSwitch_55 : decode cX5_addSwitch 55 = .ok (.new 56, 3) := by decide +kernel
theorem dX5_addSwitch_58 : decode cX5_addSwitch 58 = .ok (.dup, 1) := by decide +kernel
theorem dX5_addSwitch_59 : decode cX5_addSwitch 59 = .ok (.ldc 81, 2) := by decide +kernel
theorem dX5_addSwitch_61 : decode cX5_addSwitch 61 = .ok (.invokespecial 60, 3) := by decide +kernel
theorem dX5_addSwitch_64 : decode cX5_addSwitch 64 = .ok (.athrow, 1) := by decide +kernel
theorem dX5_addSwitch_65 : decode cX5_addSwitch 65 = .ok (.aload_n 0, 1) := by decide +kernel
theorem dX5_addSwitch_66 : decode cX5_addSwitch 66 = .ok (.getfield 10, 3) := by decide +kernel
theorem dX5_addSwitch_69 : decode cX5_addSwitch 69 = .ok (.getfield 74, 3) := by decide +kernel
theorem dX5_addSwitch_72 : decode cX5_addSwitch 72 = .ok (.iload_n 1, 1) := by decide +kernel
theorem dX5_addSwitch_73 : decode cX5_addSwitch 73 = .ok (.iload_n 2, 1) := by decide +kernel
theorem dX5_addSwitch_74 : decode cX5_addSwitch 74 = .ok (.iload_n 3, 1) := by decide +kernel
theorem dX5_addSwitch_75 : decode cX5_addSwitch 75 = .ok (.invokevirtual 83, 3) := by decide +kernel
theorem dX5_addSwitch_78 : decode cX5_addSwitch 78 = .ok (.ireturn, 1) := by decide +kernel
theorem dX5_addPump_0 : decode cX5_addPump 0 = .ok (.aload_n 0, 1) := by decide +kernel
theorem dX5_addPump_1 : decode cX5_addPump 1 = .ok (.iload_n 1, 1) := by decide +kernel
theorem dX5_addPump_2 : decode cX5_addPump 2 = .ok (.invokevirtual 84, 3) := by decide +kernel
theorem dX5_addPump_5 : decode cX5_addPump 5 = .ok (.aload_n 0, 1) := by decide +kernel
theorem dX5_addPump_6 : decode cX5_addPump 6 = .ok (.iload_n 2, 1) := by decide +kernel
theorem dX5_addPump_7 : decode cX5_addPump 7 = .ok (.invokevirtual 84, 3) := by decide +kernel
theorem dX5_addPump_10 : decode cX5_addPump 10 = .ok (.iload 5, 2) := by decide +kernel
theorem dX5_addPump_12 : decode cX5_addPump 12 = .ok (.iconst (-1), 1) := by decide +kernel
theorem dX5_addPump_13 : decode cX5_addPump 13 = .ok (.if_icmp .eq 9, 3) := by decide +kernel
theorem dX5_addPump_16 : decode cX5_addPump 16 = .ok (.aload_n 0, 1) := by decide +kernel
theorem dX5_addPump_17 : decode cX5_addPump 17 = .ok (.iload 5, 2) := by decide +kernel
theorem dX5_addPump_19 : decode cX5_addPump 19 = .ok (.invokevirtual 87, 3) := by decide +kernel
theorem dX5_addPump_22 : decode cX5_addPump 22 = .ok (.iload_n 1, 1) := by decide +kernel
theorem dX5_addPump_23 : decode cX5_addPump 23 = .ok (.iload_n 2, 1) := by decide +kernel
theorem dX5_addPump_24 : decode cX5_addPump 24 = .ok (.if_icmp .ne 13, 3) := by decide +kernel
theorem dX5_addPump_27 : decode cX5_addPump 27 = .ok (.new 32, 3) := by decide +kernel
theorem dX5_addPump_30 : decode cX5_addPump 30 = .ok (.dup, 1) := by decide +kernel
theorem dX5_addPump_31 : decode cX5_addPump 31 = .ok (.ldc 90, 2) := by decide +kernel
theorem dX5_addPump_33 : decode cX5_addPump 33 = .ok (.invokespecial 36, 3) := by decide +kernel
theorem dX5_addPump_36 : decode cX5_addPump 36 = .ok (.athrow, 1) := by decide +kernel
theorem dX5_addPump_37 : decode cX5_addPump 37 = .ok (.iload_n 3, 1) := by decide +kernel
theorem dX5_addPump_38 : decode cX5_addPump 38 = .ok (.invokestatic 92, 3) := by decide +kernel
theorem dX5_addPump_41 : decode cX5_addPump 41 = .ok (.iload 4, 2) := by decide +kernel
theorem dX5_addPump_43 : decode cX5_addPump 43 = .ok (.iconst 0, 1) := by decide +kernel
theorem dX5_addPump_44 : decode cX5_addPump 44 = .ok (.bipush 100, 2) := by decide +kernel
theorem dX5_addPump_46 : decode cX5_addPump 46 = .ok (.invokestatic 28, 3) := by decide +kernel
theorem dX5_addPump_49 : decode cX5_addPump 49 = .ok (.ifCond .ne 13, 3) := by decide +kernel
theorem dX5_addPump_52 : decode cX5_addPump 52 = .ok (.new 32, 3) := by decide +kernel
theorem dX5_addPump_55 : decode cX5_addPump 55 = .ok (.dup, 1) := by decide +kernel
theorem dX5_addPump_56 : decode cX5_addPump 56 = .ok (.ldc 95, 2) := by decide +kernel
theorem dX5_addPump_58 : decode cX5_addPump 58 = .ok (.invokespecial 36, 3) := by decide +kernel
theorem dX5_addPump_61 : decode cX5_addPump 61 = .ok (.athrow, 1) := by decide +kernel
theorem dX5_addPump_62 : decode cX5_addPump 62 = .ok (.aload_n 0, 1) := by decide +kernel
theorem dX5_addPump_63 : decode cX5_addPump 63 = .ok (.getfield 10, 3) := by decide +kernel
theorem dX5_addPump_66 : decode cX5_addPump 66 = .ok (.getfield 97, 3) := by decide +kernel
theorem dX5_addPump_69 : decode cX5_addPump 69 = .ok (.getfield 101, 3) := by decide +kernel
theorem dX5_addPump_72 : decode cX5_addPump 72 = .ok (.bipush 16, 2) := by decide +kernel
theorem dX5_addPump_74 : decode cX5_addPump 74 = .ok (.if_icmp .lt 13, 3) := by decide +kernel
theorem dX5_addPump_77 : decode cX5_addPump 77 = .ok (.new 56, 3) := by decide +kernel
theorem dX5_addPump_80 : decode cX5_addPump 80 = .ok (.dup, 1) := by decide +kernel
theorem dX5_addPump_81 : decode cX5_addPump 81 = .ok (.ldc 104, 2) := by decide +kernel
theorem dX5_addPump_83 : decode cX5_addPump 83 = .ok (.invokespecial 60, 3) := by decide +kernel
theorem dX5_addPump_86 : decode cX5_addPump 86 = .ok (.athrow, 1) := by decide +kernel
theorem dX5_addPump_87 : decode cX5_addPump 87 = .ok (.aload_n 0, 1) := by decide +kernel
theorem dX5_addPump_88 : decode cX5_addPump 88 = .ok (.getfield 10, 3) := by decide +kernel
theorem dX5_addPump_91 : decode cX5_addPump 91 = .ok (.getfield 97, 3) := by decide +kernel
theorem dX5_addPump_94 : decode cX5_addPump 94 = .ok (.iload_n 1, 1) := by decide +kernel
theorem dX5_addPump_95 : decode cX5_addPump 95 = .ok (.iload_n 2, 1) := by decide +kernel
theorem dX5_addPump_96 : decode cX5_addPump 96 = .ok (.iload_n 3, 1) := by decide +kernel
theorem dX5_addPump_97 : decode cX5_addPump 97 = .ok (.iload 4, 2) := by decide +kernel
theorem dX5_addPump_99 : decode cX5_addPump 99 = .ok (.iload 5, 2) := by decide +kernel
theorem dX5_addPump_101 : decode cX5_addPump 101 = .ok (.iload 6, 2) := by decide +kernel
theorem dX5_addPump_103 : decode cX5_addPump 103 = .ok (.invokevirtual 106, 3) := by decide +kernel
theorem dX5_addPump_106 : decode cX5_addPump 106 = .ok (.ireturn, 1) := by decide +kernel
theorem dX5_setLevel_0 : decode cX5_setLevel 0 = .ok (.aload_n 0, 1) := by decide +kernel
theorem dX5_setLevel_1 : decode cX5_setLevel 1 = .ok (.iload_n 1, 1) := by decide +kernel
theorem dX5_setLevel_2 : decode cX5_setLevel 2 = .ok (.invokevirtual 65, 3) := by decide +kernel
theorem dX5_setLevel_5 : decode cX5_setLevel 5 = .ok (.iload_n 2, 1) := by decide +kernel
theorem dX5_setLevel_6 : decode cX5_setLevel 6 = .ok (.aload_n 0, 1) := by decide +kernel
theorem dX5_setLevel_7 : decode cX5_setLevel 7 = .ok (.getfield 10, 3) := by decide +kernel
theorem dX5_setLevel_10 : decode cX5_setLevel 10 = .ok (.getfield 47, 3) := by decide +kernel
theorem dX5_setLevel_13 : decode cX5_setLevel 13 = .ok (.getfield 68, 3) := by decide +kernel
theorem dX5_setLevel_16 : decode cX5_setLevel 16 = .ok (.iload_n 1, 1) := by decide +kernel
theorem dX5_setLevel_17 : decode cX5_setLevel 17 = .ok (.iaload, 1) := by decide +kernel
theorem dX5_setLevel_18 : decode cX5_setLevel 18 = .ok (.invokestatic 39, 3) := by decide +kernel
theorem dX5_setLevel_21 : decode cX5_setLevel 21 = .ok (.aload_n 0, 1) := by decide +kernel
theorem dX5_setLevel_22 : decode cX5_setLevel 22 = .ok (.getfield 10, 3) := by decide +kernel
theorem dX5_setLevel_25 : decode cX5_setLevel 25 = .ok (.getfield 47, 3) := by decide +kernel
theorem dX5_setLevel_28 : decode cX5_setLevel 28 = .ok (.getfield 109, 3) := by decide +kernel
theorem dX5_setLevel_31 : decode cX5_setLevel 31 = .ok (.iload_n 1, 1) := by decide +kernel
theorem dX5_setLevel_32 : decode cX5_setLevel 32 = .ok (.iaload, 1) := by decide +kernel
theorem dX5_setLevel_33 : decode cX5_setLevel 33 = .ok (.istore_n 3, 1) := by decide +kernel
theorem dX5_setLevel_34 : decode cX5_setLevel 34 = .ok (.aload_n 0, 1) := by decide +kernel
theorem dX5_setLevel_35 : decode cX5_setLevel 35 = .ok (.getfield 10, 3) := by decide +kernel
theorem dX5_setLevel_38 : decode cX5_setLevel 38 = .ok (.getfield 47, 3) := by decide +kernel
theorem dX5_setLevel_41 : decode cX5_setLevel 41 = .ok (.getfield 109, 3) := by decide +kernel
theorem dX5_setLevel_44 : decode cX5_setLevel 44 = .ok (.iload_n 1, 1) := by decide +kernel
theorem dX5_setLevel_45 : decode cX5_setLevel 45 = .ok (.iload_n 2, 1) := by decide +kernel
theorem dX5_setLevel_46 : decode cX5_setLevel 46 = .ok (.iastore, 1) := by decide +kernel
theorem dX5_setLevel_47 : decode cX5_setLevel 47 = .ok (.iload_n 3, 1) := by decide +kernel
theorem dX5_setLevel_48 : decode cX5_setLevel 48 = .ok (.ireturn, 1) := by decide +kernel
theorem dX5_setLeak_0 : decode cX5_setLeak 0 = .ok (.aload_n 0, 1) := by decide +kernel
theorem dX5_setLeak_1 : decode cX5_setLeak 1 = .ok (.iload_n 1, 1) := by decide +kernel
theorem dX5_setLeak_2 : decode cX5_setLeak 2 = .ok (.invokevirtual 65, 3) := by decide +kernel
theorem dX5_setLeak_5 : decode cX5_setLeak 5 = .ok (.iload_n 2, 1) := by decide +kernel
theorem dX5_setLeak_6 : decode cX5_setLeak 6 = .ok (.invokestatic 43, 3) := by decide +kernel
theorem dX5_setLeak_9 : decode cX5_setLeak 9 = .ok (.aload_n 0, 1) := by decide +kernel
theorem dX5_setLeak_10 : decode cX5_setLeak 10 = .ok (.getfield 10, 3) := by decide +kernel
theorem dX5_setLeak_13 : decode cX5_setLeak 13 = .ok (.getfield 47, 3) := by decide +kernel
theorem dX5_setLeak_16 : decode cX5_setLeak 16 = .ok (.getfield 112, 3) := by decide +kernel
theorem dX5_setLeak_19 : decode cX5_setLeak 19 = .ok (.iload_n 1, 1) := by decide +kernel
theorem dX5_setLeak_20 : decode cX5_setLeak 20 = .ok (.iaload, 1) := by decide +kernel
theorem dX5_setLeak_21 : decode cX5_setLeak 21 = .ok (.istore_n 3, 1) := by decide +kernel
theorem dX5_setLeak_22 : decode cX5_setLeak 22 = .ok (.aload_n 0, 1) := by decide +kernel
theorem dX5_setLeak_23 : decode cX5_setLeak 23 = .ok (.getfield 10, 3) := by decide +kernel
theorem dX5_setLeak_26 : decode cX5_setLeak 26 = .ok (.getfield 47, 3) := by decide +kernel
theorem dX5_setLeak_29 : decode cX5_setLeak 29 = .ok (.getfield 112, 3) := by decide +kernel
theorem dX5_setLeak_32 : decode cX5_setLeak 32 = .ok (.iload_n 1, 1) := by decide +kernel
theorem dX5_setLeak_33 : decode cX5_setLeak 33 = .ok (.iload_n 2, 1) := by decide +kernel
theorem dX5_setLeak_34 : decode cX5_setLeak 34 = .ok (.iastore, 1) := by decide +kernel
theorem dX5_setLeak_35 : decode cX5_setLeak 35 = .ok (.iload_n 3, 1) := by decide +kernel
theorem dX5_setLeak_36 : decode cX5_setLeak 36 = .ok (.ireturn, 1) := by decide +kernel
theorem dX5_setRate_0 : decode cX5_setRate 0 = .ok (.aload_n 0, 1) := by decide +kernel
theorem dX5_setRate_1 : decode cX5_setRate 1 = .ok (.iload_n 1, 1) := by decide +kernel
theorem dX5_setRate_2 : decode cX5_setRate 2 = .ok (.invokevirtual 115, 3) := by decide +kernel
theorem dX5_setRate_5 : decode cX5_setRate 5 = .ok (.iload_n 2, 1) := by decide +kernel
theorem dX5_setRate_6 : decode cX5_setRate 6 = .ok (.invokestatic 92, 3) := by decide +kernel
theorem dX5_setRate_9 : decode cX5_setRate 9 = .ok (.aload_n 0, 1) := by decide +kernel
theorem dX5_setRate_10 : decode cX5_setRate 10 = .ok (.getfield 10, 3) := by decide +kernel
theorem dX5_setRate_13 : decode cX5_setRate 13 = .ok (.getfield 97, 3) := by decide +kernel
theorem dX5_setRate_16 : decode cX5_setRate 16 = .ok (.getfield 118, 3) := by decide +kernel
theorem dX5_setRate_19 : decode cX5_setRate 19 = .ok (.iload_n 1, 1) := by decide +kernel
theorem dX5_setRate_20 : decode cX5_setRate 20 = .ok (.iaload, 1) := by decide +kernel
theorem dX5_setRate_21 : decode cX5_setRate 21 = .ok (.istore_n 3, 1) := by decide +kernel
theorem dX5_setRate_22 : decode cX5_setRate 22 = .ok (.aload_n 0, 1) := by decide +kernel
theorem dX5_setRate_23 : decode cX5_setRate 23 = .ok (.getfield 10, 3) := by decide +kernel
theorem dX5_setRate_26 : decode cX5_setRate 26 = .ok (.getfield 97, 3) := by decide +kernel
theorem dX5_setRate_29 : decode cX5_setRate 29 = .ok (.getfield 118, 3) := by decide +kernel
theorem dX5_setRate_32 : decode cX5_setRate 32 = .ok (.iload_n 1, 1) := by decide +kernel
theorem dX5_setRate_33 : decode cX5_setRate 33 = .ok (.iload_n 2, 1) := by decide +kernel
theorem dX5_setRate_34 : decode cX5_setRate 34 = .ok (.iastore, 1) := by decide +kernel
theorem dX5_setRate_35 : decode cX5_setRate 35 = .ok (.iload_n 3, 1) := by decide +kernel
theorem dX5_setRate_36 : decode cX5_setRate 36 = .ok (.ireturn, 1) := by decide +kernel
theorem dX5_run_0 : decode cX5_run 0 = .ok (.iload_n 1, 1) := by decide +kernel
theorem dX5_run_1 : decode cX5_run 1 = .ok (.iconst 0, 1) := by decide +kernel
theorem dX5_run_2 : decode cX5_run 2 = .ok (.invokestatic 121, 3) := by decide +kernel
theorem dX5_run_5 : decode cX5_run 5 = .ok (.aload_n 0, 1) := by decide +kernel
theorem dX5_run_6 : decode cX5_run 6 = .ok (.getfield 10, 3) := by decide +kernel
theorem dX5_run_9 : decode cX5_run 9 = .ok (.iload_n 1, 1) := by decide +kernel
theorem dX5_run_10 : decode cX5_run 10 = .ok (.invokevirtual 124, 3) := by decide +kernel
theorem dX5_run_13 : decode cX5_run 13 = .ok (.ireturn, 1) := by decide +kernel
theorem dX5_runUntil_0 : decode cX5_runUntil 0 = .ok (.aload_n 0, 1) := by decide +kernel
theorem dX5_runUntil_1 : decode cX5_runUntil 1 = .ok (.iload_n 1, 1) := by decide +kernel
theorem dX5_runUntil_2 : decode cX5_runUntil 2 = .ok (.invokevirtual 65, 3) := by decide +kernel
theorem dX5_runUntil_5 : decode cX5_runUntil 5 = .ok (.iload 4, 2) := by decide +kernel
theorem dX5_runUntil_7 : decode cX5_runUntil 7 = .ok (.iconst 0, 1) := by decide +kernel
theorem dX5_runUntil_8 : decode cX5_runUntil 8 = .ok (.invokestatic 121, 3) := by decide +kernel
theorem dX5_runUntil_11 : decode cX5_runUntil 11 = .ok (.aload_n 0, 1) := by decide +kernel
theorem dX5_runUntil_12 : decode cX5_runUntil 12 = .ok (.getfield 10, 3) := by decide +kernel
theorem dX5_runUntil_15 : decode cX5_runUntil 15 = .ok (.iload_n 1, 1) := by decide +kernel
theorem dX5_runUntil_16 : decode cX5_runUntil 16 = .ok (.iload_n 2, 1) := by decide +kernel
theorem dX5_runUntil_17 : decode cX5_runUntil 17 = .ok (.iload_n 3, 1) := by decide +kernel
theorem dX5_runUntil_18 : decode cX5_runUntil 18 = .ok (.iload 4, 2) := by decide +kernel
theorem dX5_runUntil_20 : decode cX5_runUntil 20 = .ok (.invokevirtual 128, 3) := by decide +kernel
theorem dX5_runUntil_23 : decode cX5_runUntil 23 = .ok (.ireturn, 1) := by decide +kernel
theorem dX5_nextChange_0 : decode cX5_nextChange 0 = .ok (.iload_n 1, 1) := by decide +kernel
theorem dX5_nextChange_1 : decode cX5_nextChange 1 = .ok (.iconst 1, 1) := by decide +kernel
theorem dX5_nextChange_2 : decode cX5_nextChange 2 = .ok (.invokestatic 121, 3) := by decide +kernel
theorem dX5_nextChange_5 : decode cX5_nextChange 5 = .ok (.aload_n 0, 1) := by decide +kernel
theorem dX5_nextChange_6 : decode cX5_nextChange 6 = .ok (.getfield 16, 3) := by decide +kernel
theorem dX5_nextChange_9 : decode cX5_nextChange 9 = .ok (.aload_n 0, 1) := by decide +kernel
theorem dX5_nextChange_10 : decode cX5_nextChange 10 = .ok (.getfield 10, 3) := by decide +kernel
theorem dX5_nextChange_13 : decode cX5_nextChange 13 = .ok (.invokevirtual 132, 3) := by decide +kernel
theorem dX5_nextChange_16 : decode cX5_nextChange 16 = .ok (.aload_n 0, 1) := by decide +kernel
theorem dX5_nextChange_17 : decode cX5_nextChange 17 = .ok (.getfield 16, 3) := by decide +kernel
theorem dX5_nextChange_20 : decode cX5_nextChange 20 = .ok (.iload_n 1, 1) := by decide +kernel
theorem dX5_nextChange_21 : decode cX5_nextChange 21 = .ok (.invokevirtual 136, 3) := by decide +kernel
theorem dX5_nextChange_24 : decode cX5_nextChange 24 = .ok (.ireturn, 1) := by decide +kernel
theorem dX5_time_0 : decode cX5_time 0 = .ok (.aload_n 0, 1) := by decide +kernel
theorem dX5_time_1 : decode cX5_time 1 = .ok (.getfield 10, 3) := by decide +kernel
theorem dX5_time_4 : decode cX5_time 4 = .ok (.getfield 139, 3) := by decide +kernel
theorem dX5_time_7 : decode cX5_time 7 = .ok (.lreturn, 1) := by decide +kernel
theorem dX5_level_0 : decode cX5_level 0 = .ok (.aload_n 0, 1) := by decide +kernel
theorem dX5_level_1 : decode cX5_level 1 = .ok (.iload_n 1, 1) := by decide +kernel
theorem dX5_level_2 : decode cX5_level 2 = .ok (.invokevirtual 65, 3) := by decide +kernel
theorem dX5_level_5 : decode cX5_level 5 = .ok (.aload_n 0, 1) := by decide +kernel
theorem dX5_level_6 : decode cX5_level 6 = .ok (.getfield 10, 3) := by decide +kernel
theorem dX5_level_9 : decode cX5_level 9 = .ok (.getfield 47, 3) := by decide +kernel
theorem dX5_level_12 : decode cX5_level 12 = .ok (.getfield 109, 3) := by decide +kernel
theorem dX5_level_15 : decode cX5_level 15 = .ok (.iload_n 1, 1) := by decide +kernel
theorem dX5_level_16 : decode cX5_level 16 = .ok (.iaload, 1) := by decide +kernel
theorem dX5_level_17 : decode cX5_level 17 = .ok (.ireturn, 1) := by decide +kernel
theorem dX5_levelSum_0 : decode cX5_levelSum 0 = .ok (.aload_n 0, 1) := by decide +kernel
theorem dX5_levelSum_1 : decode cX5_levelSum 1 = .ok (.iload_n 1, 1) := by decide +kernel
theorem dX5_levelSum_2 : decode cX5_levelSum 2 = .ok (.invokevirtual 65, 3) := by decide +kernel
theorem dX5_levelSum_5 : decode cX5_levelSum 5 = .ok (.aload_n 0, 1) := by decide +kernel
theorem dX5_levelSum_6 : decode cX5_levelSum 6 = .ok (.getfield 10, 3) := by decide +kernel
theorem dX5_levelSum_9 : decode cX5_levelSum 9 = .ok (.getfield 47, 3) := by decide +kernel
theorem dX5_levelSum_12 : decode cX5_levelSum 12 = .ok (.getfield 143, 3) := by decide +kernel
theorem dX5_levelSum_15 : decode cX5_levelSum 15 = .ok (.iload_n 1, 1) := by decide +kernel
theorem dX5_levelSum_16 : decode cX5_levelSum 16 = .ok (.laload, 1) := by decide +kernel
theorem dX5_levelSum_17 : decode cX5_levelSum 17 = .ok (.lreturn, 1) := by decide +kernel
theorem dX5_meanLevel_0 : decode cX5_meanLevel 0 = .ok (.aload_n 0, 1) := by decide +kernel
theorem dX5_meanLevel_1 : decode cX5_meanLevel 1 = .ok (.iload_n 1, 1) := by decide +kernel
theorem dX5_meanLevel_2 : decode cX5_meanLevel 2 = .ok (.invokevirtual 65, 3) := by decide +kernel
theorem dX5_meanLevel_5 : decode cX5_meanLevel 5 = .ok (.aload_n 0, 1) := by decide +kernel
theorem dX5_meanLevel_6 : decode cX5_meanLevel 6 = .ok (.getfield 10, 3) := by decide +kernel
theorem dX5_meanLevel_9 : decode cX5_meanLevel 9 = .ok (.getfield 139, 3) := by decide +kernel
theorem dX5_meanLevel_12 : decode cX5_meanLevel 12 = .ok (.lconst 0, 1) := by decide +kernel
theorem dX5_meanLevel_13 : decode cX5_meanLevel 13 = .ok (.lcmp, 1) := by decide +kernel
theorem dX5_meanLevel_14 : decode cX5_meanLevel 14 = .ok (.ifCond .gt 17, 3) := by decide +kernel
theorem dX5_meanLevel_17 : decode cX5_meanLevel 17 = .ok (.aload_n 0, 1) := by decide +kernel
theorem dX5_meanLevel_18 : decode cX5_meanLevel 18 = .ok (.getfield 10, 3) := by decide +kernel
theorem dX5_meanLevel_21 : decode cX5_meanLevel 21 = .ok (.getfield 47, 3) := by decide +kernel
theorem dX5_meanLevel_24 : decode cX5_meanLevel 24 = .ok (.getfield 109, 3) := by decide +kernel
theorem dX5_meanLevel_27 : decode cX5_meanLevel 27 = .ok (.iload_n 1, 1) := by decide +kernel
theorem dX5_meanLevel_28 : decode cX5_meanLevel 28 = .ok (.iaload, 1) := by decide +kernel
theorem dX5_meanLevel_29 : decode cX5_meanLevel 29 = .ok (.i2d, 1) := by decide +kernel
theorem dX5_meanLevel_30 : decode cX5_meanLevel 30 = .ok (.dreturn, 1) := by decide +kernel
theorem dX5_meanLevel_31 : decode cX5_meanLevel 31 = .ok (.aload_n 0, 1) := by decide +kernel
theorem dX5_meanLevel_32 : decode cX5_meanLevel 32 = .ok (.getfield 10, 3) := by decide +kernel
theorem dX5_meanLevel_35 : decode cX5_meanLevel 35 = .ok (.getfield 47, 3) := by decide +kernel
theorem dX5_meanLevel_38 : decode cX5_meanLevel 38 = .ok (.getfield 143, 3) := by decide +kernel
theorem dX5_meanLevel_41 : decode cX5_meanLevel 41 = .ok (.iload_n 1, 1) := by decide +kernel
theorem dX5_meanLevel_42 : decode cX5_meanLevel 42 = .ok (.laload, 1) := by decide +kernel
theorem dX5_meanLevel_43 : decode cX5_meanLevel 43 = .ok (.l2d, 1) := by decide +kernel
theorem dX5_meanLevel_44 : decode cX5_meanLevel 44 = .ok (.aload_n 0, 1) := by decide +kernel
theorem dX5_meanLevel_45 : decode cX5_meanLevel 45 = .ok (.getfield 10, 3) := by decide +kernel
theorem dX5_meanLevel_48 : decode cX5_meanLevel 48 = .ok (.getfield 139, 3) := by decide +kernel
theorem dX5_meanLevel_51 : decode cX5_meanLevel 51 = .ok (.l2d, 1) := by decide +kernel
theorem dX5_meanLevel_52 : decode cX5_meanLevel 52 = .ok (.ddiv, 1) := by decide +kernel
theorem dX5_meanLevel_53 : decode cX5_meanLevel 53 = .ok (.dreturn, 1) := by decide +kernel
theorem dX5_isOn_0 : decode cX5_isOn 0 = .ok (.aload_n 0, 1) := by decide +kernel
theorem dX5_isOn_1 : decode cX5_isOn 1 = .ok (.iload_n 1, 1) := by decide +kernel
theorem dX5_isOn_2 : decode cX5_isOn 2 = .ok (.invokevirtual 87, 3) := by decide +kernel
theorem dX5_isOn_5 : decode cX5_isOn 5 = .ok (.aload_n 0, 1) := by decide +kernel
theorem dX5_isOn_6 : decode cX5_isOn 6 = .ok (.getfield 10, 3) := by decide +kernel
theorem dX5_isOn_9 : decode cX5_isOn 9 = .ok (.getfield 74, 3) := by decide +kernel
theorem dX5_isOn_12 : decode cX5_isOn 12 = .ok (.getfield 147, 3) := by decide +kernel
theorem dX5_isOn_15 : decode cX5_isOn 15 = .ok (.iload_n 1, 1) := by decide +kernel
theorem dX5_isOn_16 : decode cX5_isOn 16 = .ok (.baload, 1) := by decide +kernel
theorem dX5_isOn_17 : decode cX5_isOn 17 = .ok (.ireturn, 1) := by decide +kernel
theorem dX5_total_0 : decode cX5_total 0 = .ok (.aload_n 0, 1) := by decide +kernel
theorem dX5_total_1 : decode cX5_total 1 = .ok (.iload_n 1, 1) := by decide +kernel
theorem dX5_total_2 : decode cX5_total 2 = .ok (.invokevirtual 115, 3) := by decide +kernel
theorem dX5_total_5 : decode cX5_total 5 = .ok (.aload_n 0, 1) := by decide +kernel
theorem dX5_total_6 : decode cX5_total 6 = .ok (.getfield 10, 3) := by decide +kernel
theorem dX5_total_9 : decode cX5_total 9 = .ok (.getfield 97, 3) := by decide +kernel
theorem dX5_total_12 : decode cX5_total 12 = .ok (.getfield 151, 3) := by decide +kernel
theorem dX5_total_15 : decode cX5_total 15 = .ok (.iload_n 1, 1) := by decide +kernel
theorem dX5_total_16 : decode cX5_total 16 = .ok (.laload, 1) := by decide +kernel
theorem dX5_total_17 : decode cX5_total 17 = .ok (.lreturn, 1) := by decide +kernel
theorem dX5_energy_0 : decode cX5_energy 0 = .ok (.aload_n 0, 1) := by decide +kernel
theorem dX5_energy_1 : decode cX5_energy 1 = .ok (.iload_n 1, 1) := by decide +kernel
theorem dX5_energy_2 : decode cX5_energy 2 = .ok (.invokevirtual 115, 3) := by decide +kernel
theorem dX5_energy_5 : decode cX5_energy 5 = .ok (.aload_n 0, 1) := by decide +kernel
theorem dX5_energy_6 : decode cX5_energy 6 = .ok (.getfield 10, 3) := by decide +kernel
theorem dX5_energy_9 : decode cX5_energy 9 = .ok (.getfield 97, 3) := by decide +kernel
theorem dX5_energy_12 : decode cX5_energy 12 = .ok (.getfield 154, 3) := by decide +kernel
theorem dX5_energy_15 : decode cX5_energy 15 = .ok (.iload_n 1, 1) := by decide +kernel
theorem dX5_energy_16 : decode cX5_energy 16 = .ok (.laload, 1) := by decide +kernel
theorem dX5_energy_17 : decode cX5_energy 17 = .ok (.lreturn, 1) := by decide +kernel
theorem dX5_shortTicks_0 : decode cX5_shortTicks 0 = .ok (.aload_n 0, 1) := by decide +kernel
theorem dX5_shortTicks_1 : decode cX5_shortTicks 1 = .ok (.iload_n 1, 1) := by decide +kernel
theorem dX5_shortTicks_2 : decode cX5_shortTicks 2 = .ok (.invokevirtual 115, 3) := by decide +kernel
theorem dX5_shortTicks_5 : decode cX5_shortTicks 5 = .ok (.aload_n 0, 1) := by decide +kernel
theorem dX5_shortTicks_6 : decode cX5_shortTicks 6 = .ok (.getfield 10, 3) := by decide +kernel
theorem dX5_shortTicks_9 : decode cX5_shortTicks 9 = .ok (.getfield 97, 3) := by decide +kernel
theorem dX5_shortTicks_12 : decode cX5_shortTicks 12 = .ok (.getfield 157, 3) := by decide +kernel
theorem dX5_shortTicks_15 : decode cX5_shortTicks 15 = .ok (.iload_n 1, 1) := by decide +kernel
theorem dX5_shortTicks_16 : decode cX5_shortTicks 16 = .ok (.laload, 1) := by decide +kernel
theorem dX5_shortTicks_17 : decode cX5_shortTicks 17 = .ok (.lreturn, 1) := by decide +kernel
theorem dX5_balance_0 : decode cX5_balance 0 = .ok (.aload_n 0, 1) := by decide +kernel
theorem dX5_balance_1 : decode cX5_balance 1 = .ok (.getfield 10, 3) := by decide +kernel
theorem dX5_balance_4 : decode cX5_balance 4 = .ok (.getfield 97, 3) := by decide +kernel
theorem dX5_balance_7 : decode cX5_balance 7 = .ok (.invokevirtual 160, 3) := by decide +kernel
theorem dX5_balance_10 : decode cX5_balance 10 = .ok (.aload_n 0, 1) := by decide +kernel
theorem dX5_balance_11 : decode cX5_balance 11 = .ok (.getfield 10, 3) := by decide +kernel
theorem dX5_balance_14 : decode cX5_balance 14 = .ok (.getfield 97, 3) := by decide +kernel
theorem dX5_balance_17 : decode cX5_balance 17 = .ok (.invokevirtual 164, 3) := by decide +kernel
theorem dX5_balance_20 : decode cX5_balance 20 = .ok (.lsub, 1) := by decide +kernel
theorem dX5_balance_21 : decode cX5_balance 21 = .ok (.lreturn, 1) := by decide +kernel
theorem dX5_changeCount_0 : decode cX5_changeCount 0 = .ok (.aload_n 0, 1) := by decide +kernel
theorem dX5_changeCount_1 : decode cX5_changeCount 1 = .ok (.getfield 10, 3) := by decide +kernel
theorem dX5_changeCount_4 : decode cX5_changeCount 4 = .ok (.getfield 167, 3) := by decide +kernel
theorem dX5_changeCount_7 : decode cX5_changeCount 7 = .ok (.getfield 171, 3) := by decide +kernel
theorem dX5_changeCount_10 : decode cX5_changeCount 10 = .ok (.lreturn, 1) := by decide +kernel
theorem dX5_changeTime_0 : decode cX5_changeTime 0 = .ok (.aload_n 0, 1) := by decide +kernel
theorem dX5_changeTime_1 : decode cX5_changeTime 1 = .ok (.iload_n 1, 1) := by decide +kernel
theorem dX5_changeTime_2 : decode cX5_changeTime 2 = .ok (.invokevirtual 175, 3) := by decide +kernel
theorem dX5_changeTime_5 : decode cX5_changeTime 5 = .ok (.aload_n 0, 1) := by decide +kernel
theorem dX5_changeTime_6 : decode cX5_changeTime 6 = .ok (.getfield 10, 3) := by decide +kernel
theorem dX5_changeTime_9 : decode cX5_changeTime 9 = .ok (.getfield 167, 3) := by decide +kernel
theorem dX5_changeTime_12 : decode cX5_changeTime 12 = .ok (.getfield 178, 3) := by decide +kernel
theorem dX5_changeTime_15 : decode cX5_changeTime 15 = .ok (.aload_n 0, 1) := by decide +kernel
theorem dX5_changeTime_16 : decode cX5_changeTime 16 = .ok (.getfield 10, 3) := by decide +kernel
theorem dX5_changeTime_19 : decode cX5_changeTime 19 = .ok (.getfield 167, 3) := by decide +kernel
theorem dX5_changeTime_22 : decode cX5_changeTime 22 = .ok (.iload_n 1, 1) := by decide +kernel
theorem dX5_changeTime_23 : decode cX5_changeTime 23 = .ok (.invokevirtual 181, 3) := by decide +kernel
theorem dX5_changeTime_26 : decode cX5_changeTime 26 = .ok (.laload, 1) := by decide +kernel
theorem dX5_changeTime_27 : decode cX5_changeTime 27 = .ok (.lreturn, 1) := by decide +kernel
theorem dX5_changeSwitch_0 : decode cX5_changeSwitch 0 = .ok (.aload_n 0, 1) := by decide +kernel
theorem dX5_changeSwitch_1 : decode cX5_changeSwitch 1 = .ok (.iload_n 1, 1) := by decide +kernel
theorem dX5_changeSwitch_2 : decode cX5_changeSwitch 2 = .ok (.invokevirtual 175, 3) := by decide +kernel
theorem dX5_changeSwitch_5 : decode cX5_changeSwitch 5 = .ok (.aload_n 0, 1) := by decide +kernel
theorem dX5_changeSwitch_6 : decode cX5_changeSwitch 6 = .ok (.getfield 10, 3) := by decide +kernel
theorem dX5_changeSwitch_9 : decode cX5_changeSwitch 9 = .ok (.getfield 167, 3) := by decide +kernel
theorem dX5_changeSwitch_12 : decode cX5_changeSwitch 12 = .ok (.getfield 184, 3) := by decide +kernel
theorem dX5_changeSwitch_15 : decode cX5_changeSwitch 15 = .ok (.aload_n 0, 1) := by decide +kernel
theorem dX5_changeSwitch_16 : decode cX5_changeSwitch 16 = .ok (.getfield 10, 3) := by decide +kernel
theorem dX5_changeSwitch_19 : decode cX5_changeSwitch 19 = .ok (.getfield 167, 3) := by decide +kernel
theorem dX5_changeSwitch_22 : decode cX5_changeSwitch 22 = .ok (.iload_n 1, 1) := by decide +kernel
theorem dX5_changeSwitch_23 : decode cX5_changeSwitch 23 = .ok (.invokevirtual 181, 3) := by decide +kernel
theorem dX5_changeSwitch_26 : decode cX5_changeSwitch 26 = .ok (.iaload, 1) := by decide +kernel
theorem dX5_changeSwitch_27 : decode cX5_changeSwitch 27 = .ok (.ireturn, 1) := by decide +kernel
theorem dX5_save_0 : decode cX5_save 0 = .ok (.aload_n 0, 1) := by decide +kernel
theorem dX5_save_1 : decode cX5_save 1 = .ok (.getfield 23, 3) := by decide +kernel
theorem dX5_save_4 : decode cX5_save 4 = .ok (.iconst 4, 1) := by decide +kernel
theorem dX5_save_5 : decode cX5_save 5 = .ok (.if_icmp .lt 13, 3) := by decide +kernel
theorem dX5_save_8 : decode cX5_save 8 = .ok (.new 56, 3) := by decide +kernel
theorem dX5_save_11 : decode cX5_save 11 = .ok (.dup, 1) := by decide +kernel
theorem dX5_save_12 : decode cX5_save 12 = .ok (.ldc 187, 2) := by decide +kernel
theorem dX5_save_14 : decode cX5_save 14 = .ok (.invokespecial 60, 3) := by decide +kernel
theorem dX5_save_17 : decode cX5_save 17 = .ok (.athrow, 1) := by decide +kernel
theorem dX5_save_18 : decode cX5_save 18 = .ok (.aload_n 0, 1) := by decide +kernel
theorem dX5_save_19 : decode cX5_save 19 = .ok (.getfield 19, 3) := by decide +kernel
theorem dX5_save_22 : decode cX5_save 22 = .ok (.aload_n 0, 1) := by decide +kernel
theorem dX5_save_23 : decode cX5_save 23 = .ok (.getfield 23, 3) := by decide +kernel
theorem dX5_save_26 : decode cX5_save 26 = .ok (.aaload, 1) := by decide +kernel
theorem dX5_save_27 : decode cX5_save 27 = .ok (.astore_n 1, 1) := by decide +kernel
theorem dX5_save_28 : decode cX5_save 28 = .ok (.aload_n 1, 1) := by decide +kernel
theorem dX5_save_29 : decode cX5_save 29 = .ok (.ifnonnull 21, 3) := by decide +kernel
theorem dX5_save_32 : decode cX5_save 32 = .ok (.new 7, 3) := by decide +kernel
theorem dX5_save_35 : decode cX5_save 35 = .ok (.dup, 1) := by decide +kernel
theorem dX5_save_36 : decode cX5_save 36 = .ok (.invokespecial 9, 3) := by decide +kernel
theorem dX5_save_39 : decode cX5_save 39 = .ok (.astore_n 1, 1) := by decide +kernel
theorem dX5_save_40 : decode cX5_save 40 = .ok (.aload_n 0, 1) := by decide +kernel
theorem dX5_save_41 : decode cX5_save 41 = .ok (.getfield 19, 3) := by decide +kernel
theorem dX5_save_44 : decode cX5_save 44 = .ok (.aload_n 0, 1) := by decide +kernel
theorem dX5_save_45 : decode cX5_save 45 = .ok (.getfield 23, 3) := by decide +kernel
theorem dX5_save_48 : decode cX5_save 48 = .ok (.aload_n 1, 1) := by decide +kernel
theorem dX5_save_49 : decode cX5_save 49 = .ok (.aastore, 1) := by decide +kernel
theorem dX5_save_50 : decode cX5_save 50 = .ok (.aload_n 1, 1) := by decide +kernel
theorem dX5_save_51 : decode cX5_save 51 = .ok (.aload_n 0, 1) := by decide +kernel
theorem dX5_save_52 : decode cX5_save 52 = .ok (.getfield 10, 3) := by decide +kernel
theorem dX5_save_55 : decode cX5_save 55 = .ok (.invokevirtual 132, 3) := by decide +kernel
theorem dX5_save_58 : decode cX5_save 58 = .ok (.aload_n 0, 1) := by decide +kernel
theorem dX5_save_59 : decode cX5_save 59 = .ok (.dup, 1) := by decide +kernel
theorem dX5_save_60 : decode cX5_save 60 = .ok (.getfield 23, 3) := by decide +kernel
theorem dX5_save_63 : decode cX5_save 63 = .ok (.iconst 1, 1) := by decide +kernel
theorem dX5_save_64 : decode cX5_save 64 = .ok (.iadd, 1) := by decide +kernel
theorem dX5_save_65 : decode cX5_save 65 = .ok (.putfield 23, 3) := by decide +kernel
theorem dX5_save_68 : decode cX5_save 68 = .ok (.aload_n 0, 1) := by decide +kernel
theorem dX5_save_69 : decode cX5_save 69 = .ok (.getfield 23, 3) := by decide +kernel
theorem dX5_save_72 : decode cX5_save 72 = .ok (.ireturn, 1) := by decide +kernel
theorem dX5_restore_0 : decode cX5_restore 0 = .ok (.aload_n 0, 1) := by decide +kernel
theorem dX5_restore_1 : decode cX5_restore 1 = .ok (.getfield 23, 3) := by decide +kernel
theorem dX5_restore_4 : decode cX5_restore 4 = .ok (.ifCond .le 17, 3) := by decide +kernel
theorem dX5_restore_7 : decode cX5_restore 7 = .ok (.aload_n 0, 1) := by decide +kernel
theorem dX5_restore_8 : decode cX5_restore 8 = .ok (.getfield 19, 3) := by decide +kernel
theorem dX5_restore_11 : decode cX5_restore 11 = .ok (.aload_n 0, 1) := by decide +kernel
theorem dX5_restore_12 : decode cX5_restore 12 = .ok (.getfield 23, 3) := by decide +kernel
theorem dX5_restore_15 : decode cX5_restore 15 = .ok (.iconst 1, 1) := by decide +kernel
theorem dX5_restore_16 : decode cX5_restore 16 = .ok (.isub, 1) := by decide +kernel
theorem dX5_restore_17 : decode cX5_restore 17 = .ok (.aaload, 1) := by decide +kernel
theorem dX5_restore_18 : decode cX5_restore 18 = .ok (.goto 4, 3) := by decide +kernel
theorem dX5_restore_21 : decode cX5_restore 21 = .ok (.aconst_null, 1) := by decide +kernel
theorem dX5_restore_22 : decode cX5_restore 22 = .ok (.astore_n 1, 1) := by decide +kernel
theorem dX5_restore_23 : decode cX5_restore 23 = .ok (.aload_n 1, 1) := by decide +kernel
theorem dX5_restore_24 : decode cX5_restore 24 = .ok (.ifnonnull 13, 3) := by decide +kernel
theorem dX5_restore_27 : decode cX5_restore 27 = .ok (.new 56, 3) := by decide +kernel
theorem dX5_restore_30 : decode cX5_restore 30 = .ok (.dup, 1) := by decide +kernel
theorem dX5_restore_31 : decode cX5_restore 31 = .ok (.ldc 189, 2) := by decide +kernel
theorem dX5_restore_33 : decode cX5_restore 33 = .ok (.invokespecial 60, 3) := by decide +kernel
theorem dX5_restore_36 : decode cX5_restore 36 = .ok (.athrow, 1) := by decide +kernel
theorem dX5_restore_37 : decode cX5_restore 37 = .ok (.aload_n 0, 1) := by decide +kernel
theorem dX5_restore_38 : decode cX5_restore 38 = .ok (.getfield 10, 3) := by decide +kernel
theorem dX5_restore_41 : decode cX5_restore 41 = .ok (.aload_n 1, 1) := by decide +kernel
theorem dX5_restore_42 : decode cX5_restore 42 = .ok (.invokevirtual 132, 3) := by decide +kernel
theorem dX5_restore_45 : decode cX5_restore 45 = .ok (.aload_n 0, 1) := by decide +kernel
theorem dX5_restore_46 : decode cX5_restore 46 = .ok (.dup, 1) := by decide +kernel
theorem dX5_restore_47 : decode cX5_restore 47 = .ok (.getfield 23, 3) := by decide +kernel
theorem dX5_restore_50 : decode cX5_restore 50 = .ok (.iconst 1, 1) := by decide +kernel
theorem dX5_restore_51 : decode cX5_restore 51 = .ok (.isub, 1) := by decide +kernel
theorem dX5_restore_52 : decode cX5_restore 52 = .ok (.putfield 23, 3) := by decide +kernel
theorem dX5_restore_55 : decode cX5_restore 55 = .ok (.aload_n 0, 1) := by decide +kernel
theorem dX5_restore_56 : decode cX5_restore 56 = .ok (.getfield 23, 3) := by decide +kernel
theorem dX5_restore_59 : decode cX5_restore 59 = .ok (.ireturn, 1) := by decide +kernel
theorem dX5_digest_0 : decode cX5_digest 0 = .ok (.ldc2_w 191, 3) := by decide +kernel
theorem dX5_digest_3 : decode cX5_digest 3 = .ok (.aload_n 0, 1) := by decide +kernel
theorem dX5_digest_4 : decode cX5_digest 4 = .ok (.getfield 10, 3) := by decide +kernel
theorem dX5_digest_7 : decode cX5_digest 7 = .ok (.getfield 139, 3) := by decide +kernel
theorem dX5_digest_10 : decode cX5_digest 10 = .ok (.invokestatic 193, 3) := by decide +kernel
theorem dX5_digest_13 : decode cX5_digest 13 = .ok (.lstore_n 1, 1) := by decide +kernel
theorem dX5_digest_14 : decode cX5_digest 14 = .ok (.lload_n 1, 1) := by decide +kernel
theorem dX5_digest_15 : decode cX5_digest 15 = .ok (.aload_n 0, 1) := by decide +kernel
theorem dX5_digest_16 : decode cX5_digest 16 = .ok (.getfield 10, 3) := by decide +kernel
theorem dX5_digest_19 : decode cX5_digest 19 = .ok (.getfield 47, 3) := by decide +kernel
theorem dX5_digest_22 : decode cX5_digest 22 = .ok (.getfield 51, 3) := by decide +kernel
theorem dX5_digest_25 : decode cX5_digest 25 = .ok (.i2l, 1) := by decide +kernel
theorem dX5_digest_26 : decode cX5_digest 26 = .ok (.invokestatic 193, 3) := by decide +kernel
theorem dX5_digest_29 : decode cX5_digest 29 = .ok (.lstore_n 1, 1) := by decide +kernel
theorem dX5_digest_30 : decode cX5_digest 30 = .ok (.lload_n 1, 1) := by decide +kernel
theorem dX5_digest_31 : decode cX5_digest 31 = .ok (.aload_n 0, 1) := by decide +kernel
theorem dX5_digest_32 : decode cX5_digest 32 = .ok (.getfield 10, 3) := by decide +kernel
theorem dX5_digest_35 : decode cX5_digest 35 = .ok (.getfield 74, 3) := by decide +kernel
theorem dX5_digest_38 : decode cX5_digest 38 = .ok (.getfield 78, 3) := by decide +kernel
theorem dX5_digest_41 : decode cX5_digest 41 = .ok (.i2l, 1) := by decide +kernel
theorem dX5_digest_42 : decode cX5_digest 42 = .ok (.invokestatic 193, 3) := by decide +kernel
theorem dX5_digest_45 : decode cX5_digest 45 = .ok (.lstore_n 1, 1) := by decide +kernel
theorem dX5_digest_46 : decode cX5_digest 46 = .ok (.lload_n 1, 1) := by decide +kernel
theorem dX5_digest_47 : decode cX5_digest 47 = .ok (.aload_n 0, 1) := by decide +kernel
theorem dX5_digest_48 : decode cX5_digest 48 = .ok (.getfield 10, 3) := by decide +kernel
theorem dX5_digest_51 : decode cX5_digest 51 = .ok (.getfield 97, 3) := by decide +kernel
theorem dX5_digest_54 : decode cX5_digest 54 = .ok (.getfield 101, 3) := by decide +kernel
theorem dX5_digest_57 : decode cX5_digest 57 = .ok (.i2l, 1) := by decide +kernel
theorem dX5_digest_58 : decode cX5_digest 58 = .ok (.invokestatic 193, 3) := by decide +kernel
theorem dX5_digest_61 : decode cX5_digest 61 = .ok (.lstore_n 1, 1) := by decide +kernel
theorem dX5_digest_62 : decode cX5_digest 62 = .ok (.lload_n 1, 1) := by decide +kernel
theorem dX5_digest_63 : decode cX5_digest 63 = .ok (.aload_n 0, 1) := by decide +kernel
theorem dX5_digest_64 : decode cX5_digest 64 = .ok (.getfield 23, 3) := by decide +kernel
theorem dX5_digest_67 : decode cX5_digest 67 = .ok (.i2l, 1) := by decide +kernel
theorem dX5_digest_68 : decode cX5_digest 68 = .ok (.invokestatic 193, 3) := by decide +kernel
theorem dX5_digest_71 : decode cX5_digest 71 = .ok (.lstore_n 1, 1) := by decide +kernel
theorem dX5_digest_72 : decode cX5_digest 72 = .ok (.aload_n 0, 1) := by decide +kernel
theorem dX5_digest_73 : decode cX5_digest 73 = .ok (.getfield 10, 3) := by decide +kernel
theorem dX5_digest_76 : decode cX5_digest 76 = .ok (.getfield 47, 3) := by decide +kernel
theorem dX5_digest_79 : decode cX5_digest 79 = .ok (.lload_n 1, 1) := by decide +kernel
theorem dX5_digest_80 : decode cX5_digest 80 = .ok (.invokevirtual 197, 3) := by decide +kernel
theorem dX5_digest_83 : decode cX5_digest 83 = .ok (.lstore_n 1, 1) := by decide +kernel
theorem dX5_digest_84 : decode cX5_digest 84 = .ok (.aload_n 0, 1) := by decide +kernel
theorem dX5_digest_85 : decode cX5_digest 85 = .ok (.getfield 10, 3) := by decide +kernel
theorem dX5_digest_88 : decode cX5_digest 88 = .ok (.getfield 74, 3) := by decide +kernel
theorem dX5_digest_91 : decode cX5_digest 91 = .ok (.lload_n 1, 1) := by decide +kernel
theorem dX5_digest_92 : decode cX5_digest 92 = .ok (.invokevirtual 201, 3) := by decide +kernel
theorem dX5_digest_95 : decode cX5_digest 95 = .ok (.lstore_n 1, 1) := by decide +kernel
theorem dX5_digest_96 : decode cX5_digest 96 = .ok (.aload_n 0, 1) := by decide +kernel
theorem dX5_digest_97 : decode cX5_digest 97 = .ok (.getfield 10, 3) := by decide +kernel
theorem dX5_digest_100 : decode cX5_digest 100 = .ok (.getfield 97, 3) := by decide +kernel
theorem dX5_digest_103 : decode cX5_digest 103 = .ok (.lload_n 1, 1) := by decide +kernel
theorem dX5_digest_104 : decode cX5_digest 104 = .ok (.invokevirtual 202, 3) := by decide +kernel
theorem dX5_digest_107 : decode cX5_digest 107 = .ok (.lstore_n 1, 1) := by decide +kernel
theorem dX5_digest_108 : decode cX5_digest 108 = .ok (.lload_n 1, 1) := by decide +kernel
theorem dX5_digest_109 : decode cX5_digest 109 = .ok (.aload_n 0, 1) := by decide +kernel
theorem dX5_digest_110 : decode cX5_digest 110 = .ok (.getfield 10, 3) := by decide +kernel
theorem dX5_digest_113 : decode cX5_digest 113 = .ok (.getfield 167, 3) := by decide +kernel
theorem dX5_digest_116 : decode cX5_digest 116 = .ok (.getfield 171, 3) := by decide +kernel
theorem dX5_digest_119 : decode cX5_digest 119 = .ok (.invokestatic 193, 3) := by decide +kernel
theorem dX5_digest_122 : decode cX5_digest 122 = .ok (.lreturn, 1) := by decide +kernel
theorem dX5_needTank_0 : decode cX5_needTank 0 = .ok (.iload_n 1, 1) := by decide +kernel
theorem dX5_needTank_1 : decode cX5_needTank 1 = .ok (.iconst 0, 1) := by decide +kernel
theorem dX5_needTank_2 : decode cX5_needTank 2 = .ok (.aload_n 0, 1) := by decide +kernel
theorem dX5_needTank_3 : decode cX5_needTank 3 = .ok (.getfield 10, 3) := by decide +kernel
theorem dX5_needTank_6 : decode cX5_needTank 6 = .ok (.getfield 47, 3) := by decide +kernel
theorem dX5_needTank_9 : decode cX5_needTank 9 = .ok (.getfield 51, 3) := by decide +kernel
theorem dX5_needTank_12 : decode cX5_needTank 12 = .ok (.iconst 1, 1) := by decide +kernel
theorem dX5_needTank_13 : decode cX5_needTank 13 = .ok (.isub, 1) := by decide +kernel
theorem dX5_needTank_14 : decode cX5_needTank 14 = .ok (.invokestatic 28, 3) := by decide +kernel
theorem dX5_needTank_17 : decode cX5_needTank 17 = .ok (.ifCond .ne 13, 3) := by decide +kernel
theorem dX5_needTank_20 : decode cX5_needTank 20 = .ok (.new 203, 3) := by decide +kernel
theorem dX5_needTank_23 : decode cX5_needTank 23 = .ok (.dup, 1) := by decide +kernel
theorem dX5_needTank_24 : decode cX5_needTank 24 = .ok (.ldc 205, 2) := by decide +kernel
theorem dX5_needTank_26 : decode cX5_needTank 26 = .ok (.invokespecial 207, 3) := by decide +kernel
theorem dX5_needTank_29 : decode cX5_needTank 29 = .ok (.athrow, 1) := by decide +kernel
theorem dX5_needTank_30 : decode cX5_needTank 30 = .ok (.return_, 1) := by decide +kernel
theorem dX5_needTankOrOutside_0 : decode cX5_needTankOrOutside 0 = .ok (.iload_n 1, 1) := by decide +kernel
theorem dX5_needTankOrOutside_1 : decode cX5_needTankOrOutside 1 = .ok (.iconst (-1), 1) := by decide +kernel
theorem dX5_needTankOrOutside_2 : decode cX5_needTankOrOutside 2 = .ok (.if_icmp .eq 8, 3) := by decide +kernel
theorem dX5_needTankOrOutside_5 : decode cX5_needTankOrOutside 5 = .ok (.aload_n 0, 1) := by decide +kernel
theorem dX5_needTankOrOutside_6 : decode cX5_needTankOrOutside 6 = .ok (.iload_n 1, 1) := by decide +kernel
theorem dX5_needTankOrOutside_7 : decode cX5_needTankOrOutside 7 = .ok (.invokevirtual 65, 3) := by decide +kernel
theorem dX5_needTankOrOutside_10 : decode cX5_needTankOrOutside 10 = .ok (.return_, 1) := by decide +kernel
theorem dX5_needSwitch_0 : decode cX5_needSwitch 0 = .ok (.iload_n 1, 1) := by decide +kernel
theorem dX5_needSwitch_1 : decode cX5_needSwitch 1 = .ok (.iconst 0, 1) := by decide +kernel
theorem dX5_needSwitch_2 : decode cX5_needSwitch 2 = .ok (.aload_n 0, 1) := by decide +kernel
theorem dX5_needSwitch_3 : decode cX5_needSwitch 3 = .ok (.getfield 10, 3) := by decide +kernel
theorem dX5_needSwitch_6 : decode cX5_needSwitch 6 = .ok (.getfield 74, 3) := by decide +kernel
theorem dX5_needSwitch_9 : decode cX5_needSwitch 9 = .ok (.getfield 78, 3) := by decide +kernel
theorem dX5_needSwitch_12 : decode cX5_needSwitch 12 = .ok (.iconst 1, 1) := by decide +kernel
theorem dX5_needSwitch_13 : decode cX5_needSwitch 13 = .ok (.isub, 1) := by decide +kernel
theorem dX5_needSwitch_14 : decode cX5_needSwitch 14 = .ok (.invokestatic 28, 3) := by decide +kernel
theorem dX5_needSwitch_17 : decode cX5_needSwitch 17 = .ok (.ifCond .ne 13, 3) := by decide +kernel
theorem dX5_needSwitch_20 : decode cX5_needSwitch 20 = .ok (.new 203, 3) := by decide +kernel
theorem dX5_needSwitch_23 : decode cX5_needSwitch 23 = .ok (.dup, 1) := by decide +kernel
theorem dX5_needSwitch_24 : decode cX5_needSwitch 24 = .ok (.ldc 208, 2) := by decide +kernel
theorem dX5_needSwitch_26 : decode cX5_needSwitch 26 = .ok (.invokespecial 207, 3) := by decide +kernel
theorem dX5_needSwitch_29 : decode cX5_needSwitch 29 = .ok (.athrow, 1) := by decide +kernel
theorem dX5_needSwitch_30 : decode cX5_needSwitch 30 = .ok (.return_, 1) := by decide +kernel
theorem dX5_needPump_0 : decode cX5_needPump 0 = .ok (.iload_n 1, 1) := by decide +kernel
theorem dX5_needPump_1 : decode cX5_needPump 1 = .ok (.iconst 0, 1) := by decide +kernel
theorem dX5_needPump_2 : decode cX5_needPump 2 = .ok (.aload_n 0, 1) := by decide +kernel
theorem dX5_needPump_3 : decode cX5_needPump 3 = .ok (.getfield 10, 3) := by decide +kernel
theorem dX5_needPump_6 : decode cX5_needPump 6 = .ok (.getfield 97, 3) := by decide +kernel
theorem dX5_needPump_9 : decode cX5_needPump 9 = .ok (.getfield 101, 3) := by decide +kernel
theorem dX5_needPump_12 : decode cX5_needPump 12 = .ok (.iconst 1, 1) := by decide +kernel
theorem dX5_needPump_13 : decode cX5_needPump 13 = .ok (.isub, 1) := by decide +kernel
theorem dX5_needPump_14 : decode cX5_needPump 14 = .ok (.invokestatic 28, 3) := by decide +kernel
theorem dX5_needPump_17 : decode cX5_needPump 17 = .ok (.ifCond .ne 13, 3) := by decide +kernel
theorem dX5_needPump_20 : decode cX5_needPump 20 = .ok (.new 203, 3) := by decide +kernel
theorem dX5_needPump_23 : decode cX5_needPump 23 = .ok (.dup, 1) := by decide +kernel
theorem dX5_needPump_24 : decode cX5_needPump 24 = .ok (.ldc 210, 2) := by decide +kernel
theorem dX5_needPump_26 : decode cX5_needPump 26 = .ok (.invokespecial 207, 3) := by decide +kernel
theorem dX5_needPump_29 : decode cX5_needPump 29 = .ok (.athrow, 1) := by decide +kernel
theorem dX5_needPump_30 : decode cX5_needPump 30 = .ok (.return_, 1) := by decide +kernel
theorem dX5_needLogged_0 : decode cX5_needLogged 0 = .ok (.iload_n 1, 1) := by decide +kernel
theorem dX5_needLogged_1 : decode cX5_needLogged 1 = .ok (.iconst 0, 1) := by decide +kernel
theorem dX5_needLogged_2 : decode cX5_needLogged 2 = .ok (.aload_n 0, 1) := by decide +kernel
theorem dX5_needLogged_3 : decode cX5_needLogged 3 = .ok (.getfield 10, 3) := by decide +kernel
theorem dX5_needLogged_6 : decode cX5_needLogged 6 = .ok (.getfield 167, 3) := by decide +kernel
theorem dX5_needLogged_9 : decode cX5_needLogged 9 = .ok (.invokevirtual 212, 3) := by decide +kernel
theorem dX5_needLogged_12 : decode cX5_needLogged 12 = .ok (.iconst 1, 1) := by decide +kernel
theorem dX5_needLogged_13 : decode cX5_needLogged 13 = .ok (.isub, 1) := by decide +kernel
theorem dX5_needLogged_14 : decode cX5_needLogged 14 = .ok (.invokestatic 28, 3) := by decide +kernel
theorem dX5_needLogged_17 : decode cX5_needLogged 17 = .ok (.ifCond .ne 13, 3) := by decide +kernel
theorem dX5_needLogged_20 : decode cX5_needLogged 20 = .ok (.new 203, 3) := by decide +kernel
theorem dX5_needLogged_23 : decode cX5_needLogged 23 = .ok (.dup, 1) := by decide +kernel
theorem dX5_needLogged_24 : decode cX5_needLogged 24 = .ok (.ldc 216, 2) := by decide +kernel
theorem dX5_needLogged_26 : decode cX5_needLogged 26 = .ok (.invokespecial 207, 3) := by decide +kernel
theorem dX5_needLogged_29 : decode cX5_needLogged 29 = .ok (.athrow, 1) := by decide +kernel
theorem dX5_needLogged_30 : decode cX5_needLogged 30 = .ok (.return_, 1) := by decide +kernel
theorem dX5_needAmount_0 : decode cX5_needAmount 0 = .ok (.iload_n 0, 1) := by decide +kernel
theorem dX5_needAmount_1 : decode cX5_needAmount 1 = .ok (.iconst 0, 1) := by decide +kernel
theorem dX5_needAmount_2 : decode cX5_needAmount 2 = .ok (.iload_n 1, 1) := by decide +kernel
theorem dX5_needAmount_3 : decode cX5_needAmount 3 = .ok (.invokestatic 28, 3) := by decide +kernel
theorem dX5_needAmount_6 : decode cX5_needAmount 6 = .ok (.ifCond .ne 13, 3) := by decide +kernel
theorem dX5_needAmount_9 : decode cX5_needAmount 9 = .ok (.new 32, 3) := by decide +kernel
theorem dX5_needAmount_12 : decode cX5_needAmount 12 = .ok (.dup, 1) := by decide +kernel
theorem dX5_needAmount_13 : decode cX5_needAmount 13 = .ok (.ldc 218, 2) := by decide +kernel
theorem dX5_needAmount_15 : decode cX5_needAmount 15 = .ok (.invokespecial 36, 3) := by decide +kernel
theorem dX5_needAmount_18 : decode cX5_needAmount 18 = .ok (.athrow, 1) := by decide +kernel
theorem dX5_needAmount_19 : decode cX5_needAmount 19 = .ok (.return_, 1) := by decide +kernel
theorem dX5_needLeak_0 : decode cX5_needLeak 0 = .ok (.iload_n 0, 1) := by decide +kernel
theorem dX5_needLeak_1 : decode cX5_needLeak 1 = .ok (.iconst 0, 1) := by decide +kernel
theorem dX5_needLeak_2 : decode cX5_needLeak 2 = .ok (.ldc 220, 2) := by decide +kernel
theorem dX5_needLeak_4 : decode cX5_needLeak 4 = .ok (.invokestatic 28, 3) := by decide +kernel
theorem dX5_needLeak_7 : decode cX5_needLeak 7 = .ok (.ifCond .ne 13, 3) := by decide +kernel
theorem dX5_needLeak_10 : decode cX5_needLeak 10 = .ok (.new 32, 3) := by decide +kernel
theorem dX5_needLeak_13 : decode cX5_needLeak 13 = .ok (.dup, 1) := by decide +kernel
theorem dX5_needLeak_14 : decode cX5_needLeak 14 = .ok (.ldc 221, 2) := by decide +kernel
theorem dX5_needLeak_16 : decode cX5_needLeak 16 = .ok (.invokespecial 36, 3) := by decide +kernel
theorem dX5_needLeak_19 : decode cX5_needLeak 19 = .ok (.athrow, 1) := by decide +kernel
theorem dX5_needLeak_20 : decode cX5_needLeak 20 = .ok (.return_, 1) := by decide +kernel
theorem dX5_needRate_0 : decode cX5_needRate 0 = .ok (.iload_n 0, 1) := by decide +kernel
theorem dX5_needRate_1 : decode cX5_needRate 1 = .ok (.iconst 1, 1) := by decide +kernel
theorem dX5_needRate_2 : decode cX5_needRate 2 = .ok (.ldc 220, 2) := by decide +kernel
theorem dX5_needRate_4 : decode cX5_needRate 4 = .ok (.invokestatic 28, 3) := by decide +kernel
theorem dX5_needRate_7 : decode cX5_needRate 7 = .ok (.ifCond .ne 13, 3) := by decide +kernel
theorem dX5_needRate_10 : decode cX5_needRate 10 = .ok (.new 32, 3) := by decide +kernel
theorem dX5_needRate_13 : decode cX5_needRate 13 = .ok (.dup, 1) := by decide +kernel
theorem dX5_needRate_14 : decode cX5_needRate 14 = .ok (.ldc 223, 2) := by decide +kernel
theorem dX5_needRate_16 : decode cX5_needRate 16 = .ok (.invokespecial 36, 3) := by decide +kernel
theorem dX5_needRate_19 : decode cX5_needRate 19 = .ok (.athrow, 1) := by decide +kernel
theorem dX5_needRate_20 : decode cX5_needRate 20 = .ok (.return_, 1) := by decide +kernel
theorem dX5_needTicks_0 : decode cX5_needTicks 0 = .ok (.iload_n 0, 1) := by decide +kernel
theorem dX5_needTicks_1 : decode cX5_needTicks 1 = .ok (.iload_n 1, 1) := by decide +kernel
theorem dX5_needTicks_2 : decode cX5_needTicks 2 = .ok (.sipush 5000, 3) := by decide +kernel
theorem dX5_needTicks_5 : decode cX5_needTicks 5 = .ok (.invokestatic 28, 3) := by decide +kernel
theorem dX5_needTicks_8 : decode cX5_needTicks 8 = .ok (.ifCond .ne 13, 3) := by decide +kernel
theorem dX5_needTicks_11 : decode cX5_needTicks 11 = .ok (.new 32, 3) := by decide +kernel
theorem dX5_needTicks_14 : decode cX5_needTicks 14 = .ok (.dup, 1) := by decide +kernel
theorem dX5_needTicks_15 : decode cX5_needTicks 15 = .ok (.ldc 225, 2) := by decide +kernel
theorem dX5_needTicks_17 : decode cX5_needTicks 17 = .ok (.invokespecial 36, 3) := by decide +kernel
theorem dX5_needTicks_20 : decode cX5_needTicks 20 = .ok (.athrow, 1) := by decide +kernel
theorem dX5_needTicks_21 : decode cX5_needTicks 21 = .ok (.return_, 1) := by decide +kernel
theorem dX5_isWithin_0 : decode cX5_isWithin 0 = .ok (.iload_n 0, 1) := by decide +kernel
theorem dX5_isWithin_1 : decode cX5_isWithin 1 = .ok (.iload_n 1, 1) := by decide +kernel
theorem dX5_isWithin_2 : decode cX5_isWithin 2 = .ok (.if_icmp .lt 12, 3) := by decide +kernel
theorem dX5_isWithin_5 : decode cX5_isWithin 5 = .ok (.iload_n 0, 1) := by decide +kernel
theorem dX5_isWithin_6 : decode cX5_isWithin 6 = .ok (.iload_n 2, 1) := by decide +kernel
theorem dX5_isWithin_7 : decode cX5_isWithin 7 = .ok (.if_icmp .gt 7, 3) := by decide +kernel
theorem dX5_isWithin_10 : decode cX5_isWithin 10 = .ok (.iconst 1, 1) := by decide +kernel
theorem dX5_isWithin_11 : decode cX5_isWithin 11 = .ok (.goto 4, 3) := by decide +kernel
theorem dX5_isWithin_14 : decode cX5_isWithin 14 = .ok (.iconst 0, 1) := by decide +kernel
theorem dX5_isWithin_15 : decode cX5_isWithin 15 = .ok (.ireturn, 1) := by decide +kernel
theorem dX5_mix_0 : decode cX5_mix 0 = .ok (.lload_n 0, 1) := by decide +kernel
theorem dX5_mix_1 : decode cX5_mix 1 = .ok (.ldc2_w 227, 3) := by decide +kernel
theorem dX5_mix_4 : decode cX5_mix 4 = .ok (.lmul, 1) := by decide +kernel
theorem dX5_mix_5 : decode cX5_mix 5 = .ok (.lload_n 2, 1) := by decide +kernel
theorem dX5_mix_6 : decode cX5_mix 6 = .ok (.ladd, 1) := by decide +kernel
theorem dX5_mix_7 : decode cX5_mix 7 = .ok (.lreturn, 1) := by decide +kernel
theorem dX5_ticksWhile_0 : decode cX5_ticksWhile 0 = .ok (.lload_n 0, 1) := by decide +kernel
theorem dX5_ticksWhile_1 : decode cX5_ticksWhile 1 = .ok (.lconst 0, 1) := by decide +kernel
theorem dX5_ticksWhile_2 : decode cX5_ticksWhile 2 = .ok (.lcmp, 1) := by decide +kernel
theorem dX5_ticksWhile_3 : decode cX5_ticksWhile 3 = .ok (.ifCond .ge 5, 3) := by decide +kernel
theorem dX5_ticksWhile_6 : decode cX5_ticksWhile 6 = .ok (.iconst 0, 1) := by decide +kernel
theorem dX5_ticksWhile_7 : decode cX5_ticksWhile 7 = .ok (.ireturn, 1) := by decide +kernel
theorem dX5_ticksWhile_8 : decode cX5_ticksWhile 8 = .ok (.lload_n 2, 1) := by decide +kernel
theorem dX5_ticksWhile_9 : decode cX5_ticksWhile 9 = .ok (.lconst 0, 1) := by decide +kernel
theorem dX5_ticksWhile_10 : decode cX5_ticksWhile 10 = .ok (.lcmp, 1) := by decide +kernel
theorem dX5_ticksWhile_11 : decode cX5_ticksWhile 11 = .ok (.ifCond .lt 6, 3) := by decide +kernel
theorem dX5_ticksWhile_14 : decode cX5_ticksWhile 14 = .ok (.iload 4, 2) := by decide +kernel
theorem dX5_ticksWhile_16 : decode cX5_ticksWhile 16 = .ok (.ireturn, 1) := by decide +kernel
theorem dX5_ticksWhile_17 : decode cX5_ticksWhile 17 = .ok (.iload 4, 2) := by decide +kernel
theorem dX5_ticksWhile_19 : decode cX5_ticksWhile 19 = .ok (.i2l, 1) := by decide +kernel
theorem dX5_ticksWhile_20 : decode cX5_ticksWhile 20 = .ok (.lload_n 0, 1) := by decide +kernel
theorem dX5_ticksWhile_21 : decode cX5_ticksWhile 21 = .ok (.lload_n 2, 1) := by decide +kernel
theorem dX5_ticksWhile_22 : decode cX5_ticksWhile 22 = .ok (.lneg, 1) := by decide +kernel
theorem dX5_ticksWhile_23 : decode cX5_ticksWhile 23 = .ok (.ldiv, 1) := by decide +kernel
theorem dX5_ticksWhile_24 : decode cX5_ticksWhile 24 = .ok (.invokestatic 229, 3) := by decide +kernel
theorem dX5_ticksWhile_27 : decode cX5_ticksWhile 27 = .ok (.l2i, 1) := by decide +kernel
theorem dX5_ticksWhile_28 : decode cX5_ticksWhile 28 = .ok (.ireturn, 1) := by decide +kernel
end
section
theorem dX6_init_0 : decode cX6_init 0 = .ok (.aload_n 0, 1) := by decide +kernel
theorem dX6_init_1 : decode cX6_init 1 = .ok (.invokespecial 3, 3) := by decide +kernel
theorem dX6_init_4 : decode cX6_init 4 = .ok (.aload_n 0, 1) := by decide +kernel
theorem dX6_init_5 : decode cX6_init 5 = .ok (.bipush 8, 2) := by decide +kernel
theorem dX6_init_7 : decode cX6_init 7 = .ok (.newarray .int, 2) := by decide +kernel
theorem dX6_init_9 : decode cX6_init 9 = .ok (.putfield 9, 3) := by decide +kernel
theorem dX6_init_12 : decode cX6_init 12 = .ok (.aload_n 0, 1) := by decide +kernel
theorem dX6_init_13 : decode cX6_init 13 = .ok (.bipush 10, 2) := by decide +kernel
theorem dX6_init_15 : decode cX6_init 15 = .ok (.newarray .int, 2) := by decide +kernel
theorem dX6_init_17 : decode cX6_init 17 = .ok (.putfield 13, 3) := by decide +kernel
theorem dX6_init_20 : decode cX6_init 20 = .ok (.aload_n 0, 1) := by decide +kernel
theorem dX6_init_21 : decode cX6_init 21 = .ok (.bipush 10, 2) := by decide +kernel
theorem dX6_init_23 : decode cX6_init 23 = .ok (.newarray .int, 2) := by decide +kernel
theorem dX6_init_25 : decode cX6_init 25 = .ok (.putfield 16, 3) := by decide +kernel
theorem dX6_init_28 : decode cX6_init 28 = .ok (.aload_n 0, 1) := by decide +kernel
theorem dX6_init_29 : decode cX6_init 29 = .ok (.bipush 10, 2) := by decide +kernel
theorem dX6_init_31 : decode cX6_init 31 = .ok (.newarray .int, 2) := by decide +kernel
theorem dX6_init_33 : decode cX6_init 33 = .ok (.putfield 19, 3) := by decide +kernel
theorem dX6_init_36 : decode cX6_init 36 = .ok (.aload_n 0, 1) := by decide +kernel
theorem dX6_init_37 : decode cX6_init 37 = .ok (.bipush 16, 2) := by decide +kernel
theorem dX6_init_39 : decode cX6_init 39 = .ok (.newarray .int, 2) := by decide +kernel
theorem dX6_init_41 : decode cX6_init 41 = .ok (.putfield 22, 3) := by decide +kernel
theorem dX6_init_44 : decode cX6_init 44 = .ok (.aload_n 0, 1) := by decide +kernel
theorem dX6_init_45 : decode cX6_init 45 = .ok (.bipush 16, 2) := by decide +kernel
theorem dX6_init_47 : decode cX6_init 47 = .ok (.newarray .int, 2) := by decide +kernel
theorem dX6_init_49 : decode cX6_init 49 = .ok (.putfield 25, 3) := by decide +kernel
theorem dX6_init_52 : decode cX6_init 52 = .ok (.aload_n 0, 1) := by decide +kernel
theorem dX6_init_53 : decode cX6_init 53 = .ok (.bipush 16, 2) := by decide +kernel
theorem dX6_init_55 : decode cX6_init 55 = .ok (.newarray .int, 2) := by decide +kernel
theorem dX6_init_57 : decode cX6_init 57 = .ok (.putfield 28, 3) := by decide +kernel
theorem dX6_init_60 : decode cX6_init 60 = .ok (.aload_n 0, 1) := by decide +kernel
theorem dX6_init_61 : decode cX6_init 61 = .ok (.bipush 16, 2) := by decide +kernel
theorem dX6_init_63 : decode cX6_init 63 = .ok (.newarray .int, 2) := by decide +kernel
theorem dX6_init_65 : decode cX6_init 65 = .ok (.putfield 31, 3) := by decide +kernel
theorem dX6_init_68 : decode cX6_init 68 = .ok (.aload_n 0, 1) := by decide +kernel
theorem dX6_init_69 : decode cX6_init 69 = .ok (.bipush 16, 2) := by decide +kernel
theorem dX6_init_71 : decode cX6_init 71 = .ok (.newarray .boolean, 2) := by decide +kernel
theorem dX6_init_73 : decode cX6_init 73 = .ok (.putfield 34, 3) := by decide +kernel
theorem dX6_init_76 : decode cX6_init 76 = .ok (.aload_n 0, 1) := by decide +kernel
theorem dX6_init_77 : decode cX6_init 77 = .ok (.bipush 8, 2) := by decide +kernel
theorem dX6_init_79 : decode cX6_init 79 = .ok (.newarray .int, 2) := by decide +kernel
theorem dX6_init_81 : decode cX6_init 81 = .ok (.putfield 38, 3) := by decide +kernel
theorem dX6_init_84 : decode cX6_init 84 = .ok (.aload_n 0, 1) := by decide +kernel
theorem dX6_init_85 : decode cX6_init 85 = .ok (.bipush 8, 2) := by decide +kernel
theorem dX6_init_87 : decode cX6_init 87 = .ok (.newarray .int, 2) := by decide +kernel
theorem dX6_init_89 : decode cX6_init 89 = .ok (.putfield 41, 3) := by decide +kernel
theorem dX6_init_92 : decode cX6_init 92 = .ok (.aload_n 0, 1) := by decide +kernel
theorem dX6_init_93 : decode cX6_init 93 = .ok (.bipush 8, 2) := by decide +kernel
theorem dX6_init_95 : decode cX6_init 95 = .ok (.newarray .long, 2) := by decide +kernel
theorem dX6_init_97 : decode cX6_init 97 = .ok (.putfield 44, 3) := by decide +kernel
theorem dX6_init_100 : decode cX6_init 100 = .ok (.aload_n 0, 1) := by decide +kernel
theorem dX6_init_101 : decode cX6_init 101 = .ok (.bipush 10, 2) := by decide +kernel
theorem dX6_init_103 : decode cX6_init 103 = .ok (.newarray .boolean, 2) := by decide +kernel
theorem dX6_init_105 : decode cX6_init 105 = .ok (.putfield 48, 3) := by decide +kernel
theorem dX6_init_108 : decode cX6_init 108 = .ok (.aload_n 0, 1) := by decide +kernel
theorem dX6_init_109 : decode cX6_init 109 = .ok (.bipush 16, 2) := by decide +kernel
theorem dX6_init_111 : decode cX6_init 111 = .ok (.newarray .int, 2) := by decide +kernel
theorem dX6_init_113 : decode cX6_init 113 = .ok (.putfield 51, 3) := by decide +kernel
theorem dX6_init_116 : decode cX6_init 116 = .ok (.aload_n 0, 1) := by decide +kernel
theorem dX6_init_117 : decode cX6_init 117 = .ok (.bipush 16, 2) := by decide +kernel
theorem dX6_init_119 : decode cX6_init 119 = .ok (.newarray .long, 2) := by decide +kernel
theorem dX6_init_121 : decode cX6_init 121 = .ok (.putfield 54, 3) := by decide +kernel
theorem dX6_init_124 : decode cX6_init 124 = .ok (.aload_n 0, 1) := by decide +kernel
theorem dX6_init_125 : decode cX6_init 125 = .ok (.bipush 16, 2) := by decide +kernel
theorem dX6_init_127 : decode cX6_init 127 = .ok (.newarray .long, 2) := by decide +kernel
theorem dX6_init_129 : decode cX6_init 129 = .ok (.putfield 57, 3) := by decide +kernel
theorem dX6_init_132 : decode cX6_init 132 = .ok (.aload_n 0, 1) := by decide +kernel
theorem dX6_init_133 : decode cX6_init 133 = .ok (.bipush 16, 2) := by decide +kernel
theorem dX6_init_135 : decode cX6_init 135 = .ok (.newarray .long, 2) := by decide +kernel
theorem dX6_init_137 : decode cX6_init 137 = .ok (.putfield 60, 3) := by decide +kernel
theorem dX6_init_140 : decode cX6_init 140 = .ok (.aload_n 0, 1) := by decide +kernel
theorem dX6_init_141 : decode cX6_init 141 = .ok (.bipush 30, 2) := by decide +kernel
theorem dX6_init_143 : decode cX6_init 143 = .ok (.newarray .long, 2) := by decide +kernel
theorem dX6_init_145 : decode cX6_init 145 = .ok (.putfield 63, 3) := by decide +kernel
theorem dX6_init_148 : decode cX6_init 148 = .ok (.aload_n 0, 1) := by decide +kernel
theorem dX6_init_149 : decode cX6_init 149 = .ok (.bipush 30, 2) := by decide +kernel
theorem dX6_init_151 : decode cX6_init 151 = .ok (.newarray .int, 2) := by decide +kernel
theorem dX6_init_153 : decode cX6_init 153 = .ok (.putfield 66, 3) := by decide +kernel
theorem dX6_init_156 : decode cX6_init 156 = .ok (.aload_n 0, 1) := by decide +kernel
theorem dX6_init_157 : decode cX6_init 157 = .ok (.sipush 820, 3) := by decide +kernel
theorem dX6_init_160 : decode cX6_init 160 = .ok (.newarray .long, 2) := by decide +kernel
theorem dX6_init_162 : decode cX6_init 162 = .ok (.putfield 69, 3) := by decide +kernel
theorem dX6_init_165 : decode cX6_init 165 = .ok (.return_, 1) := by decide +kernel
theorem dX6_thrown_0 : decode cX6_thrown 0 = .ok (.aload_n 0, 1) := by decide +kernel
theorem dX6_thrown_1 : decode cX6_thrown 1 = .ok (.getfield 72, 3) := by decide +kernel
theorem dX6_thrown_4 : decode cX6_thrown 4 = .ok (.ireturn, 1) := by decide +kernel
theorem dX6_fail_0 : decode cX6_fail 0 = .ok (.aload_n 0, 1) := by decide +kernel
theorem dX6_fail_1 : decode cX6_fail 1 = .ok (.iload_n 1, 1) := by decide +kernel
theorem dX6_fail_2 : decode cX6_fail 2 = .ok (.putfield 72, 3) := by decide +kernel
theorem dX6_fail_5 : decode cX6_fail 5 = .ok (.iconst 0, 1) := by decide +kernel
theorem dX6_fail_6 : decode cX6_fail 6 = .ok (.ireturn, 1) := by decide +kernel
theorem dX6_isTank_0 : decode cX6_isTank 0 = .ok (.iload_n 1, 1) := by decide +kernel
theorem dX6_isTank_1 : decode cX6_isTank 1 = .ok (.ifCond .lt 15, 3) := by decide +kernel
theorem dX6_isTank_4 : decode cX6_isTank 4 = .ok (.iload_n 1, 1) := by decide +kernel
theorem dX6_isTank_5 : decode cX6_isTank 5 = .ok (.aload_n 0, 1) := by decide +kernel
theorem dX6_isTank_6 : decode cX6_isTank 6 = .ok (.getfield 76, 3) := by decide +kernel
theorem dX6_isTank_9 : decode cX6_isTank 9 = .ok (.if_icmp .ge 7, 3) := by decide +kernel
theorem dX6_isTank_12 : decode cX6_isTank 12 = .ok (.iconst 1, 1) := by decide +kernel
theorem dX6_isTank_13 : decode cX6_isTank 13 = .ok (.goto 4, 3) := by decide +kernel
theorem dX6_isTank_16 : decode cX6_isTank 16 = .ok (.iconst 0, 1) := by decide +kernel
theorem dX6_isTank_17 : decode cX6_isTank 17 = .ok (.ireturn, 1) := by decide +kernel
theorem dX6_isSwitch_0 : decode cX6_isSwitch 0 = .ok (.iload_n 1, 1) := by decide +kernel
theorem dX6_isSwitch_1 : decode cX6_isSwitch 1 = .ok (.ifCond .lt 15, 3) := by decide +kernel
theorem dX6_isSwitch_4 : decode cX6_isSwitch 4 = .ok (.iload_n 1, 1) := by decide +kernel
theorem dX6_isSwitch_5 : decode cX6_isSwitch 5 = .ok (.aload_n 0, 1) := by decide +kernel
theorem dX6_isSwitch_6 : decode cX6_isSwitch 6 = .ok (.getfield 79, 3) := by decide +kernel
theorem dX6_isSwitch_9 : decode cX6_isSwitch 9 = .ok (.if_icmp .ge 7, 3) := by decide +kernel
theorem dX6_isSwitch_12 : decode cX6_isSwitch 12 = .ok (.iconst 1, 1) := by decide +kernel
theorem dX6_isSwitch_13 : decode cX6_isSwitch 13 = .ok (.goto 4, 3) := by decide +kernel
theorem dX6_isSwitch_16 : decode cX6_isSwitch 16 = .ok (.iconst 0, 1) := by decide +kernel
theorem dX6_isSwitch_17 : decode cX6_isSwitch 17 = .ok (.ireturn, 1) := by decide +kernel
theorem dX6_isPump_0 : decode cX6_isPump 0 = .ok (.iload_n 1, 1) := by decide +kernel
theorem dX6_isPump_1 : decode cX6_isPump 1 = .ok (.ifCond .lt 15, 3) := by decide +kernel
theorem dX6_isPump_4 : decode cX6_isPump 4 = .ok (.iload_n 1, 1) := by decide +kernel
theorem dX6_isPump_5 : decode cX6_isPump 5 = .ok (.aload_n 0, 1) := by decide +kernel
theorem dX6_isPump_6 : decode cX6_isPump 6 = .ok (.getfield 82, 3) := by decide +kernel
theorem dX6_isPump_9 : decode cX6_isPump 9 = .ok (.if_icmp .ge 7, 3) := by decide +kernel
theorem dX6_isPump_12 : decode cX6_isPump 12 = .ok (.iconst 1, 1) := by decide +kernel
theorem dX6_isPump_13 : decode cX6_isPump 13 = .ok (.goto 4, 3) := by decide +kernel
theorem dX6_isPump_16 : decode cX6_isPump 16 = .ok (.iconst 0, 1) := by decide +kernel
theorem dX6_isPump_17 : decode cX6_isPump 17 = .ok (.ireturn, 1) := by decide +kernel
theorem dX6_addTank_0 : decode cX6_addTank 0 = .ok (.aload_n 0, 1) := by decide +kernel
theorem dX6_addTank_1 : decode cX6_addTank 1 = .ok (.iconst 0, 1) := by decide +kernel
theorem dX6_addTank_2 : decode cX6_addTank 2 = .ok (.putfield 72, 3) := by decide +kernel
theorem dX6_addTank_5 : decode cX6_addTank 5 = .ok (.iload_n 1, 1) := by decide +kernel
theorem dX6_addTank_6 : decode cX6_addTank 6 = .ok (.iconst 1, 1) := by decide +kernel
theorem dX6_addTank_7 : decode cX6_addTank 7 = .ok (.if_icmp .lt 28, 3) := by decide +kernel
theorem dX6_addTank_10 : decode cX6_addTank 10 = .ok (.iload_n 1, 1) := by decide +kernel
theorem dX6_addTank_11 : decode cX6_addTank 11 = .ok (.ldc 85, 2) := by decide +kernel
theorem dX6_addTank_13 : decode cX6_addTank 13 = .ok (.if_icmp .gt 22, 3) := by decide +kernel
theorem dX6_addTank_16 : decode cX6_addTank 16 = .ok (.iload_n 2, 1) := by decide +kernel
theorem dX6_addTank_17 : decode cX6_addTank 17 = .ok (.ifCond .lt 18, 3) := by decide +kernel
theorem dX6_addTank_20 : decode cX6_addTank 20 = .ok (.iload_n 2, 1) := by decide +kernel
theorem dX6_addTank_21 : decode cX6_addTank 21 = .ok (.iload_n 1, 1) := by decide +kernel
theorem dX6_addTank_22 : decode cX6_addTank 22 = .ok (.if_icmp .gt 13, 3) := by decide +kernel
theorem dX6_addTank_25 : decode cX6_addTank 25 = .ok (.iload_n 3, 1) := by decide +kernel
theorem dX6_addTank_26 : decode cX6_addTank 26 = .ok (.ifCond .lt 9, 3) := by decide +kernel
theorem dX6_addTank_29 : decode cX6_addTank 29 = .ok (.iload_n 3, 1) := by decide +kernel
theorem dX6_addTank_30 : decode cX6_addTank 30 = .ok (.ldc 86, 2) := by decide +kernel
theorem dX6_addTank_32 : decode cX6_addTank 32 = .ok (.if_icmp .le 9, 3) := by decide +kernel
theorem dX6_addTank_35 : decode cX6_addTank 35 = .ok (.aload_n 0, 1) := by decide +kernel
theorem dX6_addTank_36 : decode cX6_addTank 36 = .ok (.iconst 1, 1) := by decide +kernel
theorem dX6_addTank_37 : decode cX6_addTank 37 = .ok (.invokevirtual 87, 3) := by decide +kernel
theorem dX6_addTank_40 : decode cX6_addTank 40 = .ok (.ireturn, 1) := by decide +kernel
theorem dX6_addTank_41 : decode cX6_addTank 41 = .ok (.aload_n 0, 1) := by decide +kernel
theorem dX6_addTank_42 : decode cX6_addTank 42 = .ok (.getfield 76, 3) := by decide +kernel
theorem dX6_addTank_45 : decode cX6_addTank 45 = .ok (.bipush 8, 2) := by decide +kernel
theorem dX6_addTank_47 : decode cX6_addTank 47 = .ok (.if_icmp .ne 9, 3) := by decide +kernel
theorem dX6_addTank_50 : decode cX6_addTank 50 = .ok (.aload_n 0, 1) := by decide +kernel
theorem dX6_addTank_51 : decode cX6_addTank 51 = .ok (.iconst 2, 1) := by decide +kernel
theorem dX6_addTank_52 : decode cX6_addTank 52 = .ok (.invokevirtual 87, 3) := by decide +kernel
theorem dX6_addTank_55 : decode cX6_addTank 55 = .ok (.ireturn, 1) := by decide +kernel
theorem dX6_addTank_56 : decode cX6_addTank 56 = .ok (.aload_n 0, 1) := by decide +kernel
theorem dX6_addTank_57 : decode cX6_addTank 57 = .ok (.getfield 9, 3) := by decide +kernel
theorem dX6_addTank_60 : decode cX6_addTank 60 = .ok (.aload_n 0, 1) := by decide +kernel
theorem dX6_addTank_61 : decode cX6_addTank 61 = .ok (.getfield 76, 3) := by decide +kernel
theorem dX6_addTank_64 : decode cX6_addTank 64 = .ok (.iload_n 1, 1) := by decide +kernel
theorem dX6_addTank_65 : decode cX6_addTank 65 = .ok (.iastore, 1) := by decide +kernel
theorem dX6_addTank_66 : decode cX6_addTank 66 = .ok (.aload_n 0, 1) := by decide +kernel
theorem dX6_addTank_67 : decode cX6_addTank 67 = .ok (.getfield 38, 3) := by decide +kernel
theorem dX6_addTank_70 : decode cX6_addTank 70 = .ok (.aload_n 0, 1) := by decide +kernel
theorem dX6_addTank_71 : decode cX6_addTank 71 = .ok (.getfield 76, 3) := by decide +kernel
theorem dX6_addTank_74 : decode cX6_addTank 74 = .ok (.iload_n 2, 1) := by decide +kernel
theorem dX6_addTank_75 : decode cX6_addTank 75 = .ok (.iastore, 1) := by decide +kernel
theorem dX6_addTank_76 : decode cX6_addTank 76 = .ok (.aload_n 0, 1) := by decide +kernel
theorem dX6_addTank_77 : decode cX6_addTank 77 = .ok (.getfield 41, 3) := by decide +kernel
theorem dX6_addTank_80 : decode cX6_addTank 80 = .ok (.aload_n 0, 1) := by decide +kernel
theorem dX6_addTank_81 : decode cX6_addTank 81 = .ok (.getfield 76, 3) := by decide +kernel
theorem dX6_addTank_84 : decode cX6_addTank 84 = .ok (.iload_n 3, 1) := by decide +kernel
theorem dX6_addTank_85 : decode cX6_addTank 85 = .ok (.iastore, 1) := by decide +kernel
theorem dX6_addTank_86 : decode cX6_addTank 86 = .ok (.aload_n 0, 1) := by decide +kernel
theorem dX6_addTank_87 : decode cX6_addTank 87 = .ok (.getfield 44, 3) := by decide +kernel
theorem dX6_addTank_90 : decode cX6_addTank 90 = .ok (.aload_n 0, 1) := by decide +kernel
theorem dX6_addTank_91 : decode cX6_addTank 91 = .ok (.getfield 76, 3) := by decide +kernel
theorem dX6_addTank_94 : decode cX6_addTank 94 = .ok (.lconst 0, 1) := by decide +kernel
theorem dX6_addTank_95 : decode cX6_addTank 95 = .ok (.lastore, 1) := by decide +kernel
theorem dX6_addTank_96 : decode cX6_addTank 96 = .ok (.aload_n 0, 1) := by decide +kernel
theorem dX6_addTank_97 : decode cX6_addTank 97 = .ok (.dup, 1) := by decide +kernel
theorem dX6_addTank_98 : decode cX6_addTank 98 = .ok (.getfield 76, 3) := by decide +kernel
theorem dX6_addTank_101 : decode cX6_addTank 101 = .ok (.iconst 1, 1) := by decide +kernel
theorem dX6_addTank_102 : decode cX6_addTank 102 = .ok (.iadd, 1) := by decide +kernel
theorem dX6_addTank_103 : decode cX6_addTank 103 = .ok (.putfield 76, 3) := by decide +kernel
theorem dX6_addTank_106 : decode cX6_addTank 106 = .ok (.aload_n 0, 1) := by decide +kernel
theorem dX6_addTank_107 : decode cX6_addTank 107 = .ok (.getfield 76, 3) := by decide +kernel
theorem dX6_addTank_110 : decode cX6_addTank 110 = .ok (.iconst 1, 1) := by decide +kernel
theorem dX6_addTank_111 : decode cX6_addTank 111 = .ok (.isub, 1) := by decide +kernel
theorem dX6_addTank_112 : decode cX6_addTank 112 = .ok (.ireturn, 1) := by decide +kernel
theorem dX6_addSwitch_0 : decode cX6_addSwitch 0 = .ok (.aload_n 0, 1) := by decide +kernel
theorem dX6_addSwitch_1 : decode cX6_addSwitch 1 = .ok (.iconst 0, 1) := by decide +kernel
theorem dX6_addSwitch_2 : decode cX6_addSwitch 2 = .ok (.putfield 72, 3) := by decide +kernel
theorem dX6_addSwitch_5 : decode cX6_addSwitch 5 = .ok (.aload_n 0, 1) := by decide +kernel
theorem dX6_addSwitch_6 : decode cX6_addSwitch 6 = .ok (.iload_n 1, 1) := by decide +kernel
theorem dX6_addSwitch_7 : decode cX6_addSwitch 7 = .ok (.invokevirtual 91, 3) := by decide +kernel
theorem dX6_addSwitch_10 : decode cX6_addSwitch 10 = .ok (.ifCond .ne 9, 3) := by decide +kernel
theorem dX6_addSwitch_13 : decode cX6_addSwitch 13 = .ok (.aload_n 0, 1) := by decide +kernel
theorem dX6_addSwitch_14 : decode cX6_addSwitch 14 = .ok (.iconst 1, 1) := by decide +kernel
theorem dX6_addSwitch_15 : decode cX6_addSwitch 15 = .ok (.invokevirtual 87, 3) := by decide +kernel
theorem dX6_addSwitch_18 : decode cX6_addSwitch 18 = .ok (.ireturn, 1) := by decide +kernel
theorem dX6_addSwitch_19 : decode cX6_addSwitch 19 = .ok (.iload_n 2, 1) := by decide +kernel
theorem dX6_addSwitch_20 : decode cX6_addSwitch 20 = .ok (.ifCond .lt 18, 3) := by decide +kernel
theorem dX6_addSwitch_23 : decode cX6_addSwitch 23 = .ok (.iload_n 2, 1) := by decide +kernel
theorem dX6_addSwitch_24 : decode cX6_addSwitch 24 = .ok (.iload_n 3, 1) := by decide +kernel
theorem dX6_addSwitch_25 : decode cX6_addSwitch 25 = .ok (.if_icmp .ge 13, 3) := by decide +kernel
theorem dX6_addSwitch_28 : decode cX6_addSwitch 28 = .ok (.iload_n 3, 1) := by decide +kernel
theorem dX6_addSwitch_29 : decode cX6_addSwitch 29 = .ok (.aload_n 0, 1) := by decide +kernel
theorem dX6_addSwitch_30 : decode cX6_addSwitch 30 = .ok (.getfield 9, 3) := by decide +kernel
theorem dX6_addSwitch_33 : decode cX6_addSwitch 33 = .ok (.iload_n 1, 1) := by decide +kernel
theorem dX6_addSwitch_34 : decode cX6_addSwitch 34 = .ok (.iaload, 1) := by decide +kernel
theorem dX6_addSwitch_35 : decode cX6_addSwitch 35 = .ok (.if_icmp .le 9, 3) := by decide +kernel
theorem dX6_addSwitch_38 : decode cX6_addSwitch 38 = .ok (.aload_n 0, 1) := by decide +kernel
theorem dX6_addSwitch_39 : decode cX6_addSwitch 39 = .ok (.iconst 2, 1) := by decide +kernel
theorem dX6_addSwitch_40 : decode cX6_addSwitch 40 = .ok (.invokevirtual 87, 3) := by decide +kernel
theorem dX6_addSwitch_43 : decode cX6_addSwitch 43 = .ok (.ireturn, 1) := by decide +kernel
theorem dX6_addSwitch_44 : decode cX6_addSwitch 44 = .ok (.aload_n 0, 1) := by decide +kernel
theorem dX6_addSwitch_45 : decode cX6_addSwitch 45 = .ok (.getfield 79, 3) := by decide +kernel
theorem dX6_addSwitch_48 : decode cX6_addSwitch 48 = .ok (.bipush 10, 2) := by decide +kernel
theorem dX6_addSwitch_50 : decode cX6_addSwitch 50 = .ok (.if_icmp .ne 9, 3) := by decide +kernel
theorem dX6_addSwitch_53 : decode cX6_addSwitch 53 = .ok (.aload_n 0, 1) := by decide +kernel
theorem dX6_addSwitch_54 : decode cX6_addSwitch 54 = .ok (.iconst 3, 1) := by decide +kernel
theorem dX6_addSwitch_55 : decode cX6_addSwitch 55 = .ok (.invokevirtual 87, 3) := by decide +kernel
theorem dX6_addSwitch_58 : decode cX6_addSwitch 58 = .ok (.ireturn, 1) := by decide +kernel
theorem dX6_addSwitch_59 : decode cX6_addSwitch 59 = .ok (.aload_n 0, 1) := by decide +kernel
theorem dX6_addSwitch_60 : decode cX6_addSwitch 60 = .ok (.getfield 13, 3) := by decide +kernel
theorem dX6_addSwitch_63 : decode cX6_addSwitch 63 = .ok (.aload_n 0, 1) := by decide +kernel
theorem dX6_addSwitch_64 : decode cX6_addSwitch 64 = .ok (.getfield 79, 3) := by decide +kernel
theorem dX6_addSwitch_67 : decode cX6_addSwitch 67 = .ok (.iload_n 1, 1) := by decide +kernel
theorem dX6_addSwitch_68 : decode cX6_addSwitch 68 = .ok (.iastore, 1) := by decide +kernel
theorem dX6_addSwitch_69 : decode cX6_addSwitch 69 = .ok (.aload_n 0, 1) := by decide +kernel
theorem dX6_addSwitch_70 : decode cX6_addSwitch 70 = .ok (.getfield 16, 3) := by decide +kernel
theorem dX6_addSwitch_73 : decode cX6_addSwitch 73 = .ok (.aload_n 0, 1) := by decide +kernel
theorem dX6_addSwitch_74 : decode cX6_addSwitch 74 = .ok (.getfield 79, 3) := by decide +kernel
theorem dX6_addSwitch_77 : decode cX6_addSwitch 77 = .ok (.iload_n 2, 1) := by decide +kernel
theorem dX6_addSwitch_78 : decode cX6_addSwitch 78 = .ok (.iastore, 1) := by decide +kernel
theorem dX6_addSwitch_79 : decode cX6_addSwitch 79 = .ok (.aload_n 0, 1) := by decide +kernel
theorem dX6_addSwitch_80 : decode cX6_addSwitch 80 = .ok (.getfield 19, 3) := by decide +kernel
theorem dX6_addSwitch_83 : decode cX6_addSwitch 83 = .ok (.aload_n 0, 1) := by decide +kernel
theorem dX6_addSwitch_84 : decode cX6_addSwitch 84 = .ok (.getfield 79, 3) := by decide +kernel
theorem dX6_addSwitch_87 : decode cX6_addSwitch 87 = .ok (.iload_n 3, 1) := by decide +kernel
theorem dX6_addSwitch_88 : decode cX6_addSwitch 88 = .ok (.iastore, 1) := by decide +kernel
theorem dX6_addSwitch_89 : decode cX6_addSwitch 89 = .ok (.aload_n 0, 1) := by decide +kernel
theorem dX6_addSwitch_90 : decode cX6_addSwitch 90 = .ok (.getfield 48, 3) := by decide +kernel
theorem dX6_addSwitch_93 : decode cX6_addSwitch 93 = .ok (.aload_n 0, 1) := by decide +kernel
theorem dX6_addSwitch_94 : decode cX6_addSwitch 94 = .ok (.getfield 79, 3) := by decide +kernel
theorem dX6_addSwitch_97 : decode cX6_addSwitch 97 = .ok (.iconst 0, 1) := by decide +kernel
theorem dX6_addSwitch_98 : decode cX6_addSwitch 98 = .ok (.bastore, 1) := by decide +kernel
theorem dX6_addSwitch_99 : decode cX6_addSwitch 99 = .ok (.aload_n 0, 1) := by decide +kernel
theorem dX6_addSwitch_100 : decode cX6_addSwitch 100 = .ok (.dup, 1) := by decide +kernel
theorem dX6_addSwitch_101 : decode cX6_addSwitch 101 = .ok (.getfield 79, 3) := by decide +kernel
theorem dX6_addSwitch_104 : decode cX6_addSwitch 104 = .ok (.iconst 1, 1) := by decide +kernel
theorem dX6_addSwitch_105 : decode cX6_addSwitch 105 = .ok (.iadd, 1) := by decide +kernel
theorem dX6_addSwitch_106 : decode cX6_addSwitch 106 = .ok (.putfield 79, 3) := by decide +kernel
theorem dX6_addSwitch_109 : decode cX6_addSwitch 109 = .ok (.aload_n 0, 1) := by decide +kernel
theorem dX6_addSwitch_110 : decode cX6_addSwitch 110 = .ok (.getfield 79, 3) := by decide +kernel
theorem dX6_addSwitch_113 : decode cX6_addSwitch 113 = .ok (.iconst 1, 1) := by decide +kernel
theorem dX6_addSwitch_114 : decode cX6_addSwitch 114 = .ok (.isub, 1) := by decide +kernel
theorem dX6_addSwitch_115 : decode cX6_addSwitch 115 = .ok (.ireturn, 1) := by decide +kernel
theorem dX6_addPump_0 : decode cX6_addPump 0 = .ok (.aload_n 0, 1) := by decide +kernel
theorem dX6_addPump_1 : decode cX6_addPump 1 = .ok (.iconst 0, 1) := by decide +kernel
theorem dX6_addPump_2 : decode cX6_addPump 2 = .ok (.putfield 72, 3) := by decide +kernel
theorem dX6_addPump_5 : decode cX6_addPump 5 = .ok (.iload_n 1, 1) := by decide +kernel
theorem dX6_addPump_6 : decode cX6_addPump 6 = .ok (.iconst (-1), 1) := by decide +kernel
theorem dX6_addPump_7 : decode cX6_addPump 7 = .ok (.if_icmp .eq 11, 3) := by decide +kernel
theorem dX6_addPump_10 : decode cX6_addPump 10 = .ok (.aload_n 0, 1) := by decide +kernel
theorem dX6_addPump_11 : decode cX6_addPump 11 = .ok (.iload_n 1, 1) := by decide +kernel
theorem dX6_addPump_12 : decode cX6_addPump 12 = .ok (.invokevirtual 91, 3) := by decide +kernel
theorem dX6_addPump_15 : decode cX6_addPump 15 = .ok (.ifCond .eq 31, 3) := by decide +kernel
theorem dX6_addPump_18 : decode cX6_addPump 18 = .ok (.iload_n 2, 1) := by decide +kernel
theorem dX6_addPump_19 : decode cX6_addPump 19 = .ok (.iconst (-1), 1) := by decide +kernel
theorem dX6_addPump_20 : decode cX6_addPump 20 = .ok (.if_icmp .eq 11, 3) := by decide +kernel
theorem dX6_addPump_23 : decode cX6_addPump 23 = .ok (.aload_n 0, 1) := by decide +kernel
theorem dX6_addPump_24 : decode cX6_addPump 24 = .ok (.iload_n 2, 1) := by decide +kernel
theorem dX6_addPump_25 : decode cX6_addPump 25 = .ok (.invokevirtual 91, 3) := by decide +kernel
theorem dX6_addPump_28 : decode cX6_addPump 28 = .ok (.ifCond .eq 18, 3) := by decide +kernel
theorem dX6_addPump_31 : decode cX6_addPump 31 = .ok (.iload 5, 2) := by decide +kernel
theorem dX6_addPump_33 : decode cX6_addPump 33 = .ok (.iconst (-1), 1) := by decide +kernel
theorem dX6_addPump_34 : decode cX6_addPump 34 = .ok (.if_icmp .eq 18, 3) := by decide +kernel
theorem dX6_addPump_37 : decode cX6_addPump 37 = .ok (.aload_n 0, 1) := by decide +kernel
theorem dX6_addPump_38 : decode cX6_addPump 38 = .ok (.iload 5, 2) := by decide +kernel
theorem dX6_addPump_40 : decode cX6_addPump 40 = .ok (.invokevirtual 95, 3) := by decide +kernel
theorem dX6_addPump_43 : decode cX6_addPump 43 = .ok (.ifCond .ne 9, 3) := by decide +kernel
theorem dX6_addPump_46 : decode cX6_addPump 46 = .ok (.aload_n 0, 1) := by decide +kernel
theorem dX6_addPump_47 : decode cX6_addPump 47 = .ok (.iconst 1, 1) := by decide +kernel
theorem dX6_addPump_48 : decode cX6_addPump 48 = .ok (.invokevirtual 87, 3) := by decide +kernel
theorem dX6_addPump_51 : decode cX6_addPump 51 = .ok (.ireturn, 1) := by decide +kernel
theorem dX6_addPump_52 : decode cX6_addPump 52 = .ok (.iload_n 1, 1) := by decide +kernel
theorem dX6_addPump_53 : decode cX6_addPump 53 = .ok (.iload_n 2, 1) := by decide +kernel
theorem dX6_addPump_54 : decode cX6_addPump 54 = .ok (.if_icmp .eq 26, 3) := by decide +kernel
theorem dX6_addPump_57 : decode cX6_addPump 57 = .ok (.iload_n 3, 1) := by decide +kernel
theorem dX6_addPump_58 : decode cX6_addPump 58 = .ok (.iconst 1, 1) := by decide +kernel
theorem dX6_addPump_59 : decode cX6_addPump 59 = .ok (.if_icmp .lt 21, 3) := by decide +kernel
theorem dX6_addPump_62 : decode cX6_addPump 62 = .ok (.iload_n 3, 1) := by decide +kernel
theorem dX6_addPump_63 : decode cX6_addPump 63 = .ok (.ldc 86, 2) := by decide +kernel
theorem dX6_addPump_65 : decode cX6_addPump 65 = .ok (.if_icmp .gt 15, 3) := by decide +kernel
theorem dX6_addPump_68 : decode cX6_addPump 68 = .ok (.iload 4, 2) := by decide +kernel
theorem dX6_addPump_70 : decode cX6_addPump 70 = .ok (.ifCond .lt 10, 3) := by decide +kernel
theorem dX6_addPump_73 : decode cX6_addPump 73 = .ok (.iload 4, 2) := by decide +kernel
theorem dX6_addPump_75 : decode cX6_addPump 75 = .ok (.bipush 100, 2) := by decide +kernel
theorem dX6_addPump_77 : decode cX6_addPump 77 = .ok (.if_icmp .le 9, 3) := by decide +kernel
theorem dX6_addPump_80 : decode cX6_addPump 80 = .ok (.aload_n 0, 1) := by decide +kernel
theorem dX6_addPump_81 : decode cX6_addPump 81 = .ok (.iconst 2, 1) := by decide +kernel
theorem dX6_addPump_82 : decode cX6_addPump 82 = .ok (.invokevirtual 87, 3) := by decide +kernel
theorem dX6_addPump_85 : decode cX6_addPump 85 = .ok (.ireturn, 1) := by decide +kernel
theorem dX6_addPump_86 : decode cX6_addPump 86 = .ok (.aload_n 0, 1) := by decide +kernel
theorem dX6_addPump_87 : decode cX6_addPump 87 = .ok (.getfield 82, 3) := by decide +kernel
theorem dX6_addPump_90 : decode cX6_addPump 90 = .ok (.bipush 16, 2) := by decide +kernel
theorem dX6_addPump_92 : decode cX6_addPump 92 = .ok (.if_icmp .ne 9, 3) := by decide +kernel
theorem dX6_addPump_95 : decode cX6_addPump 95 = .ok (.aload_n 0, 1) := by decide +kernel
theorem dX6_addPump_96 : decode cX6_addPump 96 = .ok (.iconst 3, 1) := by decide +kernel
theorem dX6_addPump_97 : decode cX6_addPump 97 = .ok (.invokevirtual 87, 3) := by decide +kernel
theorem dX6_addPump_100 : decode cX6_addPump 100 = .ok (.ireturn, 1) := by decide +kernel
theorem dX6_addPump_101 : decode cX6_addPump 101 = .ok (.aload_n 0, 1) := by decide +kernel
theorem dX6_addPump_102 : decode cX6_addPump 102 = .ok (.getfield 22, 3) := by decide +kernel
theorem dX6_addPump_105 : decode cX6_addPump 105 = .ok (.aload_n 0, 1) := by decide +kernel
theorem dX6_addPump_106 : decode cX6_addPump 106 = .ok (.getfield 82, 3) := by decide +kernel
theorem dX6_addPump_109 : decode cX6_addPump 109 = .ok (.iload_n 1, 1) := by decide +kernel
theorem dX6_addPump_110 : decode cX6_addPump 110 = .ok (.iastore, 1) := by decide +kernel
theorem dX6_addPump_111 : decode cX6_addPump 111 = .ok (.aload_n 0, 1) := by decide +kernel
theorem dX6_addPump_112 : decode cX6_addPump 112 = .ok (.getfield 25, 3) := by decide +kernel
theorem dX6_addPump_115 : decode cX6_addPump 115 = .ok (.aload_n 0, 1) := by decide +kernel
theorem dX6_addPump_116 : decode cX6_addPump 116 = .ok (.getfield 82, 3) := by decide +kernel
theorem dX6_addPump_119 : decode cX6_addPump 119 = .ok (.iload_n 2, 1) := by decide +kernel
theorem dX6_addPump_120 : decode cX6_addPump 120 = .ok (.iastore, 1) := by decide +kernel
theorem dX6_addPump_121 : decode cX6_addPump 121 = .ok (.aload_n 0, 1) := by decide +kernel
theorem dX6_addPump_122 : decode cX6_addPump 122 = .ok (.getfield 51, 3) := by decide +kernel
theorem dX6_addPump_125 : decode cX6_addPump 125 = .ok (.aload_n 0, 1) := by decide +kernel
theorem dX6_addPump_126 : decode cX6_addPump 126 = .ok (.getfield 82, 3) := by decide +kernel
theorem dX6_addPump_129 : decode cX6_addPump 129 = .ok (.iload_n 3, 1) := by decide +kernel
theorem dX6_addPump_130 : decode cX6_addPump 130 = .ok (.iastore, 1) := by decide +kernel
theorem dX6_addPump_131 : decode cX6_addPump 131 = .ok (.aload_n 0, 1) := by decide +kernel
theorem dX6_addPump_132 : decode cX6_addPump 132 = .ok (.getfield 28, 3) := by decide +kernel
theorem dX6_addPump_135 : decode cX6_addPump 135 = .ok (.aload_n 0, 1) := by decide +kernel
theorem dX6_addPump_136 : decode cX6_addPump 136 = .ok (.getfield 82, 3) := by decide +kernel
theorem dX6_addPump_139 : decode cX6_addPump 139 = .ok (.iload 4, 2) := by decide +kernel
theorem dX6_addPump_141 : decode cX6_addPump 141 = .ok (.iastore, 1) := by decide +kernel
theorem dX6_addPump_142 : decode cX6_addPump 142 = .ok (.aload_n 0, 1) := by decide +kernel
theorem dX6_addPump_143 : decode cX6_addPump 143 = .ok (.getfield 31, 3) := by decide +kernel
theorem dX6_addPump_146 : decode cX6_addPump 146 = .ok (.aload_n 0, 1) := by decide +kernel
theorem dX6_addPump_147 : decode cX6_addPump 147 = .ok (.getfield 82, 3) := by decide +kernel
theorem dX6_addPump_150 : decode cX6_addPump 150 = .ok (.iload 5, 2) := by decide +kernel
theorem dX6_addPump_152 : decode cX6_addPump 152 = .ok (.iastore, 1) := by decide +kernel
theorem dX6_addPump_153 : decode cX6_addPump 153 = .ok (.aload_n 0, 1) := by decide +kernel
theorem dX6_addPump_154 : decode cX6_addPump 154 = .ok (.getfield 34, 3) := by decide +kernel
theorem dX6_addPump_157 : decode cX6_addPump 157 = .ok (.aload_n 0, 1) := by decide +kernel
theorem dX6_addPump_158 : decode cX6_addPump 158 = .ok (.getfield 82, 3) := by decide +kernel
theorem dX6_addPump_161 : decode cX6_addPump 161 = .ok (.iload 6, 2) := by decide +kernel
theorem dX6_addPump_163 : decode cX6_addPump 163 = .ok (.bastore, 1) := by decide +kernel
theorem dX6_addPump_164 : decode cX6_addPump 164 = .ok (.aload_n 0, 1) := by decide +kernel
theorem dX6_addPump_165 : decode cX6_addPump 165 = .ok (.getfield 54, 3) := by decide +kernel
theorem dX6_addPump_168 : decode cX6_addPump 168 = .ok (.aload_n 0, 1) := by decide +kernel
theorem dX6_addPump_169 : decode cX6_addPump 169 = .ok (.getfield 82, 3) := by decide +kernel
theorem dX6_addPump_172 : decode cX6_addPump 172 = .ok (.lconst 0, 1) := by decide +kernel
theorem dX6_addPump_173 : decode cX6_addPump 173 = .ok (.lastore, 1) := by decide +kernel
theorem dX6_addPump_174 : decode cX6_addPump 174 = .ok (.aload_n 0, 1) := by decide +kernel
theorem dX6_addPump_175 : decode cX6_addPump 175 = .ok (.getfield 57, 3) := by decide +kernel
theorem dX6_addPump_178 : decode cX6_addPump 178 = .ok (.aload_n 0, 1) := by decide +kernel
theorem dX6_addPump_179 : decode cX6_addPump 179 = .ok (.getfield 82, 3) := by decide +kernel
theorem dX6_addPump_182 : decode cX6_addPump 182 = .ok (.lconst 0, 1) := by decide +kernel
theorem dX6_addPump_183 : decode cX6_addPump 183 = .ok (.lastore, 1) := by decide +kernel
theorem dX6_addPump_184 : decode cX6_addPump 184 = .ok (.aload_n 0, 1) := by decide +kernel
theorem dX6_addPump_185 : decode cX6_addPump 185 = .ok (.getfield 60, 3) := by decide +kernel
theorem dX6_addPump_188 : decode cX6_addPump 188 = .ok (.aload_n 0, 1) := by decide +kernel
theorem dX6_addPump_189 : decode cX6_addPump 189 = .ok (.getfield 82, 3) := by decide +kernel
theorem dX6_addPump_192 : decode cX6_addPump 192 = .ok (.lconst 0, 1) := by decide +kernel
theorem dX6_addPump_193 : decode cX6_addPump 193 = .ok (.lastore, 1) := by decide +kernel
theorem dX6_addPump_194 : decode cX6_addPump 194 = .ok (.aload_n 0, 1) := by decide +kernel
theorem dX6_addPump_195 : decode cX6_addPump 195 = .ok (.dup, 1) := by decide +kernel
theorem dX6_addPump_196 : decode cX6_addPump 196 = .ok (.getfield 82, 3) := by decide +kernel
theorem dX6_addPump_199 : decode cX6_addPump 199 = .ok (.iconst 1, 1) := by decide +kernel
theorem dX6_addPump_200 : decode cX6_addPump 200 = .ok (.iadd, 1) := by decide +kernel
theorem dX6_addPump_201 : decode cX6_addPump 201 = .ok (.putfield 82, 3) := by decide +kernel
theorem dX6_addPump_204 : decode cX6_addPump 204 = .ok (.aload_n 0, 1) := by decide +kernel
theorem dX6_addPump_205 : decode cX6_addPump 205 = .ok (.getfield 82, 3) := by decide +kernel
theorem dX6_addPump_208 : decode cX6_addPump 208 = .ok (.iconst 1, 1) := by decide +kernel
theorem dX6_addPump_209 : decode cX6_addPump 209 = .ok (.isub, 1) := by decide +kernel
theorem dX6_addPump_210 : decode cX6_addPump 210 = .ok (.ireturn, 1) := by decide +kernel
theorem dX6_setLevel_0 : decode cX6_setLevel 0 = .ok (.aload_n 0, 1) := by decide +kernel
theorem dX6_setLevel_1 : decode cX6_setLevel 1 = .ok (.iconst 0, 1) := by decide +kernel
theorem dX6_setLevel_2 : decode cX6_setLevel 2 = .ok (.putfield 72, 3) := by decide +kernel
theorem dX6_setLevel_5 : decode cX6_setLevel 5 = .ok (.aload_n 0, 1) := by decide +kernel
theorem dX6_setLevel_6 : decode cX6_setLevel 6 = .ok (.iload_n 1, 1) := by decide +kernel
theorem dX6_setLevel_7 : decode cX6_setLevel 7 = .ok (.invokevirtual 91, 3) := by decide +kernel
theorem dX6_setLevel_10 : decode cX6_setLevel 10 = .ok (.ifCond .ne 9, 3) := by decide +kernel
theorem dX6_setLevel_13 : decode cX6_setLevel 13 = .ok (.aload_n 0, 1) := by decide +kernel
theorem dX6_setLevel_14 : decode cX6_setLevel 14 = .ok (.iconst 1, 1) := by decide +kernel
theorem dX6_setLevel_15 : decode cX6_setLevel 15 = .ok (.invokevirtual 87, 3) := by decide +kernel
theorem dX6_setLevel_18 : decode cX6_setLevel 18 = .ok (.ireturn, 1) := by decide +kernel
theorem dX6_setLevel_19 : decode cX6_setLevel 19 = .ok (.iload_n 2, 1) := by decide +kernel
theorem dX6_setLevel_20 : decode cX6_setLevel 20 = .ok (.ifCond .lt 13, 3) := by decide +kernel
theorem dX6_setLevel_23 : decode cX6_setLevel 23 = .ok (.iload_n 2, 1) := by decide +kernel
theorem dX6_setLevel_24 : decode cX6_setLevel 24 = .ok (.aload_n 0, 1) := by decide +kernel
theorem dX6_setLevel_25 : decode cX6_setLevel 25 = .ok (.getfield 9, 3) := by decide +kernel
theorem dX6_setLevel_28 : decode cX6_setLevel 28 = .ok (.iload_n 1, 1) := by decide +kernel
theorem dX6_setLevel_29 : decode cX6_setLevel 29 = .ok (.iaload, 1) := by decide +kernel
theorem dX6_setLevel_30 : decode cX6_setLevel 30 = .ok (.if_icmp .le 9, 3) := by decide +kernel
theorem dX6_setLevel_33 : decode cX6_setLevel 33 = .ok (.aload_n 0, 1) := by decide +kernel
theorem dX6_setLevel_34 : decode cX6_setLevel 34 = .ok (.iconst 2, 1) := by decide +kernel
theorem dX6_setLevel_35 : decode cX6_setLevel 35 = .ok (.invokevirtual 87, 3) := by decide +kernel
theorem dX6_setLevel_38 : decode cX6_setLevel 38 = .ok (.ireturn, 1) := by decide +kernel
theorem dX6_setLevel_39 : decode cX6_setLevel 39 = .ok (.aload_n 0, 1) := by decide +kernel
theorem dX6_setLevel_40 : decode cX6_setLevel 40 = .ok (.getfield 38, 3) := by decide +kernel
theorem dX6_setLevel_43 : decode cX6_setLevel 43 = .ok (.iload_n 1, 1) := by decide +kernel
theorem dX6_setLevel_44 : decode cX6_setLevel 44 = .ok (.iaload, 1) := by decide +kernel
theorem dX6_setLevel_45 : decode cX6_setLevel 45 = .ok (.istore_n 3, 1) := by decide +kernel
theorem dX6_setLevel_46 : decode cX6_setLevel 46 = .ok (.aload_n 0, 1) := by decide +kernel
theorem dX6_setLevel_47 : decode cX6_setLevel 47 = .ok (.getfield 38, 3) := by decide +kernel
theorem dX6_setLevel_50 : decode cX6_setLevel 50 = .ok (.iload_n 1, 1) := by decide +kernel
theorem dX6_setLevel_51 : decode cX6_setLevel 51 = .ok (.iload_n 2, 1) := by decide +kernel
theorem dX6_setLevel_52 : decode cX6_setLevel 52 = .ok (.iastore, 1) := by decide +kernel
theorem dX6_setLevel_53 : decode cX6_setLevel 53 = .ok (.iload_n 3, 1) := by decide +kernel
theorem dX6_setLevel_54 : decode cX6_setLevel 54 = .ok (.ireturn, 1) := by decide +kernel
theorem dX6_setLeak_0 : decode cX6_setLeak 0 = .ok (.aload_n 0, 1) := by decide +kernel
theorem dX6_setLeak_1 : decode cX6_setLeak 1 = .ok (.iconst 0, 1) := by decide +kernel
theorem dX6_setLeak_2 : decode cX6_setLeak 2 = .ok (.putfield 72, 3) := by decide +kernel
theorem dX6_setLeak_5 : decode cX6_setLeak 5 = .ok (.aload_n 0, 1) := by decide +kernel
theorem dX6_setLeak_6 : decode cX6_setLeak 6 = .ok (.iload_n 1, 1) := by decide +kernel
theorem dX6_setLeak_7 : decode cX6_setLeak 7 = .ok (.invokevirtual 91, 3) := by decide +kernel
theorem dX6_setLeak_10 : decode cX6_setLeak 10 = .ok (.ifCond .ne 9, 3) := by decide +kernel
theorem dX6_setLeak_13 : decode cX6_setLeak 13 = .ok (.aload_n 0, 1) := by decide +kernel
theorem dX6_setLeak_14 : decode cX6_setLeak 14 = .ok (.iconst 1, 1) := by decide +kernel
theorem dX6_setLeak_15 : decode cX6_setLeak 15 = .ok (.invokevirtual 87, 3) := by decide +kernel
theorem dX6_setLeak_18 : decode cX6_setLeak 18 = .ok (.ireturn, 1) := by decide +kernel
theorem dX6_setLeak_19 : decode cX6_setLeak 19 = .ok (.iload_n 2, 1) := by decide +kernel
theorem dX6_setLeak_20 : decode cX6_setLeak 20 = .ok (.ifCond .lt 9, 3) := by decide +kernel
theorem dX6_setLeak_23 : decode cX6_setLeak 23 = .ok (.iload_n 2, 1) := by decide +kernel
theorem dX6_setLeak_24 : decode cX6_setLeak 24 = .ok (.ldc 86, 2) := by decide +kernel
theorem dX6_setLeak_26 : decode cX6_setLeak 26 = .ok (.if_icmp .le 9, 3) := by decide +kernel
theorem dX6_setLeak_29 : decode cX6_setLeak 29 = .ok (.aload_n 0, 1) := by decide +kernel
theorem dX6_setLeak_30 : decode cX6_setLeak 30 = .ok (.iconst 2, 1) := by decide +kernel
theorem dX6_setLeak_31 : decode cX6_setLeak 31 = .ok (.invokevirtual 87, 3) := by decide +kernel
theorem dX6_setLeak_34 : decode cX6_setLeak 34 = .ok (.ireturn, 1) := by decide +kernel
theorem dX6_setLeak_35 : decode cX6_setLeak 35 = .ok (.aload_n 0, 1) := by decide +kernel
theorem dX6_setLeak_36 : decode cX6_setLeak 36 = .ok (.getfield 41, 3) := by decide +kernel
theorem dX6_setLeak_39 : decode cX6_setLeak 39 = .ok (.iload_n 1, 1) := by decide +kernel
theorem dX6_setLeak_40 : decode cX6_setLeak 40 = .ok (.iaload, 1) := by decide +kernel
theorem dX6_setLeak_41 : decode cX6_setLeak 41 = .ok (.istore_n 3, 1) := by decide +kernel
theorem dX6_setLeak_42 : decode cX6_setLeak 42 = .ok (.aload_n 0, 1) := by decide +kernel
theorem dX6_setLeak_43 : decode cX6_setLeak 43 = .ok (.getfield 41, 3) := by decide +kernel
theorem dX6_setLeak_46 : decode cX6_setLeak 46 = .ok (.iload_n 1, 1) := by decide +kernel
theorem dX6_setLeak_47 : decode cX6_setLeak 47 = .ok (.iload_n 2, 1) := by decide +kernel
theorem dX6_setLeak_48 : decode cX6_setLeak 48 = .ok (.iastore, 1) := by decide +kernel
theorem dX6_setLeak_49 : decode cX6_setLeak 49 = .ok (.iload_n 3, 1) := by decide +kernel
theorem dX6_setLeak_50 : decode cX6_setLeak 50 = .ok (.ireturn, 1) := by decide +kernel
theorem dX6_setRate_0 : decode cX6_setRate 0 = .ok (.aload_n 0, 1) := by decide +kernel
theorem dX6_setRate_1 : decode cX6_setRate 1 = .ok (.iconst 0, 1) := by decide +kernel
theorem dX6_setRate_2 : decode cX6_setRate 2 = .ok (.putfield 72, 3) := by decide +kernel
theorem dX6_setRate_5 : decode cX6_setRate 5 = .ok (.aload_n 0, 1) := by decide +kernel
theorem dX6_setRate_6 : decode cX6_setRate 6 = .ok (.iload_n 1, 1) := by decide +kernel
theorem dX6_setRate_7 : decode cX6_setRate 7 = .ok (.invokevirtual 98, 3) := by decide +kernel
theorem dX6_setRate_10 : decode cX6_setRate 10 = .ok (.ifCond .ne 9, 3) := by decide +kernel
theorem dX6_setRate_13 : decode cX6_setRate 13 = .ok (.aload_n 0, 1) := by decide +kernel
theorem dX6_setRate_14 : decode cX6_setRate 14 = .ok (.iconst 1, 1) := by decide +kernel
theorem dX6_setRate_15 : decode cX6_setRate 15 = .ok (.invokevirtual 87, 3) := by decide +kernel
theorem dX6_setRate_18 : decode cX6_setRate 18 = .ok (.ireturn, 1) := by decide +kernel
theorem dX6_setRate_19 : decode cX6_setRate 19 = .ok (.iload_n 2, 1) := by decide +kernel
theorem dX6_setRate_20 : decode cX6_setRate 20 = .ok (.iconst 1, 1) := by decide +kernel
theorem dX6_setRate_21 : decode cX6_setRate 21 = .ok (.if_icmp .lt 9, 3) := by decide +kernel
theorem dX6_setRate_24 : decode cX6_setRate 24 = .ok (.iload_n 2, 1) := by decide +kernel
theorem dX6_setRate_25 : decode cX6_setRate 25 = .ok (.ldc 86, 2) := by decide +kernel
theorem dX6_setRate_27 : decode cX6_setRate 27 = .ok (.if_icmp .le 9, 3) := by decide +kernel
theorem dX6_setRate_30 : decode cX6_setRate 30 = .ok (.aload_n 0, 1) := by decide +kernel
theorem dX6_setRate_31 : decode cX6_setRate 31 = .ok (.iconst 2, 1) := by decide +kernel
theorem dX6_setRate_32 : decode cX6_setRate 32 = .ok (.invokevirtual 87, 3) := by decide +kernel
theorem dX6_setRate_35 : decode cX6_setRate 35 = .ok (.ireturn, 1) := by decide +kernel
theorem dX6_setRate_36 : decode cX6_setRate 36 = .ok (.aload_n 0, 1) := by decide +kernel
theorem dX6_setRate_37 : decode cX6_setRate 37 = .ok (.getfield 51, 3) := by decide +kernel
theorem dX6_setRate_40 : decode cX6_setRate 40 = .ok (.iload_n 1, 1) := by decide +kernel
theorem dX6_setRate_41 : decode cX6_setRate 41 = .ok (.iaload, 1) := by decide +kernel
theorem dX6_setRate_42 : decode cX6_setRate 42 = .ok (.istore_n 3, 1) := by decide +kernel
theorem dX6_setRate_43 : decode cX6_setRate 43 = .ok (.aload_n 0, 1) := by decide +kernel
theorem dX6_setRate_44 : decode cX6_setRate 44 = .ok (.getfield 51, 3) := by decide +kernel
theorem dX6_setRate_47 : decode cX6_setRate 47 = .ok (.iload_n 1, 1) := by decide +kernel
theorem dX6_setRate_48 : decode cX6_setRate 48 = .ok (.iload_n 2, 1) := by decide +kernel
theorem dX6_setRate_49 : decode cX6_setRate 49 = .ok (.iastore, 1) := by decide +kernel
theorem dX6_setRate_50 : decode cX6_setRate 50 = .ok (.iload_n 3, 1) := by decide +kernel
theorem dX6_setRate_51 : decode cX6_setRate 51 = .ok (.ireturn, 1) := by decide +kernel
theorem dX6_log_0 : decode cX6_log 0 = .ok (.aload_n 0, 1) := by decide +kernel
theorem dX6_log_1 : decode cX6_log 1 = .ok (.getfield 101, 3) := by decide +kernel
theorem dX6_log_4 : decode cX6_log 4 = .ok (.bipush 30, 2) := by decide +kernel
theorem dX6_log_6 : decode cX6_log 6 = .ok (.if_icmp .ne 57, 3) := by decide +kernel
theorem dX6_log_9 : decode cX6_log 9 = .ok (.aload_n 0, 1) := by decide +kernel
theorem dX6_log_10 : decode cX6_log 10 = .ok (.dup, 1) := by decide +kernel
theorem dX6_log_11 : decode cX6_log 11 = .ok (.getfield 101, 3) := by decide +kernel
theorem dX6_log_14 : decode cX6_log 14 = .ok (.iconst 1, 1) := by decide +kernel
theorem dX6_log_15 : decode cX6_log 15 = .ok (.isub, 1) := by decide +kernel
theorem dX6_log_16 : decode cX6_log 16 = .ok (.putfield 101, 3) := by decide +kernel
theorem dX6_log_19 : decode cX6_log 19 = .ok (.iconst 0, 1) := by decide +kernel
theorem dX6_log_20 : decode cX6_log 20 = .ok (.istore_n 2, 1) := by decide +kernel
theorem dX6_log_21 : decode cX6_log 21 = .ok (.iload_n 2, 1) := by decide +kernel
theorem dX6_log_22 : decode cX6_log 22 = .ok (.aload_n 0, 1) := by decide +kernel
theorem dX6_log_23 : decode cX6_log 23 = .ok (.getfield 101, 3) := by decide +kernel
theorem dX6_log_26 : decode cX6_log 26 = .ok (.if_icmp .ge 37, 3) := by decide +kernel
theorem dX6_log_29 : decode cX6_log 29 = .ok (.aload_n 0, 1) := by decide +kernel
theorem dX6_log_30 : decode cX6_log 30 = .ok (.getfield 63, 3) := by decide +kernel
theorem dX6_log_33 : decode cX6_log 33 = .ok (.iload_n 2, 1) := by decide +kernel
theorem dX6_log_34 : decode cX6_log 34 = .ok (.aload_n 0, 1) := by decide +kernel
theorem dX6_log_35 : decode cX6_log 35 = .ok (.getfield 63, 3) := by decide +kernel
theorem dX6_log_38 : decode cX6_log 38 = .ok (.iload_n 2, 1) := by decide +kernel
theorem dX6_log_39 : decode cX6_log 39 = .ok (.iconst 1, 1) := by decide +kernel
theorem dX6_log_40 : decode cX6_log 40 = .ok (.iadd, 1) := by decide +kernel
theorem dX6_log_41 : decode cX6_log 41 = .ok (.laload, 1) := by decide +kernel
theorem dX6_log_42 : decode cX6_log 42 = .ok (.lastore, 1) := by decide +kernel
theorem dX6_log_43 : decode cX6_log 43 = .ok (.aload_n 0, 1) := by decide +kernel
theorem dX6_log_44 : decode cX6_log 44 = .ok (.getfield 66, 3) := by decide +kernel
theorem dX6_log_47 : decode cX6_log 47 = .ok (.iload_n 2, 1) := by decide +kernel
theorem dX6_log_48 : decode cX6_log 48 = .ok (.aload_n 0, 1) := by decide +kernel
theorem dX6_log_49 : decode cX6_log 49 = .ok (.getfield 66, 3) := by decide +kernel
theorem dX6_log_52 : decode cX6_log 52 = .ok (.iload_n 2, 1) := by decide +kernel
theorem dX6_log_53 : decode cX6_log 53 = .ok (.iconst 1, 1) := by decide +kernel
theorem dX6_log_54 : decode cX6_log 54 = .ok (.iadd, 1) := by decide +kernel
theorem dX6_log_55 : decode cX6_log 55 = .ok (.iaload, 1) := by decide +kernel
theorem dX6_log_56 : decode cX6_log 56 = .ok (.iastore, 1) := by decide +kernel
theorem dX6_log_57 : decode cX6_log 57 = .ok (.iinc 2 1, 3) := by decide +kernel
theorem dX6_log_60 : decode cX6_log 60 = .ok (.goto (-39), 3) := by decide +kernel
theorem dX6_log_63 : decode cX6_log 63 = .ok (.aload_n 0, 1) := by decide +kernel
theorem dX6_log_64 : decode cX6_log 64 = .ok (.getfield 63, 3) := by decide +kernel
theorem dX6_log_67 : decode cX6_log 67 = .ok (.aload_n 0, 1) := by decide +kernel
theorem dX6_log_68 : decode cX6_log 68 = .ok (.getfield 101, 3) := by decide +kernel
theorem dX6_log_71 : decode cX6_log 71 = .ok (.aload_n 0, 1) := by decide +kernel
theorem dX6_log_72 : decode cX6_log 72 = .ok (.getfield 104, 3) := by decide +kernel
theorem dX6_log_75 : decode cX6_log 75 = .ok (.lastore, 1) := by decide +kernel
theorem dX6_log_76 : decode cX6_log 76 = .ok (.aload_n 0, 1) := by decide +kernel
theorem dX6_log_77 : decode cX6_log 77 = .ok (.getfield 66, 3) := by decide +kernel
theorem dX6_log_80 : decode cX6_log 80 = .ok (.aload_n 0, 1) := by decide +kernel
theorem dX6_log_81 : decode cX6_log 81 = .ok (.getfield 101, 3) := by decide +kernel
theorem dX6_log_84 : decode cX6_log 84 = .ok (.iload_n 1, 1) := by decide +kernel
theorem dX6_log_85 : decode cX6_log 85 = .ok (.iastore, 1) := by decide +kernel
theorem dX6_log_86 : decode cX6_log 86 = .ok (.aload_n 0, 1) := by decide +kernel
theorem dX6_log_87 : decode cX6_log 87 = .ok (.dup, 1) := by decide +kernel
theorem dX6_log_88 : decode cX6_log 88 = .ok (.getfield 101, 3) := by decide +kernel
theorem dX6_log_91 : decode cX6_log 91 = .ok (.iconst 1, 1) := by decide +kernel
theorem dX6_log_92 : decode cX6_log 92 = .ok (.iadd, 1) := by decide +kernel
theorem dX6_log_93 : decode cX6_log 93 = .ok (.putfield 101, 3) := by decide +kernel
theorem dX6_log_96 : decode cX6_log 96 = .ok (.aload_n 0, 1) := by decide +kernel
theorem dX6_log_97 : decode cX6_log 97 = .ok (.dup, 1) := by decide +kernel
theorem dX6_log_98 : decode cX6_log 98 = .ok (.getfield 108, 3) := by decide +kernel
theorem dX6_log_101 : decode cX6_log 101 = .ok (.lconst 1, 1) := by decide +kernel
theorem dX6_log_102 : decode cX6_log 102 = .ok (.ladd, 1) := by decide +kernel
theorem dX6_log_103 : decode cX6_log 103 = .ok (.putfield 108, 3) := by decide +kernel
theorem dX6_log_106 : decode cX6_log 106 = .ok (.return_, 1) := by decide +kernel
theorem dX6_turn_0 : decode cX6_turn 0 = .ok (.iconst 0, 1) := by decide +kernel
theorem dX6_turn_1 : decode cX6_turn 1 = .ok (.istore_n 1, 1) := by decide +kernel
theorem dX6_turn_2 : decode cX6_turn 2 = .ok (.iconst 0, 1) := by decide +kernel
theorem dX6_turn_3 : decode cX6_turn 3 = .ok (.istore_n 2, 1) := by decide +kernel
theorem dX6_turn_4 : decode cX6_turn 4 = .ok (.iload_n 2, 1) := by decide +kernel
theorem dX6_turn_5 : decode cX6_turn 5 = .ok (.aload_n 0, 1) := by decide +kernel
theorem dX6_turn_6 : decode cX6_turn 6 = .ok (.getfield 79, 3) := by decide +kernel
theorem dX6_turn_9 : decode cX6_turn 9 = .ok (.if_icmp .ge 87, 3) := by decide +kernel
theorem dX6_turn_12 : decode cX6_turn 12 = .ok (.aload_n 0, 1) := by decide +kernel
theorem dX6_turn_13 : decode cX6_turn 13 = .ok (.getfield 38, 3) := by decide +kernel
theorem dX6_turn_16 : decode cX6_turn 16 = .ok (.aload_n 0, 1) := by decide +kernel
theorem dX6_turn_17 : decode cX6_turn 17 = .ok (.getfield 13, 3) := by decide +kernel
theorem dX6_turn_20 : decode cX6_turn 20 = .ok (.iload_n 2, 1) := by decide +kernel
theorem dX6_turn_21 : decode cX6_turn 21 = .ok (.iaload, 1) := by decide +kernel
theorem dX6_turn_22 : decode cX6_turn 22 = .ok (.iaload, 1) := by decide +kernel
theorem dX6_turn_23 : decode cX6_turn 23 = .ok (.istore_n 3, 1) := by decide +kernel
theorem dX6_turn_24 : decode cX6_turn 24 = .ok (.iload_n 3, 1) := by decide +kernel
theorem dX6_turn_25 : decode cX6_turn 25 = .ok (.aload_n 0, 1) := by decide +kernel
theorem dX6_turn_26 : decode cX6_turn 26 = .ok (.getfield 16, 3) := by decide +kernel
theorem dX6_turn_29 : decode cX6_turn 29 = .ok (.iload_n 2, 1) := by decide +kernel
theorem dX6_turn_30 : decode cX6_turn 30 = .ok (.iaload, 1) := by decide +kernel
theorem dX6_turn_31 : decode cX6_turn 31 = .ok (.if_icmp .le 22, 3) := by decide +kernel
theorem dX6_turn_34 : decode cX6_turn 34 = .ok (.iload_n 3, 1) := by decide +kernel
theorem dX6_turn_35 : decode cX6_turn 35 = .ok (.aload_n 0, 1) := by decide +kernel
theorem dX6_turn_36 : decode cX6_turn 36 = .ok (.getfield 19, 3) := by decide +kernel
theorem dX6_turn_39 : decode cX6_turn 39 = .ok (.iload_n 2, 1) := by decide +kernel
theorem dX6_turn_40 : decode cX6_turn 40 = .ok (.iaload, 1) := by decide +kernel
theorem dX6_turn_41 : decode cX6_turn 41 = .ok (.if_icmp .ge 16, 3) := by decide +kernel
theorem dX6_turn_44 : decode cX6_turn 44 = .ok (.aload_n 0, 1) := by decide +kernel
theorem dX6_turn_45 : decode cX6_turn 45 = .ok (.getfield 48, 3) := by decide +kernel
theorem dX6_turn_48 : decode cX6_turn 48 = .ok (.iload_n 2, 1) := by decide +kernel
theorem dX6_turn_49 : decode cX6_turn 49 = .ok (.baload, 1) := by decide +kernel
theorem dX6_turn_50 : decode cX6_turn 50 = .ok (.ifCond .eq 7, 3) := by decide +kernel
theorem dX6_turn_53 : decode cX6_turn 53 = .ok (.iconst 1, 1) := by decide +kernel
theorem dX6_turn_54 : decode cX6_turn 54 = .ok (.goto 4, 3) := by decide +kernel
theorem dX6_turn_57 : decode cX6_turn 57 = .ok (.iconst 0, 1) := by decide +kernel
theorem dX6_turn_58 : decode cX6_turn 58 = .ok (.istore 4, 2) := by decide +kernel
theorem dX6_turn_60 : decode cX6_turn 60 = .ok (.iload 4, 2) := by decide +kernel
theorem dX6_turn_62 : decode cX6_turn 62 = .ok (.aload_n 0, 1) := by decide +kernel
theorem dX6_turn_63 : decode cX6_turn 63 = .ok (.getfield 48, 3) := by decide +kernel
theorem dX6_turn_66 : decode cX6_turn 66 = .ok (.iload_n 2, 1) := by decide +kernel
theorem dX6_turn_67 : decode cX6_turn 67 = .ok (.baload, 1) := by decide +kernel
theorem dX6_turn_68 : decode cX6_turn 68 = .ok (.if_icmp .ne 6, 3) := by decide +kernel
theorem dX6_turn_71 : decode cX6_turn 71 = .ok (.goto 19, 3) := by decide +kernel
theorem dX6_turn_74 : decode cX6_turn 74 = .ok (.aload_n 0, 1) := by decide +kernel
theorem dX6_turn_75 : decode cX6_turn 75 = .ok (.getfield 48, 3) := by decide +kernel
theorem dX6_turn_78 : decode cX6_turn 78 = .ok (.iload_n 2, 1) := by decide +kernel
theorem dX6_turn_79 : decode cX6_turn 79 = .ok (.iload 4, 2) := by decide +kernel
theorem dX6_turn_81 : decode cX6_turn 81 = .ok (.bastore, 1) := by decide +kernel
theorem dX6_turn_82 : decode cX6_turn 82 = .ok (.aload_n 0, 1) := by decide +kernel
theorem dX6_turn_83 : decode cX6_turn 83 = .ok (.iload_n 2, 1) := by decide +kernel
theorem dX6_turn_84 : decode cX6_turn 84 = .ok (.invokevirtual 111, 3) := by decide +kernel
theorem dX6_turn_87 : decode cX6_turn 87 = .ok (.iinc 1 1, 3) := by decide +kernel
theorem dX6_turn_90 : decode cX6_turn 90 = .ok (.iinc 2 1, 3) := by decide +kernel
theorem dX6_turn_93 : decode cX6_turn 93 = .ok (.goto (-89), 3) := by decide +kernel
theorem dX6_turn_96 : decode cX6_turn 96 = .ok (.iload_n 1, 1) := by decide +kernel
theorem dX6_turn_97 : decode cX6_turn 97 = .ok (.ireturn, 1) := by decide +kernel
theorem dX6_pump_0 : decode cX6_pump 0 = .ok (.aload_n 0, 1) := by decide +kernel
theorem dX6_pump_1 : decode cX6_pump 1 = .ok (.getfield 31, 3) := by decide +kernel
theorem dX6_pump_4 : decode cX6_pump 4 = .ok (.iload_n 1, 1) := by decide +kernel
theorem dX6_pump_5 : decode cX6_pump 5 = .ok (.iaload, 1) := by decide +kernel
theorem dX6_pump_6 : decode cX6_pump 6 = .ok (.iconst (-1), 1) := by decide +kernel
theorem dX6_pump_7 : decode cX6_pump 7 = .ok (.if_icmp .eq 24, 3) := by decide +kernel
theorem dX6_pump_10 : decode cX6_pump 10 = .ok (.aload_n 0, 1) := by decide +kernel
theorem dX6_pump_11 : decode cX6_pump 11 = .ok (.getfield 48, 3) := by decide +kernel
theorem dX6_pump_14 : decode cX6_pump 14 = .ok (.aload_n 0, 1) := by decide +kernel
theorem dX6_pump_15 : decode cX6_pump 15 = .ok (.getfield 31, 3) := by decide +kernel
theorem dX6_pump_18 : decode cX6_pump 18 = .ok (.iload_n 1, 1) := by decide +kernel
theorem dX6_pump_19 : decode cX6_pump 19 = .ok (.iaload, 1) := by decide +kernel
theorem dX6_pump_20 : decode cX6_pump 20 = .ok (.baload, 1) := by decide +kernel
theorem dX6_pump_21 : decode cX6_pump 21 = .ok (.aload_n 0, 1) := by decide +kernel
theorem dX6_pump_22 : decode cX6_pump 22 = .ok (.getfield 34, 3) := by decide +kernel
theorem dX6_pump_25 : decode cX6_pump 25 = .ok (.iload_n 1, 1) := by decide +kernel
theorem dX6_pump_26 : decode cX6_pump 26 = .ok (.baload, 1) := by decide +kernel
theorem dX6_pump_27 : decode cX6_pump 27 = .ok (.if_icmp .ne 4, 3) := by decide +kernel
theorem dX6_pump_30 : decode cX6_pump 30 = .ok (.return_, 1) := by decide +kernel
theorem dX6_pump_31 : decode cX6_pump 31 = .ok (.aload_n 0, 1) := by decide +kernel
theorem dX6_pump_32 : decode cX6_pump 32 = .ok (.getfield 51, 3) := by decide +kernel
theorem dX6_pump_35 : decode cX6_pump 35 = .ok (.iload_n 1, 1) := by decide +kernel
theorem dX6_pump_36 : decode cX6_pump 36 = .ok (.iaload, 1) := by decide +kernel
theorem dX6_pump_37 : decode cX6_pump 37 = .ok (.istore_n 2, 1) := by decide +kernel
theorem dX6_pump_38 : decode cX6_pump 38 = .ok (.aload_n 0, 1) := by decide +kernel
theorem dX6_pump_39 : decode cX6_pump 39 = .ok (.getfield 22, 3) := by decide +kernel
theorem dX6_pump_42 : decode cX6_pump 42 = .ok (.iload_n 1, 1) := by decide +kernel
theorem dX6_pump_43 : decode cX6_pump 43 = .ok (.iaload, 1) := by decide +kernel
theorem dX6_pump_44 : decode cX6_pump 44 = .ok (.iconst (-1), 1) := by decide +kernel
theorem dX6_pump_45 : decode cX6_pump 45 = .ok (.if_icmp .eq 19, 3) := by decide +kernel
theorem dX6_pump_48 : decode cX6_pump 48 = .ok (.iload_n 2, 1) := by decide +kernel
theorem dX6_pump_49 : decode cX6_pump 49 = .ok (.aload_n 0, 1) := by decide +kernel
theorem dX6_pump_50 : decode cX6_pump 50 = .ok (.getfield 38, 3) := by decide +kernel
theorem dX6_pump_53 : decode cX6_pump 53 = .ok (.aload_n 0, 1) := by decide +kernel
theorem dX6_pump_54 : decode cX6_pump 54 = .ok (.getfield 22, 3) := by decide +kernel
theorem dX6_pump_57 : decode cX6_pump 57 = .ok (.iload_n 1, 1) := by decide +kernel
theorem dX6_pump_58 : decode cX6_pump 58 = .ok (.iaload, 1) := by decide +kernel
theorem dX6_pump_59 : decode cX6_pump 59 = .ok (.iaload, 1) := by decide +kernel
theorem dX6_pump_60 : decode cX6_pump 60 = .ok (.invokestatic 115, 3) := by decide +kernel
theorem dX6_pump_63 : decode cX6_pump 63 = .ok (.istore_n 2, 1) := by decide +kernel
theorem dX6_pump_64 : decode cX6_pump 64 = .ok (.aload_n 0, 1) := by decide +kernel
theorem dX6_pump_65 : decode cX6_pump 65 = .ok (.getfield 25, 3) := by decide +kernel
theorem dX6_pump_68 : decode cX6_pump 68 = .ok (.iload_n 1, 1) := by decide +kernel
theorem dX6_pump_69 : decode cX6_pump 69 = .ok (.iaload, 1) := by decide +kernel
theorem dX6_pump_70 : decode cX6_pump 70 = .ok (.iconst (-1), 1) := by decide +kernel
theorem dX6_pump_71 : decode cX6_pump 71 = .ok (.if_icmp .eq 31, 3) := by decide +kernel
theorem dX6_pump_74 : decode cX6_pump 74 = .ok (.iload_n 2, 1) := by decide +kernel
theorem dX6_pump_75 : decode cX6_pump 75 = .ok (.aload_n 0, 1) := by decide +kernel
theorem dX6_pump_76 : decode cX6_pump 76 = .ok (.getfield 9, 3) := by decide +kernel
theorem dX6_pump_79 : decode cX6_pump 79 = .ok (.aload_n 0, 1) := by decide +kernel
theorem dX6_pump_80 : decode cX6_pump 80 = .ok (.getfield 25, 3) := by decide +kernel
theorem dX6_pump_83 : decode cX6_pump 83 = .ok (.iload_n 1, 1) := by decide +kernel
theorem dX6_pump_84 : decode cX6_pump 84 = .ok (.iaload, 1) := by decide +kernel
theorem dX6_pump_85 : decode cX6_pump 85 = .ok (.iaload, 1) := by decide +kernel
theorem dX6_pump_86 : decode cX6_pump 86 = .ok (.aload_n 0, 1) := by decide +kernel
theorem dX6_pump_87 : decode cX6_pump 87 = .ok (.getfield 38, 3) := by decide +kernel
theorem dX6_pump_90 : decode cX6_pump 90 = .ok (.aload_n 0, 1) := by decide +kernel
theorem dX6_pump_91 : decode cX6_pump 91 = .ok (.getfield 25, 3) := by decide +kernel
theorem dX6_pump_94 : decode cX6_pump 94 = .ok (.iload_n 1, 1) := by decide +kernel
theorem dX6_pump_95 : decode cX6_pump 95 = .ok (.iaload, 1) := by decide +kernel
theorem dX6_pump_96 : decode cX6_pump 96 = .ok (.iaload, 1) := by decide +kernel
theorem dX6_pump_97 : decode cX6_pump 97 = .ok (.isub, 1) := by decide +kernel
theorem dX6_pump_98 : decode cX6_pump 98 = .ok (.invokestatic 115, 3) := by decide +kernel
theorem dX6_pump_101 : decode cX6_pump 101 = .ok (.istore_n 2, 1) := by decide +kernel
theorem dX6_pump_102 : decode cX6_pump 102 = .ok (.aload_n 0, 1) := by decide +kernel
theorem dX6_pump_103 : decode cX6_pump 103 = .ok (.getfield 22, 3) := by decide +kernel
theorem dX6_pump_106 : decode cX6_pump 106 = .ok (.iload_n 1, 1) := by decide +kernel
theorem dX6_pump_107 : decode cX6_pump 107 = .ok (.iaload, 1) := by decide +kernel
theorem dX6_pump_108 : decode cX6_pump 108 = .ok (.iconst (-1), 1) := by decide +kernel
theorem dX6_pump_109 : decode cX6_pump 109 = .ok (.if_icmp .eq 18, 3) := by decide +kernel
theorem dX6_pump_112 : decode cX6_pump 112 = .ok (.aload_n 0, 1) := by decide +kernel
theorem dX6_pump_113 : decode cX6_pump 113 = .ok (.getfield 38, 3) := by decide +kernel
theorem dX6_pump_116 : decode cX6_pump 116 = .ok (.aload_n 0, 1) := by decide +kernel
theorem dX6_pump_117 : decode cX6_pump 117 = .ok (.getfield 22, 3) := by decide +kernel
theorem dX6_pump_120 : decode cX6_pump 120 = .ok (.iload_n 1, 1) := by decide +kernel
theorem dX6_pump_121 : decode cX6_pump 121 = .ok (.iaload, 1) := by decide +kernel
theorem dX6_pump_122 : decode cX6_pump 122 = .ok (.dup2, 1) := by decide +kernel
theorem dX6_pump_123 : decode cX6_pump 123 = .ok (.iaload, 1) := by decide +kernel
theorem dX6_pump_124 : decode cX6_pump 124 = .ok (.iload_n 2, 1) := by decide +kernel
theorem dX6_pump_125 : decode cX6_pump 125 = .ok (.isub, 1) := by decide +kernel
theorem dX6_pump_126 : decode cX6_pump 126 = .ok (.iastore, 1) := by decide +kernel
theorem dX6_pump_127 : decode cX6_pump 127 = .ok (.aload_n 0, 1) := by decide +kernel
theorem dX6_pump_128 : decode cX6_pump 128 = .ok (.getfield 25, 3) := by decide +kernel
theorem dX6_pump_131 : decode cX6_pump 131 = .ok (.iload_n 1, 1) := by decide +kernel
theorem dX6_pump_132 : decode cX6_pump 132 = .ok (.iaload, 1) := by decide +kernel
theorem dX6_pump_133 : decode cX6_pump 133 = .ok (.iconst (-1), 1) := by decide +kernel
theorem dX6_pump_134 : decode cX6_pump 134 = .ok (.if_icmp .eq 18, 3) := by decide +kernel
theorem dX6_pump_137 : decode cX6_pump 137 = .ok (.aload_n 0, 1) := by decide +kernel
theorem dX6_pump_138 : decode cX6_pump 138 = .ok (.getfield 38, 3) := by decide +kernel
theorem dX6_pump_141 : decode cX6_pump 141 = .ok (.aload_n 0, 1) := by decide +kernel
theorem dX6_pump_142 : decode cX6_pump 142 = .ok (.getfield 25, 3) := by decide +kernel
theorem dX6_pump_145 : decode cX6_pump 145 = .ok (.iload_n 1, 1) := by decide +kernel
theorem dX6_pump_146 : decode cX6_pump 146 = .ok (.iaload, 1) := by decide +kernel
theorem dX6_pump_147 : decode cX6_pump 147 = .ok (.dup2, 1) := by decide +kernel
theorem dX6_pump_148 : decode cX6_pump 148 = .ok (.iaload, 1) := by decide +kernel
theorem dX6_pump_149 : decode cX6_pump 149 = .ok (.iload_n 2, 1) := by decide +kernel
theorem dX6_pump_150 : decode cX6_pump 150 = .ok (.iadd, 1) := by decide +kernel
theorem dX6_pump_151 : decode cX6_pump 151 = .ok (.iastore, 1) := by decide +kernel
theorem dX6_pump_152 : decode cX6_pump 152 = .ok (.aload_n 0, 1) := by decide +kernel
theorem dX6_pump_153 : decode cX6_pump 153 = .ok (.getfield 54, 3) := by decide +kernel
theorem dX6_pump_156 : decode cX6_pump 156 = .ok (.iload_n 1, 1) := by decide +kernel
theorem dX6_pump_157 : decode cX6_pump 157 = .ok (.dup2, 1) := by decide +kernel
theorem dX6_pump_158 : decode cX6_pump 158 = .ok (.laload, 1) := by decide +kernel
theorem dX6_pump_159 : decode cX6_pump 159 = .ok (.iload_n 2, 1) := by decide +kernel
theorem dX6_pump_160 : decode cX6_pump 160 = .ok (.i2l, 1) := by decide +kernel
theorem dX6_pump_161 : decode cX6_pump 161 = .ok (.ladd, 1) := by decide +kernel
theorem dX6_pump_162 : decode cX6_pump 162 = .ok (.lastore, 1) := by decide +kernel
theorem dX6_pump_163 : decode cX6_pump 163 = .ok (.aload_n 0, 1) := by decide +kernel
theorem dX6_pump_164 : decode cX6_pump 164 = .ok (.getfield 57, 3) := by decide +kernel
theorem dX6_pump_167 : decode cX6_pump 167 = .ok (.iload_n 1, 1) := by decide +kernel
theorem dX6_pump_168 : decode cX6_pump 168 = .ok (.dup2, 1) := by decide +kernel
theorem dX6_pump_169 : decode cX6_pump 169 = .ok (.laload, 1) := by decide +kernel
theorem dX6_pump_170 : decode cX6_pump 170 = .ok (.iload_n 2, 1) := by decide +kernel
theorem dX6_pump_171 : decode cX6_pump 171 = .ok (.i2l, 1) := by decide +kernel
theorem dX6_pump_172 : decode cX6_pump 172 = .ok (.aload_n 0, 1) := by decide +kernel
theorem dX6_pump_173 : decode cX6_pump 173 = .ok (.getfield 28, 3) := by decide +kernel
theorem dX6_pump_176 : decode cX6_pump 176 = .ok (.iload_n 1, 1) := by decide +kernel
theorem dX6_pump_177 : decode cX6_pump 177 = .ok (.iaload, 1) := by decide +kernel
theorem dX6_pump_178 : decode cX6_pump 178 = .ok (.i2l, 1) := by decide +kernel
theorem dX6_pump_179 : decode cX6_pump 179 = .ok (.lmul, 1) := by decide +kernel
theorem dX6_pump_180 : decode cX6_pump 180 = .ok (.ladd, 1) := by decide +kernel
theorem dX6_pump_181 : decode cX6_pump 181 = .ok (.lastore, 1) := by decide +kernel
theorem dX6_pump_182 : decode cX6_pump 182 = .ok (.aload_n 0, 1) := by decide +kernel
theorem dX6_pump_183 : decode cX6_pump 183 = .ok (.getfield 60, 3) := by decide +kernel
theorem dX6_pump_186 : decode cX6_pump 186 = .ok (.iload_n 1, 1) := by decide +kernel
theorem dX6_pump_187 : decode cX6_pump 187 = .ok (.dup2, 1) := by decide +kernel
theorem dX6_pump_188 : decode cX6_pump 188 = .ok (.laload, 1) := by decide +kernel
theorem dX6_pump_189 : decode cX6_pump 189 = .ok (.iload_n 2, 1) := by decide +kernel
theorem dX6_pump_190 : decode cX6_pump 190 = .ok (.aload_n 0, 1) := by decide +kernel
theorem dX6_pump_191 : decode cX6_pump 191 = .ok (.getfield 51, 3) := by decide +kernel
theorem dX6_pump_194 : decode cX6_pump 194 = .ok (.iload_n 1, 1) := by decide +kernel
theorem dX6_pump_195 : decode cX6_pump 195 = .ok (.iaload, 1) := by decide +kernel
theorem dX6_pump_196 : decode cX6_pump 196 = .ok (.if_icmp .ge 7, 3) := by decide +kernel
theorem dX6_pump_199 : decode cX6_pump 199 = .ok (.lconst 1, 1) := by decide +kernel
theorem dX6_pump_200 : decode cX6_pump 200 = .ok (.goto 4, 3) := by decide +kernel
theorem dX6_pump_203 : decode cX6_pump 203 = .ok (.lconst 0, 1) := by decide +kernel
theorem dX6_pump_204 : decode cX6_pump 204 = .ok (.ladd, 1) := by decide +kernel
theorem dX6_pump_205 : decode cX6_pump 205 = .ok (.lastore, 1) := by decide +kernel
theorem dX6_pump_206 : decode cX6_pump 206 = .ok (.return_, 1) := by decide +kernel
theorem dX6_tick_0 : decode cX6_tick 0 = .ok (.aload_n 0, 1) := by decide +kernel
theorem dX6_tick_1 : decode cX6_tick 1 = .ok (.invokevirtual 121, 3) := by decide +kernel
theorem dX6_tick_4 : decode cX6_tick 4 = .ok (.istore_n 1, 1) := by decide +kernel
theorem dX6_tick_5 : decode cX6_tick 5 = .ok (.iconst 0, 1) := by decide +kernel
theorem dX6_tick_6 : decode cX6_tick 6 = .ok (.istore_n 2, 1) := by decide +kernel
theorem dX6_tick_7 : decode cX6_tick 7 = .ok (.iload_n 2, 1) := by decide +kernel
theorem dX6_tick_8 : decode cX6_tick 8 = .ok (.aload_n 0, 1) := by decide +kernel
theorem dX6_tick_9 : decode cX6_tick 9 = .ok (.getfield 82, 3) := by decide +kernel
theorem dX6_tick_12 : decode cX6_tick 12 = .ok (.if_icmp .ge 14, 3) := by decide +kernel
theorem dX6_tick_15 : decode cX6_tick 15 = .ok (.aload_n 0, 1) := by decide +kernel
theorem dX6_tick_16 : decode cX6_tick 16 = .ok (.iload_n 2, 1) := by decide +kernel
theorem dX6_tick_17 : decode cX6_tick 17 = .ok (.invokevirtual 125, 3) := by decide +kernel
theorem dX6_tick_20 : decode cX6_tick 20 = .ok (.iinc 2 1, 3) := by decide +kernel
theorem dX6_tick_23 : decode cX6_tick 23 = .ok (.goto (-16), 3) := by decide +kernel
theorem dX6_tick_26 : decode cX6_tick 26 = .ok (.iconst 0, 1) := by decide +kernel
theorem dX6_tick_27 : decode cX6_tick 27 = .ok (.istore_n 2, 1) := by decide +kernel
theorem dX6_tick_28 : decode cX6_tick 28 = .ok (.iload_n 2, 1) := by decide +kernel
theorem dX6_tick_29 : decode cX6_tick 29 = .ok (.aload_n 0, 1) := by decide +kernel
theorem dX6_tick_30 : decode cX6_tick 30 = .ok (.getfield 76, 3) := by decide +kernel
theorem dX6_tick_33 : decode cX6_tick 33 = .ok (.if_icmp .ge 33, 3) := by decide +kernel
theorem dX6_tick_36 : decode cX6_tick 36 = .ok (.aload_n 0, 1) := by decide +kernel
theorem dX6_tick_37 : decode cX6_tick 37 = .ok (.getfield 38, 3) := by decide +kernel
theorem dX6_tick_40 : decode cX6_tick 40 = .ok (.iload_n 2, 1) := by decide +kernel
theorem dX6_tick_41 : decode cX6_tick 41 = .ok (.dup2, 1) := by decide +kernel
theorem dX6_tick_42 : decode cX6_tick 42 = .ok (.iaload, 1) := by decide +kernel
theorem dX6_tick_43 : decode cX6_tick 43 = .ok (.aload_n 0, 1) := by decide +kernel
theorem dX6_tick_44 : decode cX6_tick 44 = .ok (.getfield 41, 3) := by decide +kernel
theorem dX6_tick_47 : decode cX6_tick 47 = .ok (.iload_n 2, 1) := by decide +kernel
theorem dX6_tick_48 : decode cX6_tick 48 = .ok (.iaload, 1) := by decide +kernel
theorem dX6_tick_49 : decode cX6_tick 49 = .ok (.aload_n 0, 1) := by decide +kernel
theorem dX6_tick_50 : decode cX6_tick 50 = .ok (.getfield 38, 3) := by decide +kernel
theorem dX6_tick_53 : decode cX6_tick 53 = .ok (.iload_n 2, 1) := by decide +kernel
theorem dX6_tick_54 : decode cX6_tick 54 = .ok (.iaload, 1) := by decide +kernel
theorem dX6_tick_55 : decode cX6_tick 55 = .ok (.invokestatic 115, 3) := by decide +kernel
theorem dX6_tick_58 : decode cX6_tick 58 = .ok (.isub, 1) := by decide +kernel
theorem dX6_tick_59 : decode cX6_tick 59 = .ok (.iastore, 1) := by decide +kernel
theorem dX6_tick_60 : decode cX6_tick 60 = .ok (.iinc 2 1, 3) := by decide +kernel
theorem dX6_tick_63 : decode cX6_tick 63 = .ok (.goto (-35), 3) := by decide +kernel
theorem dX6_tick_66 : decode cX6_tick 66 = .ok (.aload_n 0, 1) := by decide +kernel
theorem dX6_tick_67 : decode cX6_tick 67 = .ok (.dup, 1) := by decide +kernel
theorem dX6_tick_68 : decode cX6_tick 68 = .ok (.getfield 104, 3) := by decide +kernel
theorem dX6_tick_71 : decode cX6_tick 71 = .ok (.lconst 1, 1) := by decide +kernel
theorem dX6_tick_72 : decode cX6_tick 72 = .ok (.ladd, 1) := by decide +kernel
theorem dX6_tick_73 : decode cX6_tick 73 = .ok (.putfield 104, 3) := by decide +kernel
theorem dX6_tick_76 : decode cX6_tick 76 = .ok (.iconst 0, 1) := by decide +kernel
theorem dX6_tick_77 : decode cX6_tick 77 = .ok (.istore_n 2, 1) := by decide +kernel
theorem dX6_tick_78 : decode cX6_tick 78 = .ok (.iload_n 2, 1) := by decide +kernel
theorem dX6_tick_79 : decode cX6_tick 79 = .ok (.aload_n 0, 1) := by decide +kernel
theorem dX6_tick_80 : decode cX6_tick 80 = .ok (.getfield 76, 3) := by decide +kernel
theorem dX6_tick_83 : decode cX6_tick 83 = .ok (.if_icmp .ge 25, 3) := by decide +kernel
theorem dX6_tick_86 : decode cX6_tick 86 = .ok (.aload_n 0, 1) := by decide +kernel
theorem dX6_tick_87 : decode cX6_tick 87 = .ok (.getfield 44, 3) := by decide +kernel
theorem dX6_tick_90 : decode cX6_tick 90 = .ok (.iload_n 2, 1) := by decide +kernel
theorem dX6_tick_91 : decode cX6_tick 91 = .ok (.dup2, 1) := by decide +kernel
theorem dX6_tick_92 : decode cX6_tick 92 = .ok (.laload, 1) := by decide +kernel
theorem dX6_tick_93 : decode cX6_tick 93 = .ok (.aload_n 0, 1) := by decide +kernel
theorem dX6_tick_94 : decode cX6_tick 94 = .ok (.getfield 38, 3) := by decide +kernel
theorem dX6_tick_97 : decode cX6_tick 97 = .ok (.iload_n 2, 1) := by decide +kernel
theorem dX6_tick_98 : decode cX6_tick 98 = .ok (.iaload, 1) := by decide +kernel
theorem dX6_tick_99 : decode cX6_tick 99 = .ok (.i2l, 1) := by decide +kernel
theorem dX6_tick_100 : decode cX6_tick 100 = .ok (.ladd, 1) := by decide +kernel
theorem dX6_tick_101 : decode cX6_tick 101 = .ok (.lastore, 1) := by decide +kernel
theorem dX6_tick_102 : decode cX6_tick 102 = .ok (.iinc 2 1, 3) := by decide +kernel
theorem dX6_tick_105 : decode cX6_tick 105 = .ok (.goto (-27), 3) := by decide +kernel
theorem dX6_tick_108 : decode cX6_tick 108 = .ok (.iload_n 1, 1) := by decide +kernel
theorem dX6_tick_109 : decode cX6_tick 109 = .ok (.ireturn, 1) := by decide +kernel
theorem dX6_run_0 : decode cX6_run 0 = .ok (.aload_n 0, 1) := by decide +kernel
theorem dX6_run_1 : decode cX6_run 1 = .ok (.iconst 0, 1) := by decide +kernel
theorem dX6_run_2 : decode cX6_run 2 = .ok (.putfield 72, 3) := by decide +kernel
theorem dX6_run_5 : decode cX6_run 5 = .ok (.iload_n 1, 1) := by decide +kernel
theorem dX6_run_6 : decode cX6_run 6 = .ok (.ifCond .lt 10, 3) := by decide +kernel
theorem dX6_run_9 : decode cX6_run 9 = .ok (.iload_n 1, 1) := by decide +kernel
theorem dX6_run_10 : decode cX6_run 10 = .ok (.sipush 5000, 3) := by decide +kernel
theorem dX6_run_13 : decode cX6_run 13 = .ok (.if_icmp .le 9, 3) := by decide +kernel
theorem dX6_run_16 : decode cX6_run 16 = .ok (.aload_n 0, 1) := by decide +kernel
theorem dX6_run_17 : decode cX6_run 17 = .ok (.iconst 1, 1) := by decide +kernel
theorem dX6_run_18 : decode cX6_run 18 = .ok (.invokevirtual 87, 3) := by decide +kernel
theorem dX6_run_21 : decode cX6_run 21 = .ok (.ireturn, 1) := by decide +kernel
theorem dX6_run_22 : decode cX6_run 22 = .ok (.iconst 0, 1) := by decide +kernel
theorem dX6_run_23 : decode cX6_run 23 = .ok (.istore_n 2, 1) := by decide +kernel
theorem dX6_run_24 : decode cX6_run 24 = .ok (.iconst 0, 1) := by decide +kernel
theorem dX6_run_25 : decode cX6_run 25 = .ok (.istore_n 3, 1) := by decide +kernel
theorem dX6_run_26 : decode cX6_run 26 = .ok (.iload_n 3, 1) := by decide +kernel
theorem dX6_run_27 : decode cX6_run 27 = .ok (.iload_n 1, 1) := by decide +kernel
theorem dX6_run_28 : decode cX6_run 28 = .ok (.if_icmp .ge 16, 3) := by decide +kernel
theorem dX6_run_31 : decode cX6_run 31 = .ok (.iload_n 2, 1) := by decide +kernel
theorem dX6_run_32 : decode cX6_run 32 = .ok (.aload_n 0, 1) := by decide +kernel
theorem dX6_run_33 : decode cX6_run 33 = .ok (.invokevirtual 128, 3) := by decide +kernel
theorem dX6_run_36 : decode cX6_run 36 = .ok (.iadd, 1) := by decide +kernel
theorem dX6_run_37 : decode cX6_run 37 = .ok (.istore_n 2, 1) := by decide +kernel
theorem dX6_run_38 : decode cX6_run 38 = .ok (.iinc 3 1, 3) := by decide +kernel
theorem dX6_run_41 : decode cX6_run 41 = .ok (.goto (-15), 3) := by decide +kernel
theorem dX6_run_44 : decode cX6_run 44 = .ok (.iload_n 2, 1) := by decide +kernel
theorem dX6_run_45 : decode cX6_run 45 = .ok (.ireturn, 1) := by decide +kernel
theorem dX6_runUntil_0 : decode cX6_runUntil 0 = .ok (.aload_n 0, 1) := by decide +kernel
theorem dX6_runUntil_1 : decode cX6_runUntil 1 = .ok (.iconst 0, 1) := by decide +kernel
theorem dX6_runUntil_2 : decode cX6_runUntil 2 = .ok (.putfield 72, 3) := by decide +kernel
theorem dX6_runUntil_5 : decode cX6_runUntil 5 = .ok (.aload_n 0, 1) := by decide +kernel
theorem dX6_runUntil_6 : decode cX6_runUntil 6 = .ok (.iload_n 1, 1) := by decide +kernel
theorem dX6_runUntil_7 : decode cX6_runUntil 7 = .ok (.invokevirtual 91, 3) := by decide +kernel
theorem dX6_runUntil_10 : decode cX6_runUntil 10 = .ok (.ifCond .ne 9, 3) := by decide +kernel
theorem dX6_runUntil_13 : decode cX6_runUntil 13 = .ok (.aload_n 0, 1) := by decide +kernel
theorem dX6_runUntil_14 : decode cX6_runUntil 14 = .ok (.iconst 1, 1) := by decide +kernel
theorem dX6_runUntil_15 : decode cX6_runUntil 15 = .ok (.invokevirtual 87, 3) := by decide +kernel
theorem dX6_runUntil_18 : decode cX6_runUntil 18 = .ok (.ireturn, 1) := by decide +kernel
theorem dX6_runUntil_19 : decode cX6_runUntil 19 = .ok (.iload 4, 2) := by decide +kernel
theorem dX6_runUntil_21 : decode cX6_runUntil 21 = .ok (.ifCond .lt 11, 3) := by decide +kernel
theorem dX6_runUntil_24 : decode cX6_runUntil 24 = .ok (.iload 4, 2) := by decide +kernel
theorem dX6_runUntil_26 : decode cX6_runUntil 26 = .ok (.sipush 5000, 3) := by decide +kernel
theorem dX6_runUntil_29 : decode cX6_runUntil 29 = .ok (.if_icmp .le 9, 3) := by decide +kernel
theorem dX6_runUntil_32 : decode cX6_runUntil 32 = .ok (.aload_n 0, 1) := by decide +kernel
theorem dX6_runUntil_33 : decode cX6_runUntil 33 = .ok (.iconst 2, 1) := by decide +kernel
theorem dX6_runUntil_34 : decode cX6_runUntil 34 = .ok (.invokevirtual 87, 3) := by decide +kernel
theorem dX6_runUntil_37 : decode cX6_runUntil 37 = .ok (.ireturn, 1) := by decide +kernel
theorem dX6_runUntil_38 : decode cX6_runUntil 38 = .ok (.iconst 0, 1) := by decide +kernel
theorem dX6_runUntil_39 : decode cX6_runUntil 39 = .ok (.istore 5, 2) := by decide +kernel
theorem dX6_runUntil_41 : decode cX6_runUntil 41 = .ok (.iload_n 3, 1) := by decide +kernel
theorem dX6_runUntil_42 : decode cX6_runUntil 42 = .ok (.ifCond .eq 16, 3) := by decide +kernel
theorem dX6_runUntil_45 : decode cX6_runUntil 45 = .ok (.aload_n 0, 1) := by decide +kernel
theorem dX6_runUntil_46 : decode cX6_runUntil 46 = .ok (.getfield 38, 3) := by decide +kernel
theorem dX6_runUntil_49 : decode cX6_runUntil 49 = .ok (.iload_n 1, 1) := by decide +kernel
theorem dX6_runUntil_50 : decode cX6_runUntil 50 = .ok (.iaload, 1) := by decide +kernel
theorem dX6_runUntil_51 : decode cX6_runUntil 51 = .ok (.iload_n 2, 1) := by decide +kernel
theorem dX6_runUntil_52 : decode cX6_runUntil 52 = .ok (.if_icmp .gt 16, 3) := by decide +kernel
theorem dX6_runUntil_55 : decode cX6_runUntil 55 = .ok (.goto 33, 3) := by decide +kernel
theorem dX6_runUntil_58 : decode cX6_runUntil 58 = .ok (.aload_n 0, 1) := by decide +kernel
theorem dX6_runUntil_59 : decode cX6_runUntil 59 = .ok (.getfield 38, 3) := by decide +kernel
theorem dX6_runUntil_62 : decode cX6_runUntil 62 = .ok (.iload_n 1, 1) := by decide +kernel
theorem dX6_runUntil_63 : decode cX6_runUntil 63 = .ok (.iaload, 1) := by decide +kernel
theorem dX6_runUntil_64 : decode cX6_runUntil 64 = .ok (.iload_n 2, 1) := by decide +kernel
theorem dX6_runUntil_65 : decode cX6_runUntil 65 = .ok (.if_icmp .ge 23, 3) := by decide +kernel
theorem dX6_runUntil_68 : decode cX6_runUntil 68 = .ok (.iload 5, 2) := by decide +kernel
theorem dX6_runUntil_70 : decode cX6_runUntil 70 = .ok (.iload 4, 2) := by decide +kernel
theorem dX6_runUntil_72 : decode cX6_runUntil 72 = .ok (.if_icmp .ne 5, 3) := by decide +kernel
theorem dX6_runUntil_75 : decode cX6_runUntil 75 = .ok (.iconst (-1), 1) := by decide +kernel
theorem dX6_runUntil_76 : decode cX6_runUntil 76 = .ok (.ireturn, 1) := by decide +kernel
theorem dX6_runUntil_77 : decode cX6_runUntil 77 = .ok (.aload_n 0, 1) := by decide +kernel
theorem dX6_runUntil_78 : decode cX6_runUntil 78 = .ok (.invokevirtual 128, 3) := by decide +kernel
theorem dX6_runUntil_81 : decode cX6_runUntil 81 = .ok (.pop, 1) := by decide +kernel
theorem dX6_runUntil_82 : decode cX6_runUntil 82 = .ok (.iinc 5 1, 3) := by decide +kernel
theorem dX6_runUntil_85 : decode cX6_runUntil 85 = .ok (.goto (-44), 3) := by decide +kernel
theorem dX6_runUntil_88 : decode cX6_runUntil 88 = .ok (.iload 5, 2) := by decide +kernel
theorem dX6_runUntil_90 : decode cX6_runUntil 90 = .ok (.ireturn, 1) := by decide +kernel
theorem dX6_nextChange_0 : decode cX6_nextChange 0 = .ok (.aload_n 0, 1) := by decide +kernel
theorem dX6_nextChange_1 : decode cX6_nextChange 1 = .ok (.iconst 0, 1) := by decide +kernel
theorem dX6_nextChange_2 : decode cX6_nextChange 2 = .ok (.putfield 72, 3) := by decide +kernel
theorem dX6_nextChange_5 : decode cX6_nextChange 5 = .ok (.iload_n 1, 1) := by decide +kernel
theorem dX6_nextChange_6 : decode cX6_nextChange 6 = .ok (.iconst 1, 1) := by decide +kernel
theorem dX6_nextChange_7 : decode cX6_nextChange 7 = .ok (.if_icmp .lt 10, 3) := by decide +kernel
theorem dX6_nextChange_10 : decode cX6_nextChange 10 = .ok (.iload_n 1, 1) := by decide +kernel
theorem dX6_nextChange_11 : decode cX6_nextChange 11 = .ok (.sipush 5000, 3) := by decide +kernel
theorem dX6_nextChange_14 : decode cX6_nextChange 14 = .ok (.if_icmp .le 9, 3) := by decide +kernel
theorem dX6_nextChange_17 : decode cX6_nextChange 17 = .ok (.aload_n 0, 1) := by decide +kernel
theorem dX6_nextChange_18 : decode cX6_nextChange 18 = .ok (.iconst 1, 1) := by decide +kernel
theorem dX6_nextChange_19 : decode cX6_nextChange 19 = .ok (.invokevirtual 87, 3) := by decide +kernel
theorem dX6_nextChange_22 : decode cX6_nextChange 22 = .ok (.ireturn, 1) := by decide +kernel
theorem dX6_nextChange_23 : decode cX6_nextChange 23 = .ok (.aload_n 0, 1) := by decide +kernel
theorem dX6_nextChange_24 : decode cX6_nextChange 24 = .ok (.iconst 4, 1) := by decide +kernel
theorem dX6_nextChange_25 : decode cX6_nextChange 25 = .ok (.invokevirtual 131, 3) := by decide +kernel
theorem dX6_nextChange_28 : decode cX6_nextChange 28 = .ok (.iconst 0, 1) := by decide +kernel
theorem dX6_nextChange_29 : decode cX6_nextChange 29 = .ok (.istore_n 2, 1) := by decide +kernel
theorem dX6_nextChange_30 : decode cX6_nextChange 30 = .ok (.iconst 1, 1) := by decide +kernel
theorem dX6_nextChange_31 : decode cX6_nextChange 31 = .ok (.istore_n 3, 1) := by decide +kernel
theorem dX6_nextChange_32 : decode cX6_nextChange 32 = .ok (.iload_n 3, 1) := by decide +kernel
theorem dX6_nextChange_33 : decode cX6_nextChange 33 = .ok (.iload_n 1, 1) := by decide +kernel
theorem dX6_nextChange_34 : decode cX6_nextChange 34 = .ok (.if_icmp .gt 26, 3) := by decide +kernel
theorem dX6_nextChange_37 : decode cX6_nextChange 37 = .ok (.iload_n 2, 1) := by decide +kernel
theorem dX6_nextChange_38 : decode cX6_nextChange 38 = .ok (.ifCond .ne 22, 3) := by decide +kernel
theorem dX6_nextChange_41 : decode cX6_nextChange 41 = .ok (.aload_n 0, 1) := by decide +kernel
theorem dX6_nextChange_42 : decode cX6_nextChange 42 = .ok (.invokevirtual 128, 3) := by decide +kernel
theorem dX6_nextChange_45 : decode cX6_nextChange 45 = .ok (.ifCond .le 7, 3) := by decide +kernel
theorem dX6_nextChange_48 : decode cX6_nextChange 48 = .ok (.iload_n 3, 1) := by decide +kernel
theorem dX6_nextChange_49 : decode cX6_nextChange 49 = .ok (.goto 4, 3) := by decide +kernel
theorem dX6_nextChange_52 : decode cX6_nextChange 52 = .ok (.iconst 0, 1) := by decide +kernel
theorem dX6_nextChange_53 : decode cX6_nextChange 53 = .ok (.istore_n 2, 1) := by decide +kernel
theorem dX6_nextChange_54 : decode cX6_nextChange 54 = .ok (.iinc 3 1, 3) := by decide +kernel
theorem dX6_nextChange_57 : decode cX6_nextChange 57 = .ok (.goto (-25), 3) := by decide +kernel
theorem dX6_nextChange_60 : decode cX6_nextChange 60 = .ok (.aload_n 0, 1) := by decide +kernel
theorem dX6_nextChange_61 : decode cX6_nextChange 61 = .ok (.iconst 4, 1) := by decide +kernel
theorem dX6_nextChange_62 : decode cX6_nextChange 62 = .ok (.invokevirtual 134, 3) := by decide +kernel
theorem dX6_nextChange_65 : decode cX6_nextChange 65 = .ok (.iload_n 2, 1) := by decide +kernel
theorem dX6_nextChange_66 : decode cX6_nextChange 66 = .ok (.ifCond .ne 7, 3) := by decide +kernel
theorem dX6_nextChange_69 : decode cX6_nextChange 69 = .ok (.iconst (-1), 1) := by decide +kernel
theorem dX6_nextChange_70 : decode cX6_nextChange 70 = .ok (.goto 4, 3) := by decide +kernel
theorem dX6_nextChange_73 : decode cX6_nextChange 73 = .ok (.iload_n 2, 1) := by decide +kernel
theorem dX6_nextChange_74 : decode cX6_nextChange 74 = .ok (.ireturn, 1) := by decide +kernel
theorem dX6_time_0 : decode cX6_time 0 = .ok (.aload_n 0, 1) := by decide +kernel
theorem dX6_time_1 : decode cX6_time 1 = .ok (.iconst 0, 1) := by decide +kernel
theorem dX6_time_2 : decode cX6_time 2 = .ok (.putfield 72, 3) := by decide +kernel
theorem dX6_time_5 : decode cX6_time 5 = .ok (.aload_n 0, 1) := by decide +kernel
theorem dX6_time_6 : decode cX6_time 6 = .ok (.getfield 104, 3) := by decide +kernel
theorem dX6_time_9 : decode cX6_time 9 = .ok (.lreturn, 1) := by decide +kernel
theorem dX6_level_0 : decode cX6_level 0 = .ok (.aload_n 0, 1) := by decide +kernel
theorem dX6_level_1 : decode cX6_level 1 = .ok (.iconst 0, 1) := by decide +kernel
theorem dX6_level_2 : decode cX6_level 2 = .ok (.putfield 72, 3) := by decide +kernel
theorem dX6_level_5 : decode cX6_level 5 = .ok (.aload_n 0, 1) := by decide +kernel
theorem dX6_level_6 : decode cX6_level 6 = .ok (.iload_n 1, 1) := by decide +kernel
theorem dX6_level_7 : decode cX6_level 7 = .ok (.invokevirtual 91, 3) := by decide +kernel
theorem dX6_level_10 : decode cX6_level 10 = .ok (.ifCond .eq 12, 3) := by decide +kernel
theorem dX6_level_13 : decode cX6_level 13 = .ok (.aload_n 0, 1) := by decide +kernel
theorem dX6_level_14 : decode cX6_level 14 = .ok (.getfield 38, 3) := by decide +kernel
theorem dX6_level_17 : decode cX6_level 17 = .ok (.iload_n 1, 1) := by decide +kernel
theorem dX6_level_18 : decode cX6_level 18 = .ok (.iaload, 1) := by decide +kernel
theorem dX6_level_19 : decode cX6_level 19 = .ok (.goto 8, 3) := by decide +kernel
theorem dX6_level_22 : decode cX6_level 22 = .ok (.aload_n 0, 1) := by decide +kernel
theorem dX6_level_23 : decode cX6_level 23 = .ok (.iconst 1, 1) := by decide +kernel
theorem dX6_level_24 : decode cX6_level 24 = .ok (.invokevirtual 87, 3) := by decide +kernel
theorem dX6_level_27 : decode cX6_level 27 = .ok (.ireturn, 1) := by decide +kernel
theorem dX6_levelSum_0 : decode cX6_levelSum 0 = .ok (.aload_n 0, 1) := by decide +kernel
theorem dX6_levelSum_1 : decode cX6_levelSum 1 = .ok (.iconst 0, 1) := by decide +kernel
theorem dX6_levelSum_2 : decode cX6_levelSum 2 = .ok (.putfield 72, 3) := by decide +kernel
theorem dX6_levelSum_5 : decode cX6_levelSum 5 = .ok (.aload_n 0, 1) := by decide +kernel
theorem dX6_levelSum_6 : decode cX6_levelSum 6 = .ok (.iload_n 1, 1) := by decide +kernel
theorem dX6_levelSum_7 : decode cX6_levelSum 7 = .ok (.invokevirtual 91, 3) := by decide +kernel
theorem dX6_levelSum_10 : decode cX6_levelSum 10 = .ok (.ifCond .eq 12, 3) := by decide +kernel
theorem dX6_levelSum_13 : decode cX6_levelSum 13 = .ok (.aload_n 0, 1) := by decide +kernel
theorem dX6_levelSum_14 : decode cX6_levelSum 14 = .ok (.getfield 44, 3) := by decide +kernel
theorem dX6_levelSum_17 : decode cX6_levelSum 17 = .ok (.iload_n 1, 1) := by decide +kernel
theorem dX6_levelSum_18 : decode cX6_levelSum 18 = .ok (.laload, 1) := by decide +kernel
theorem dX6_levelSum_19 : decode cX6_levelSum 19 = .ok (.goto 9, 3) := by decide +kernel
theorem dX6_levelSum_22 : decode cX6_levelSum 22 = .ok (.aload_n 0, 1) := by decide +kernel
theorem dX6_levelSum_23 : decode cX6_levelSum 23 = .ok (.iconst 1, 1) := by decide +kernel
theorem dX6_levelSum_24 : decode cX6_levelSum 24 = .ok (.invokevirtual 87, 3) := by decide +kernel
theorem dX6_levelSum_27 : decode cX6_levelSum 27 = .ok (.i2l, 1) := by decide +kernel
theorem dX6_levelSum_28 : decode cX6_levelSum 28 = .ok (.lreturn, 1) := by decide +kernel
theorem dX6_meanLevel_0 : decode cX6_meanLevel 0 = .ok (.aload_n 0, 1) := by decide +kernel
theorem dX6_meanLevel_1 : decode cX6_meanLevel 1 = .ok (.iconst 0, 1) := by decide +kernel
theorem dX6_meanLevel_2 : decode cX6_meanLevel 2 = .ok (.putfield 72, 3) := by decide +kernel
theorem dX6_meanLevel_5 : decode cX6_meanLevel 5 = .ok (.aload_n 0, 1) := by decide +kernel
theorem dX6_meanLevel_6 : decode cX6_meanLevel 6 = .ok (.iload_n 1, 1) := by decide +kernel
theorem dX6_meanLevel_7 : decode cX6_meanLevel 7 = .ok (.invokevirtual 91, 3) := by decide +kernel
theorem dX6_meanLevel_10 : decode cX6_meanLevel 10 = .ok (.ifCond .ne 10, 3) := by decide +kernel
theorem dX6_meanLevel_13 : decode cX6_meanLevel 13 = .ok (.aload_n 0, 1) := by decide +kernel
theorem dX6_meanLevel_14 : decode cX6_meanLevel 14 = .ok (.iconst 1, 1) := by decide +kernel
theorem dX6_meanLevel_15 : decode cX6_meanLevel 15 = .ok (.invokevirtual 87, 3) := by decide +kernel
theorem dX6_meanLevel_18 : decode cX6_meanLevel 18 = .ok (.i2d, 1) := by decide +kernel
theorem dX6_meanLevel_19 : decode cX6_meanLevel 19 = .ok (.dreturn, 1) := by decide +kernel
theorem dX6_meanLevel_20 : decode cX6_meanLevel 20 = .ok (.aload_n 0, 1) := by decide +kernel
theorem dX6_meanLevel_21 : decode cX6_meanLevel 21 = .ok (.getfield 104, 3) := by decide +kernel
theorem dX6_meanLevel_24 : decode cX6_meanLevel 24 = .ok (.lconst 0, 1) := by decide +kernel
theorem dX6_meanLevel_25 : decode cX6_meanLevel 25 = .ok (.lcmp, 1) := by decide +kernel
theorem dX6_meanLevel_26 : decode cX6_meanLevel 26 = .ok (.ifCond .ne 13, 3) := by decide +kernel
theorem dX6_meanLevel_29 : decode cX6_meanLevel 29 = .ok (.aload_n 0, 1) := by decide +kernel
theorem dX6_meanLevel_30 : decode cX6_meanLevel 30 = .ok (.getfield 38, 3) := by decide +kernel
theorem dX6_meanLevel_33 : decode cX6_meanLevel 33 = .ok (.iload_n 1, 1) := by decide +kernel
theorem dX6_meanLevel_34 : decode cX6_meanLevel 34 = .ok (.iaload, 1) := by decide +kernel
theorem dX6_meanLevel_35 : decode cX6_meanLevel 35 = .ok (.i2d, 1) := by decide +kernel
theorem dX6_meanLevel_36 : decode cX6_meanLevel 36 = .ok (.goto 16, 3) := by decide +kernel
theorem dX6_meanLevel_39 : decode cX6_meanLevel 39 = .ok (.aload_n 0, 1) := by decide +kernel
theorem dX6_meanLevel_40 : decode cX6_meanLevel 40 = .ok (.getfield 44, 3) := by decide +kernel
theorem dX6_meanLevel_43 : decode cX6_meanLevel 43 = .ok (.iload_n 1, 1) := by decide +kernel
theorem dX6_meanLevel_44 : decode cX6_meanLevel 44 = .ok (.laload, 1) := by decide +kernel
theorem dX6_meanLevel_45 : decode cX6_meanLevel 45 = .ok (.l2d, 1) := by decide +kernel
theorem dX6_meanLevel_46 : decode cX6_meanLevel 46 = .ok (.aload_n 0, 1) := by decide +kernel
theorem dX6_meanLevel_47 : decode cX6_meanLevel 47 = .ok (.getfield 104, 3) := by decide +kernel
theorem dX6_meanLevel_50 : decode cX6_meanLevel 50 = .ok (.l2d, 1) := by decide +kernel
theorem dX6_meanLevel_51 : decode cX6_meanLevel 51 = .ok (.ddiv, 1) := by decide +kernel
theorem dX6_meanLevel_52 : decode cX6_meanLevel 52 = .ok (.dreturn, 1) := by decide +kernel
theorem dX6_isOn_0 : decode cX6_isOn 0 = .ok (.aload_n 0, 1) := by decide +kernel
theorem dX6_isOn_1 : decode cX6_isOn 1 = .ok (.aload_n 0, 1) := by decide +kernel
theorem dX6_isOn_2 : decode cX6_isOn 2 = .ok (.iload_n 1, 1) := by decide +kernel
theorem dX6_isOn_3 : decode cX6_isOn 3 = .ok (.invokevirtual 95, 3) := by decide +kernel
theorem dX6_isOn_6 : decode cX6_isOn 6 = .ok (.ifCond .eq 7, 3) := by decide +kernel
theorem dX6_isOn_9 : decode cX6_isOn 9 = .ok (.iconst 0, 1) := by decide +kernel
theorem dX6_isOn_10 : decode cX6_isOn 10 = .ok (.goto 4, 3) := by decide +kernel
theorem dX6_isOn_13 : decode cX6_isOn 13 = .ok (.iconst 1, 1) := by decide +kernel
theorem dX6_isOn_14 : decode cX6_isOn 14 = .ok (.putfield 72, 3) := by decide +kernel
theorem dX6_isOn_17 : decode cX6_isOn 17 = .ok (.aload_n 0, 1) := by decide +kernel
theorem dX6_isOn_18 : decode cX6_isOn 18 = .ok (.getfield 72, 3) := by decide +kernel
theorem dX6_isOn_21 : decode cX6_isOn 21 = .ok (.ifCond .ne 16, 3) := by decide +kernel
theorem dX6_isOn_24 : decode cX6_isOn 24 = .ok (.aload_n 0, 1) := by decide +kernel
theorem dX6_isOn_25 : decode cX6_isOn 25 = .ok (.getfield 48, 3) := by decide +kernel
theorem dX6_isOn_28 : decode cX6_isOn 28 = .ok (.iload_n 1, 1) := by decide +kernel
theorem dX6_isOn_29 : decode cX6_isOn 29 = .ok (.baload, 1) := by decide +kernel
theorem dX6_isOn_30 : decode cX6_isOn 30 = .ok (.ifCond .eq 7, 3) := by decide +kernel
theorem dX6_isOn_33 : decode cX6_isOn 33 = .ok (.iconst 1, 1) := by decide +kernel
theorem dX6_isOn_34 : decode cX6_isOn 34 = .ok (.goto 4, 3) := by decide +kernel
theorem dX6_isOn_37 : decode cX6_isOn 37 = .ok (.iconst 0, 1) := by decide +kernel
theorem dX6_isOn_38 : decode cX6_isOn 38 = .ok (.ireturn, 1) := by decide +kernel
theorem dX6_total_0 : decode cX6_total 0 = .ok (.aload_n 0, 1) := by decide +kernel
theorem dX6_total_1 : decode cX6_total 1 = .ok (.iconst 0, 1) := by decide +kernel
theorem dX6_total_2 : decode cX6_total 2 = .ok (.putfield 72, 3) := by decide +kernel
theorem dX6_total_5 : decode cX6_total 5 = .ok (.aload_n 0, 1) := by decide +kernel
theorem dX6_total_6 : decode cX6_total 6 = .ok (.iload_n 1, 1) := by decide +kernel
theorem dX6_total_7 : decode cX6_total 7 = .ok (.invokevirtual 98, 3) := by decide +kernel
theorem dX6_total_10 : decode cX6_total 10 = .ok (.ifCond .eq 12, 3) := by decide +kernel
theorem dX6_total_13 : decode cX6_total 13 = .ok (.aload_n 0, 1) := by decide +kernel
theorem dX6_total_14 : decode cX6_total 14 = .ok (.getfield 54, 3) := by decide +kernel
theorem dX6_total_17 : decode cX6_total 17 = .ok (.iload_n 1, 1) := by decide +kernel
theorem dX6_total_18 : decode cX6_total 18 = .ok (.laload, 1) := by decide +kernel
theorem dX6_total_19 : decode cX6_total 19 = .ok (.goto 9, 3) := by decide +kernel
theorem dX6_total_22 : decode cX6_total 22 = .ok (.aload_n 0, 1) := by decide +kernel
theorem dX6_total_23 : decode cX6_total 23 = .ok (.iconst 1, 1) := by decide +kernel
theorem dX6_total_24 : decode cX6_total 24 = .ok (.invokevirtual 87, 3) := by decide +kernel
theorem dX6_total_27 : decode cX6_total 27 = .ok (.i2l, 1) := by decide +kernel
theorem dX6_total_28 : decode cX6_total 28 = .ok (.lreturn, 1) := by decide +kernel
theorem dX6_energy_0 : decode cX6_energy 0 = .ok (.aload_n 0, 1) := by decide +kernel
theorem dX6_energy_1 : decode cX6_energy 1 = .ok (.iconst 0, 1) := by decide +kernel
theorem dX6_energy_2 : decode cX6_energy 2 = .ok (.putfield 72, 3) := by decide +kernel
theorem dX6_energy_5 : decode cX6_energy 5 = .ok (.aload_n 0, 1) := by decide +kernel
theorem dX6_energy_6 : decode cX6_energy 6 = .ok (.iload_n 1, 1) := by decide +kernel
theorem dX6_energy_7 : decode cX6_energy 7 = .ok (.invokevirtual 98, 3) := by decide +kernel
theorem dX6_energy_10 : decode cX6_energy 10 = .ok (.ifCond .eq 12, 3) := by decide +kernel
theorem dX6_energy_13 : decode cX6_energy 13 = .ok (.aload_n 0, 1) := by decide +kernel
theorem dX6_energy_14 : decode cX6_energy 14 = .ok (.getfield 57, 3) := by decide +kernel
theorem dX6_energy_17 : decode cX6_energy 17 = .ok (.iload_n 1, 1) := by decide +kernel
theorem dX6_energy_18 : decode cX6_energy 18 = .ok (.laload, 1) := by decide +kernel
theorem dX6_energy_19 : decode cX6_energy 19 = .ok (.goto 9, 3) := by decide +kernel
theorem dX6_energy_22 : decode cX6_energy 22 = .ok (.aload_n 0, 1) := by decide +kernel
theorem dX6_energy_23 : decode cX6_energy 23 = .ok (.iconst 1, 1) := by decide +kernel
theorem dX6_energy_24 : decode cX6_energy 24 = .ok (.invokevirtual 87, 3) := by decide +kernel
theorem dX6_energy_27 : decode cX6_energy 27 = .ok (.i2l, 1) := by decide +kernel
theorem dX6_energy_28 : decode cX6_energy 28 = .ok (.lreturn, 1) := by decide +kernel
theorem dX6_shortTicks_0 : decode cX6_shortTicks 0 = .ok (.aload_n 0, 1) := by decide +kernel
theorem dX6_shortTicks_1 : decode cX6_shortTicks 1 = .ok (.iconst 0, 1) := by decide +kernel
theorem dX6_shortTicks_2 : decode cX6_shortTicks 2 = .ok (.putfield 72, 3) := by decide +kernel
theorem dX6_shortTicks_5 : decode cX6_shortTicks 5 = .ok (.aload_n 0, 1) := by decide +kernel
theorem dX6_shortTicks_6 : decode cX6_shortTicks 6 = .ok (.iload_n 1, 1) := by decide +kernel
theorem dX6_shortTicks_7 : decode cX6_shortTicks 7 = .ok (.invokevirtual 98, 3) := by decide +kernel
theorem dX6_shortTicks_10 : decode cX6_shortTicks 10 = .ok (.ifCond .eq 12, 3) := by decide +kernel
theorem dX6_shortTicks_13 : decode cX6_shortTicks 13 = .ok (.aload_n 0, 1) := by decide +kernel
theorem dX6_shortTicks_14 : decode cX6_shortTicks 14 = .ok (.getfield 60, 3) := by decide +kernel
theorem dX6_shortTicks_17 : decode cX6_shortTicks 17 = .ok (.iload_n 1, 1) := by decide +kernel
theorem dX6_shortTicks_18 : decode cX6_shortTicks 18 = .ok (.laload, 1) := by decide +kernel
theorem dX6_shortTicks_19 : decode cX6_shortTicks 19 = .ok (.goto 9, 3) := by decide +kernel
theorem dX6_shortTicks_22 : decode cX6_shortTicks 22 = .ok (.aload_n 0, 1) := by decide +kernel
theorem dX6_shortTicks_23 : decode cX6_shortTicks 23 = .ok (.iconst 1, 1) := by decide +kernel
theorem dX6_shortTicks_24 : decode cX6_shortTicks 24 = .ok (.invokevirtual 87, 3) := by decide +kernel
theorem dX6_shortTicks_27 : decode cX6_shortTicks 27 = .ok (.i2l, 1) := by decide +kernel
theorem dX6_shortTicks_28 : decode cX6_shortTicks 28 = .ok (.lreturn, 1) := by decide +kernel
theorem dX6_balance_0 : decode cX6_balance 0 = .ok (.aload_n 0, 1) := by decide +kernel
theorem dX6_balance_1 : decode cX6_balance 1 = .ok (.iconst 0, 1) := by decide +kernel
theorem dX6_balance_2 : decode cX6_balance 2 = .ok (.putfield 72, 3) := by decide +kernel
theorem dX6_balance_5 : decode cX6_balance 5 = .ok (.lconst 0, 1) := by decide +kernel
theorem dX6_balance_6 : decode cX6_balance 6 = .ok (.lstore_n 1, 1) := by decide +kernel
theorem dX6_balance_7 : decode cX6_balance 7 = .ok (.iconst 0, 1) := by decide +kernel
theorem dX6_balance_8 : decode cX6_balance 8 = .ok (.istore_n 3, 1) := by decide +kernel
theorem dX6_balance_9 : decode cX6_balance 9 = .ok (.iload_n 3, 1) := by decide +kernel
theorem dX6_balance_10 : decode cX6_balance 10 = .ok (.aload_n 0, 1) := by decide +kernel
theorem dX6_balance_11 : decode cX6_balance 11 = .ok (.getfield 82, 3) := by decide +kernel
theorem dX6_balance_14 : decode cX6_balance 14 = .ok (.if_icmp .ge 52, 3) := by decide +kernel
theorem dX6_balance_17 : decode cX6_balance 17 = .ok (.lload_n 1, 1) := by decide +kernel
theorem dX6_balance_18 : decode cX6_balance 18 = .ok (.aload_n 0, 1) := by decide +kernel
theorem dX6_balance_19 : decode cX6_balance 19 = .ok (.getfield 22, 3) := by decide +kernel
theorem dX6_balance_22 : decode cX6_balance 22 = .ok (.iload_n 3, 1) := by decide +kernel
theorem dX6_balance_23 : decode cX6_balance 23 = .ok (.iaload, 1) := by decide +kernel
theorem dX6_balance_24 : decode cX6_balance 24 = .ok (.iconst (-1), 1) := by decide +kernel
theorem dX6_balance_25 : decode cX6_balance 25 = .ok (.if_icmp .ne 12, 3) := by decide +kernel
theorem dX6_balance_28 : decode cX6_balance 28 = .ok (.aload_n 0, 1) := by decide +kernel
theorem dX6_balance_29 : decode cX6_balance 29 = .ok (.getfield 54, 3) := by decide +kernel
theorem dX6_balance_32 : decode cX6_balance 32 = .ok (.iload_n 3, 1) := by decide +kernel
theorem dX6_balance_33 : decode cX6_balance 33 = .ok (.laload, 1) := by decide +kernel
theorem dX6_balance_34 : decode cX6_balance 34 = .ok (.goto 24, 3) := by decide +kernel
theorem dX6_balance_37 : decode cX6_balance 37 = .ok (.aload_n 0, 1) := by decide +kernel
theorem dX6_balance_38 : decode cX6_balance 38 = .ok (.getfield 25, 3) := by decide +kernel
theorem dX6_balance_41 : decode cX6_balance 41 = .ok (.iload_n 3, 1) := by decide +kernel
theorem dX6_balance_42 : decode cX6_balance 42 = .ok (.iaload, 1) := by decide +kernel
theorem dX6_balance_43 : decode cX6_balance 43 = .ok (.iconst (-1), 1) := by decide +kernel
theorem dX6_balance_44 : decode cX6_balance 44 = .ok (.if_icmp .ne 13, 3) := by decide +kernel
theorem dX6_balance_47 : decode cX6_balance 47 = .ok (.aload_n 0, 1) := by decide +kernel
theorem dX6_balance_48 : decode cX6_balance 48 = .ok (.getfield 54, 3) := by decide +kernel
theorem dX6_balance_51 : decode cX6_balance 51 = .ok (.iload_n 3, 1) := by decide +kernel
theorem dX6_balance_52 : decode cX6_balance 52 = .ok (.laload, 1) := by decide +kernel
theorem dX6_balance_53 : decode cX6_balance 53 = .ok (.lneg, 1) := by decide +kernel
theorem dX6_balance_54 : decode cX6_balance 54 = .ok (.goto 4, 3) := by decide +kernel
theorem dX6_balance_57 : decode cX6_balance 57 = .ok (.lconst 0, 1) := by decide +kernel
theorem dX6_balance_58 : decode cX6_balance 58 = .ok (.ladd, 1) := by decide +kernel
theorem dX6_balance_59 : decode cX6_balance 59 = .ok (.lstore_n 1, 1) := by decide +kernel
theorem dX6_balance_60 : decode cX6_balance 60 = .ok (.iinc 3 1, 3) := by decide +kernel
theorem dX6_balance_63 : decode cX6_balance 63 = .ok (.goto (-54), 3) := by decide +kernel
theorem dX6_balance_66 : decode cX6_balance 66 = .ok (.lload_n 1, 1) := by decide +kernel
theorem dX6_balance_67 : decode cX6_balance 67 = .ok (.lreturn, 1) := by decide +kernel
theorem dX6_changeCount_0 : decode cX6_changeCount 0 = .ok (.aload_n 0, 1) := by decide +kernel
theorem dX6_changeCount_1 : decode cX6_changeCount 1 = .ok (.iconst 0, 1) := by decide +kernel
theorem dX6_changeCount_2 : decode cX6_changeCount 2 = .ok (.putfield 72, 3) := by decide +kernel
theorem dX6_changeCount_5 : decode cX6_changeCount 5 = .ok (.aload_n 0, 1) := by decide +kernel
theorem dX6_changeCount_6 : decode cX6_changeCount 6 = .ok (.getfield 108, 3) := by decide +kernel
theorem dX6_changeCount_9 : decode cX6_changeCount 9 = .ok (.lreturn, 1) := by decide +kernel
theorem dX6_isLogged_0 : decode cX6_isLogged 0 = .ok (.iload_n 1, 1) := by decide +kernel
theorem dX6_isLogged_1 : decode cX6_isLogged 1 = .ok (.ifCond .lt 15, 3) := by decide +kernel
theorem dX6_isLogged_4 : decode cX6_isLogged 4 = .ok (.iload_n 1, 1) := by decide +kernel
theorem dX6_isLogged_5 : decode cX6_isLogged 5 = .ok (.aload_n 0, 1) := by decide +kernel
theorem dX6_isLogged_6 : decode cX6_isLogged 6 = .ok (.getfield 101, 3) := by decide +kernel
theorem dX6_isLogged_9 : decode cX6_isLogged 9 = .ok (.if_icmp .ge 7, 3) := by decide +kernel
theorem dX6_isLogged_12 : decode cX6_isLogged 12 = .ok (.iconst 1, 1) := by decide +kernel
theorem dX6_isLogged_13 : decode cX6_isLogged 13 = .ok (.goto 4, 3) := by decide +kernel
theorem dX6_isLogged_16 : decode cX6_isLogged 16 = .ok (.iconst 0, 1) := by decide +kernel
theorem dX6_isLogged_17 : decode cX6_isLogged 17 = .ok (.ireturn, 1) := by decide +kernel
theorem dX6_changeTime_0 : decode cX6_changeTime 0 = .ok (.aload_n 0, 1) := by decide +kernel
theorem dX6_changeTime_1 : decode cX6_changeTime 1 = .ok (.iconst 0, 1) := by decide +kernel
theorem dX6_changeTime_2 : decode cX6_changeTime 2 = .ok (.putfield 72, 3) := by decide +kernel
theorem dX6_changeTime_5 : decode cX6_changeTime 5 = .ok (.aload_n 0, 1) := by decide +kernel
theorem dX6_changeTime_6 : decode cX6_changeTime 6 = .ok (.iload_n 1, 1) := by decide +kernel
theorem dX6_changeTime_7 : decode cX6_changeTime 7 = .ok (.invokevirtual 137, 3) := by decide +kernel
theorem dX6_changeTime_10 : decode cX6_changeTime 10 = .ok (.ifCond .eq 12, 3) := by decide +kernel
theorem dX6_changeTime_13 : decode cX6_changeTime 13 = .ok (.aload_n 0, 1) := by decide +kernel
theorem dX6_changeTime_14 : decode cX6_changeTime 14 = .ok (.getfield 63, 3) := by decide +kernel
theorem dX6_changeTime_17 : decode cX6_changeTime 17 = .ok (.iload_n 1, 1) := by decide +kernel
theorem dX6_changeTime_18 : decode cX6_changeTime 18 = .ok (.laload, 1) := by decide +kernel
theorem dX6_changeTime_19 : decode cX6_changeTime 19 = .ok (.goto 9, 3) := by decide +kernel
theorem dX6_changeTime_22 : decode cX6_changeTime 22 = .ok (.aload_n 0, 1) := by decide +kernel
theorem dX6_changeTime_23 : decode cX6_changeTime 23 = .ok (.iconst 1, 1) := by decide +kernel
theorem dX6_changeTime_24 : decode cX6_changeTime 24 = .ok (.invokevirtual 87, 3) := by decide +kernel
theorem dX6_changeTime_27 : decode cX6_changeTime 27 = .ok (.i2l, 1) := by decide +kernel
theorem dX6_changeTime_28 : decode cX6_changeTime 28 = .ok (.lreturn, 1) := by decide +kernel
theorem dX6_changeSwitch_0 : decode cX6_changeSwitch 0 = .ok (.aload_n 0, 1) := by decide +kernel
theorem dX6_changeSwitch_1 : decode cX6_changeSwitch 1 = .ok (.iconst 0, 1) := by decide +kernel
theorem dX6_changeSwitch_2 : decode cX6_changeSwitch 2 = .ok (.putfield 72, 3) := by decide +kernel
theorem dX6_changeSwitch_5 : decode cX6_changeSwitch 5 = .ok (.aload_n 0, 1) := by decide +kernel
theorem dX6_changeSwitch_6 : decode cX6_changeSwitch 6 = .ok (.iload_n 1, 1) := by decide +kernel
theorem dX6_changeSwitch_7 : decode cX6_changeSwitch 7 = .ok (.invokevirtual 137, 3) := by decide +kernel
theorem dX6_changeSwitch_10 : decode cX6_changeSwitch 10 = .ok (.ifCond .eq 12, 3) := by decide +kernel
theorem dX6_changeSwitch_13 : decode cX6_changeSwitch 13 = .ok (.aload_n 0, 1) := by decide +kernel
theorem dX6_changeSwitch_14 : decode cX6_changeSwitch 14 = .ok (.getfield 66, 3) := by decide +kernel
theorem dX6_changeSwitch_17 : decode cX6_changeSwitch 17 = .ok (.iload_n 1, 1) := by decide +kernel
theorem dX6_changeSwitch_18 : decode cX6_changeSwitch 18 = .ok (.iaload, 1) := by decide +kernel
theorem dX6_changeSwitch_19 : decode cX6_changeSwitch 19 = .ok (.goto 8, 3) := by decide +kernel
theorem dX6_changeSwitch_22 : decode cX6_changeSwitch 22 = .ok (.aload_n 0, 1) := by decide +kernel
theorem dX6_changeSwitch_23 : decode cX6_changeSwitch 23 = .ok (.iconst 1, 1) := by decide +kernel
theorem dX6_changeSwitch_24 : decode cX6_changeSwitch 24 = .ok (.invokevirtual 87, 3) := by decide +kernel
theorem dX6_changeSwitch_27 : decode cX6_changeSwitch 27 = .ok (.ireturn, 1) := by decide +kernel
theorem dX6_put_0 : decode cX6_put 0 = .ok (.aload_n 0, 1) := by decide +kernel
theorem dX6_put_1 : decode cX6_put 1 = .ok (.getfield 69, 3) := by decide +kernel
theorem dX6_put_4 : decode cX6_put 4 = .ok (.aload_n 0, 1) := by decide +kernel
theorem dX6_put_5 : decode cX6_put 5 = .ok (.getfield 140, 3) := by decide +kernel
theorem dX6_put_8 : decode cX6_put 8 = .ok (.lload_n 1, 1) := by decide +kernel
theorem dX6_put_9 : decode cX6_put 9 = .ok (.lastore, 1) := by decide +kernel
theorem dX6_put_10 : decode cX6_put 10 = .ok (.aload_n 0, 1) := by decide +kernel
theorem dX6_put_11 : decode cX6_put 11 = .ok (.dup, 1) := by decide +kernel
theorem dX6_put_12 : decode cX6_put 12 = .ok (.getfield 140, 3) := by decide +kernel
theorem dX6_put_15 : decode cX6_put 15 = .ok (.iconst 1, 1) := by decide +kernel
theorem dX6_put_16 : decode cX6_put 16 = .ok (.iadd, 1) := by decide +kernel
theorem dX6_put_17 : decode cX6_put 17 = .ok (.putfield 140, 3) := by decide +kernel
theorem dX6_put_20 : decode cX6_put 20 = .ok (.return_, 1) := by decide +kernel
theorem dX6_take_0 : decode cX6_take 0 = .ok (.aload_n 0, 1) := by decide +kernel
theorem dX6_take_1 : decode cX6_take 1 = .ok (.dup, 1) := by decide +kernel
theorem dX6_take_2 : decode cX6_take 2 = .ok (.getfield 140, 3) := by decide +kernel
theorem dX6_take_5 : decode cX6_take 5 = .ok (.iconst 1, 1) := by decide +kernel
theorem dX6_take_6 : decode cX6_take 6 = .ok (.iadd, 1) := by decide +kernel
theorem dX6_take_7 : decode cX6_take 7 = .ok (.putfield 140, 3) := by decide +kernel
theorem dX6_take_10 : decode cX6_take 10 = .ok (.aload_n 0, 1) := by decide +kernel
theorem dX6_take_11 : decode cX6_take 11 = .ok (.getfield 69, 3) := by decide +kernel
theorem dX6_take_14 : decode cX6_take 14 = .ok (.aload_n 0, 1) := by decide +kernel
theorem dX6_take_15 : decode cX6_take 15 = .ok (.getfield 140, 3) := by decide +kernel
theorem dX6_take_18 : decode cX6_take 18 = .ok (.iconst 1, 1) := by decide +kernel
theorem dX6_take_19 : decode cX6_take 19 = .ok (.isub, 1) := by decide +kernel
theorem dX6_take_20 : decode cX6_take 20 = .ok (.laload, 1) := by decide +kernel
theorem dX6_take_21 : decode cX6_take 21 = .ok (.lreturn, 1) := by decide +kernel
theorem dX6_write_0 : decode cX6_write 0 = .ok (.aload_n 0, 1) := by decide +kernel
theorem dX6_write_1 : decode cX6_write 1 = .ok (.sipush 164, 3) := by decide +kernel
theorem dX6_write_4 : decode cX6_write 4 = .ok (.iload_n 1, 1) := by decide +kernel
theorem dX6_write_5 : decode cX6_write 5 = .ok (.imul, 1) := by decide +kernel
theorem dX6_write_6 : decode cX6_write 6 = .ok (.putfield 140, 3) := by decide +kernel
theorem dX6_write_9 : decode cX6_write 9 = .ok (.aload_n 0, 1) := by decide +kernel
theorem dX6_write_10 : decode cX6_write 10 = .ok (.aload_n 0, 1) := by decide +kernel
theorem dX6_write_11 : decode cX6_write 11 = .ok (.getfield 76, 3) := by decide +kernel
theorem dX6_write_14 : decode cX6_write 14 = .ok (.i2l, 1) := by decide +kernel
theorem dX6_write_15 : decode cX6_write 15 = .ok (.invokevirtual 143, 3) := by decide +kernel
theorem dX6_write_18 : decode cX6_write 18 = .ok (.aload_n 0, 1) := by decide +kernel
theorem dX6_write_19 : decode cX6_write 19 = .ok (.aload_n 0, 1) := by decide +kernel
theorem dX6_write_20 : decode cX6_write 20 = .ok (.getfield 79, 3) := by decide +kernel
theorem dX6_write_23 : decode cX6_write 23 = .ok (.i2l, 1) := by decide +kernel
theorem dX6_write_24 : decode cX6_write 24 = .ok (.invokevirtual 143, 3) := by decide +kernel
theorem dX6_write_27 : decode cX6_write 27 = .ok (.aload_n 0, 1) := by decide +kernel
theorem dX6_write_28 : decode cX6_write 28 = .ok (.aload_n 0, 1) := by decide +kernel
theorem dX6_write_29 : decode cX6_write 29 = .ok (.getfield 82, 3) := by decide +kernel
theorem dX6_write_32 : decode cX6_write 32 = .ok (.i2l, 1) := by decide +kernel
theorem dX6_write_33 : decode cX6_write 33 = .ok (.invokevirtual 143, 3) := by decide +kernel
theorem dX6_write_36 : decode cX6_write 36 = .ok (.aload_n 0, 1) := by decide +kernel
theorem dX6_write_37 : decode cX6_write 37 = .ok (.aload_n 0, 1) := by decide +kernel
theorem dX6_write_38 : decode cX6_write 38 = .ok (.getfield 104, 3) := by decide +kernel
theorem dX6_write_41 : decode cX6_write 41 = .ok (.invokevirtual 143, 3) := by decide +kernel
theorem dX6_write_44 : decode cX6_write 44 = .ok (.aload_n 0, 1) := by decide +kernel
theorem dX6_write_45 : decode cX6_write 45 = .ok (.aload_n 0, 1) := by decide +kernel
theorem dX6_write_46 : decode cX6_write 46 = .ok (.getfield 108, 3) := by decide +kernel
theorem dX6_write_49 : decode cX6_write 49 = .ok (.invokevirtual 143, 3) := by decide +kernel
theorem dX6_write_52 : decode cX6_write 52 = .ok (.aload_n 0, 1) := by decide +kernel
theorem dX6_write_53 : decode cX6_write 53 = .ok (.aload_n 0, 1) := by decide +kernel
theorem dX6_write_54 : decode cX6_write 54 = .ok (.getfield 101, 3) := by decide +kernel
theorem dX6_write_57 : decode cX6_write 57 = .ok (.i2l, 1) := by decide +kernel
theorem dX6_write_58 : decode cX6_write 58 = .ok (.invokevirtual 143, 3) := by decide +kernel
theorem dX6_write_61 : decode cX6_write 61 = .ok (.iconst 0, 1) := by decide +kernel
theorem dX6_write_62 : decode cX6_write 62 = .ok (.istore_n 2, 1) := by decide +kernel
theorem dX6_write_63 : decode cX6_write 63 = .ok (.iload_n 2, 1) := by decide +kernel
theorem dX6_write_64 : decode cX6_write 64 = .ok (.bipush 8, 2) := by decide +kernel
theorem dX6_write_66 : decode cX6_write 66 = .ok (.if_icmp .ge 41, 3) := by decide +kernel
theorem dX6_write_69 : decode cX6_write 69 = .ok (.aload_n 0, 1) := by decide +kernel
theorem dX6_write_70 : decode cX6_write 70 = .ok (.aload_n 0, 1) := by decide +kernel
theorem dX6_write_71 : decode cX6_write 71 = .ok (.getfield 38, 3) := by decide +kernel
theorem dX6_write_74 : decode cX6_write 74 = .ok (.iload_n 2, 1) := by decide +kernel
theorem dX6_write_75 : decode cX6_write 75 = .ok (.iaload, 1) := by decide +kernel
theorem dX6_write_76 : decode cX6_write 76 = .ok (.i2l, 1) := by decide +kernel
theorem dX6_write_77 : decode cX6_write 77 = .ok (.invokevirtual 143, 3) := by decide +kernel
theorem dX6_write_80 : decode cX6_write 80 = .ok (.aload_n 0, 1) := by decide +kernel
theorem dX6_write_81 : decode cX6_write 81 = .ok (.aload_n 0, 1) := by decide +kernel
theorem dX6_write_82 : decode cX6_write 82 = .ok (.getfield 41, 3) := by decide +kernel
theorem dX6_write_85 : decode cX6_write 85 = .ok (.iload_n 2, 1) := by decide +kernel
theorem dX6_write_86 : decode cX6_write 86 = .ok (.iaload, 1) := by decide +kernel
theorem dX6_write_87 : decode cX6_write 87 = .ok (.i2l, 1) := by decide +kernel
theorem dX6_write_88 : decode cX6_write 88 = .ok (.invokevirtual 143, 3) := by decide +kernel
theorem dX6_write_91 : decode cX6_write 91 = .ok (.aload_n 0, 1) := by decide +kernel
theorem dX6_write_92 : decode cX6_write 92 = .ok (.aload_n 0, 1) := by decide +kernel
theorem dX6_write_93 : decode cX6_write 93 = .ok (.getfield 44, 3) := by decide +kernel
theorem dX6_write_96 : decode cX6_write 96 = .ok (.iload_n 2, 1) := by decide +kernel
theorem dX6_write_97 : decode cX6_write 97 = .ok (.laload, 1) := by decide +kernel
theorem dX6_write_98 : decode cX6_write 98 = .ok (.invokevirtual 143, 3) := by decide +kernel
theorem dX6_write_101 : decode cX6_write 101 = .ok (.iinc 2 1, 3) := by decide +kernel
theorem dX6_write_104 : decode cX6_write 104 = .ok (.goto (-41), 3) := by decide +kernel
theorem dX6_write_107 : decode cX6_write 107 = .ok (.iconst 0, 1) := by decide +kernel
theorem dX6_write_108 : decode cX6_write 108 = .ok (.istore_n 2, 1) := by decide +kernel
theorem dX6_write_109 : decode cX6_write 109 = .ok (.iload_n 2, 1) := by decide +kernel
theorem dX6_write_110 : decode cX6_write 110 = .ok (.bipush 10, 2) := by decide +kernel
theorem dX6_write_112 : decode cX6_write 112 = .ok (.if_icmp .ge 27, 3) := by decide +kernel
theorem dX6_write_115 : decode cX6_write 115 = .ok (.aload_n 0, 1) := by decide +kernel
theorem dX6_write_116 : decode cX6_write 116 = .ok (.aload_n 0, 1) := by decide +kernel
theorem dX6_write_117 : decode cX6_write 117 = .ok (.getfield 48, 3) := by decide +kernel
theorem dX6_write_120 : decode cX6_write 120 = .ok (.iload_n 2, 1) := by decide +kernel
theorem dX6_write_121 : decode cX6_write 121 = .ok (.baload, 1) := by decide +kernel
theorem dX6_write_122 : decode cX6_write 122 = .ok (.ifCond .eq 7, 3) := by decide +kernel
theorem dX6_write_125 : decode cX6_write 125 = .ok (.lconst 1, 1) := by decide +kernel
theorem dX6_write_126 : decode cX6_write 126 = .ok (.goto 4, 3) := by decide +kernel
theorem dX6_write_129 : decode cX6_write 129 = .ok (.lconst 0, 1) := by decide +kernel
theorem dX6_write_130 : decode cX6_write 130 = .ok (.invokevirtual 143, 3) := by decide +kernel
theorem dX6_write_133 : decode cX6_write 133 = .ok (.iinc 2 1, 3) := by decide +kernel
theorem dX6_write_136 : decode cX6_write 136 = .ok (.goto (-27), 3) := by decide +kernel
theorem dX6_write_139 : decode cX6_write 139 = .ok (.iconst 0, 1) := by decide +kernel
theorem dX6_write_140 : decode cX6_write 140 = .ok (.istore_n 2, 1) := by decide +kernel
theorem dX6_write_141 : decode cX6_write 141 = .ok (.iload_n 2, 1) := by decide +kernel
theorem dX6_write_142 : decode cX6_write 142 = .ok (.bipush 16, 2) := by decide +kernel
theorem dX6_write_144 : decode cX6_write 144 = .ok (.if_icmp .ge 50, 3) := by decide +kernel
theorem dX6_write_147 : decode cX6_write 147 = .ok (.aload_n 0, 1) := by decide +kernel
theorem dX6_write_148 : decode cX6_write 148 = .ok (.aload_n 0, 1) := by decide +kernel
theorem dX6_write_149 : decode cX6_write 149 = .ok (.getfield 51, 3) := by decide +kernel
theorem dX6_write_152 : decode cX6_write 152 = .ok (.iload_n 2, 1) := by decide +kernel
theorem dX6_write_153 : decode cX6_write 153 = .ok (.iaload, 1) := by decide +kernel
theorem dX6_write_154 : decode cX6_write 154 = .ok (.i2l, 1) := by decide +kernel
theorem dX6_write_155 : decode cX6_write 155 = .ok (.invokevirtual 143, 3) := by decide +kernel
theorem dX6_write_158 : decode cX6_write 158 = .ok (.aload_n 0, 1) := by decide +kernel
theorem dX6_write_159 : decode cX6_write 159 = .ok (.aload_n 0, 1) := by decide +kernel
theorem dX6_write_160 : decode cX6_write 160 = .ok (.getfield 54, 3) := by decide +kernel
theorem dX6_write_163 : decode cX6_write 163 = .ok (.iload_n 2, 1) := by decide +kernel
theorem dX6_write_164 : decode cX6_write 164 = .ok (.laload, 1) := by decide +kernel
theorem dX6_write_165 : decode cX6_write 165 = .ok (.invokevirtual 143, 3) := by decide +kernel
theorem dX6_write_168 : decode cX6_write 168 = .ok (.aload_n 0, 1) := by decide +kernel
theorem dX6_write_169 : decode cX6_write 169 = .ok (.aload_n 0, 1) := by decide +kernel
theorem dX6_write_170 : decode cX6_write 170 = .ok (.getfield 57, 3) := by decide +kernel
theorem dX6_write_173 : decode cX6_write 173 = .ok (.iload_n 2, 1) := by decide +kernel
theorem dX6_write_174 : decode cX6_write 174 = .ok (.laload, 1) := by decide +kernel
theorem dX6_write_175 : decode cX6_write 175 = .ok (.invokevirtual 143, 3) := by decide +kernel
theorem dX6_write_178 : decode cX6_write 178 = .ok (.aload_n 0, 1) := by decide +kernel
theorem dX6_write_179 : decode cX6_write 179 = .ok (.aload_n 0, 1) := by decide +kernel
theorem dX6_write_180 : decode cX6_write 180 = .ok (.getfield 60, 3) := by decide +kernel
theorem dX6_write_183 : decode cX6_write 183 = .ok (.iload_n 2, 1) := by decide +kernel
theorem dX6_write_184 : decode cX6_write 184 = .ok (.laload, 1) := by decide +kernel
theorem dX6_write_185 : decode cX6_write 185 = .ok (.invokevirtual 143, 3) := by decide +kernel
theorem dX6_write_188 : decode cX6_write 188 = .ok (.iinc 2 1, 3) := by decide +kernel
theorem dX6_write_191 : decode cX6_write 191 = .ok (.goto (-50), 3) := by decide +kernel
theorem dX6_write_194 : decode cX6_write 194 = .ok (.iconst 0, 1) := by decide +kernel
theorem dX6_write_195 : decode cX6_write 195 = .ok (.istore_n 2, 1) := by decide +kernel
theorem dX6_write_196 : decode cX6_write 196 = .ok (.iload_n 2, 1) := by decide +kernel
theorem dX6_write_197 : decode cX6_write 197 = .ok (.bipush 30, 2) := by decide +kernel
theorem dX6_write_199 : decode cX6_write 199 = .ok (.if_icmp .ge 30, 3) := by decide +kernel
theorem dX6_write_202 : decode cX6_write 202 = .ok (.aload_n 0, 1) := by decide +kernel
theorem dX6_write_203 : decode cX6_write 203 = .ok (.aload_n 0, 1) := by decide +kernel
theorem dX6_write_204 : decode cX6_write 204 = .ok (.getfield 63, 3) := by decide +kernel
theorem dX6_write_207 : decode cX6_write 207 = .ok (.iload_n 2, 1) := by decide +kernel
theorem dX6_write_208 : decode cX6_write 208 = .ok (.laload, 1) := by decide +kernel
theorem dX6_write_209 : decode cX6_write 209 = .ok (.invokevirtual 143, 3) := by decide +kernel
theorem dX6_write_212 : decode cX6_write 212 = .ok (.aload_n 0, 1) := by decide +kernel
theorem dX6_write_213 : decode cX6_write 213 = .ok (.aload_n 0, 1) := by decide +kernel
theorem dX6_write_214 : decode cX6_write 214 = .ok (.getfield 66, 3) := by decide +kernel
theorem dX6_write_217 : decode cX6_write 217 = .ok (.iload_n 2, 1) := by decide +kernel
theorem dX6_write_218 : decode cX6_write 218 = .ok (.iaload, 1) := by decide +kernel
theorem dX6_write_219 : decode cX6_write 219 = .ok (.i2l, 1) := by decide +kernel
theorem dX6_write_220 : decode cX6_write 220 = .ok (.invokevirtual 143, 3) := by decide +kernel
theorem dX6_write_223 : decode cX6_write 223 = .ok (.iinc 2 1, 3) := by decide +kernel
theorem dX6_write_226 : decode cX6_write 226 = .ok (.goto (-30), 3) := by decide +kernel
theorem dX6_write_229 : decode cX6_write 229 = .ok (.return_, 1) := by decide +kernel
theorem dX6_read_0 : decode cX6_read 0 = .ok (.aload_n 0, 1) := by decide +kernel
theorem dX6_read_1 : decode cX6_read 1 = .ok (.sipush 164, 3) := by decide +kernel
theorem dX6_read_4 : decode cX6_read 4 = .ok (.iload_n 1, 1) := by decide +kernel
theorem dX6_read_5 : decode cX6_read 5 = .ok (.imul, 1) := by decide +kernel
theorem dX6_read_6 : decode cX6_read 6 = .ok (.putfield 140, 3) := by decide +kernel
theorem dX6_read_9 : decode cX6_read 9 = .ok (.aload_n 0, 1) := by decide +kernel
theorem dX6_read_10 : decode cX6_read 10 = .ok (.aload_n 0, 1) := by decide +kernel
theorem dX6_read_11 : decode cX6_read 11 = .ok (.invokevirtual 147, 3) := by decide +kernel
theorem dX6_read_14 : decode cX6_read 14 = .ok (.l2i, 1) := by decide +kernel
theorem dX6_read_15 : decode cX6_read 15 = .ok (.putfield 76, 3) := by decide +kernel
theorem dX6_read_18 : decode cX6_read 18 = .ok (.aload_n 0, 1) := by decide +kernel
theorem dX6_read_19 : decode cX6_read 19 = .ok (.aload_n 0, 1) := by decide +kernel
theorem dX6_read_20 : decode cX6_read 20 = .ok (.invokevirtual 147, 3) := by decide +kernel
theorem dX6_read_23 : decode cX6_read 23 = .ok (.l2i, 1) := by decide +kernel
theorem dX6_read_24 : decode cX6_read 24 = .ok (.putfield 79, 3) := by decide +kernel
theorem dX6_read_27 : decode cX6_read 27 = .ok (.aload_n 0, 1) := by decide +kernel
theorem dX6_read_28 : decode cX6_read 28 = .ok (.aload_n 0, 1) := by decide +kernel
theorem dX6_read_29 : decode cX6_read 29 = .ok (.invokevirtual 147, 3) := by decide +kernel
theorem dX6_read_32 : decode cX6_read 32 = .ok (.l2i, 1) := by decide +kernel
theorem dX6_read_33 : decode cX6_read 33 = .ok (.putfield 82, 3) := by decide +kernel
theorem dX6_read_36 : decode cX6_read 36 = .ok (.aload_n 0, 1) := by decide +kernel
theorem dX6_read_37 : decode cX6_read 37 = .ok (.aload_n 0, 1) := by decide +kernel
theorem dX6_read_38 : decode cX6_read 38 = .ok (.invokevirtual 147, 3) := by decide +kernel
theorem dX6_read_41 : decode cX6_read 41 = .ok (.putfield 104, 3) := by decide +kernel
theorem dX6_read_44 : decode cX6_read 44 = .ok (.aload_n 0, 1) := by decide +kernel
theorem dX6_read_45 : decode cX6_read 45 = .ok (.aload_n 0, 1) := by decide +kernel
theorem dX6_read_46 : decode cX6_read 46 = .ok (.invokevirtual 147, 3) := by decide +kernel
theorem dX6_read_49 : decode cX6_read 49 = .ok (.putfield 108, 3) := by decide +kernel
theorem dX6_read_52 : decode cX6_read 52 = .ok (.aload_n 0, 1) := by decide +kernel
theorem dX6_read_53 : decode cX6_read 53 = .ok (.aload_n 0, 1) := by decide +kernel
theorem dX6_read_54 : decode cX6_read 54 = .ok (.invokevirtual 147, 3) := by decide +kernel
theorem dX6_read_57 : decode cX6_read 57 = .ok (.l2i, 1) := by decide +kernel
theorem dX6_read_58 : decode cX6_read 58 = .ok (.putfield 101, 3) := by decide +kernel
theorem dX6_read_61 : decode cX6_read 61 = .ok (.iconst 0, 1) := by decide +kernel
theorem dX6_read_62 : decode cX6_read 62 = .ok (.istore_n 2, 1) := by decide +kernel
theorem dX6_read_63 : decode cX6_read 63 = .ok (.iload_n 2, 1) := by decide +kernel
theorem dX6_read_64 : decode cX6_read 64 = .ok (.bipush 8, 2) := by decide +kernel
theorem dX6_read_66 : decode cX6_read 66 = .ok (.if_icmp .ge 41, 3) := by decide +kernel
theorem dX6_read_69 : decode cX6_read 69 = .ok (.aload_n 0, 1) := by decide +kernel
theorem dX6_read_70 : decode cX6_read 70 = .ok (.getfield 38, 3) := by decide +kernel
theorem dX6_read_73 : decode cX6_read 73 = .ok (.iload_n 2, 1) := by decide +kernel
theorem dX6_read_74 : decode cX6_read 74 = .ok (.aload_n 0, 1) := by decide +kernel
theorem dX6_read_75 : decode cX6_read 75 = .ok (.invokevirtual 147, 3) := by decide +kernel
theorem dX6_read_78 : decode cX6_read 78 = .ok (.l2i, 1) := by decide +kernel
theorem dX6_read_79 : decode cX6_read 79 = .ok (.iastore, 1) := by decide +kernel
theorem dX6_read_80 : decode cX6_read 80 = .ok (.aload_n 0, 1) := by decide +kernel
theorem dX6_read_81 : decode cX6_read 81 = .ok (.getfield 41, 3) := by decide +kernel
theorem dX6_read_84 : decode cX6_read 84 = .ok (.iload_n 2, 1) := by decide +kernel
theorem dX6_read_85 : decode cX6_read 85 = .ok (.aload_n 0, 1) := by decide +kernel
theorem dX6_read_86 : decode cX6_read 86 = .ok (.invokevirtual 147, 3) := by decide +kernel
theorem dX6_read_89 : decode cX6_read 89 = .ok (.l2i, 1) := by decide +kernel
theorem dX6_read_90 : decode cX6_read 90 = .ok (.iastore, 1) := by decide +kernel
theorem dX6_read_91 : decode cX6_read 91 = .ok (.aload_n 0, 1) := by decide +kernel
theorem dX6_read_92 : decode cX6_read 92 = .ok (.getfield 44, 3) := by decide +kernel
theorem dX6_read_95 : decode cX6_read 95 = .ok (.iload_n 2, 1) := by decide +kernel
theorem dX6_read_96 : decode cX6_read 96 = .ok (.aload_n 0, 1) := by decide +kernel
theorem dX6_read_97 : decode cX6_read 97 = .ok (.invokevirtual 147, 3) := by decide +kernel
theorem dX6_read_100 : decode cX6_read 100 = .ok (.lastore, 1) := by decide +kernel
theorem dX6_read_101 : decode cX6_read 101 = .ok (.iinc 2 1, 3) := by decide +kernel
theorem dX6_read_104 : decode cX6_read 104 = .ok (.goto (-41), 3) := by decide +kernel
theorem dX6_read_107 : decode cX6_read 107 = .ok (.iconst 0, 1) := by decide +kernel
theorem dX6_read_108 : decode cX6_read 108 = .ok (.istore_n 2, 1) := by decide +kernel
theorem dX6_read_109 : decode cX6_read 109 = .ok (.iload_n 2, 1) := by decide +kernel
theorem dX6_read_110 : decode cX6_read 110 = .ok (.bipush 10, 2) := by decide +kernel
theorem dX6_read_112 : decode cX6_read 112 = .ok (.if_icmp .ge 29, 3) := by decide +kernel
theorem dX6_read_115 : decode cX6_read 115 = .ok (.aload_n 0, 1) := by decide +kernel
theorem dX6_read_116 : decode cX6_read 116 = .ok (.getfield 48, 3) := by decide +kernel
theorem dX6_read_119 : decode cX6_read 119 = .ok (.iload_n 2, 1) := by decide +kernel
theorem dX6_read_120 : decode cX6_read 120 = .ok (.aload_n 0, 1) := by decide +kernel
theorem dX6_read_121 : decode cX6_read 121 = .ok (.invokevirtual 147, 3) := by decide +kernel
theorem dX6_read_124 : decode cX6_read 124 = .ok (.lconst 1, 1) := by decide +kernel
theorem dX6_read_125 : decode cX6_read 125 = .ok (.lcmp, 1) := by decide +kernel
theorem dX6_read_126 : decode cX6_read 126 = .ok (.ifCond .ne 7, 3) := by decide +kernel
theorem dX6_read_129 : decode cX6_read 129 = .ok (.iconst 1, 1) := by decide +kernel
theorem dX6_read_130 : decode cX6_read 130 = .ok (.goto 4, 3) := by decide +kernel
theorem dX6_read_133 : decode cX6_read 133 = .ok (.iconst 0, 1) := by decide +kernel
theorem dX6_read_134 : decode cX6_read 134 = .ok (.bastore, 1) := by decide +kernel
theorem dX6_read_135 : decode cX6_read 135 = .ok (.iinc 2 1, 3) := by decide +kernel
theorem dX6_read_138 : decode cX6_read 138 = .ok (.goto (-29), 3) := by decide +kernel
theorem dX6_read_141 : decode cX6_read 141 = .ok (.iconst 0, 1) := by decide +kernel
theorem dX6_read_142 : decode cX6_read 142 = .ok (.istore_n 2, 1) := by decide +kernel
theorem dX6_read_143 : decode cX6_read 143 = .ok (.iload_n 2, 1) := by decide +kernel
theorem dX6_read_144 : decode cX6_read 144 = .ok (.bipush 16, 2) := by decide +kernel
theorem dX6_read_146 : decode cX6_read 146 = .ok (.if_icmp .ge 50, 3) := by decide +kernel
theorem dX6_read_149 : decode cX6_read 149 = .ok (.aload_n 0, 1) := by decide +kernel
theorem dX6_read_150 : decode cX6_read 150 = .ok (.getfield 51, 3) := by decide +kernel
theorem dX6_read_153 : decode cX6_read 153 = .ok (.iload_n 2, 1) := by decide +kernel
theorem dX6_read_154 : decode cX6_read 154 = .ok (.aload_n 0, 1) := by decide +kernel
theorem dX6_read_155 : decode cX6_read 155 = .ok (.invokevirtual 147, 3) := by decide +kernel
theorem dX6_read_158 : decode cX6_read 158 = .ok (.l2i, 1) := by decide +kernel
theorem dX6_read_159 : decode cX6_read 159 = .ok (.iastore, 1) := by decide +kernel
theorem dX6_read_160 : decode cX6_read 160 = .ok (.aload_n 0, 1) := by decide +kernel
theorem dX6_read_161 : decode cX6_read 161 = .ok (.getfield 54, 3) := by decide +kernel
theorem dX6_read_164 : decode cX6_read 164 = .ok (.iload_n 2, 1) := by decide +kernel
theorem dX6_read_165 : decode cX6_read 165 = .ok (.aload_n 0, 1) := by decide +kernel
theorem dX6_read_166 : decode cX6_read 166 = .ok (.invokevirtual 147, 3) := by decide +kernel
theorem dX6_read_169 : decode cX6_read 169 = .ok (.lastore, 1) := by decide +kernel
theorem dX6_read_170 : decode cX6_read 170 = .ok (.aload_n 0, 1) := by decide +kernel
theorem dX6_read_171 : decode cX6_read 171 = .ok (.getfield 57, 3) := by decide +kernel
theorem dX6_read_174 : decode cX6_read 174 = .ok (.iload_n 2, 1) := by decide +kernel
theorem dX6_read_175 : decode cX6_read 175 = .ok (.aload_n 0, 1) := by decide +kernel
theorem dX6_read_176 : decode cX6_read 176 = .ok (.invokevirtual 147, 3) := by decide +kernel
theorem dX6_read_179 : decode cX6_read 179 = .ok (.lastore, 1) := by decide +kernel
theorem dX6_read_180 : decode cX6_read 180 = .ok (.aload_n 0, 1) := by decide +kernel
theorem dX6_read_181 : decode cX6_read 181 = .ok (.getfield 60, 3) := by decide +kernel
theorem dX6_read_184 : decode cX6_read 184 = .ok (.iload_n 2, 1) := by decide +kernel
theorem dX6_read_185 : decode cX6_read 185 = .ok (.aload_n 0, 1) := by decide +kernel
theorem dX6_read_186 : decode cX6_read 186 = .ok (.invokevirtual 147, 3) := by decide +kernel
theorem dX6_read_189 : decode cX6_read 189 = .ok (.lastore, 1) := by decide +kernel
theorem dX6_read_190 : decode cX6_read 190 = .ok (.iinc 2 1, 3) := by decide +kernel
theorem dX6_read_193 : decode cX6_read 193 = .ok (.goto (-50), 3) := by decide +kernel
theorem dX6_read_196 : decode cX6_read 196 = .ok (.iconst 0, 1) := by decide +kernel
theorem dX6_read_197 : decode cX6_read 197 = .ok (.istore_n 2, 1) := by decide +kernel
theorem dX6_read_198 : decode cX6_read 198 = .ok (.iload_n 2, 1) := by decide +kernel
theorem dX6_read_199 : decode cX6_read 199 = .ok (.bipush 30, 2) := by decide +kernel
theorem dX6_read_201 : decode cX6_read 201 = .ok (.if_icmp .ge 30, 3) := by decide +kernel
theorem dX6_read_204 : decode cX6_read 204 = .ok (.aload_n 0, 1) := by decide +kernel
theorem dX6_read_205 : decode cX6_read 205 = .ok (.getfield 63, 3) := by decide +kernel
theorem dX6_read_208 : decode cX6_read 208 = .ok (.iload_n 2, 1) := by decide +kernel
theorem dX6_read_209 : decode cX6_read 209 = .ok (.aload_n 0, 1) := by decide +kernel
theorem dX6_read_210 : decode cX6_read 210 = .ok (.invokevirtual 147, 3) := by decide +kernel
theorem dX6_read_213 : decode cX6_read 213 = .ok (.lastore, 1) := by decide +kernel
theorem dX6_read_214 : decode cX6_read 214 = .ok (.aload_n 0, 1) := by decide +kernel
theorem dX6_read_215 : decode cX6_read 215 = .ok (.getfield 66, 3) := by decide +kernel
theorem dX6_read_218 : decode cX6_read 218 = .ok (.iload_n 2, 1) := by decide +kernel
theorem dX6_read_219 : decode cX6_read 219 = .ok (.aload_n 0, 1) := by decide +kernel
theorem dX6_read_220 : decode cX6_read 220 = .ok (.invokevirtual 147, 3) := by decide +kernel
theorem dX6_read_223 : decode cX6_read 223 = .ok (.l2i, 1) := by decide +kernel
theorem dX6_read_224 : decode cX6_read 224 = .ok (.iastore, 1) := by decide +kernel
theorem dX6_read_225 : decode cX6_read 225 = .ok (.iinc 2 1, 3) := by decide +kernel
theorem dX6_read_228 : decode cX6_read 228 = .ok (.goto (-30), 3) := by decide +kernel
theorem dX6_read_231 : decode cX6_read 231 = .ok (.return_, 1) := by decide +kernel
theorem dX6_save_0 : decode cX6_save 0 = .ok (.aload_n 0, 1) := by decide +kernel
theorem dX6_save_1 : decode cX6_save 1 = .ok (.iconst 0, 1) := by decide +kernel
theorem dX6_save_2 : decode cX6_save 2 = .ok (.putfield 72, 3) := by decide +kernel
theorem dX6_save_5 : decode cX6_save 5 = .ok (.aload_n 0, 1) := by decide +kernel
theorem dX6_save_6 : decode cX6_save 6 = .ok (.getfield 151, 3) := by decide +kernel
theorem dX6_save_9 : decode cX6_save 9 = .ok (.iconst 4, 1) := by decide +kernel
theorem dX6_save_10 : decode cX6_save 10 = .ok (.if_icmp .ne 9, 3) := by decide +kernel
theorem dX6_save_13 : decode cX6_save 13 = .ok (.aload_n 0, 1) := by decide +kernel
theorem dX6_save_14 : decode cX6_save 14 = .ok (.iconst 1, 1) := by decide +kernel
theorem dX6_save_15 : decode cX6_save 15 = .ok (.invokevirtual 87, 3) := by decide +kernel
theorem dX6_save_18 : decode cX6_save 18 = .ok (.ireturn, 1) := by decide +kernel
theorem dX6_save_19 : decode cX6_save 19 = .ok (.aload_n 0, 1) := by decide +kernel
theorem dX6_save_20 : decode cX6_save 20 = .ok (.aload_n 0, 1) := by decide +kernel
theorem dX6_save_21 : decode cX6_save 21 = .ok (.getfield 151, 3) := by decide +kernel
theorem dX6_save_24 : decode cX6_save 24 = .ok (.invokevirtual 131, 3) := by decide +kernel
theorem dX6_save_27 : decode cX6_save 27 = .ok (.aload_n 0, 1) := by decide +kernel
theorem dX6_save_28 : decode cX6_save 28 = .ok (.dup, 1) := by decide +kernel
theorem dX6_save_29 : decode cX6_save 29 = .ok (.getfield 151, 3) := by decide +kernel
theorem dX6_save_32 : decode cX6_save 32 = .ok (.iconst 1, 1) := by decide +kernel
theorem dX6_save_33 : decode cX6_save 33 = .ok (.iadd, 1) := by decide +kernel
theorem dX6_save_34 : decode cX6_save 34 = .ok (.putfield 151, 3) := by decide +kernel
theorem dX6_save_37 : decode cX6_save 37 = .ok (.aload_n 0, 1) := by decide +kernel
theorem dX6_save_38 : decode cX6_save 38 = .ok (.getfield 151, 3) := by decide +kernel
theorem dX6_save_41 : decode cX6_save 41 = .ok (.ireturn, 1) := by decide +kernel
theorem dX6_restore_0 : decode cX6_restore 0 = .ok (.aload_n 0, 1) := by decide +kernel
theorem dX6_restore_1 : decode cX6_restore 1 = .ok (.iconst 0, 1) := by decide +kernel
theorem dX6_restore_2 : decode cX6_restore 2 = .ok (.putfield 72, 3) := by decide +kernel
theorem dX6_restore_5 : decode cX6_restore 5 = .ok (.aload_n 0, 1) := by decide +kernel
theorem dX6_restore_6 : decode cX6_restore 6 = .ok (.getfield 151, 3) := by decide +kernel
theorem dX6_restore_9 : decode cX6_restore 9 = .ok (.ifCond .ne 9, 3) := by decide +kernel
theorem dX6_restore_12 : decode cX6_restore 12 = .ok (.aload_n 0, 1) := by decide +kernel
theorem dX6_restore_13 : decode cX6_restore 13 = .ok (.iconst 1, 1) := by decide +kernel
theorem dX6_restore_14 : decode cX6_restore 14 = .ok (.invokevirtual 87, 3) := by decide +kernel
theorem dX6_restore_17 : decode cX6_restore 17 = .ok (.ireturn, 1) := by decide +kernel
theorem dX6_restore_18 : decode cX6_restore 18 = .ok (.aload_n 0, 1) := by decide +kernel
theorem dX6_restore_19 : decode cX6_restore 19 = .ok (.dup, 1) := by decide +kernel
theorem dX6_restore_20 : decode cX6_restore 20 = .ok (.getfield 151, 3) := by decide +kernel
theorem dX6_restore_23 : decode cX6_restore 23 = .ok (.iconst 1, 1) := by decide +kernel
theorem dX6_restore_24 : decode cX6_restore 24 = .ok (.isub, 1) := by decide +kernel
theorem dX6_restore_25 : decode cX6_restore 25 = .ok (.putfield 151, 3) := by decide +kernel
theorem dX6_restore_28 : decode cX6_restore 28 = .ok (.aload_n 0, 1) := by decide +kernel
theorem dX6_restore_29 : decode cX6_restore 29 = .ok (.aload_n 0, 1) := by decide +kernel
theorem dX6_restore_30 : decode cX6_restore 30 = .ok (.getfield 151, 3) := by decide +kernel
theorem dX6_restore_33 : decode cX6_restore 33 = .ok (.invokevirtual 134, 3) := by decide +kernel
theorem dX6_restore_36 : decode cX6_restore 36 = .ok (.aload_n 0, 1) := by decide +kernel
theorem dX6_restore_37 : decode cX6_restore 37 = .ok (.getfield 151, 3) := by decide +kernel
theorem dX6_restore_40 : decode cX6_restore 40 = .ok (.ireturn, 1) := by decide +kernel
theorem dX6_digest_0 : decode cX6_digest 0 = .ok (.aload_n 0, 1) := by decide +kernel
theorem dX6_digest_1 : decode cX6_digest 1 = .ok (.iconst 0, 1) := by decide +kernel
theorem dX6_digest_2 : decode cX6_digest 2 = .ok (.putfield 72, 3) := by decide +kernel
theorem dX6_digest_5 : decode cX6_digest 5 = .ok (.ldc2_w 154, 3) := by decide +kernel
theorem dX6_digest_8 : decode cX6_digest 8 = .ok (.aload_n 0, 1) := by decide +kernel
theorem dX6_digest_9 : decode cX6_digest 9 = .ok (.getfield 104, 3) := by decide +kernel
theorem dX6_digest_12 : decode cX6_digest 12 = .ok (.ladd, 1) := by decide +kernel
theorem dX6_digest_13 : decode cX6_digest 13 = .ok (.ldc2_w 156, 3) := by decide +kernel
theorem dX6_digest_16 : decode cX6_digest 16 = .ok (.lmul, 1) := by decide +kernel
theorem dX6_digest_17 : decode cX6_digest 17 = .ok (.aload_n 0, 1) := by decide +kernel
theorem dX6_digest_18 : decode cX6_digest 18 = .ok (.getfield 76, 3) := by decide +kernel
theorem dX6_digest_21 : decode cX6_digest 21 = .ok (.i2l, 1) := by decide +kernel
theorem dX6_digest_22 : decode cX6_digest 22 = .ok (.ladd, 1) := by decide +kernel
theorem dX6_digest_23 : decode cX6_digest 23 = .ok (.ldc2_w 156, 3) := by decide +kernel
theorem dX6_digest_26 : decode cX6_digest 26 = .ok (.lmul, 1) := by decide +kernel
theorem dX6_digest_27 : decode cX6_digest 27 = .ok (.aload_n 0, 1) := by decide +kernel
theorem dX6_digest_28 : decode cX6_digest 28 = .ok (.getfield 79, 3) := by decide +kernel
theorem dX6_digest_31 : decode cX6_digest 31 = .ok (.i2l, 1) := by decide +kernel
theorem dX6_digest_32 : decode cX6_digest 32 = .ok (.ladd, 1) := by decide +kernel
theorem dX6_digest_33 : decode cX6_digest 33 = .ok (.ldc2_w 156, 3) := by decide +kernel
theorem dX6_digest_36 : decode cX6_digest 36 = .ok (.lmul, 1) := by decide +kernel
theorem dX6_digest_37 : decode cX6_digest 37 = .ok (.aload_n 0, 1) := by decide +kernel
theorem dX6_digest_38 : decode cX6_digest 38 = .ok (.getfield 82, 3) := by decide +kernel
theorem dX6_digest_41 : decode cX6_digest 41 = .ok (.i2l, 1) := by decide +kernel
theorem dX6_digest_42 : decode cX6_digest 42 = .ok (.ladd, 1) := by decide +kernel
theorem dX6_digest_43 : decode cX6_digest 43 = .ok (.ldc2_w 156, 3) := by decide +kernel
theorem dX6_digest_46 : decode cX6_digest 46 = .ok (.lmul, 1) := by decide +kernel
theorem dX6_digest_47 : decode cX6_digest 47 = .ok (.aload_n 0, 1) := by decide +kernel
theorem dX6_digest_48 : decode cX6_digest 48 = .ok (.getfield 151, 3) := by decide +kernel
theorem dX6_digest_51 : decode cX6_digest 51 = .ok (.i2l, 1) := by decide +kernel
theorem dX6_digest_52 : decode cX6_digest 52 = .ok (.ladd, 1) := by decide +kernel
theorem dX6_digest_53 : decode cX6_digest 53 = .ok (.lstore_n 1, 1) := by decide +kernel
theorem dX6_digest_54 : decode cX6_digest 54 = .ok (.iconst 0, 1) := by decide +kernel
theorem dX6_digest_55 : decode cX6_digest 55 = .ok (.istore_n 3, 1) := by decide +kernel
theorem dX6_digest_56 : decode cX6_digest 56 = .ok (.iload_n 3, 1) := by decide +kernel
theorem dX6_digest_57 : decode cX6_digest 57 = .ok (.aload_n 0, 1) := by decide +kernel
theorem dX6_digest_58 : decode cX6_digest 58 = .ok (.getfield 76, 3) := by decide +kernel
theorem dX6_digest_61 : decode cX6_digest 61 = .ok (.if_icmp .ge 35, 3) := by decide +kernel
theorem dX6_digest_64 : decode cX6_digest 64 = .ok (.lload_n 1, 1) := by decide +kernel
theorem dX6_digest_65 : decode cX6_digest 65 = .ok (.ldc2_w 156, 3) := by decide +kernel
theorem dX6_digest_68 : decode cX6_digest 68 = .ok (.lmul, 1) := by decide +kernel
theorem dX6_digest_69 : decode cX6_digest 69 = .ok (.aload_n 0, 1) := by decide +kernel
theorem dX6_digest_70 : decode cX6_digest 70 = .ok (.getfield 38, 3) := by decide +kernel
theorem dX6_digest_73 : decode cX6_digest 73 = .ok (.iload_n 3, 1) := by decide +kernel
theorem dX6_digest_74 : decode cX6_digest 74 = .ok (.iaload, 1) := by decide +kernel
theorem dX6_digest_75 : decode cX6_digest 75 = .ok (.i2l, 1) := by decide +kernel
theorem dX6_digest_76 : decode cX6_digest 76 = .ok (.ladd, 1) := by decide +kernel
theorem dX6_digest_77 : decode cX6_digest 77 = .ok (.ldc2_w 156, 3) := by decide +kernel
theorem dX6_digest_80 : decode cX6_digest 80 = .ok (.lmul, 1) := by decide +kernel
theorem dX6_digest_81 : decode cX6_digest 81 = .ok (.aload_n 0, 1) := by decide +kernel
theorem dX6_digest_82 : decode cX6_digest 82 = .ok (.getfield 41, 3) := by decide +kernel
theorem dX6_digest_85 : decode cX6_digest 85 = .ok (.iload_n 3, 1) := by decide +kernel
theorem dX6_digest_86 : decode cX6_digest 86 = .ok (.iaload, 1) := by decide +kernel
theorem dX6_digest_87 : decode cX6_digest 87 = .ok (.i2l, 1) := by decide +kernel
theorem dX6_digest_88 : decode cX6_digest 88 = .ok (.ladd, 1) := by decide +kernel
theorem dX6_digest_89 : decode cX6_digest 89 = .ok (.lstore_n 1, 1) := by decide +kernel
theorem dX6_digest_90 : decode cX6_digest 90 = .ok (.iinc 3 1, 3) := by decide +kernel
theorem dX6_digest_93 : decode cX6_digest 93 = .ok (.goto (-37), 3) := by decide +kernel
theorem dX6_digest_96 : decode cX6_digest 96 = .ok (.iconst 0, 1) := by decide +kernel
theorem dX6_digest_97 : decode cX6_digest 97 = .ok (.istore_n 3, 1) := by decide +kernel
theorem dX6_digest_98 : decode cX6_digest 98 = .ok (.iload_n 3, 1) := by decide +kernel
theorem dX6_digest_99 : decode cX6_digest 99 = .ok (.aload_n 0, 1) := by decide +kernel
theorem dX6_digest_100 : decode cX6_digest 100 = .ok (.getfield 79, 3) := by decide +kernel
theorem dX6_digest_103 : decode cX6_digest 103 = .ok (.if_icmp .ge 30, 3) := by decide +kernel
theorem dX6_digest_106 : decode cX6_digest 106 = .ok (.lload_n 1, 1) := by decide +kernel
theorem dX6_digest_107 : decode cX6_digest 107 = .ok (.ldc2_w 156, 3) := by decide +kernel
theorem dX6_digest_110 : decode cX6_digest 110 = .ok (.lmul, 1) := by decide +kernel
theorem dX6_digest_111 : decode cX6_digest 111 = .ok (.aload_n 0, 1) := by decide +kernel
theorem dX6_digest_112 : decode cX6_digest 112 = .ok (.getfield 48, 3) := by decide +kernel
theorem dX6_digest_115 : decode cX6_digest 115 = .ok (.iload_n 3, 1) := by decide +kernel
theorem dX6_digest_116 : decode cX6_digest 116 = .ok (.baload, 1) := by decide +kernel
theorem dX6_digest_117 : decode cX6_digest 117 = .ok (.ifCond .eq 7, 3) := by decide +kernel
theorem dX6_digest_120 : decode cX6_digest 120 = .ok (.lconst 1, 1) := by decide +kernel
theorem dX6_digest_121 : decode cX6_digest 121 = .ok (.goto 4, 3) := by decide +kernel
theorem dX6_digest_124 : decode cX6_digest 124 = .ok (.lconst 0, 1) := by decide +kernel
theorem dX6_digest_125 : decode cX6_digest 125 = .ok (.ladd, 1) := by decide +kernel
theorem dX6_digest_126 : decode cX6_digest 126 = .ok (.lstore_n 1, 1) := by decide +kernel
theorem dX6_digest_127 : decode cX6_digest 127 = .ok (.iinc 3 1, 3) := by decide +kernel
theorem dX6_digest_130 : decode cX6_digest 130 = .ok (.goto (-32), 3) := by decide +kernel
theorem dX6_digest_133 : decode cX6_digest 133 = .ok (.iconst 0, 1) := by decide +kernel
theorem dX6_digest_134 : decode cX6_digest 134 = .ok (.istore_n 3, 1) := by decide +kernel
theorem dX6_digest_135 : decode cX6_digest 135 = .ok (.iload_n 3, 1) := by decide +kernel
theorem dX6_digest_136 : decode cX6_digest 136 = .ok (.aload_n 0, 1) := by decide +kernel
theorem dX6_digest_137 : decode cX6_digest 137 = .ok (.getfield 82, 3) := by decide +kernel
theorem dX6_digest_140 : decode cX6_digest 140 = .ok (.if_icmp .ge 56, 3) := by decide +kernel
theorem dX6_digest_143 : decode cX6_digest 143 = .ok (.lload_n 1, 1) := by decide +kernel
theorem dX6_digest_144 : decode cX6_digest 144 = .ok (.ldc2_w 156, 3) := by decide +kernel
theorem dX6_digest_147 : decode cX6_digest 147 = .ok (.lmul, 1) := by decide +kernel
theorem dX6_digest_148 : decode cX6_digest 148 = .ok (.aload_n 0, 1) := by decide +kernel
theorem dX6_digest_149 : decode cX6_digest 149 = .ok (.getfield 51, 3) := by decide +kernel
theorem dX6_digest_152 : decode cX6_digest 152 = .ok (.iload_n 3, 1) := by decide +kernel
theorem dX6_digest_153 : decode cX6_digest 153 = .ok (.iaload, 1) := by decide +kernel
theorem dX6_digest_154 : decode cX6_digest 154 = .ok (.i2l, 1) := by decide +kernel
theorem dX6_digest_155 : decode cX6_digest 155 = .ok (.ladd, 1) := by decide +kernel
theorem dX6_digest_156 : decode cX6_digest 156 = .ok (.ldc2_w 156, 3) := by decide +kernel
theorem dX6_digest_159 : decode cX6_digest 159 = .ok (.lmul, 1) := by decide +kernel
theorem dX6_digest_160 : decode cX6_digest 160 = .ok (.aload_n 0, 1) := by decide +kernel
theorem dX6_digest_161 : decode cX6_digest 161 = .ok (.getfield 54, 3) := by decide +kernel
theorem dX6_digest_164 : decode cX6_digest 164 = .ok (.iload_n 3, 1) := by decide +kernel
theorem dX6_digest_165 : decode cX6_digest 165 = .ok (.laload, 1) := by decide +kernel
theorem dX6_digest_166 : decode cX6_digest 166 = .ok (.ladd, 1) := by decide +kernel
theorem dX6_digest_167 : decode cX6_digest 167 = .ok (.ldc2_w 156, 3) := by decide +kernel
theorem dX6_digest_170 : decode cX6_digest 170 = .ok (.lmul, 1) := by decide +kernel
theorem dX6_digest_171 : decode cX6_digest 171 = .ok (.aload_n 0, 1) := by decide +kernel
theorem dX6_digest_172 : decode cX6_digest 172 = .ok (.getfield 57, 3) := by decide +kernel
theorem dX6_digest_175 : decode cX6_digest 175 = .ok (.iload_n 3, 1) := by decide +kernel
theorem dX6_digest_176 : decode cX6_digest 176 = .ok (.laload, 1) := by decide +kernel
theorem dX6_digest_177 : decode cX6_digest 177 = .ok (.ladd, 1) := by decide +kernel
theorem dX6_digest_178 : decode cX6_digest 178 = .ok (.ldc2_w 156, 3) := by decide +kernel
theorem dX6_digest_181 : decode cX6_digest 181 = .ok (.lmul, 1) := by decide +kernel
theorem dX6_digest_182 : decode cX6_digest 182 = .ok (.aload_n 0, 1) := by decide +kernel
theorem dX6_digest_183 : decode cX6_digest 183 = .ok (.getfield 60, 3) := by decide +kernel
theorem dX6_digest_186 : decode cX6_digest 186 = .ok (.iload_n 3, 1) := by decide +kernel
theorem dX6_digest_187 : decode cX6_digest 187 = .ok (.laload, 1) := by decide +kernel
theorem dX6_digest_188 : decode cX6_digest 188 = .ok (.ladd, 1) := by decide +kernel
theorem dX6_digest_189 : decode cX6_digest 189 = .ok (.lstore_n 1, 1) := by decide +kernel
theorem dX6_digest_190 : decode cX6_digest 190 = .ok (.iinc 3 1, 3) := by decide +kernel
theorem dX6_digest_193 : decode cX6_digest 193 = .ok (.goto (-58), 3) := by decide +kernel
theorem dX6_digest_196 : decode cX6_digest 196 = .ok (.lload_n 1, 1) := by decide +kernel
theorem dX6_digest_197 : decode cX6_digest 197 = .ok (.ldc2_w 156, 3) := by decide +kernel
theorem dX6_digest_200 : decode cX6_digest 200 = .ok (.lmul, 1) := by decide +kernel
theorem dX6_digest_201 : decode cX6_digest 201 = .ok (.aload_n 0, 1) := by decide +kernel
theorem dX6_digest_202 : decode cX6_digest 202 = .ok (.getfield 108, 3) := by decide +kernel
theorem dX6_digest_205 : decode cX6_digest 205 = .ok (.ladd, 1) := by decide +kernel
theorem dX6_digest_206 : decode cX6_digest 206 = .ok (.lreturn, 1) := by decide +kernel
end
section
theorem dJ9_min_7cf53_0 : decode cJ9_min_7cf53 0 = .ok (.iload_n 0, 1) := by decide +kernel
theorem dJ9_min_7cf53_1 : decode cJ9_min_7cf53 1 = .ok (.iload_n 1, 1) := by decide +kernel
theorem dJ9_min_7cf53_2 : decode cJ9_min_7cf53 2 = .ok (.if_icmp .gt 7, 3) := by decide +kernel
theorem dJ9_min_7cf53_5 : decode cJ9_min_7cf53 5 = .ok (.iload_n 0, 1) := by decide +kernel
theorem dJ9_min_7cf53_6 : decode cJ9_min_7cf53 6 = .ok (.goto 4, 3) := by decide +kernel
theorem dJ9_min_7cf53_9 : decode cJ9_min_7cf53 9 = .ok (.iload_n 1, 1) := by decide +kernel
theorem dJ9_min_7cf53_10 : decode cJ9_min_7cf53 10 = .ok (.ireturn, 1) := by decide +kernel
theorem dJ9_min_f86c9_0 : decode cJ9_min_f86c9 0 = .ok (.lload_n 0, 1) := by decide +kernel
theorem dJ9_min_f86c9_1 : decode cJ9_min_f86c9 1 = .ok (.lload_n 2, 1) := by decide +kernel
theorem dJ9_min_f86c9_2 : decode cJ9_min_f86c9 2 = .ok (.lcmp, 1) := by decide +kernel
theorem dJ9_min_f86c9_3 : decode cJ9_min_f86c9 3 = .ok (.ifCond .gt 7, 3) := by decide +kernel
theorem dJ9_min_f86c9_6 : decode cJ9_min_f86c9 6 = .ok (.lload_n 0, 1) := by decide +kernel
theorem dJ9_min_f86c9_7 : decode cJ9_min_f86c9 7 = .ok (.goto 4, 3) := by decide +kernel
theorem dJ9_min_f86c9_10 : decode cJ9_min_f86c9 10 = .ok (.lload_n 2, 1) := by decide +kernel
theorem dJ9_min_f86c9_11 : decode cJ9_min_f86c9 11 = .ok (.lreturn, 1) := by decide +kernel
theorem dL_addTank_0 : decode cL_addTank 0 = .ok (.aload 4, 2) := by decide +kernel
theorem dL_addTank_2 : decode cL_addTank 2 = .ok (.iconst 0, 1) := by decide +kernel
theorem dL_addTank_3 : decode cL_addTank 3 = .ok (.aload_n 0, 1) := by decide +kernel
theorem dL_addTank_4 : decode cL_addTank 4 = .ok (.iload_n 1, 1) := by decide +kernel
theorem dL_addTank_5 : decode cL_addTank 5 = .ok (.iload_n 2, 1) := by decide +kernel
theorem dL_addTank_6 : decode cL_addTank 6 = .ok (.iload_n 3, 1) := by decide +kernel
theorem dL_addTank_7 : decode cL_addTank 7 = .ok (.invokevirtual 7, 3) := by decide +kernel
theorem dL_addTank_10 : decode cL_addTank 10 = .ok (.i2l, 1) := by decide +kernel
theorem dL_addTank_11 : decode cL_addTank 11 = .ok (.lastore, 1) := by decide +kernel
theorem dL_addTank_12 : decode cL_addTank 12 = .ok (.goto 11, 3) := by decide +kernel
theorem dL_addTank_15 : decode cL_addTank 15 = .ok (.astore 5, 2) := by decide +kernel
theorem dL_addTank_17 : decode cL_addTank 17 = .ok (.iconst 1, 1) := by decide +kernel
theorem dL_addTank_18 : decode cL_addTank 18 = .ok (.ireturn, 1) := by decide +kernel
theorem dL_addTank_19 : decode cL_addTank 19 = .ok (.astore 5, 2) := by decide +kernel
theorem dL_addTank_21 : decode cL_addTank 21 = .ok (.iconst 2, 1) := by decide +kernel
theorem dL_addTank_22 : decode cL_addTank 22 = .ok (.ireturn, 1) := by decide +kernel
theorem dL_addTank_23 : decode cL_addTank 23 = .ok (.iconst 0, 1) := by decide +kernel
theorem dL_addTank_24 : decode cL_addTank 24 = .ok (.ireturn, 1) := by decide +kernel
theorem dL_addSwitch_0 : decode cL_addSwitch 0 = .ok (.aload 4, 2) := by decide +kernel
theorem dL_addSwitch_2 : decode cL_addSwitch 2 = .ok (.iconst 0, 1) := by decide +kernel
theorem dL_addSwitch_3 : decode cL_addSwitch 3 = .ok (.aload_n 0, 1) := by decide +kernel
theorem dL_addSwitch_4 : decode cL_addSwitch 4 = .ok (.iload_n 1, 1) := by decide +kernel
theorem dL_addSwitch_5 : decode cL_addSwitch 5 = .ok (.iload_n 2, 1) := by decide +kernel
theorem dL_addSwitch_6 : decode cL_addSwitch 6 = .ok (.iload_n 3, 1) := by decide +kernel
theorem dL_addSwitch_7 : decode cL_addSwitch 7 = .ok (.invokevirtual 17, 3) := by decide +kernel
theorem dL_addSwitch_10 : decode cL_addSwitch 10 = .ok (.i2l, 1) := by decide +kernel
theorem dL_addSwitch_11 : decode cL_addSwitch 11 = .ok (.lastore, 1) := by decide +kernel
theorem dL_addSwitch_12 : decode cL_addSwitch 12 = .ok (.goto 15, 3) := by decide +kernel
theorem dL_addSwitch_15 : decode cL_addSwitch 15 = .ok (.astore 5, 2) := by decide +kernel
theorem dL_addSwitch_17 : decode cL_addSwitch 17 = .ok (.iconst 1, 1) := by decide +kernel
theorem dL_addSwitch_18 : decode cL_addSwitch 18 = .ok (.ireturn, 1) := by decide +kernel
theorem dL_addSwitch_19 : decode cL_addSwitch 19 = .ok (.astore 5, 2) := by decide +kernel
theorem dL_addSwitch_21 : decode cL_addSwitch 21 = .ok (.iconst 2, 1) := by decide +kernel
theorem dL_addSwitch_22 : decode cL_addSwitch 22 = .ok (.ireturn, 1) := by decide +kernel
theorem dL_addSwitch_23 : decode cL_addSwitch 23 = .ok (.astore 5, 2) := by decide +kernel
theorem dL_addSwitch_25 : decode cL_addSwitch 25 = .ok (.iconst 3, 1) := by decide +kernel
theorem dL_addSwitch_26 : decode cL_addSwitch 26 = .ok (.ireturn, 1) := by decide +kernel
theorem dL_addSwitch_27 : decode cL_addSwitch 27 = .ok (.iconst 0, 1) := by decide +kernel
theorem dL_addSwitch_28 : decode cL_addSwitch 28 = .ok (.ireturn, 1) := by decide +kernel
theorem dL_addPump_0 : decode cL_addPump 0 = .ok (.aload 7, 2) := by decide +kernel
theorem dL_addPump_2 : decode cL_addPump 2 = .ok (.iconst 0, 1) := by decide +kernel
theorem dL_addPump_3 : decode cL_addPump 3 = .ok (.aload_n 0, 1) := by decide +kernel
theorem dL_addPump_4 : decode cL_addPump 4 = .ok (.iload_n 1, 1) := by decide +kernel
theorem dL_addPump_5 : decode cL_addPump 5 = .ok (.iload_n 2, 1) := by decide +kernel
theorem dL_addPump_6 : decode cL_addPump 6 = .ok (.iload_n 3, 1) := by decide +kernel
theorem dL_addPump_7 : decode cL_addPump 7 = .ok (.iload 4, 2) := by decide +kernel
theorem dL_addPump_9 : decode cL_addPump 9 = .ok (.iload 5, 2) := by decide +kernel
theorem dL_addPump_11 : decode cL_addPump 11 = .ok (.iload 6, 2) := by decide +kernel
theorem dL_addPump_13 : decode cL_addPump 13 = .ok (.invokevirtual 22, 3) := by decide +kernel
theorem dL_addPump_16 : decode cL_addPump 16 = .ok (.i2l, 1) := by decide +kernel
theorem dL_addPump_17 : decode cL_addPump 17 = .ok (.lastore, 1) := by decide +kernel
theorem dL_addPump_18 : decode cL_addPump 18 = .ok (.goto 15, 3) := by decide +kernel
theorem dL_addPump_21 : decode cL_addPump 21 = .ok (.astore 8, 2) := by decide +kernel
theorem dL_addPump_23 : decode cL_addPump 23 = .ok (.iconst 1, 1) := by decide +kernel
theorem dL_addPump_24 : decode cL_addPump 24 = .ok (.ireturn, 1) := by decide +kernel
theorem dL_addPump_25 : decode cL_addPump 25 = .ok (.astore 8, 2) := by decide +kernel
theorem dL_addPump_27 : decode cL_addPump 27 = .ok (.iconst 2, 1) := by decide +kernel
theorem dL_addPump_28 : decode cL_addPump 28 = .ok (.ireturn, 1) := by decide +kernel
theorem dL_addPump_29 : decode cL_addPump 29 = .ok (.astore 8, 2) := by decide +kernel
theorem dL_addPump_31 : decode cL_addPump 31 = .ok (.iconst 3, 1) := by decide +kernel
theorem dL_addPump_32 : decode cL_addPump 32 = .ok (.ireturn, 1) := by decide +kernel
theorem dL_addPump_33 : decode cL_addPump 33 = .ok (.iconst 0, 1) := by decide +kernel
theorem dL_addPump_34 : decode cL_addPump 34 = .ok (.ireturn, 1) := by decide +kernel
theorem dL_setLevel_0 : decode cL_setLevel 0 = .ok (.aload_n 3, 1) := by decide +kernel
theorem dL_setLevel_1 : decode cL_setLevel 1 = .ok (.iconst 0, 1) := by decide +kernel
theorem dL_setLevel_2 : decode cL_setLevel 2 = .ok (.aload_n 0, 1) := by decide +kernel
theorem dL_setLevel_3 : decode cL_setLevel 3 = .ok (.iload_n 1, 1) := by decide +kernel
theorem dL_setLevel_4 : decode cL_setLevel 4 = .ok (.iload_n 2, 1) := by decide +kernel
theorem dL_setLevel_5 : decode cL_setLevel 5 = .ok (.invokevirtual 26, 3) := by decide +kernel
theorem dL_setLevel_8 : decode cL_setLevel 8 = .ok (.i2l, 1) := by decide +kernel
theorem dL_setLevel_9 : decode cL_setLevel 9 = .ok (.lastore, 1) := by decide +kernel
theorem dL_setLevel_10 : decode cL_setLevel 10 = .ok (.goto 11, 3) := by decide +kernel
theorem dL_setLevel_13 : decode cL_setLevel 13 = .ok (.astore 4, 2) := by decide +kernel
theorem dL_setLevel_15 : decode cL_setLevel 15 = .ok (.iconst 1, 1) := by decide +kernel
theorem dL_setLevel_16 : decode cL_setLevel 16 = .ok (.ireturn, 1) := by decide +kernel
theorem dL_setLevel_17 : decode cL_setLevel 17 = .ok (.astore 4, 2) := by decide +kernel
theorem dL_setLevel_19 : decode cL_setLevel 19 = .ok (.iconst 2, 1) := by decide +kernel
theorem dL_setLevel_20 : decode cL_setLevel 20 = .ok (.ireturn, 1) := by decide +kernel
theorem dL_setLevel_21 : decode cL_setLevel 21 = .ok (.iconst 0, 1) := by decide +kernel
theorem dL_setLevel_22 : decode cL_setLevel 22 = .ok (.ireturn, 1) := by decide +kernel
theorem dL_setLeak_0 : decode cL_setLeak 0 = .ok (.aload_n 3, 1) := by decide +kernel
theorem dL_setLeak_1 : decode cL_setLeak 1 = .ok (.iconst 0, 1) := by decide +kernel
theorem dL_setLeak_2 : decode cL_setLeak 2 = .ok (.aload_n 0, 1) := by decide +kernel
theorem dL_setLeak_3 : decode cL_setLeak 3 = .ok (.iload_n 1, 1) := by decide +kernel
theorem dL_setLeak_4 : decode cL_setLeak 4 = .ok (.iload_n 2, 1) := by decide +kernel
theorem dL_setLeak_5 : decode cL_setLeak 5 = .ok (.invokevirtual 30, 3) := by decide +kernel
theorem dL_setLeak_8 : decode cL_setLeak 8 = .ok (.i2l, 1) := by decide +kernel
theorem dL_setLeak_9 : decode cL_setLeak 9 = .ok (.lastore, 1) := by decide +kernel
theorem dL_setLeak_10 : decode cL_setLeak 10 = .ok (.goto 11, 3) := by decide +kernel
theorem dL_setLeak_13 : decode cL_setLeak 13 = .ok (.astore 4, 2) := by decide +kernel
theorem dL_setLeak_15 : decode cL_setLeak 15 = .ok (.iconst 1, 1) := by decide +kernel
theorem dL_setLeak_16 : decode cL_setLeak 16 = .ok (.ireturn, 1) := by decide +kernel
theorem dL_setLeak_17 : decode cL_setLeak 17 = .ok (.astore 4, 2) := by decide +kernel
theorem dL_setLeak_19 : decode cL_setLeak 19 = .ok (.iconst 2, 1) := by decide +kernel
theorem dL_setLeak_20 : decode cL_setLeak 20 = .ok (.ireturn, 1) := by decide +kernel
theorem dL_setLeak_21 : decode cL_setLeak 21 = .ok (.iconst 0, 1) := by decide +kernel
theorem dL_setLeak_22 : decode cL_setLeak 22 = .ok (.ireturn, 1) := by decide +kernel
theorem dL_setRate_0 : decode cL_setRate 0 = .ok (.aload_n 3, 1) := by decide +kernel
theorem dL_setRate_1 : decode cL_setRate 1 = .ok (.iconst 0, 1) := by decide +kernel
theorem dL_setRate_2 : decode cL_setRate 2 = .ok (.aload_n 0, 1) := by decide +kernel
theorem dL_setRate_3 : decode cL_setRate 3 = .ok (.iload_n 1, 1) := by decide +kernel
theorem dL_setRate_4 : decode cL_setRate 4 = .ok (.iload_n 2, 1) := by decide +kernel
theorem dL_setRate_5 : decode cL_setRate 5 = .ok (.invokevirtual 33, 3) := by decide +kernel
theorem dL_setRate_8 : decode cL_setRate 8 = .ok (.i2l, 1) := by decide +kernel
theorem dL_setRate_9 : decode cL_setRate 9 = .ok (.lastore, 1) := by decide +kernel
theorem dL_setRate_10 : decode cL_setRate 10 = .ok (.goto 11, 3) := by decide +kernel
theorem dL_setRate_13 : decode cL_setRate 13 = .ok (.astore 4, 2) := by decide +kernel
theorem dL_setRate_15 : decode cL_setRate 15 = .ok (.iconst 1, 1) := by decide +kernel
theorem dL_setRate_16 : decode cL_setRate 16 = .ok (.ireturn, 1) := by decide +kernel
theorem dL_setRate_17 : decode cL_setRate 17 = .ok (.astore 4, 2) := by decide +kernel
theorem dL_setRate_19 : decode cL_setRate 19 = .ok (.iconst 2, 1) := by decide +kernel
theorem dL_setRate_20 : decode cL_setRate 20 = .ok (.ireturn, 1) := by decide +kernel
theorem dL_setRate_21 : decode cL_setRate 21 = .ok (.iconst 0, 1) := by decide +kernel
theorem dL_setRate_22 : decode cL_setRate 22 = .ok (.ireturn, 1) := by decide +kernel
theorem dL_run_0 : decode cL_run 0 = .ok (.aload_n 2, 1) := by decide +kernel
theorem dL_run_1 : decode cL_run 1 = .ok (.iconst 0, 1) := by decide +kernel
theorem dL_run_2 : decode cL_run 2 = .ok (.aload_n 0, 1) := by decide +kernel
theorem dL_run_3 : decode cL_run 3 = .ok (.iload_n 1, 1) := by decide +kernel
theorem dL_run_4 : decode cL_run 4 = .ok (.invokevirtual 36, 3) := by decide +kernel
theorem dL_run_7 : decode cL_run 7 = .ok (.i2l, 1) := by decide +kernel
theorem dL_run_8 : decode cL_run 8 = .ok (.lastore, 1) := by decide +kernel
theorem dL_run_9 : decode cL_run 9 = .ok (.goto 6, 3) := by decide +kernel
theorem dL_run_12 : decode cL_run 12 = .ok (.astore_n 3, 1) := by decide +kernel
theorem dL_run_13 : decode cL_run 13 = .ok (.iconst 1, 1) := by decide +kernel
theorem dL_run_14 : decode cL_run 14 = .ok (.ireturn, 1) := by decide +kernel
theorem dL_run_15 : decode cL_run 15 = .ok (.iconst 0, 1) := by decide +kernel
theorem dL_run_16 : decode cL_run 16 = .ok (.ireturn, 1) := by decide +kernel
theorem dL_runUntil_0 : decode cL_runUntil 0 = .ok (.aload 5, 2) := by decide +kernel
theorem dL_runUntil_2 : decode cL_runUntil 2 = .ok (.iconst 0, 1) := by decide +kernel
theorem dL_runUntil_3 : decode cL_runUntil 3 = .ok (.aload_n 0, 1) := by decide +kernel
theorem dL_runUntil_4 : decode cL_runUntil 4 = .ok (.iload_n 1, 1) := by decide +kernel
theorem dL_runUntil_5 : decode cL_runUntil 5 = .ok (.iload_n 2, 1) := by decide +kernel
theorem dL_runUntil_6 : decode cL_runUntil 6 = .ok (.iload_n 3, 1) := by decide +kernel
theorem dL_runUntil_7 : decode cL_runUntil 7 = .ok (.iload 4, 2) := by decide +kernel
theorem dL_runUntil_9 : decode cL_runUntil 9 = .ok (.invokevirtual 40, 3) := by decide +kernel
theorem dL_runUntil_12 : decode cL_runUntil 12 = .ok (.i2l, 1) := by decide +kernel
theorem dL_runUntil_13 : decode cL_runUntil 13 = .ok (.lastore, 1) := by decide +kernel
theorem dL_runUntil_14 : decode cL_runUntil 14 = .ok (.goto 11, 3) := by decide +kernel
theorem dL_runUntil_17 : decode cL_runUntil 17 = .ok (.astore 6, 2) := by decide +kernel
theorem dL_runUntil_19 : decode cL_runUntil 19 = .ok (.iconst 1, 1) := by decide +kernel
theorem dL_runUntil_20 : decode cL_runUntil 20 = .ok (.ireturn, 1) := by decide +kernel
theorem dL_runUntil_21 : decode cL_runUntil 21 = .ok (.astore 6, 2) := by decide +kernel
theorem dL_runUntil_23 : decode cL_runUntil 23 = .ok (.iconst 2, 1) := by decide +kernel
theorem dL_runUntil_24 : decode cL_runUntil 24 = .ok (.ireturn, 1) := by decide +kernel
theorem dL_runUntil_25 : decode cL_runUntil 25 = .ok (.iconst 0, 1) := by decide +kernel
theorem dL_runUntil_26 : decode cL_runUntil 26 = .ok (.ireturn, 1) := by decide +kernel
theorem dL_nextChange_0 : decode cL_nextChange 0 = .ok (.aload_n 2, 1) := by decide +kernel
theorem dL_nextChange_1 : decode cL_nextChange 1 = .ok (.iconst 0, 1) := by decide +kernel
theorem dL_nextChange_2 : decode cL_nextChange 2 = .ok (.aload_n 0, 1) := by decide +kernel
theorem dL_nextChange_3 : decode cL_nextChange 3 = .ok (.iload_n 1, 1) := by decide +kernel
theorem dL_nextChange_4 : decode cL_nextChange 4 = .ok (.invokevirtual 44, 3) := by decide +kernel
theorem dL_nextChange_7 : decode cL_nextChange 7 = .ok (.i2l, 1) := by decide +kernel
theorem dL_nextChange_8 : decode cL_nextChange 8 = .ok (.lastore, 1) := by decide +kernel
theorem dL_nextChange_9 : decode cL_nextChange 9 = .ok (.goto 6, 3) := by decide +kernel
theorem dL_nextChange_12 : decode cL_nextChange 12 = .ok (.astore_n 3, 1) := by decide +kernel
theorem dL_nextChange_13 : decode cL_nextChange 13 = .ok (.iconst 1, 1) := by decide +kernel
theorem dL_nextChange_14 : decode cL_nextChange 14 = .ok (.ireturn, 1) := by decide +kernel
theorem dL_nextChange_15 : decode cL_nextChange 15 = .ok (.iconst 0, 1) := by decide +kernel
theorem dL_nextChange_16 : decode cL_nextChange 16 = .ok (.ireturn, 1) := by decide +kernel
theorem dL_level_0 : decode cL_level 0 = .ok (.aload_n 2, 1) := by decide +kernel
theorem dL_level_1 : decode cL_level 1 = .ok (.iconst 0, 1) := by decide +kernel
theorem dL_level_2 : decode cL_level 2 = .ok (.aload_n 0, 1) := by decide +kernel
theorem dL_level_3 : decode cL_level 3 = .ok (.iload_n 1, 1) := by decide +kernel
theorem dL_level_4 : decode cL_level 4 = .ok (.invokevirtual 47, 3) := by decide +kernel
theorem dL_level_7 : decode cL_level 7 = .ok (.i2l, 1) := by decide +kernel
theorem dL_level_8 : decode cL_level 8 = .ok (.lastore, 1) := by decide +kernel
theorem dL_level_9 : decode cL_level 9 = .ok (.goto 6, 3) := by decide +kernel
theorem dL_level_12 : decode cL_level 12 = .ok (.astore_n 3, 1) := by decide +kernel
theorem dL_level_13 : decode cL_level 13 = .ok (.iconst 1, 1) := by decide +kernel
theorem dL_level_14 : decode cL_level 14 = .ok (.ireturn, 1) := by decide +kernel
theorem dL_level_15 : decode cL_level 15 = .ok (.iconst 0, 1) := by decide +kernel
theorem dL_level_16 : decode cL_level 16 = .ok (.ireturn, 1) := by decide +kernel
theorem dL_levelSum_0 : decode cL_levelSum 0 = .ok (.aload_n 2, 1) := by decide +kernel
theorem dL_levelSum_1 : decode cL_levelSum 1 = .ok (.iconst 0, 1) := by decide +kernel
theorem dL_levelSum_2 : decode cL_levelSum 2 = .ok (.aload_n 0, 1) := by decide +kernel
theorem dL_levelSum_3 : decode cL_levelSum 3 = .ok (.iload_n 1, 1) := by decide +kernel
theorem dL_levelSum_4 : decode cL_levelSum 4 = .ok (.invokevirtual 50, 3) := by decide +kernel
theorem dL_levelSum_7 : decode cL_levelSum 7 = .ok (.lastore, 1) := by decide +kernel
theorem dL_levelSum_8 : decode cL_levelSum 8 = .ok (.goto 6, 3) := by decide +kernel
theorem dL_levelSum_11 : decode cL_levelSum 11 = .ok (.astore_n 3, 1) := by decide +kernel
theorem dL_levelSum_12 : decode cL_levelSum 12 = .ok (.iconst 1, 1) := by decide +kernel
theorem dL_levelSum_13 : decode cL_levelSum 13 = .ok (.ireturn, 1) := by decide +kernel
theorem dL_levelSum_14 : decode cL_levelSum 14 = .ok (.iconst 0, 1) := by decide +kernel
theorem dL_levelSum_15 : decode cL_levelSum 15 = .ok (.ireturn, 1) := by decide +kernel
theorem dL_meanLevel_0 : decode cL_meanLevel 0 = .ok (.aload_n 2, 1) := by decide +kernel
theorem dL_meanLevel_1 : decode cL_meanLevel 1 = .ok (.iconst 0, 1) := by decide +kernel
theorem dL_meanLevel_2 : decode cL_meanLevel 2 = .ok (.aload_n 0, 1) := by decide +kernel
theorem dL_meanLevel_3 : decode cL_meanLevel 3 = .ok (.iload_n 1, 1) := by decide +kernel
theorem dL_meanLevel_4 : decode cL_meanLevel 4 = .ok (.invokevirtual 54, 3) := by decide +kernel
theorem dL_meanLevel_7 : decode cL_meanLevel 7 = .ok (.dastore, 1) := by decide +kernel
theorem dL_meanLevel_8 : decode cL_meanLevel 8 = .ok (.goto 6, 3) := by decide +kernel
theorem dL_meanLevel_11 : decode cL_meanLevel 11 = .ok (.astore_n 3, 1) := by decide +kernel
theorem dL_meanLevel_12 : decode cL_meanLevel 12 = .ok (.iconst 1, 1) := by decide +kernel
theorem dL_meanLevel_13 : decode cL_meanLevel 13 = .ok (.ireturn, 1) := by decide +kernel
theorem dL_meanLevel_14 : decode cL_meanLevel 14 = .ok (.iconst 0, 1) := by decide +kernel
theorem dL_meanLevel_15 : decode cL_meanLevel 15 = .ok (.ireturn, 1) := by decide +kernel
theorem dL_isOn_0 : decode cL_isOn 0 = .ok (.aload_n 2, 1) := by decide +kernel
theorem dL_isOn_1 : decode cL_isOn 1 = .ok (.iconst 0, 1) := by decide +kernel
theorem dL_isOn_2 : decode cL_isOn 2 = .ok (.aload_n 0, 1) := by decide +kernel
theorem dL_isOn_3 : decode cL_isOn 3 = .ok (.iload_n 1, 1) := by decide +kernel
theorem dL_isOn_4 : decode cL_isOn 4 = .ok (.invokevirtual 58, 3) := by decide +kernel
theorem dL_isOn_7 : decode cL_isOn 7 = .ok (.ifCond .eq 7, 3) := by decide +kernel
theorem dL_isOn_10 : decode cL_isOn 10 = .ok (.lconst 1, 1) := by decide +kernel
theorem dL_isOn_11 : decode cL_isOn 11 = .ok (.goto 4, 3) := by decide +kernel
theorem dL_isOn_14 : decode cL_isOn 14 = .ok (.lconst 0, 1) := by decide +kernel
theorem dL_isOn_15 : decode cL_isOn 15 = .ok (.lastore, 1) := by decide +kernel
theorem dL_isOn_16 : decode cL_isOn 16 = .ok (.goto 6, 3) := by decide +kernel
theorem dL_isOn_19 : decode cL_isOn 19 = .ok (.astore_n 3, 1) := by decide +kernel
theorem dL_isOn_20 : decode cL_isOn 20 = .ok (.iconst 1, 1) := by decide +kernel
theorem dL_isOn_21 : decode cL_isOn 21 = .ok (.ireturn, 1) := by decide +kernel
theorem dL_isOn_22 : decode cL_isOn 22 = .ok (.iconst 0, 1) := by decide +kernel
theorem dL_isOn_23 : decode cL_isOn 23 = .ok (.ireturn, 1) := by decide +kernel
theorem dL_total_0 : decode cL_total 0 = .ok (.aload_n 2, 1) := by decide +kernel
theorem dL_total_1 : decode cL_total 1 = .ok (.iconst 0, 1) := by decide +kernel
theorem dL_total_2 : decode cL_total 2 = .ok (.aload_n 0, 1) := by decide +kernel
theorem dL_total_3 : decode cL_total 3 = .ok (.iload_n 1, 1) := by decide +kernel
theorem dL_total_4 : decode cL_total 4 = .ok (.invokevirtual 62, 3) := by decide +kernel
theorem dL_total_7 : decode cL_total 7 = .ok (.lastore, 1) := by decide +kernel
theorem dL_total_8 : decode cL_total 8 = .ok (.goto 6, 3) := by decide +kernel
theorem dL_total_11 : decode cL_total 11 = .ok (.astore_n 3, 1) := by decide +kernel
theorem dL_total_12 : decode cL_total 12 = .ok (.iconst 1, 1) := by decide +kernel
theorem dL_total_13 : decode cL_total 13 = .ok (.ireturn, 1) := by decide +kernel
theorem dL_total_14 : decode cL_total 14 = .ok (.iconst 0, 1) := by decide +kernel
theorem dL_total_15 : decode cL_total 15 = .ok (.ireturn, 1) := by decide +kernel
theorem dL_energy_0 : decode cL_energy 0 = .ok (.aload_n 2, 1) := by decide +kernel
theorem dL_energy_1 : decode cL_energy 1 = .ok (.iconst 0, 1) := by decide +kernel
theorem dL_energy_2 : decode cL_energy 2 = .ok (.aload_n 0, 1) := by decide +kernel
theorem dL_energy_3 : decode cL_energy 3 = .ok (.iload_n 1, 1) := by decide +kernel
theorem dL_energy_4 : decode cL_energy 4 = .ok (.invokevirtual 65, 3) := by decide +kernel
theorem dL_energy_7 : decode cL_energy 7 = .ok (.lastore, 1) := by decide +kernel
theorem dL_energy_8 : decode cL_energy 8 = .ok (.goto 6, 3) := by decide +kernel
theorem dL_energy_11 : decode cL_energy 11 = .ok (.astore_n 3, 1) := by decide +kernel
theorem dL_energy_12 : decode cL_energy 12 = .ok (.iconst 1, 1) := by decide +kernel
theorem dL_energy_13 : decode cL_energy 13 = .ok (.ireturn, 1) := by decide +kernel
theorem dL_energy_14 : decode cL_energy 14 = .ok (.iconst 0, 1) := by decide +kernel
theorem dL_energy_15 : decode cL_energy 15 = .ok (.ireturn, 1) := by decide +kernel
theorem dL_shortTicks_0 : decode cL_shortTicks 0 = .ok (.aload_n 2, 1) := by decide +kernel
theorem dL_shortTicks_1 : decode cL_shortTicks 1 = .ok (.iconst 0, 1) := by decide +kernel
theorem dL_shortTicks_2 : decode cL_shortTicks 2 = .ok (.aload_n 0, 1) := by decide +kernel
theorem dL_shortTicks_3 : decode cL_shortTicks 3 = .ok (.iload_n 1, 1) := by decide +kernel
theorem dL_shortTicks_4 : decode cL_shortTicks 4 = .ok (.invokevirtual 68, 3) := by decide +kernel
theorem dL_shortTicks_7 : decode cL_shortTicks 7 = .ok (.lastore, 1) := by decide +kernel
theorem dL_shortTicks_8 : decode cL_shortTicks 8 = .ok (.goto 6, 3) := by decide +kernel
theorem dL_shortTicks_11 : decode cL_shortTicks 11 = .ok (.astore_n 3, 1) := by decide +kernel
theorem dL_shortTicks_12 : decode cL_shortTicks 12 = .ok (.iconst 1, 1) := by decide +kernel
theorem dL_shortTicks_13 : decode cL_shortTicks 13 = .ok (.ireturn, 1) := by decide +kernel
theorem dL_shortTicks_14 : decode cL_shortTicks 14 = .ok (.iconst 0, 1) := by decide +kernel
theorem dL_shortTicks_15 : decode cL_shortTicks 15 = .ok (.ireturn, 1) := by decide +kernel
theorem dL_changeTime_0 : decode cL_changeTime 0 = .ok (.aload_n 2, 1) := by decide +kernel
theorem dL_changeTime_1 : decode cL_changeTime 1 = .ok (.iconst 0, 1) := by decide +kernel
theorem dL_changeTime_2 : decode cL_changeTime 2 = .ok (.aload_n 0, 1) := by decide +kernel
theorem dL_changeTime_3 : decode cL_changeTime 3 = .ok (.iload_n 1, 1) := by decide +kernel
theorem dL_changeTime_4 : decode cL_changeTime 4 = .ok (.invokevirtual 71, 3) := by decide +kernel
theorem dL_changeTime_7 : decode cL_changeTime 7 = .ok (.lastore, 1) := by decide +kernel
theorem dL_changeTime_8 : decode cL_changeTime 8 = .ok (.goto 6, 3) := by decide +kernel
theorem dL_changeTime_11 : decode cL_changeTime 11 = .ok (.astore_n 3, 1) := by decide +kernel
theorem dL_changeTime_12 : decode cL_changeTime 12 = .ok (.iconst 1, 1) := by decide +kernel
theorem dL_changeTime_13 : decode cL_changeTime 13 = .ok (.ireturn, 1) := by decide +kernel
theorem dL_changeTime_14 : decode cL_changeTime 14 = .ok (.iconst 0, 1) := by decide +kernel
theorem dL_changeTime_15 : decode cL_changeTime 15 = .ok (.ireturn, 1) := by decide +kernel
theorem dL_changeSwitch_0 : decode cL_changeSwitch 0 = .ok (.aload_n 2, 1) := by decide +kernel
theorem dL_changeSwitch_1 : decode cL_changeSwitch 1 = .ok (.iconst 0, 1) := by decide +kernel
theorem dL_changeSwitch_2 : decode cL_changeSwitch 2 = .ok (.aload_n 0, 1) := by decide +kernel
theorem dL_changeSwitch_3 : decode cL_changeSwitch 3 = .ok (.iload_n 1, 1) := by decide +kernel
theorem dL_changeSwitch_4 : decode cL_changeSwitch 4 = .ok (.invokevirtual 74, 3) := by decide +kernel
theorem dL_changeSwitch_7 : decode cL_changeSwitch 7 = .ok (.i2l, 1) := by decide +kernel
theorem dL_changeSwitch_8 : decode cL_changeSwitch 8 = .ok (.lastore, 1) := by decide +kernel
theorem dL_changeSwitch_9 : decode cL_changeSwitch 9 = .ok (.goto 6, 3) := by decide +kernel
theorem dL_changeSwitch_12 : decode cL_changeSwitch 12 = .ok (.astore_n 3, 1) := by decide +kernel
theorem dL_changeSwitch_13 : decode cL_changeSwitch 13 = .ok (.iconst 1, 1) := by decide +kernel
theorem dL_changeSwitch_14 : decode cL_changeSwitch 14 = .ok (.ireturn, 1) := by decide +kernel
theorem dL_changeSwitch_15 : decode cL_changeSwitch 15 = .ok (.iconst 0, 1) := by decide +kernel
theorem dL_changeSwitch_16 : decode cL_changeSwitch 16 = .ok (.ireturn, 1) := by decide +kernel
theorem dL_save_0 : decode cL_save 0 = .ok (.aload_n 1, 1) := by decide +kernel
theorem dL_save_1 : decode cL_save 1 = .ok (.iconst 0, 1) := by decide +kernel
theorem dL_save_2 : decode cL_save 2 = .ok (.aload_n 0, 1) := by decide +kernel
theorem dL_save_3 : decode cL_save 3 = .ok (.invokevirtual 77, 3) := by decide +kernel
theorem dL_save_6 : decode cL_save 6 = .ok (.i2l, 1) := by decide +kernel
theorem dL_save_7 : decode cL_save 7 = .ok (.lastore, 1) := by decide +kernel
theorem dL_save_8 : decode cL_save 8 = .ok (.goto 6, 3) := by decide +kernel
theorem dL_save_11 : decode cL_save 11 = .ok (.astore_n 2, 1) := by decide +kernel
theorem dL_save_12 : decode cL_save 12 = .ok (.iconst 1, 1) := by decide +kernel
theorem dL_save_13 : decode cL_save 13 = .ok (.ireturn, 1) := by decide +kernel
theorem dL_save_14 : decode cL_save 14 = .ok (.iconst 0, 1) := by decide +kernel
theorem dL_save_15 : decode cL_save 15 = .ok (.ireturn, 1) := by decide +kernel
theorem dL_restore_0 : decode cL_restore 0 = .ok (.aload_n 1, 1) := by decide +kernel
theorem dL_restore_1 : decode cL_restore 1 = .ok (.iconst 0, 1) := by decide +kernel
theorem dL_restore_2 : decode cL_restore 2 = .ok (.aload_n 0, 1) := by decide +kernel
theorem dL_restore_3 : decode cL_restore 3 = .ok (.invokevirtual 81, 3) := by decide +kernel
theorem dL_restore_6 : decode cL_restore 6 = .ok (.i2l, 1) := by decide +kernel
theorem dL_restore_7 : decode cL_restore 7 = .ok (.lastore, 1) := by decide +kernel
theorem dL_restore_8 : decode cL_restore 8 = .ok (.goto 6, 3) := by decide +kernel
theorem dL_restore_11 : decode cL_restore 11 = .ok (.astore_n 2, 1) := by decide +kernel
theorem dL_restore_12 : decode cL_restore 12 = .ok (.iconst 1, 1) := by decide +kernel
theorem dL_restore_13 : decode cL_restore 13 = .ok (.ireturn, 1) := by decide +kernel
theorem dL_restore_14 : decode cL_restore 14 = .ok (.iconst 0, 1) := by decide +kernel
theorem dL_restore_15 : decode cL_restore 15 = .ok (.ireturn, 1) := by decide +kernel
theorem dL_law_0 : decode cL_law 0 = .ok (.new 8, 3) := by decide +kernel
theorem dL_law_3 : decode cL_law 3 = .ok (.dup, 1) := by decide +kernel
theorem dL_law_4 : decode cL_law 4 = .ok (.invokespecial 84, 3) := by decide +kernel
theorem dL_law_7 : decode cL_law 7 = .ok (.astore_n 1, 1) := by decide +kernel
theorem dL_law_8 : decode cL_law 8 = .ok (.new 85, 3) := by decide +kernel
theorem dL_law_11 : decode cL_law 11 = .ok (.dup, 1) := by decide +kernel
theorem dL_law_12 : decode cL_law 12 = .ok (.invokespecial 87, 3) := by decide +kernel
theorem dL_law_15 : decode cL_law 15 = .ok (.astore_n 2, 1) := by decide +kernel
theorem dL_law_16 : decode cL_law 16 = .ok (.iconst 1, 1) := by decide +kernel
theorem dL_law_17 : decode cL_law 17 = .ok (.newarray .long, 2) := by decide +kernel
theorem dL_law_19 : decode cL_law 19 = .ok (.astore_n 3, 1) := by decide +kernel
theorem dL_law_20 : decode cL_law 20 = .ok (.iconst 1, 1) := by decide +kernel
theorem dL_law_21 : decode cL_law 21 = .ok (.newarray .double, 2) := by decide +kernel
theorem dL_law_23 : decode cL_law 23 = .ok (.astore 4, 2) := by decide +kernel
theorem dL_law_25 : decode cL_law 25 = .ok (.iconst 0, 1) := by decide +kernel
theorem dL_law_26 : decode cL_law 26 = .ok (.istore 5, 2) := by decide +kernel
theorem dL_law_28 : decode cL_law 28 = .ok (.iload 5, 2) := by decide +kernel
theorem dL_law_30 : decode cL_law 30 = .ok (.aload_n 0, 1) := by decide +kernel
theorem dL_law_31 : decode cL_law 31 = .ok (.arraylength, 1) := by decide +kernel
theorem dL_law_32 : decode cL_law 32 = .ok (.bipush 7, 2) := by decide +kernel
theorem dL_law_34 : decode cL_law 34 = .ok (.isub, 1) := by decide +kernel
theorem dL_law_35 : decode cL_law 35 = .ok (.if_icmp .gt 1516, 3) := by decide +kernel
theorem dL_law_38 : decode cL_law 38 = .ok (.aload_n 0, 1) := by decide +kernel
theorem dL_law_39 : decode cL_law 39 = .ok (.iload 5, 2) := by decide +kernel
theorem dL_law_41 : decode cL_law 41 = .ok (.iaload, 1) := by decide +kernel
theorem dL_law_42 : decode cL_law 42 = .ok (.bipush 31, 2) := by decide +kernel
theorem dL_law_44 : decode cL_law 44 = .ok (.iand, 1) := by decide +kernel
theorem dL_law_45 : decode cL_law 45 = .ok (.tableswitch 1500 0 23 #[111, 191, 271, 405, 473, 541, 609, 665, 773, 829, 843, 899, 954, 1031, 1094, 1149, 1204, 1259, 1273, 1287, 1342, 1398, 1442, 1486], 111) := by decide +kernel
theorem dL_law_156 : decode cL_law 156 = .ok (.aload_n 1, 1) := by decide +kernel
theorem dL_law_157 : decode cL_law 157 = .ok (.aload_n 0, 1) := by decide +kernel
theorem dL_law_158 : decode cL_law 158 = .ok (.iload 5, 2) := by decide +kernel
theorem dL_law_160 : decode cL_law 160 = .ok (.iconst 1, 1) := by decide +kernel
theorem dL_law_161 : decode cL_law 161 = .ok (.iadd, 1) := by decide +kernel
theorem dL_law_162 : decode cL_law 162 = .ok (.iaload, 1) := by decide +kernel
theorem dL_law_163 : decode cL_law 163 = .ok (.aload_n 0, 1) := by decide +kernel
theorem dL_law_164 : decode cL_law 164 = .ok (.iload 5, 2) := by decide +kernel
theorem dL_law_166 : decode cL_law 166 = .ok (.iconst 2, 1) := by decide +kernel
theorem dL_law_167 : decode cL_law 167 = .ok (.iadd, 1) := by decide +kernel
theorem dL_law_168 : decode cL_law 168 = .ok (.iaload, 1) := by decide +kernel
theorem dL_law_169 : decode cL_law 169 = .ok (.aload_n 0, 1) := by decide +kernel
theorem dL_law_170 : decode cL_law 170 = .ok (.iload 5, 2) := by decide +kernel
theorem dL_law_172 : decode cL_law 172 = .ok (.iconst 3, 1) := by decide +kernel
theorem dL_law_173 : decode cL_law 173 = .ok (.iadd, 1) := by decide +kernel
theorem dL_law_174 : decode cL_law 174 = .ok (.iaload, 1) := by decide +kernel
theorem dL_law_175 : decode cL_law 175 = .ok (.aload_n 3, 1) := by decide +kernel
theorem dL_law_176 : decode cL_law 176 = .ok (.invokestatic 88, 3) := by decide +kernel
theorem dL_law_179 : decode cL_law 179 = .ok (.istore 6, 2) := by decide +kernel
theorem dL_law_181 : decode cL_law 181 = .ok (.aload_n 2, 1) := by decide +kernel
theorem dL_law_182 : decode cL_law 182 = .ok (.aload_n 0, 1) := by decide +kernel
theorem dL_law_183 : decode cL_law 183 = .ok (.iload 5, 2) := by decide +kernel
theorem dL_law_185 : decode cL_law 185 = .ok (.iconst 1, 1) := by decide +kernel
theorem dL_law_186 : decode cL_law 186 = .ok (.iadd, 1) := by decide +kernel
theorem dL_law_187 : decode cL_law 187 = .ok (.iaload, 1) := by decide +kernel
theorem dL_law_188 : decode cL_law 188 = .ok (.aload_n 0, 1) := by decide +kernel
theorem dL_law_189 : decode cL_law 189 = .ok (.iload 5, 2) := by decide +kernel
theorem dL_law_191 : decode cL_law 191 = .ok (.iconst 2, 1) := by decide +kernel
theorem dL_law_192 : decode cL_law 192 = .ok (.iadd, 1) := by decide +kernel
theorem dL_law_193 : decode cL_law 193 = .ok (.iaload, 1) := by decide +kernel
theorem dL_law_194 : decode cL_law 194 = .ok (.aload_n 0, 1) := by decide +kernel
theorem dL_law_195 : decode cL_law 195 = .ok (.iload 5, 2) := by decide +kernel
theorem dL_law_197 : decode cL_law 197 = .ok (.iconst 3, 1) := by decide +kernel
theorem dL_law_198 : decode cL_law 198 = .ok (.iadd, 1) := by decide +kernel
theorem dL_law_199 : decode cL_law 199 = .ok (.iaload, 1) := by decide +kernel
theorem dL_law_200 : decode cL_law 200 = .ok (.invokevirtual 93, 3) := by decide +kernel
theorem dL_law_203 : decode cL_law 203 = .ok (.istore 7, 2) := by decide +kernel
theorem dL_law_205 : decode cL_law 205 = .ok (.aload_n 2, 1) := by decide +kernel
theorem dL_law_206 : decode cL_law 206 = .ok (.invokevirtual 94, 3) := by decide +kernel
theorem dL_law_209 : decode cL_law 209 = .ok (.iload 6, 2) := by decide +kernel
theorem dL_law_211 : decode cL_law 211 = .ok (.if_icmp .eq 5, 3) := by decide +kernel
theorem dL_law_214 : decode cL_law 214 = .ok (.iconst 0, 1) := by decide +kernel
theorem dL_law_215 : decode cL_law 215 = .ok (.ireturn, 1) := by decide +kernel
theorem dL_law_216 : decode cL_law 216 = .ok (.iload 6, 2) := by decide +kernel
theorem dL_law_218 : decode cL_law 218 = .ok (.ifCond .ne 15, 3) := by decide +kernel
theorem dL_law_221 : decode cL_law 221 = .ok (.aload_n 3, 1) := by decide +kernel
theorem dL_law_222 : decode cL_law 222 = .ok (.iconst 0, 1) := by decide +kernel
theorem dL_law_223 : decode cL_law 223 = .ok (.laload, 1) := by decide +kernel
theorem dL_law_224 : decode cL_law 224 = .ok (.iload 7, 2) := by decide +kernel
theorem dL_law_226 : decode cL_law 226 = .ok (.i2l, 1) := by decide +kernel
theorem dL_law_227 : decode cL_law 227 = .ok (.lcmp, 1) := by decide +kernel
theorem dL_law_228 : decode cL_law 228 = .ok (.ifCond .eq 5, 3) := by decide +kernel
theorem dL_law_231 : decode cL_law 231 = .ok (.iconst 0, 1) := by decide +kernel
theorem dL_law_232 : decode cL_law 232 = .ok (.ireturn, 1) := by decide +kernel
theorem dL_law_233 : decode cL_law 233 = .ok (.goto 1312, 3) := by decide +kernel
theorem dL_law_236 : decode cL_law 236 = .ok (.aload_n 1, 1) := by decide +kernel
theorem dL_law_237 : decode cL_law 237 = .ok (.aload_n 0, 1) := by decide +kernel
theorem dL_law_238 : decode cL_law 238 = .ok (.iload 5, 2) := by decide +kernel
theorem dL_law_240 : decode cL_law 240 = .ok (.iconst 1, 1) := by decide +kernel
theorem dL_law_241 : decode cL_law 241 = .ok (.iadd, 1) := by decide +kernel
theorem dL_law_242 : decode cL_law 242 = .ok (.iaload, 1) := by decide +kernel
theorem dL_law_243 : decode cL_law 243 = .ok (.aload_n 0, 1) := by decide +kernel
theorem dL_law_244 : decode cL_law 244 = .ok (.iload 5, 2) := by decide +kernel
theorem dL_law_246 : decode cL_law 246 = .ok (.iconst 2, 1) := by decide +kernel
theorem dL_law_247 : decode cL_law 247 = .ok (.iadd, 1) := by decide +kernel
theorem dL_law_248 : decode cL_law 248 = .ok (.iaload, 1) := by decide +kernel
theorem dL_law_249 : decode cL_law 249 = .ok (.aload_n 0, 1) := by decide +kernel
theorem dL_law_250 : decode cL_law 250 = .ok (.iload 5, 2) := by decide +kernel
theorem dL_law_252 : decode cL_law 252 = .ok (.iconst 3, 1) := by decide +kernel
theorem dL_law_253 : decode cL_law 253 = .ok (.iadd, 1) := by decide +kernel
theorem dL_law_254 : decode cL_law 254 = .ok (.iaload, 1) := by decide +kernel
theorem dL_law_255 : decode cL_law 255 = .ok (.aload_n 3, 1) := by decide +kernel
theorem dL_law_256 : decode cL_law 256 = .ok (.invokestatic 97, 3) := by decide +kernel
theorem dL_law_259 : decode cL_law 259 = .ok (.istore 6, 2) := by decide +kernel
theorem dL_law_261 : decode cL_law 261 = .ok (.aload_n 2, 1) := by decide +kernel
theorem dL_law_262 : decode cL_law 262 = .ok (.aload_n 0, 1) := by decide +kernel
theorem dL_law_263 : decode cL_law 263 = .ok (.iload 5, 2) := by decide +kernel
theorem dL_law_265 : decode cL_law 265 = .ok (.iconst 1, 1) := by decide +kernel
theorem dL_law_266 : decode cL_law 266 = .ok (.iadd, 1) := by decide +kernel
theorem dL_law_267 : decode cL_law 267 = .ok (.iaload, 1) := by decide +kernel
theorem dL_law_268 : decode cL_law 268 = .ok (.aload_n 0, 1) := by decide +kernel
theorem dL_law_269 : decode cL_law 269 = .ok (.iload 5, 2) := by decide +kernel
theorem dL_law_271 : decode cL_law 271 = .ok (.iconst 2, 1) := by decide +kernel
theorem dL_law_272 : decode cL_law 272 = .ok (.iadd, 1) := by decide +kernel
theorem dL_law_273 : decode cL_law 273 = .ok (.iaload, 1) := by decide +kernel
theorem dL_law_274 : decode cL_law 274 = .ok (.aload_n 0, 1) := by decide +kernel
theorem dL_law_275 : decode cL_law 275 = .ok (.iload 5, 2) := by decide +kernel
theorem dL_law_277 : decode cL_law 277 = .ok (.iconst 3, 1) := by decide +kernel
theorem dL_law_278 : decode cL_law 278 = .ok (.iadd, 1) := by decide +kernel
theorem dL_law_279 : decode cL_law 279 = .ok (.iaload, 1) := by decide +kernel
theorem dL_law_280 : decode cL_law 280 = .ok (.invokevirtual 99, 3) := by decide +kernel
theorem dL_law_283 : decode cL_law 283 = .ok (.istore 7, 2) := by decide +kernel
theorem dL_law_285 : decode cL_law 285 = .ok (.aload_n 2, 1) := by decide +kernel
theorem dL_law_286 : decode cL_law 286 = .ok (.invokevirtual 94, 3) := by decide +kernel
theorem dL_law_289 : decode cL_law 289 = .ok (.iload 6, 2) := by decide +kernel
theorem dL_law_291 : decode cL_law 291 = .ok (.if_icmp .eq 5, 3) := by decide +kernel
theorem dL_law_294 : decode cL_law 294 = .ok (.iconst 0, 1) := by decide +kernel
theorem dL_law_295 : decode cL_law 295 = .ok (.ireturn, 1) := by decide +kernel
theorem dL_law_296 : decode cL_law 296 = .ok (.iload 6, 2) := by decide +kernel
theorem dL_law_298 : decode cL_law 298 = .ok (.ifCond .ne 15, 3) := by decide +kernel
theorem dL_law_301 : decode cL_law 301 = .ok (.aload_n 3, 1) := by decide +kernel
theorem dL_law_302 : decode cL_law 302 = .ok (.iconst 0, 1) := by decide +kernel
theorem dL_law_303 : decode cL_law 303 = .ok (.laload, 1) := by decide +kernel
theorem dL_law_304 : decode cL_law 304 = .ok (.iload 7, 2) := by decide +kernel
theorem dL_law_306 : decode cL_law 306 = .ok (.i2l, 1) := by decide +kernel
theorem dL_law_307 : decode cL_law 307 = .ok (.lcmp, 1) := by decide +kernel
theorem dL_law_308 : decode cL_law 308 = .ok (.ifCond .eq 5, 3) := by decide +kernel
theorem dL_law_311 : decode cL_law 311 = .ok (.iconst 0, 1) := by decide +kernel
theorem dL_law_312 : decode cL_law 312 = .ok (.ireturn, 1) := by decide +kernel
theorem dL_law_313 : decode cL_law 313 = .ok (.goto 1232, 3) := by decide +kernel
theorem dL_law_316 : decode cL_law 316 = .ok (.aload_n 1, 1) := by decide +kernel
theorem dL_law_317 : decode cL_law 317 = .ok (.aload_n 0, 1) := by decide +kernel
theorem dL_law_318 : decode cL_law 318 = .ok (.iload 5, 2) := by decide +kernel
theorem dL_law_320 : decode cL_law 320 = .ok (.iconst 1, 1) := by decide +kernel
theorem dL_law_321 : decode cL_law 321 = .ok (.iadd, 1) := by decide +kernel
theorem dL_law_322 : decode cL_law 322 = .ok (.iaload, 1) := by decide +kernel
theorem dL_law_323 : decode cL_law 323 = .ok (.aload_n 0, 1) := by decide +kernel
theorem dL_law_324 : decode cL_law 324 = .ok (.iload 5, 2) := by decide +kernel
theorem dL_law_326 : decode cL_law 326 = .ok (.iconst 2, 1) := by decide +kernel
theorem dL_law_327 : decode cL_law 327 = .ok (.iadd, 1) := by decide +kernel
theorem dL_law_328 : decode cL_law 328 = .ok (.iaload, 1) := by decide +kernel
theorem dL_law_329 : decode cL_law 329 = .ok (.aload_n 0, 1) := by decide +kernel
theorem dL_law_330 : decode cL_law 330 = .ok (.iload 5, 2) := by decide +kernel
theorem dL_law_332 : decode cL_law 332 = .ok (.iconst 3, 1) := by decide +kernel
theorem dL_law_333 : decode cL_law 333 = .ok (.iadd, 1) := by decide +kernel
theorem dL_law_334 : decode cL_law 334 = .ok (.iaload, 1) := by decide +kernel
theorem dL_law_335 : decode cL_law 335 = .ok (.aload_n 0, 1) := by decide +kernel
theorem dL_law_336 : decode cL_law 336 = .ok (.iload 5, 2) := by decide +kernel
theorem dL_law_338 : decode cL_law 338 = .ok (.iconst 4, 1) := by decide +kernel
theorem dL_law_339 : decode cL_law 339 = .ok (.iadd, 1) := by decide +kernel
theorem dL_law_340 : decode cL_law 340 = .ok (.iaload, 1) := by decide +kernel
theorem dL_law_341 : decode cL_law 341 = .ok (.aload_n 0, 1) := by decide +kernel
theorem dL_law_342 : decode cL_law 342 = .ok (.iload 5, 2) := by decide +kernel
theorem dL_law_344 : decode cL_law 344 = .ok (.iconst 5, 1) := by decide +kernel
theorem dL_law_345 : decode cL_law 345 = .ok (.iadd, 1) := by decide +kernel
theorem dL_law_346 : decode cL_law 346 = .ok (.iaload, 1) := by decide +kernel
theorem dL_law_347 : decode cL_law 347 = .ok (.aload_n 0, 1) := by decide +kernel
theorem dL_law_348 : decode cL_law 348 = .ok (.iload 5, 2) := by decide +kernel
theorem dL_law_350 : decode cL_law 350 = .ok (.bipush 6, 2) := by decide +kernel
theorem dL_law_352 : decode cL_law 352 = .ok (.iadd, 1) := by decide +kernel
theorem dL_law_353 : decode cL_law 353 = .ok (.iaload, 1) := by decide +kernel
theorem dL_law_354 : decode cL_law 354 = .ok (.ifCond .eq 7, 3) := by decide +kernel
theorem dL_law_357 : decode cL_law 357 = .ok (.iconst 1, 1) := by decide +kernel
theorem dL_law_358 : decode cL_law 358 = .ok (.goto 4, 3) := by decide +kernel
theorem dL_law_361 : decode cL_law 361 = .ok (.iconst 0, 1) := by decide +kernel
theorem dL_law_362 : decode cL_law 362 = .ok (.aload_n 3, 1) := by decide +kernel
theorem dL_law_363 : decode cL_law 363 = .ok (.invokestatic 100, 3) := by decide +kernel
theorem dL_law_366 : decode cL_law 366 = .ok (.istore 6, 2) := by decide +kernel
theorem dL_law_368 : decode cL_law 368 = .ok (.aload_n 2, 1) := by decide +kernel
theorem dL_law_369 : decode cL_law 369 = .ok (.aload_n 0, 1) := by decide +kernel
theorem dL_law_370 : decode cL_law 370 = .ok (.iload 5, 2) := by decide +kernel
theorem dL_law_372 : decode cL_law 372 = .ok (.iconst 1, 1) := by decide +kernel
theorem dL_law_373 : decode cL_law 373 = .ok (.iadd, 1) := by decide +kernel
theorem dL_law_374 : decode cL_law 374 = .ok (.iaload, 1) := by decide +kernel
theorem dL_law_375 : decode cL_law 375 = .ok (.aload_n 0, 1) := by decide +kernel
theorem dL_law_376 : decode cL_law 376 = .ok (.iload 5, 2) := by decide +kernel
theorem dL_law_378 : decode cL_law 378 = .ok (.iconst 2, 1) := by decide +kernel
theorem dL_law_379 : decode cL_law 379 = .ok (.iadd, 1) := by decide +kernel
theorem dL_law_380 : decode cL_law 380 = .ok (.iaload, 1) := by decide +kernel
theorem dL_law_381 : decode cL_law 381 = .ok (.aload_n 0, 1) := by decide +kernel
theorem dL_law_382 : decode cL_law 382 = .ok (.iload 5, 2) := by decide +kernel
theorem dL_law_384 : decode cL_law 384 = .ok (.iconst 3, 1) := by decide +kernel
theorem dL_law_385 : decode cL_law 385 = .ok (.iadd, 1) := by decide +kernel
theorem dL_law_386 : decode cL_law 386 = .ok (.iaload, 1) := by decide +kernel
theorem dL_law_387 : decode cL_law 387 = .ok (.aload_n 0, 1) := by decide +kernel
theorem dL_law_388 : decode cL_law 388 = .ok (.iload 5, 2) := by decide +kernel
theorem dL_law_390 : decode cL_law 390 = .ok (.iconst 4, 1) := by decide +kernel
theorem dL_law_391 : decode cL_law 391 = .ok (.iadd, 1) := by decide +kernel
theorem dL_law_392 : decode cL_law 392 = .ok (.iaload, 1) := by decide +kernel
theorem dL_law_393 : decode cL_law 393 = .ok (.aload_n 0, 1) := by decide +kernel
theorem dL_law_394 : decode cL_law 394 = .ok (.iload 5, 2) := by decide +kernel
theorem dL_law_396 : decode cL_law 396 = .ok (.iconst 5, 1) := by decide +kernel
theorem dL_law_397 : decode cL_law 397 = .ok (.iadd, 1) := by decide +kernel
theorem dL_law_398 : decode cL_law 398 = .ok (.iaload, 1) := by decide +kernel
theorem dL_law_399 : decode cL_law 399 = .ok (.aload_n 0, 1) := by decide +kernel
theorem dL_law_400 : decode cL_law 400 = .ok (.iload 5, 2) := by decide +kernel
theorem dL_law_402 : decode cL_law 402 = .ok (.bipush 6, 2) := by decide +kernel
theorem dL_law_404 : decode cL_law 404 = .ok (.iadd, 1) := by decide +kernel
theorem dL_law_405 : decode cL_law 405 = .ok (.iaload, 1) := by decide +kernel
theorem dL_law_406 : decode cL_law 406 = .ok (.ifCond .eq 7, 3) := by decide +kernel
theorem dL_law_409 : decode cL_law 409 = .ok (.iconst 1, 1) := by decide +kernel
theorem dL_law_410 : decode cL_law 410 = .ok (.goto 4, 3) := by decide +kernel
theorem dL_law_413 : decode cL_law 413 = .ok (.iconst 0, 1) := by decide +kernel
theorem dL_law_414 : decode cL_law 414 = .ok (.invokevirtual 103, 3) := by decide +kernel
theorem dL_law_417 : decode cL_law 417 = .ok (.istore 7, 2) := by decide +kernel
theorem dL_law_419 : decode cL_law 419 = .ok (.aload_n 2, 1) := by decide +kernel
theorem dL_law_420 : decode cL_law 420 = .ok (.invokevirtual 94, 3) := by decide +kernel
theorem dL_law_423 : decode cL_law 423 = .ok (.iload 6, 2) := by decide +kernel
theorem dL_law_425 : decode cL_law 425 = .ok (.if_icmp .eq 5, 3) := by decide +kernel
theorem dL_law_428 : decode cL_law 428 = .ok (.iconst 0, 1) := by decide +kernel
theorem dL_law_429 : decode cL_law 429 = .ok (.ireturn, 1) := by decide +kernel
theorem dL_law_430 : decode cL_law 430 = .ok (.iload 6, 2) := by decide +kernel
theorem dL_law_432 : decode cL_law 432 = .ok (.ifCond .ne 15, 3) := by decide +kernel
theorem dL_law_435 : decode cL_law 435 = .ok (.aload_n 3, 1) := by decide +kernel
theorem dL_law_436 : decode cL_law 436 = .ok (.iconst 0, 1) := by decide +kernel
theorem dL_law_437 : decode cL_law 437 = .ok (.laload, 1) := by decide +kernel
theorem dL_law_438 : decode cL_law 438 = .ok (.iload 7, 2) := by decide +kernel
theorem dL_law_440 : decode cL_law 440 = .ok (.i2l, 1) := by decide +kernel
theorem dL_law_441 : decode cL_law 441 = .ok (.lcmp, 1) := by decide +kernel
theorem dL_law_442 : decode cL_law 442 = .ok (.ifCond .eq 5, 3) := by decide +kernel
theorem dL_law_445 : decode cL_law 445 = .ok (.iconst 0, 1) := by decide +kernel
theorem dL_law_446 : decode cL_law 446 = .ok (.ireturn, 1) := by decide +kernel
theorem dL_law_447 : decode cL_law 447 = .ok (.goto 1098, 3) := by decide +kernel
theorem dL_law_450 : decode cL_law 450 = .ok (.aload_n 1, 1) := by decide +kernel
theorem dL_law_451 : decode cL_law 451 = .ok (.aload_n 0, 1) := by decide +kernel
theorem dL_law_452 : decode cL_law 452 = .ok (.iload 5, 2) := by decide +kernel
theorem dL_law_454 : decode cL_law 454 = .ok (.iconst 1, 1) := by decide +kernel
theorem dL_law_455 : decode cL_law 455 = .ok (.iadd, 1) := by decide +kernel
theorem dL_law_456 : decode cL_law 456 = .ok (.iaload, 1) := by decide +kernel
theorem dL_law_457 : decode cL_law 457 = .ok (.aload_n 0, 1) := by decide +kernel
theorem dL_law_458 : decode cL_law 458 = .ok (.iload 5, 2) := by decide +kernel
theorem dL_law_460 : decode cL_law 460 = .ok (.iconst 2, 1) := by decide +kernel
theorem dL_law_461 : decode cL_law 461 = .ok (.iadd, 1) := by decide +kernel
theorem dL_law_462 : decode cL_law 462 = .ok (.iaload, 1) := by decide +kernel
theorem dL_law_463 : decode cL_law 463 = .ok (.aload_n 3, 1) := by decide +kernel
theorem dL_law_464 : decode cL_law 464 = .ok (.invokestatic 104, 3) := by decide +kernel
theorem dL_law_467 : decode cL_law 467 = .ok (.istore 6, 2) := by decide +kernel
theorem dL_law_469 : decode cL_law 469 = .ok (.aload_n 2, 1) := by decide +kernel
theorem dL_law_470 : decode cL_law 470 = .ok (.aload_n 0, 1) := by decide +kernel
theorem dL_law_471 : decode cL_law 471 = .ok (.iload 5, 2) := by decide +kernel
theorem dL_law_473 : decode cL_law 473 = .ok (.iconst 1, 1) := by decide +kernel
theorem dL_law_474 : decode cL_law 474 = .ok (.iadd, 1) := by decide +kernel
theorem dL_law_475 : decode cL_law 475 = .ok (.iaload, 1) := by decide +kernel
theorem dL_law_476 : decode cL_law 476 = .ok (.aload_n 0, 1) := by decide +kernel
theorem dL_law_477 : decode cL_law 477 = .ok (.iload 5, 2) := by decide +kernel
theorem dL_law_479 : decode cL_law 479 = .ok (.iconst 2, 1) := by decide +kernel
theorem dL_law_480 : decode cL_law 480 = .ok (.iadd, 1) := by decide +kernel
theorem dL_law_481 : decode cL_law 481 = .ok (.iaload, 1) := by decide +kernel
theorem dL_law_482 : decode cL_law 482 = .ok (.invokevirtual 107, 3) := by decide +kernel
theorem dL_law_485 : decode cL_law 485 = .ok (.istore 7, 2) := by decide +kernel
theorem dL_law_487 : decode cL_law 487 = .ok (.aload_n 2, 1) := by decide +kernel
theorem dL_law_488 : decode cL_law 488 = .ok (.invokevirtual 94, 3) := by decide +kernel
theorem dL_law_491 : decode cL_law 491 = .ok (.iload 6, 2) := by decide +kernel
theorem dL_law_493 : decode cL_law 493 = .ok (.if_icmp .eq 5, 3) := by decide +kernel
theorem dL_law_496 : decode cL_law 496 = .ok (.iconst 0, 1) := by decide +kernel
theorem dL_law_497 : decode cL_law 497 = .ok (.ireturn, 1) := by decide +kernel
theorem dL_law_498 : decode cL_law 498 = .ok (.iload 6, 2) := by decide +kernel
theorem dL_law_500 : decode cL_law 500 = .ok (.ifCond .ne 15, 3) := by decide +kernel
theorem dL_law_503 : decode cL_law 503 = .ok (.aload_n 3, 1) := by decide +kernel
theorem dL_law_504 : decode cL_law 504 = .ok (.iconst 0, 1) := by decide +kernel
theorem dL_law_505 : decode cL_law 505 = .ok (.laload, 1) := by decide +kernel
theorem dL_law_506 : decode cL_law 506 = .ok (.iload 7, 2) := by decide +kernel
theorem dL_law_508 : decode cL_law 508 = .ok (.i2l, 1) := by decide +kernel
theorem dL_law_509 : decode cL_law 509 = .ok (.lcmp, 1) := by decide +kernel
theorem dL_law_510 : decode cL_law 510 = .ok (.ifCond .eq 5, 3) := by decide +kernel
theorem dL_law_513 : decode cL_law 513 = .ok (.iconst 0, 1) := by decide +kernel
theorem dL_law_514 : decode cL_law 514 = .ok (.ireturn, 1) := by decide +kernel
theorem dL_law_515 : decode cL_law 515 = .ok (.goto 1030, 3) := by decide +kernel
theorem dL_law_518 : decode cL_law 518 = .ok (.aload_n 1, 1) := by decide +kernel
theorem dL_law_519 : decode cL_law 519 = .ok (.aload_n 0, 1) := by decide +kernel
theorem dL_law_520 : decode cL_law 520 = .ok (.iload 5, 2) := by decide +kernel
theorem dL_law_522 : decode cL_law 522 = .ok (.iconst 1, 1) := by decide +kernel
theorem dL_law_523 : decode cL_law 523 = .ok (.iadd, 1) := by decide +kernel
theorem dL_law_524 : decode cL_law 524 = .ok (.iaload, 1) := by decide +kernel
theorem dL_law_525 : decode cL_law 525 = .ok (.aload_n 0, 1) := by decide +kernel
theorem dL_law_526 : decode cL_law 526 = .ok (.iload 5, 2) := by decide +kernel
theorem dL_law_528 : decode cL_law 528 = .ok (.iconst 2, 1) := by decide +kernel
theorem dL_law_529 : decode cL_law 529 = .ok (.iadd, 1) := by decide +kernel
theorem dL_law_530 : decode cL_law 530 = .ok (.iaload, 1) := by decide +kernel
theorem dL_law_531 : decode cL_law 531 = .ok (.aload_n 3, 1) := by decide +kernel
theorem dL_law_532 : decode cL_law 532 = .ok (.invokestatic 108, 3) := by decide +kernel
theorem dL_law_535 : decode cL_law 535 = .ok (.istore 6, 2) := by decide +kernel
theorem dL_law_537 : decode cL_law 537 = .ok (.aload_n 2, 1) := by decide +kernel
theorem dL_law_538 : decode cL_law 538 = .ok (.aload_n 0, 1) := by decide +kernel
theorem dL_law_539 : decode cL_law 539 = .ok (.iload 5, 2) := by decide +kernel
theorem dL_law_541 : decode cL_law 541 = .ok (.iconst 1, 1) := by decide +kernel
theorem dL_law_542 : decode cL_law 542 = .ok (.iadd, 1) := by decide +kernel
theorem dL_law_543 : decode cL_law 543 = .ok (.iaload, 1) := by decide +kernel
theorem dL_law_544 : decode cL_law 544 = .ok (.aload_n 0, 1) := by decide +kernel
theorem dL_law_545 : decode cL_law 545 = .ok (.iload 5, 2) := by decide +kernel
theorem dL_law_547 : decode cL_law 547 = .ok (.iconst 2, 1) := by decide +kernel
theorem dL_law_548 : decode cL_law 548 = .ok (.iadd, 1) := by decide +kernel
theorem dL_law_549 : decode cL_law 549 = .ok (.iaload, 1) := by decide +kernel
theorem dL_law_550 : decode cL_law 550 = .ok (.invokevirtual 110, 3) := by decide +kernel
theorem dL_law_553 : decode cL_law 553 = .ok (.istore 7, 2) := by decide +kernel
theorem dL_law_555 : decode cL_law 555 = .ok (.aload_n 2, 1) := by decide +kernel
theorem dL_law_556 : decode cL_law 556 = .ok (.invokevirtual 94, 3) := by decide +kernel
theorem dL_law_559 : decode cL_law 559 = .ok (.iload 6, 2) := by decide +kernel
theorem dL_law_561 : decode cL_law 561 = .ok (.if_icmp .eq 5, 3) := by decide +kernel
theorem dL_law_564 : decode cL_law 564 = .ok (.iconst 0, 1) := by decide +kernel
theorem dL_law_565 : decode cL_law 565 = .ok (.ireturn, 1) := by decide +kernel
theorem dL_law_566 : decode cL_law 566 = .ok (.iload 6, 2) := by decide +kernel
theorem dL_law_568 : decode cL_law 568 = .ok (.ifCond .ne 15, 3) := by decide +kernel
theorem dL_law_571 : decode cL_law 571 = .ok (.aload_n 3, 1) := by decide +kernel
theorem dL_law_572 : decode cL_law 572 = .ok (.iconst 0, 1) := by decide +kernel
theorem dL_law_573 : decode cL_law 573 = .ok (.laload, 1) := by decide +kernel
theorem dL_law_574 : decode cL_law 574 = .ok (.iload 7, 2) := by decide +kernel
theorem dL_law_576 : decode cL_law 576 = .ok (.i2l, 1) := by decide +kernel
theorem dL_law_577 : decode cL_law 577 = .ok (.lcmp, 1) := by decide +kernel
theorem dL_law_578 : decode cL_law 578 = .ok (.ifCond .eq 5, 3) := by decide +kernel
theorem dL_law_581 : decode cL_law 581 = .ok (.iconst 0, 1) := by decide +kernel
theorem dL_law_582 : decode cL_law 582 = .ok (.ireturn, 1) := by decide +kernel
theorem dL_law_583 : decode cL_law 583 = .ok (.goto 962, 3) := by decide +kernel
theorem dL_law_586 : decode cL_law 586 = .ok (.aload_n 1, 1) := by decide +kernel
theorem dL_law_587 : decode cL_law 587 = .ok (.aload_n 0, 1) := by decide +kernel
theorem dL_law_588 : decode cL_law 588 = .ok (.iload 5, 2) := by decide +kernel
theorem dL_law_590 : decode cL_law 590 = .ok (.iconst 1, 1) := by decide +kernel
theorem dL_law_591 : decode cL_law 591 = .ok (.iadd, 1) := by decide +kernel
theorem dL_law_592 : decode cL_law 592 = .ok (.iaload, 1) := by decide +kernel
theorem dL_law_593 : decode cL_law 593 = .ok (.aload_n 0, 1) := by decide +kernel
theorem dL_law_594 : decode cL_law 594 = .ok (.iload 5, 2) := by decide +kernel
theorem dL_law_596 : decode cL_law 596 = .ok (.iconst 2, 1) := by decide +kernel
theorem dL_law_597 : decode cL_law 597 = .ok (.iadd, 1) := by decide +kernel
theorem dL_law_598 : decode cL_law 598 = .ok (.iaload, 1) := by decide +kernel
theorem dL_law_599 : decode cL_law 599 = .ok (.aload_n 3, 1) := by decide +kernel
theorem dL_law_600 : decode cL_law 600 = .ok (.invokestatic 111, 3) := by decide +kernel
theorem dL_law_603 : decode cL_law 603 = .ok (.istore 6, 2) := by decide +kernel
theorem dL_law_605 : decode cL_law 605 = .ok (.aload_n 2, 1) := by decide +kernel
theorem dL_law_606 : decode cL_law 606 = .ok (.aload_n 0, 1) := by decide +kernel
theorem dL_law_607 : decode cL_law 607 = .ok (.iload 5, 2) := by decide +kernel
theorem dL_law_609 : decode cL_law 609 = .ok (.iconst 1, 1) := by decide +kernel
theorem dL_law_610 : decode cL_law 610 = .ok (.iadd, 1) := by decide +kernel
theorem dL_law_611 : decode cL_law 611 = .ok (.iaload, 1) := by decide +kernel
theorem dL_law_612 : decode cL_law 612 = .ok (.aload_n 0, 1) := by decide +kernel
theorem dL_law_613 : decode cL_law 613 = .ok (.iload 5, 2) := by decide +kernel
theorem dL_law_615 : decode cL_law 615 = .ok (.iconst 2, 1) := by decide +kernel
theorem dL_law_616 : decode cL_law 616 = .ok (.iadd, 1) := by decide +kernel
theorem dL_law_617 : decode cL_law 617 = .ok (.iaload, 1) := by decide +kernel
theorem dL_law_618 : decode cL_law 618 = .ok (.invokevirtual 113, 3) := by decide +kernel
theorem dL_law_621 : decode cL_law 621 = .ok (.istore 7, 2) := by decide +kernel
theorem dL_law_623 : decode cL_law 623 = .ok (.aload_n 2, 1) := by decide +kernel
theorem dL_law_624 : decode cL_law 624 = .ok (.invokevirtual 94, 3) := by decide +kernel
theorem dL_law_627 : decode cL_law 627 = .ok (.iload 6, 2) := by decide +kernel
theorem dL_law_629 : decode cL_law 629 = .ok (.if_icmp .eq 5, 3) := by decide +kernel
theorem dL_law_632 : decode cL_law 632 = .ok (.iconst 0, 1) := by decide +kernel
theorem dL_law_633 : decode cL_law 633 = .ok (.ireturn, 1) := by decide +kernel
theorem dL_law_634 : decode cL_law 634 = .ok (.iload 6, 2) := by decide +kernel
theorem dL_law_636 : decode cL_law 636 = .ok (.ifCond .ne 15, 3) := by decide +kernel
theorem dL_law_639 : decode cL_law 639 = .ok (.aload_n 3, 1) := by decide +kernel
theorem dL_law_640 : decode cL_law 640 = .ok (.iconst 0, 1) := by decide +kernel
theorem dL_law_641 : decode cL_law 641 = .ok (.laload, 1) := by decide +kernel
theorem dL_law_642 : decode cL_law 642 = .ok (.iload 7, 2) := by decide +kernel
theorem dL_law_644 : decode cL_law 644 = .ok (.i2l, 1) := by decide +kernel
theorem dL_law_645 : decode cL_law 645 = .ok (.lcmp, 1) := by decide +kernel
theorem dL_law_646 : decode cL_law 646 = .ok (.ifCond .eq 5, 3) := by decide +kernel
theorem dL_law_649 : decode cL_law 649 = .ok (.iconst 0, 1) := by decide +kernel
theorem dL_law_650 : decode cL_law 650 = .ok (.ireturn, 1) := by decide +kernel
theorem dL_law_651 : decode cL_law 651 = .ok (.goto 894, 3) := by decide +kernel
theorem dL_law_654 : decode cL_law 654 = .ok (.aload_n 1, 1) := by decide +kernel
theorem dL_law_655 : decode cL_law 655 = .ok (.aload_n 0, 1) := by decide +kernel
theorem dL_law_656 : decode cL_law 656 = .ok (.iload 5, 2) := by decide +kernel
theorem dL_law_658 : decode cL_law 658 = .ok (.iconst 1, 1) := by decide +kernel
theorem dL_law_659 : decode cL_law 659 = .ok (.iadd, 1) := by decide +kernel
theorem dL_law_660 : decode cL_law 660 = .ok (.iaload, 1) := by decide +kernel
theorem dL_law_661 : decode cL_law 661 = .ok (.aload_n 3, 1) := by decide +kernel
theorem dL_law_662 : decode cL_law 662 = .ok (.invokestatic 114, 3) := by decide +kernel
theorem dL_law_665 : decode cL_law 665 = .ok (.istore 6, 2) := by decide +kernel
theorem dL_law_667 : decode cL_law 667 = .ok (.aload_n 2, 1) := by decide +kernel
theorem dL_law_668 : decode cL_law 668 = .ok (.aload_n 0, 1) := by decide +kernel
theorem dL_law_669 : decode cL_law 669 = .ok (.iload 5, 2) := by decide +kernel
theorem dL_law_671 : decode cL_law 671 = .ok (.iconst 1, 1) := by decide +kernel
theorem dL_law_672 : decode cL_law 672 = .ok (.iadd, 1) := by decide +kernel
theorem dL_law_673 : decode cL_law 673 = .ok (.iaload, 1) := by decide +kernel
theorem dL_law_674 : decode cL_law 674 = .ok (.invokevirtual 117, 3) := by decide +kernel
theorem dL_law_677 : decode cL_law 677 = .ok (.istore 7, 2) := by decide +kernel
theorem dL_law_679 : decode cL_law 679 = .ok (.aload_n 2, 1) := by decide +kernel
theorem dL_law_680 : decode cL_law 680 = .ok (.invokevirtual 94, 3) := by decide +kernel
theorem dL_law_683 : decode cL_law 683 = .ok (.iload 6, 2) := by decide +kernel
theorem dL_law_685 : decode cL_law 685 = .ok (.if_icmp .eq 5, 3) := by decide +kernel
theorem dL_law_688 : decode cL_law 688 = .ok (.iconst 0, 1) := by decide +kernel
theorem dL_law_689 : decode cL_law 689 = .ok (.ireturn, 1) := by decide +kernel
theorem dL_law_690 : decode cL_law 690 = .ok (.iload 6, 2) := by decide +kernel
theorem dL_law_692 : decode cL_law 692 = .ok (.ifCond .ne 15, 3) := by decide +kernel
theorem dL_law_695 : decode cL_law 695 = .ok (.aload_n 3, 1) := by decide +kernel
theorem dL_law_696 : decode cL_law 696 = .ok (.iconst 0, 1) := by decide +kernel
theorem dL_law_697 : decode cL_law 697 = .ok (.laload, 1) := by decide +kernel
theorem dL_law_698 : decode cL_law 698 = .ok (.iload 7, 2) := by decide +kernel
theorem dL_law_700 : decode cL_law 700 = .ok (.i2l, 1) := by decide +kernel
theorem dL_law_701 : decode cL_law 701 = .ok (.lcmp, 1) := by decide +kernel
theorem dL_law_702 : decode cL_law 702 = .ok (.ifCond .eq 5, 3) := by decide +kernel
theorem dL_law_705 : decode cL_law 705 = .ok (.iconst 0, 1) := by decide +kernel
theorem dL_law_706 : decode cL_law 706 = .ok (.ireturn, 1) := by decide +kernel
theorem dL_law_707 : decode cL_law 707 = .ok (.goto 838, 3) := by decide +kernel
theorem dL_law_710 : decode cL_law 710 = .ok (.aload_n 1, 1) := by decide +kernel
theorem dL_law_711 : decode cL_law 711 = .ok (.aload_n 0, 1) := by decide +kernel
theorem dL_law_712 : decode cL_law 712 = .ok (.iload 5, 2) := by decide +kernel
theorem dL_law_714 : decode cL_law 714 = .ok (.iconst 1, 1) := by decide +kernel
theorem dL_law_715 : decode cL_law 715 = .ok (.iadd, 1) := by decide +kernel
theorem dL_law_716 : decode cL_law 716 = .ok (.iaload, 1) := by decide +kernel
theorem dL_law_717 : decode cL_law 717 = .ok (.aload_n 0, 1) := by decide +kernel
theorem dL_law_718 : decode cL_law 718 = .ok (.iload 5, 2) := by decide +kernel
theorem dL_law_720 : decode cL_law 720 = .ok (.iconst 2, 1) := by decide +kernel
theorem dL_law_721 : decode cL_law 721 = .ok (.iadd, 1) := by decide +kernel
theorem dL_law_722 : decode cL_law 722 = .ok (.iaload, 1) := by decide +kernel
theorem dL_law_723 : decode cL_law 723 = .ok (.aload_n 0, 1) := by decide +kernel
theorem dL_law_724 : decode cL_law 724 = .ok (.iload 5, 2) := by decide +kernel
theorem dL_law_726 : decode cL_law 726 = .ok (.iconst 3, 1) := by decide +kernel
theorem dL_law_727 : decode cL_law 727 = .ok (.iadd, 1) := by decide +kernel
theorem dL_law_728 : decode cL_law 728 = .ok (.iaload, 1) := by decide +kernel
theorem dL_law_729 : decode cL_law 729 = .ok (.ifCond .eq 7, 3) := by decide +kernel
theorem dL_law_732 : decode cL_law 732 = .ok (.iconst 1, 1) := by decide +kernel
theorem dL_law_733 : decode cL_law 733 = .ok (.goto 4, 3) := by decide +kernel
theorem dL_law_736 : decode cL_law 736 = .ok (.iconst 0, 1) := by decide +kernel
theorem dL_law_737 : decode cL_law 737 = .ok (.aload_n 0, 1) := by decide +kernel
theorem dL_law_738 : decode cL_law 738 = .ok (.iload 5, 2) := by decide +kernel
theorem dL_law_740 : decode cL_law 740 = .ok (.iconst 4, 1) := by decide +kernel
theorem dL_law_741 : decode cL_law 741 = .ok (.iadd, 1) := by decide +kernel
theorem dL_law_742 : decode cL_law 742 = .ok (.iaload, 1) := by decide +kernel
theorem dL_law_743 : decode cL_law 743 = .ok (.aload_n 3, 1) := by decide +kernel
theorem dL_law_744 : decode cL_law 744 = .ok (.invokestatic 118, 3) := by decide +kernel
theorem dL_law_747 : decode cL_law 747 = .ok (.istore 6, 2) := by decide +kernel
theorem dL_law_749 : decode cL_law 749 = .ok (.aload_n 2, 1) := by decide +kernel
theorem dL_law_750 : decode cL_law 750 = .ok (.aload_n 0, 1) := by decide +kernel
theorem dL_law_751 : decode cL_law 751 = .ok (.iload 5, 2) := by decide +kernel
theorem dL_law_753 : decode cL_law 753 = .ok (.iconst 1, 1) := by decide +kernel
theorem dL_law_754 : decode cL_law 754 = .ok (.iadd, 1) := by decide +kernel
theorem dL_law_755 : decode cL_law 755 = .ok (.iaload, 1) := by decide +kernel
theorem dL_law_756 : decode cL_law 756 = .ok (.aload_n 0, 1) := by decide +kernel
theorem dL_law_757 : decode cL_law 757 = .ok (.iload 5, 2) := by decide +kernel
theorem dL_law_759 : decode cL_law 759 = .ok (.iconst 2, 1) := by decide +kernel
theorem dL_law_760 : decode cL_law 760 = .ok (.iadd, 1) := by decide +kernel
theorem dL_law_761 : decode cL_law 761 = .ok (.iaload, 1) := by decide +kernel
theorem dL_law_762 : decode cL_law 762 = .ok (.aload_n 0, 1) := by decide +kernel
theorem dL_law_763 : decode cL_law 763 = .ok (.iload 5, 2) := by decide +kernel
theorem dL_law_765 : decode cL_law 765 = .ok (.iconst 3, 1) := by decide +kernel
theorem dL_law_766 : decode cL_law 766 = .ok (.iadd, 1) := by decide +kernel
theorem dL_law_767 : decode cL_law 767 = .ok (.iaload, 1) := by decide +kernel
theorem dL_law_768 : decode cL_law 768 = .ok (.ifCond .eq 7, 3) := by decide +kernel
theorem dL_law_771 : decode cL_law 771 = .ok (.iconst 1, 1) := by decide +kernel
theorem dL_law_772 : decode cL_law 772 = .ok (.goto 4, 3) := by decide +kernel
theorem dL_law_775 : decode cL_law 775 = .ok (.iconst 0, 1) := by decide +kernel
theorem dL_law_776 : decode cL_law 776 = .ok (.aload_n 0, 1) := by decide +kernel
theorem dL_law_777 : decode cL_law 777 = .ok (.iload 5, 2) := by decide +kernel
theorem dL_law_779 : decode cL_law 779 = .ok (.iconst 4, 1) := by decide +kernel
theorem dL_law_780 : decode cL_law 780 = .ok (.iadd, 1) := by decide +kernel
theorem dL_law_781 : decode cL_law 781 = .ok (.iaload, 1) := by decide +kernel
theorem dL_law_782 : decode cL_law 782 = .ok (.invokevirtual 121, 3) := by decide +kernel
theorem dL_law_785 : decode cL_law 785 = .ok (.istore 7, 2) := by decide +kernel
theorem dL_law_787 : decode cL_law 787 = .ok (.aload_n 2, 1) := by decide +kernel
theorem dL_law_788 : decode cL_law 788 = .ok (.invokevirtual 94, 3) := by decide +kernel
theorem dL_law_791 : decode cL_law 791 = .ok (.iload 6, 2) := by decide +kernel
theorem dL_law_793 : decode cL_law 793 = .ok (.if_icmp .eq 5, 3) := by decide +kernel
theorem dL_law_796 : decode cL_law 796 = .ok (.iconst 0, 1) := by decide +kernel
theorem dL_law_797 : decode cL_law 797 = .ok (.ireturn, 1) := by decide +kernel
theorem dL_law_798 : decode cL_law 798 = .ok (.iload 6, 2) := by decide +kernel
theorem dL_law_800 : decode cL_law 800 = .ok (.ifCond .ne 15, 3) := by decide +kernel
theorem dL_law_803 : decode cL_law 803 = .ok (.aload_n 3, 1) := by decide +kernel
theorem dL_law_804 : decode cL_law 804 = .ok (.iconst 0, 1) := by decide +kernel
theorem dL_law_805 : decode cL_law 805 = .ok (.laload, 1) := by decide +kernel
theorem dL_law_806 : decode cL_law 806 = .ok (.iload 7, 2) := by decide +kernel
theorem dL_law_808 : decode cL_law 808 = .ok (.i2l, 1) := by decide +kernel
theorem dL_law_809 : decode cL_law 809 = .ok (.lcmp, 1) := by decide +kernel
theorem dL_law_810 : decode cL_law 810 = .ok (.ifCond .eq 5, 3) := by decide +kernel
theorem dL_law_813 : decode cL_law 813 = .ok (.iconst 0, 1) := by decide +kernel
theorem dL_law_814 : decode cL_law 814 = .ok (.ireturn, 1) := by decide +kernel
theorem dL_law_815 : decode cL_law 815 = .ok (.goto 730, 3) := by decide +kernel
theorem dL_law_818 : decode cL_law 818 = .ok (.aload_n 1, 1) := by decide +kernel
theorem dL_law_819 : decode cL_law 819 = .ok (.aload_n 0, 1) := by decide +kernel
theorem dL_law_820 : decode cL_law 820 = .ok (.iload 5, 2) := by decide +kernel
theorem dL_law_822 : decode cL_law 822 = .ok (.iconst 1, 1) := by decide +kernel
theorem dL_law_823 : decode cL_law 823 = .ok (.iadd, 1) := by decide +kernel
theorem dL_law_824 : decode cL_law 824 = .ok (.iaload, 1) := by decide +kernel
theorem dL_law_825 : decode cL_law 825 = .ok (.aload_n 3, 1) := by decide +kernel
theorem dL_law_826 : decode cL_law 826 = .ok (.invokestatic 122, 3) := by decide +kernel
theorem dL_law_829 : decode cL_law 829 = .ok (.istore 6, 2) := by decide +kernel
theorem dL_law_831 : decode cL_law 831 = .ok (.aload_n 2, 1) := by decide +kernel
theorem dL_law_832 : decode cL_law 832 = .ok (.aload_n 0, 1) := by decide +kernel
theorem dL_law_833 : decode cL_law 833 = .ok (.iload 5, 2) := by decide +kernel
theorem dL_law_835 : decode cL_law 835 = .ok (.iconst 1, 1) := by decide +kernel
theorem dL_law_836 : decode cL_law 836 = .ok (.iadd, 1) := by decide +kernel
theorem dL_law_837 : decode cL_law 837 = .ok (.iaload, 1) := by decide +kernel
theorem dL_law_838 : decode cL_law 838 = .ok (.invokevirtual 124, 3) := by decide +kernel
theorem dL_law_841 : decode cL_law 841 = .ok (.istore 7, 2) := by decide +kernel
theorem dL_law_843 : decode cL_law 843 = .ok (.aload_n 2, 1) := by decide +kernel
theorem dL_law_844 : decode cL_law 844 = .ok (.invokevirtual 94, 3) := by decide +kernel
theorem dL_law_847 : decode cL_law 847 = .ok (.iload 6, 2) := by decide +kernel
theorem dL_law_849 : decode cL_law 849 = .ok (.if_icmp .eq 5, 3) := by decide +kernel
theorem dL_law_852 : decode cL_law 852 = .ok (.iconst 0, 1) := by decide +kernel
theorem dL_law_853 : decode cL_law 853 = .ok (.ireturn, 1) := by decide +kernel
theorem dL_law_854 : decode cL_law 854 = .ok (.iload 6, 2) := by decide +kernel
theorem dL_law_856 : decode cL_law 856 = .ok (.ifCond .ne 15, 3) := by decide +kernel
theorem dL_law_859 : decode cL_law 859 = .ok (.aload_n 3, 1) := by decide +kernel
theorem dL_law_860 : decode cL_law 860 = .ok (.iconst 0, 1) := by decide +kernel
theorem dL_law_861 : decode cL_law 861 = .ok (.laload, 1) := by decide +kernel
theorem dL_law_862 : decode cL_law 862 = .ok (.iload 7, 2) := by decide +kernel
theorem dL_law_864 : decode cL_law 864 = .ok (.i2l, 1) := by decide +kernel
theorem dL_law_865 : decode cL_law 865 = .ok (.lcmp, 1) := by decide +kernel
theorem dL_law_866 : decode cL_law 866 = .ok (.ifCond .eq 5, 3) := by decide +kernel
theorem dL_law_869 : decode cL_law 869 = .ok (.iconst 0, 1) := by decide +kernel
theorem dL_law_870 : decode cL_law 870 = .ok (.ireturn, 1) := by decide +kernel
theorem dL_law_871 : decode cL_law 871 = .ok (.goto 674, 3) := by decide +kernel
theorem dL_law_874 : decode cL_law 874 = .ok (.aload_n 1, 1) := by decide +kernel
theorem dL_law_875 : decode cL_law 875 = .ok (.invokevirtual 125, 3) := by decide +kernel
theorem dL_law_878 : decode cL_law 878 = .ok (.aload_n 2, 1) := by decide +kernel
theorem dL_law_879 : decode cL_law 879 = .ok (.invokevirtual 129, 3) := by decide +kernel
theorem dL_law_882 : decode cL_law 882 = .ok (.lcmp, 1) := by decide +kernel
theorem dL_law_883 : decode cL_law 883 = .ok (.ifCond .eq 662, 3) := by decide +kernel
theorem dL_law_886 : decode cL_law 886 = .ok (.iconst 0, 1) := by decide +kernel
theorem dL_law_887 : decode cL_law 887 = .ok (.ireturn, 1) := by decide +kernel
theorem dL_law_888 : decode cL_law 888 = .ok (.aload_n 1, 1) := by decide +kernel
theorem dL_law_889 : decode cL_law 889 = .ok (.aload_n 0, 1) := by decide +kernel
theorem dL_law_890 : decode cL_law 890 = .ok (.iload 5, 2) := by decide +kernel
theorem dL_law_892 : decode cL_law 892 = .ok (.iconst 1, 1) := by decide +kernel
theorem dL_law_893 : decode cL_law 893 = .ok (.iadd, 1) := by decide +kernel
theorem dL_law_894 : decode cL_law 894 = .ok (.iaload, 1) := by decide +kernel
theorem dL_law_895 : decode cL_law 895 = .ok (.aload_n 3, 1) := by decide +kernel
theorem dL_law_896 : decode cL_law 896 = .ok (.invokestatic 130, 3) := by decide +kernel
theorem dL_law_899 : decode cL_law 899 = .ok (.istore 6, 2) := by decide +kernel
theorem dL_law_901 : decode cL_law 901 = .ok (.aload_n 2, 1) := by decide +kernel
theorem dL_law_902 : decode cL_law 902 = .ok (.aload_n 0, 1) := by decide +kernel
theorem dL_law_903 : decode cL_law 903 = .ok (.iload 5, 2) := by decide +kernel
theorem dL_law_905 : decode cL_law 905 = .ok (.iconst 1, 1) := by decide +kernel
theorem dL_law_906 : decode cL_law 906 = .ok (.iadd, 1) := by decide +kernel
theorem dL_law_907 : decode cL_law 907 = .ok (.iaload, 1) := by decide +kernel
theorem dL_law_908 : decode cL_law 908 = .ok (.invokevirtual 132, 3) := by decide +kernel
theorem dL_law_911 : decode cL_law 911 = .ok (.istore 7, 2) := by decide +kernel
theorem dL_law_913 : decode cL_law 913 = .ok (.aload_n 2, 1) := by decide +kernel
theorem dL_law_914 : decode cL_law 914 = .ok (.invokevirtual 94, 3) := by decide +kernel
theorem dL_law_917 : decode cL_law 917 = .ok (.iload 6, 2) := by decide +kernel
theorem dL_law_919 : decode cL_law 919 = .ok (.if_icmp .eq 5, 3) := by decide +kernel
theorem dL_law_922 : decode cL_law 922 = .ok (.iconst 0, 1) := by decide +kernel
theorem dL_law_923 : decode cL_law 923 = .ok (.ireturn, 1) := by decide +kernel
theorem dL_law_924 : decode cL_law 924 = .ok (.iload 6, 2) := by decide +kernel
theorem dL_law_926 : decode cL_law 926 = .ok (.ifCond .ne 15, 3) := by decide +kernel
theorem dL_law_929 : decode cL_law 929 = .ok (.aload_n 3, 1) := by decide +kernel
theorem dL_law_930 : decode cL_law 930 = .ok (.iconst 0, 1) := by decide +kernel
theorem dL_law_931 : decode cL_law 931 = .ok (.laload, 1) := by decide +kernel
theorem dL_law_932 : decode cL_law 932 = .ok (.iload 7, 2) := by decide +kernel
theorem dL_law_934 : decode cL_law 934 = .ok (.i2l, 1) := by decide +kernel
theorem dL_law_935 : decode cL_law 935 = .ok (.lcmp, 1) := by decide +kernel
theorem dL_law_936 : decode cL_law 936 = .ok (.ifCond .eq 5, 3) := by decide +kernel
theorem dL_law_939 : decode cL_law 939 = .ok (.iconst 0, 1) := by decide +kernel
theorem dL_law_940 : decode cL_law 940 = .ok (.ireturn, 1) := by decide +kernel
theorem dL_law_941 : decode cL_law 941 = .ok (.goto 604, 3) := by decide +kernel
theorem dL_law_944 : decode cL_law 944 = .ok (.aload_n 1, 1) := by decide +kernel
theorem dL_law_945 : decode cL_law 945 = .ok (.aload_n 0, 1) := by decide +kernel
theorem dL_law_946 : decode cL_law 946 = .ok (.iload 5, 2) := by decide +kernel
theorem dL_law_948 : decode cL_law 948 = .ok (.iconst 1, 1) := by decide +kernel
theorem dL_law_949 : decode cL_law 949 = .ok (.iadd, 1) := by decide +kernel
theorem dL_law_950 : decode cL_law 950 = .ok (.iaload, 1) := by decide +kernel
theorem dL_law_951 : decode cL_law 951 = .ok (.aload_n 3, 1) := by decide +kernel
theorem dL_law_952 : decode cL_law 952 = .ok (.invokestatic 133, 3) := by decide +kernel
theorem dL_law_955 : decode cL_law 955 = .ok (.istore 6, 2) := by decide +kernel
theorem dL_law_957 : decode cL_law 957 = .ok (.aload_n 2, 1) := by decide +kernel
theorem dL_law_958 : decode cL_law 958 = .ok (.aload_n 0, 1) := by decide +kernel
theorem dL_law_959 : decode cL_law 959 = .ok (.iload 5, 2) := by decide +kernel
theorem dL_law_961 : decode cL_law 961 = .ok (.iconst 1, 1) := by decide +kernel
theorem dL_law_962 : decode cL_law 962 = .ok (.iadd, 1) := by decide +kernel
theorem dL_law_963 : decode cL_law 963 = .ok (.iaload, 1) := by decide +kernel
theorem dL_law_964 : decode cL_law 964 = .ok (.invokevirtual 135, 3) := by decide +kernel
theorem dL_law_967 : decode cL_law 967 = .ok (.lstore 7, 2) := by decide +kernel
theorem dL_law_969 : decode cL_law 969 = .ok (.aload_n 2, 1) := by decide +kernel
theorem dL_law_970 : decode cL_law 970 = .ok (.invokevirtual 94, 3) := by decide +kernel
theorem dL_law_973 : decode cL_law 973 = .ok (.iload 6, 2) := by decide +kernel
theorem dL_law_975 : decode cL_law 975 = .ok (.if_icmp .eq 5, 3) := by decide +kernel
theorem dL_law_978 : decode cL_law 978 = .ok (.iconst 0, 1) := by decide +kernel
theorem dL_law_979 : decode cL_law 979 = .ok (.ireturn, 1) := by decide +kernel
theorem dL_law_980 : decode cL_law 980 = .ok (.iload 6, 2) := by decide +kernel
theorem dL_law_982 : decode cL_law 982 = .ok (.ifCond .ne 14, 3) := by decide +kernel
theorem dL_law_985 : decode cL_law 985 = .ok (.aload_n 3, 1) := by decide +kernel
theorem dL_law_986 : decode cL_law 986 = .ok (.iconst 0, 1) := by decide +kernel
theorem dL_law_987 : decode cL_law 987 = .ok (.laload, 1) := by decide +kernel
theorem dL_law_988 : decode cL_law 988 = .ok (.lload 7, 2) := by decide +kernel
theorem dL_law_990 : decode cL_law 990 = .ok (.lcmp, 1) := by decide +kernel
theorem dL_law_991 : decode cL_law 991 = .ok (.ifCond .eq 5, 3) := by decide +kernel
theorem dL_law_994 : decode cL_law 994 = .ok (.iconst 0, 1) := by decide +kernel
theorem dL_law_995 : decode cL_law 995 = .ok (.ireturn, 1) := by decide +kernel
theorem dL_law_996 : decode cL_law 996 = .ok (.goto 549, 3) := by decide +kernel
theorem dL_law_999 : decode cL_law 999 = .ok (.aload_n 1, 1) := by decide +kernel
theorem dL_law_1000 : decode cL_law 1000 = .ok (.aload_n 0, 1) := by decide +kernel
theorem dL_law_1001 : decode cL_law 1001 = .ok (.iload 5, 2) := by decide +kernel
theorem dL_law_1003 : decode cL_law 1003 = .ok (.iconst 1, 1) := by decide +kernel
theorem dL_law_1004 : decode cL_law 1004 = .ok (.iadd, 1) := by decide +kernel
theorem dL_law_1005 : decode cL_law 1005 = .ok (.iaload, 1) := by decide +kernel
theorem dL_law_1006 : decode cL_law 1006 = .ok (.aload 4, 2) := by decide +kernel
theorem dL_law_1008 : decode cL_law 1008 = .ok (.invokestatic 136, 3) := by decide +kernel
theorem dL_law_1011 : decode cL_law 1011 = .ok (.istore 6, 2) := by decide +kernel
theorem dL_law_1013 : decode cL_law 1013 = .ok (.aload_n 2, 1) := by decide +kernel
theorem dL_law_1014 : decode cL_law 1014 = .ok (.aload_n 0, 1) := by decide +kernel
theorem dL_law_1015 : decode cL_law 1015 = .ok (.iload 5, 2) := by decide +kernel
theorem dL_law_1017 : decode cL_law 1017 = .ok (.iconst 1, 1) := by decide +kernel
theorem dL_law_1018 : decode cL_law 1018 = .ok (.iadd, 1) := by decide +kernel
theorem dL_law_1019 : decode cL_law 1019 = .ok (.iaload, 1) := by decide +kernel
theorem dL_law_1020 : decode cL_law 1020 = .ok (.invokevirtual 139, 3) := by decide +kernel
theorem dL_law_1023 : decode cL_law 1023 = .ok (.dstore 7, 2) := by decide +kernel
theorem dL_law_1025 : decode cL_law 1025 = .ok (.aload_n 2, 1) := by decide +kernel
theorem dL_law_1026 : decode cL_law 1026 = .ok (.invokevirtual 94, 3) := by decide +kernel
theorem dL_law_1029 : decode cL_law 1029 = .ok (.iload 6, 2) := by decide +kernel
theorem dL_law_1031 : decode cL_law 1031 = .ok (.if_icmp .eq 5, 3) := by decide +kernel
theorem dL_law_1034 : decode cL_law 1034 = .ok (.iconst 0, 1) := by decide +kernel
theorem dL_law_1035 : decode cL_law 1035 = .ok (.ireturn, 1) := by decide +kernel
theorem dL_law_1036 : decode cL_law 1036 = .ok (.iload 6, 2) := by decide +kernel
theorem dL_law_1038 : decode cL_law 1038 = .ok (.ifCond .ne 35, 3) := by decide +kernel
theorem dL_law_1041 : decode cL_law 1041 = .ok (.aload 4, 2) := by decide +kernel
theorem dL_law_1043 : decode cL_law 1043 = .ok (.iconst 0, 1) := by decide +kernel
theorem dL_law_1044 : decode cL_law 1044 = .ok (.daload, 1) := by decide +kernel
theorem dL_law_1045 : decode cL_law 1045 = .ok (.dload 7, 2) := by decide +kernel
theorem dL_law_1047 : decode cL_law 1047 = .ok (.dcmp .l, 1) := by decide +kernel
theorem dL_law_1048 : decode cL_law 1048 = .ok (.ifCond .eq 25, 3) := by decide +kernel
theorem dL_law_1051 : decode cL_law 1051 = .ok (.aload 4, 2) := by decide +kernel
theorem dL_law_1053 : decode cL_law 1053 = .ok (.iconst 0, 1) := by decide +kernel
theorem dL_law_1054 : decode cL_law 1054 = .ok (.daload, 1) := by decide +kernel
theorem dL_law_1055 : decode cL_law 1055 = .ok (.aload 4, 2) := by decide +kernel
theorem dL_law_1057 : decode cL_law 1057 = .ok (.iconst 0, 1) := by decide +kernel
theorem dL_law_1058 : decode cL_law 1058 = .ok (.daload, 1) := by decide +kernel
theorem dL_law_1059 : decode cL_law 1059 = .ok (.dcmp .l, 1) := by decide +kernel
theorem dL_law_1060 : decode cL_law 1060 = .ok (.ifCond .eq 11, 3) := by decide +kernel
theorem dL_law_1063 : decode cL_law 1063 = .ok (.dload 7, 2) := by decide +kernel
theorem dL_law_1065 : decode cL_law 1065 = .ok (.dload 7, 2) := by decide +kernel
theorem dL_law_1067 : decode cL_law 1067 = .ok (.dcmp .l, 1) := by decide +kernel
theorem dL_law_1068 : decode cL_law 1068 = .ok (.ifCond .ne 5, 3) := by decide +kernel
theorem dL_law_1071 : decode cL_law 1071 = .ok (.iconst 0, 1) := by decide +kernel
theorem dL_law_1072 : decode cL_law 1072 = .ok (.ireturn, 1) := by decide +kernel
theorem dL_law_1073 : decode cL_law 1073 = .ok (.goto 472, 3) := by decide +kernel
theorem dL_law_1076 : decode cL_law 1076 = .ok (.aload_n 1, 1) := by decide +kernel
theorem dL_law_1077 : decode cL_law 1077 = .ok (.aload_n 0, 1) := by decide +kernel
theorem dL_law_1078 : decode cL_law 1078 = .ok (.iload 5, 2) := by decide +kernel
theorem dL_law_1080 : decode cL_law 1080 = .ok (.iconst 1, 1) := by decide +kernel
theorem dL_law_1081 : decode cL_law 1081 = .ok (.iadd, 1) := by decide +kernel
theorem dL_law_1082 : decode cL_law 1082 = .ok (.iaload, 1) := by decide +kernel
theorem dL_law_1083 : decode cL_law 1083 = .ok (.aload_n 3, 1) := by decide +kernel
theorem dL_law_1084 : decode cL_law 1084 = .ok (.invokestatic 140, 3) := by decide +kernel
theorem dL_law_1087 : decode cL_law 1087 = .ok (.istore 6, 2) := by decide +kernel
theorem dL_law_1089 : decode cL_law 1089 = .ok (.aload_n 2, 1) := by decide +kernel
theorem dL_law_1090 : decode cL_law 1090 = .ok (.aload_n 0, 1) := by decide +kernel
theorem dL_law_1091 : decode cL_law 1091 = .ok (.iload 5, 2) := by decide +kernel
theorem dL_law_1093 : decode cL_law 1093 = .ok (.iconst 1, 1) := by decide +kernel
theorem dL_law_1094 : decode cL_law 1094 = .ok (.iadd, 1) := by decide +kernel
theorem dL_law_1095 : decode cL_law 1095 = .ok (.iaload, 1) := by decide +kernel
theorem dL_law_1096 : decode cL_law 1096 = .ok (.invokevirtual 142, 3) := by decide +kernel
theorem dL_law_1099 : decode cL_law 1099 = .ok (.istore 7, 2) := by decide +kernel
theorem dL_law_1101 : decode cL_law 1101 = .ok (.aload_n 2, 1) := by decide +kernel
theorem dL_law_1102 : decode cL_law 1102 = .ok (.invokevirtual 94, 3) := by decide +kernel
theorem dL_law_1105 : decode cL_law 1105 = .ok (.iload 6, 2) := by decide +kernel
theorem dL_law_1107 : decode cL_law 1107 = .ok (.if_icmp .eq 5, 3) := by decide +kernel
theorem dL_law_1110 : decode cL_law 1110 = .ok (.iconst 0, 1) := by decide +kernel
theorem dL_law_1111 : decode cL_law 1111 = .ok (.ireturn, 1) := by decide +kernel
theorem dL_law_1112 : decode cL_law 1112 = .ok (.iload 6, 2) := by decide +kernel
theorem dL_law_1114 : decode cL_law 1114 = .ok (.ifCond .ne 22, 3) := by decide +kernel
theorem dL_law_1117 : decode cL_law 1117 = .ok (.aload_n 3, 1) := by decide +kernel
theorem dL_law_1118 : decode cL_law 1118 = .ok (.iconst 0, 1) := by decide +kernel
theorem dL_law_1119 : decode cL_law 1119 = .ok (.laload, 1) := by decide +kernel
theorem dL_law_1120 : decode cL_law 1120 = .ok (.iload 7, 2) := by decide +kernel
theorem dL_law_1122 : decode cL_law 1122 = .ok (.ifCond .eq 7, 3) := by decide +kernel
theorem dL_law_1125 : decode cL_law 1125 = .ok (.lconst 1, 1) := by decide +kernel
theorem dL_law_1126 : decode cL_law 1126 = .ok (.goto 4, 3) := by decide +kernel
theorem dL_law_1129 : decode cL_law 1129 = .ok (.lconst 0, 1) := by decide +kernel
theorem dL_law_1130 : decode cL_law 1130 = .ok (.lcmp, 1) := by decide +kernel
theorem dL_law_1131 : decode cL_law 1131 = .ok (.ifCond .eq 5, 3) := by decide +kernel
theorem dL_law_1134 : decode cL_law 1134 = .ok (.iconst 0, 1) := by decide +kernel
theorem dL_law_1135 : decode cL_law 1135 = .ok (.ireturn, 1) := by decide +kernel
theorem dL_law_1136 : decode cL_law 1136 = .ok (.goto 409, 3) := by decide +kernel
theorem dL_law_1139 : decode cL_law 1139 = .ok (.aload_n 1, 1) := by decide +kernel
theorem dL_law_1140 : decode cL_law 1140 = .ok (.aload_n 0, 1) := by decide +kernel
theorem dL_law_1141 : decode cL_law 1141 = .ok (.iload 5, 2) := by decide +kernel
theorem dL_law_1143 : decode cL_law 1143 = .ok (.iconst 1, 1) := by decide +kernel
theorem dL_law_1144 : decode cL_law 1144 = .ok (.iadd, 1) := by decide +kernel
theorem dL_law_1145 : decode cL_law 1145 = .ok (.iaload, 1) := by decide +kernel
theorem dL_law_1146 : decode cL_law 1146 = .ok (.aload_n 3, 1) := by decide +kernel
theorem dL_law_1147 : decode cL_law 1147 = .ok (.invokestatic 143, 3) := by decide +kernel
theorem dL_law_1150 : decode cL_law 1150 = .ok (.istore 6, 2) := by decide +kernel
theorem dL_law_1152 : decode cL_law 1152 = .ok (.aload_n 2, 1) := by decide +kernel
theorem dL_law_1153 : decode cL_law 1153 = .ok (.aload_n 0, 1) := by decide +kernel
theorem dL_law_1154 : decode cL_law 1154 = .ok (.iload 5, 2) := by decide +kernel
theorem dL_law_1156 : decode cL_law 1156 = .ok (.iconst 1, 1) := by decide +kernel
theorem dL_law_1157 : decode cL_law 1157 = .ok (.iadd, 1) := by decide +kernel
theorem dL_law_1158 : decode cL_law 1158 = .ok (.iaload, 1) := by decide +kernel
theorem dL_law_1159 : decode cL_law 1159 = .ok (.invokevirtual 145, 3) := by decide +kernel
theorem dL_law_1162 : decode cL_law 1162 = .ok (.lstore 7, 2) := by decide +kernel
theorem dL_law_1164 : decode cL_law 1164 = .ok (.aload_n 2, 1) := by decide +kernel
theorem dL_law_1165 : decode cL_law 1165 = .ok (.invokevirtual 94, 3) := by decide +kernel
theorem dL_law_1168 : decode cL_law 1168 = .ok (.iload 6, 2) := by decide +kernel
theorem dL_law_1170 : decode cL_law 1170 = .ok (.if_icmp .eq 5, 3) := by decide +kernel
theorem dL_law_1173 : decode cL_law 1173 = .ok (.iconst 0, 1) := by decide +kernel
theorem dL_law_1174 : decode cL_law 1174 = .ok (.ireturn, 1) := by decide +kernel
theorem dL_law_1175 : decode cL_law 1175 = .ok (.iload 6, 2) := by decide +kernel
theorem dL_law_1177 : decode cL_law 1177 = .ok (.ifCond .ne 14, 3) := by decide +kernel
theorem dL_law_1180 : decode cL_law 1180 = .ok (.aload_n 3, 1) := by decide +kernel
theorem dL_law_1181 : decode cL_law 1181 = .ok (.iconst 0, 1) := by decide +kernel
theorem dL_law_1182 : decode cL_law 1182 = .ok (.laload, 1) := by decide +kernel
theorem dL_law_1183 : decode cL_law 1183 = .ok (.lload 7, 2) := by decide +kernel
theorem dL_law_1185 : decode cL_law 1185 = .ok (.lcmp, 1) := by decide +kernel
theorem dL_law_1186 : decode cL_law 1186 = .ok (.ifCond .eq 5, 3) := by decide +kernel
theorem dL_law_1189 : decode cL_law 1189 = .ok (.iconst 0, 1) := by decide +kernel
theorem dL_law_1190 : decode cL_law 1190 = .ok (.ireturn, 1) := by decide +kernel
theorem dL_law_1191 : decode cL_law 1191 = .ok (.goto 354, 3) := by decide +kernel
theorem dL_law_1194 : decode cL_law 1194 = .ok (.aload_n 1, 1) := by decide +kernel
theorem dL_law_1195 : decode cL_law 1195 = .ok (.aload_n 0, 1) := by decide +kernel
theorem dL_law_1196 : decode cL_law 1196 = .ok (.iload 5, 2) := by decide +kernel
theorem dL_law_1198 : decode cL_law 1198 = .ok (.iconst 1, 1) := by decide +kernel
theorem dL_law_1199 : decode cL_law 1199 = .ok (.iadd, 1) := by decide +kernel
theorem dL_law_1200 : decode cL_law 1200 = .ok (.iaload, 1) := by decide +kernel
theorem dL_law_1201 : decode cL_law 1201 = .ok (.aload_n 3, 1) := by decide +kernel
theorem dL_law_1202 : decode cL_law 1202 = .ok (.invokestatic 146, 3) := by decide +kernel
theorem dL_law_1205 : decode cL_law 1205 = .ok (.istore 6, 2) := by decide +kernel
theorem dL_law_1207 : decode cL_law 1207 = .ok (.aload_n 2, 1) := by decide +kernel
theorem dL_law_1208 : decode cL_law 1208 = .ok (.aload_n 0, 1) := by decide +kernel
theorem dL_law_1209 : decode cL_law 1209 = .ok (.iload 5, 2) := by decide +kernel
theorem dL_law_1211 : decode cL_law 1211 = .ok (.iconst 1, 1) := by decide +kernel
theorem dL_law_1212 : decode cL_law 1212 = .ok (.iadd, 1) := by decide +kernel
theorem dL_law_1213 : decode cL_law 1213 = .ok (.iaload, 1) := by decide +kernel
theorem dL_law_1214 : decode cL_law 1214 = .ok (.invokevirtual 148, 3) := by decide +kernel
theorem dL_law_1217 : decode cL_law 1217 = .ok (.lstore 7, 2) := by decide +kernel
theorem dL_law_1219 : decode cL_law 1219 = .ok (.aload_n 2, 1) := by decide +kernel
theorem dL_law_1220 : decode cL_law 1220 = .ok (.invokevirtual 94, 3) := by decide +kernel
theorem dL_law_1223 : decode cL_law 1223 = .ok (.iload 6, 2) := by decide +kernel
theorem dL_law_1225 : decode cL_law 1225 = .ok (.if_icmp .eq 5, 3) := by decide +kernel
theorem dL_law_1228 : decode cL_law 1228 = .ok (.iconst 0, 1) := by decide +kernel
theorem dL_law_1229 : decode cL_law 1229 = .ok (.ireturn, 1) := by decide +kernel
theorem dL_law_1230 : decode cL_law 1230 = .ok (.iload 6, 2) := by decide +kernel
theorem dL_law_1232 : decode cL_law 1232 = .ok (.ifCond .ne 14, 3) := by decide +kernel
theorem dL_law_1235 : decode cL_law 1235 = .ok (.aload_n 3, 1) := by decide +kernel
theorem dL_law_1236 : decode cL_law 1236 = .ok (.iconst 0, 1) := by decide +kernel
theorem dL_law_1237 : decode cL_law 1237 = .ok (.laload, 1) := by decide +kernel
theorem dL_law_1238 : decode cL_law 1238 = .ok (.lload 7, 2) := by decide +kernel
theorem dL_law_1240 : decode cL_law 1240 = .ok (.lcmp, 1) := by decide +kernel
theorem dL_law_1241 : decode cL_law 1241 = .ok (.ifCond .eq 5, 3) := by decide +kernel
theorem dL_law_1244 : decode cL_law 1244 = .ok (.iconst 0, 1) := by decide +kernel
theorem dL_law_1245 : decode cL_law 1245 = .ok (.ireturn, 1) := by decide +kernel
theorem dL_law_1246 : decode cL_law 1246 = .ok (.goto 299, 3) := by decide +kernel
theorem dL_law_1249 : decode cL_law 1249 = .ok (.aload_n 1, 1) := by decide +kernel
theorem dL_law_1250 : decode cL_law 1250 = .ok (.aload_n 0, 1) := by decide +kernel
theorem dL_law_1251 : decode cL_law 1251 = .ok (.iload 5, 2) := by decide +kernel
theorem dL_law_1253 : decode cL_law 1253 = .ok (.iconst 1, 1) := by decide +kernel
theorem dL_law_1254 : decode cL_law 1254 = .ok (.iadd, 1) := by decide +kernel
theorem dL_law_1255 : decode cL_law 1255 = .ok (.iaload, 1) := by decide +kernel
theorem dL_law_1256 : decode cL_law 1256 = .ok (.aload_n 3, 1) := by decide +kernel
theorem dL_law_1257 : decode cL_law 1257 = .ok (.invokestatic 149, 3) := by decide +kernel
theorem dL_law_1260 : decode cL_law 1260 = .ok (.istore 6, 2) := by decide +kernel
theorem dL_law_1262 : decode cL_law 1262 = .ok (.aload_n 2, 1) := by decide +kernel
theorem dL_law_1263 : decode cL_law 1263 = .ok (.aload_n 0, 1) := by decide +kernel
theorem dL_law_1264 : decode cL_law 1264 = .ok (.iload 5, 2) := by decide +kernel
theorem dL_law_1266 : decode cL_law 1266 = .ok (.iconst 1, 1) := by decide +kernel
theorem dL_law_1267 : decode cL_law 1267 = .ok (.iadd, 1) := by decide +kernel
theorem dL_law_1268 : decode cL_law 1268 = .ok (.iaload, 1) := by decide +kernel
theorem dL_law_1269 : decode cL_law 1269 = .ok (.invokevirtual 151, 3) := by decide +kernel
theorem dL_law_1272 : decode cL_law 1272 = .ok (.lstore 7, 2) := by decide +kernel
theorem dL_law_1274 : decode cL_law 1274 = .ok (.aload_n 2, 1) := by decide +kernel
theorem dL_law_1275 : decode cL_law 1275 = .ok (.invokevirtual 94, 3) := by decide +kernel
theorem dL_law_1278 : decode cL_law 1278 = .ok (.iload 6, 2) := by decide +kernel
theorem dL_law_1280 : decode cL_law 1280 = .ok (.if_icmp .eq 5, 3) := by decide +kernel
theorem dL_law_1283 : decode cL_law 1283 = .ok (.iconst 0, 1) := by decide +kernel
theorem dL_law_1284 : decode cL_law 1284 = .ok (.ireturn, 1) := by decide +kernel
theorem dL_law_1285 : decode cL_law 1285 = .ok (.iload 6, 2) := by decide +kernel
theorem dL_law_1287 : decode cL_law 1287 = .ok (.ifCond .ne 14, 3) := by decide +kernel
theorem dL_law_1290 : decode cL_law 1290 = .ok (.aload_n 3, 1) := by decide +kernel
theorem dL_law_1291 : decode cL_law 1291 = .ok (.iconst 0, 1) := by decide +kernel
theorem dL_law_1292 : decode cL_law 1292 = .ok (.laload, 1) := by decide +kernel
theorem dL_law_1293 : decode cL_law 1293 = .ok (.lload 7, 2) := by decide +kernel
theorem dL_law_1295 : decode cL_law 1295 = .ok (.lcmp, 1) := by decide +kernel
theorem dL_law_1296 : decode cL_law 1296 = .ok (.ifCond .eq 5, 3) := by decide +kernel
theorem dL_law_1299 : decode cL_law 1299 = .ok (.iconst 0, 1) := by decide +kernel
theorem dL_law_1300 : decode cL_law 1300 = .ok (.ireturn, 1) := by decide +kernel
theorem dL_law_1301 : decode cL_law 1301 = .ok (.goto 244, 3) := by decide +kernel
theorem dL_law_1304 : decode cL_law 1304 = .ok (.aload_n 1, 1) := by decide +kernel
theorem dL_law_1305 : decode cL_law 1305 = .ok (.invokevirtual 152, 3) := by decide +kernel
theorem dL_law_1308 : decode cL_law 1308 = .ok (.aload_n 2, 1) := by decide +kernel
theorem dL_law_1309 : decode cL_law 1309 = .ok (.invokevirtual 155, 3) := by decide +kernel
theorem dL_law_1312 : decode cL_law 1312 = .ok (.lcmp, 1) := by decide +kernel
theorem dL_law_1313 : decode cL_law 1313 = .ok (.ifCond .eq 232, 3) := by decide +kernel
theorem dL_law_1316 : decode cL_law 1316 = .ok (.iconst 0, 1) := by decide +kernel
theorem dL_law_1317 : decode cL_law 1317 = .ok (.ireturn, 1) := by decide +kernel
theorem dL_law_1318 : decode cL_law 1318 = .ok (.aload_n 1, 1) := by decide +kernel
theorem dL_law_1319 : decode cL_law 1319 = .ok (.invokevirtual 156, 3) := by decide +kernel
theorem dL_law_1322 : decode cL_law 1322 = .ok (.aload_n 2, 1) := by decide +kernel
theorem dL_law_1323 : decode cL_law 1323 = .ok (.invokevirtual 159, 3) := by decide +kernel
theorem dL_law_1326 : decode cL_law 1326 = .ok (.lcmp, 1) := by decide +kernel
theorem dL_law_1327 : decode cL_law 1327 = .ok (.ifCond .eq 218, 3) := by decide +kernel
theorem dL_law_1330 : decode cL_law 1330 = .ok (.iconst 0, 1) := by decide +kernel
theorem dL_law_1331 : decode cL_law 1331 = .ok (.ireturn, 1) := by decide +kernel
theorem dL_law_1332 : decode cL_law 1332 = .ok (.aload_n 1, 1) := by decide +kernel
theorem dL_law_1333 : decode cL_law 1333 = .ok (.aload_n 0, 1) := by decide +kernel
theorem dL_law_1334 : decode cL_law 1334 = .ok (.iload 5, 2) := by decide +kernel
theorem dL_law_1336 : decode cL_law 1336 = .ok (.iconst 1, 1) := by decide +kernel
theorem dL_law_1337 : decode cL_law 1337 = .ok (.iadd, 1) := by decide +kernel
theorem dL_law_1338 : decode cL_law 1338 = .ok (.iaload, 1) := by decide +kernel
theorem dL_law_1339 : decode cL_law 1339 = .ok (.aload_n 3, 1) := by decide +kernel
theorem dL_law_1340 : decode cL_law 1340 = .ok (.invokestatic 160, 3) := by decide +kernel
theorem dL_law_1343 : decode cL_law 1343 = .ok (.istore 6, 2) := by decide +kernel
theorem dL_law_1345 : decode cL_law 1345 = .ok (.aload_n 2, 1) := by decide +kernel
theorem dL_law_1346 : decode cL_law 1346 = .ok (.aload_n 0, 1) := by decide +kernel
theorem dL_law_1347 : decode cL_law 1347 = .ok (.iload 5, 2) := by decide +kernel
theorem dL_law_1349 : decode cL_law 1349 = .ok (.iconst 1, 1) := by decide +kernel
theorem dL_law_1350 : decode cL_law 1350 = .ok (.iadd, 1) := by decide +kernel
theorem dL_law_1351 : decode cL_law 1351 = .ok (.iaload, 1) := by decide +kernel
theorem dL_law_1352 : decode cL_law 1352 = .ok (.invokevirtual 162, 3) := by decide +kernel
theorem dL_law_1355 : decode cL_law 1355 = .ok (.lstore 7, 2) := by decide +kernel
theorem dL_law_1357 : decode cL_law 1357 = .ok (.aload_n 2, 1) := by decide +kernel
theorem dL_law_1358 : decode cL_law 1358 = .ok (.invokevirtual 94, 3) := by decide +kernel
theorem dL_law_1361 : decode cL_law 1361 = .ok (.iload 6, 2) := by decide +kernel
theorem dL_law_1363 : decode cL_law 1363 = .ok (.if_icmp .eq 5, 3) := by decide +kernel
theorem dL_law_1366 : decode cL_law 1366 = .ok (.iconst 0, 1) := by decide +kernel
theorem dL_law_1367 : decode cL_law 1367 = .ok (.ireturn, 1) := by decide +kernel
theorem dL_law_1368 : decode cL_law 1368 = .ok (.iload 6, 2) := by decide +kernel
theorem dL_law_1370 : decode cL_law 1370 = .ok (.ifCond .ne 14, 3) := by decide +kernel
theorem dL_law_1373 : decode cL_law 1373 = .ok (.aload_n 3, 1) := by decide +kernel
theorem dL_law_1374 : decode cL_law 1374 = .ok (.iconst 0, 1) := by decide +kernel
theorem dL_law_1375 : decode cL_law 1375 = .ok (.laload, 1) := by decide +kernel
theorem dL_law_1376 : decode cL_law 1376 = .ok (.lload 7, 2) := by decide +kernel
theorem dL_law_1378 : decode cL_law 1378 = .ok (.lcmp, 1) := by decide +kernel
theorem dL_law_1379 : decode cL_law 1379 = .ok (.ifCond .eq 5, 3) := by decide +kernel
theorem dL_law_1382 : decode cL_law 1382 = .ok (.iconst 0, 1) := by decide +kernel
theorem dL_law_1383 : decode cL_law 1383 = .ok (.ireturn, 1) := by decide +kernel
theorem dL_law_1384 : decode cL_law 1384 = .ok (.goto 161, 3) := by decide +kernel
theorem dL_law_1387 : decode cL_law 1387 = .ok (.aload_n 1, 1) := by decide +kernel
theorem dL_law_1388 : decode cL_law 1388 = .ok (.aload_n 0, 1) := by decide +kernel
theorem dL_law_1389 : decode cL_law 1389 = .ok (.iload 5, 2) := by decide +kernel
theorem dL_law_1391 : decode cL_law 1391 = .ok (.iconst 1, 1) := by decide +kernel
theorem dL_law_1392 : decode cL_law 1392 = .ok (.iadd, 1) := by decide +kernel
theorem dL_law_1393 : decode cL_law 1393 = .ok (.iaload, 1) := by decide +kernel
theorem dL_law_1394 : decode cL_law 1394 = .ok (.aload_n 3, 1) := by decide +kernel
theorem dL_law_1395 : decode cL_law 1395 = .ok (.invokestatic 163, 3) := by decide +kernel
theorem dL_law_1398 : decode cL_law 1398 = .ok (.istore 6, 2) := by decide +kernel
theorem dL_law_1400 : decode cL_law 1400 = .ok (.aload_n 2, 1) := by decide +kernel
theorem dL_law_1401 : decode cL_law 1401 = .ok (.aload_n 0, 1) := by decide +kernel
theorem dL_law_1402 : decode cL_law 1402 = .ok (.iload 5, 2) := by decide +kernel
theorem dL_law_1404 : decode cL_law 1404 = .ok (.iconst 1, 1) := by decide +kernel
theorem dL_law_1405 : decode cL_law 1405 = .ok (.iadd, 1) := by decide +kernel
theorem dL_law_1406 : decode cL_law 1406 = .ok (.iaload, 1) := by decide +kernel
theorem dL_law_1407 : decode cL_law 1407 = .ok (.invokevirtual 165, 3) := by decide +kernel
theorem dL_law_1410 : decode cL_law 1410 = .ok (.istore 7, 2) := by decide +kernel
theorem dL_law_1412 : decode cL_law 1412 = .ok (.aload_n 2, 1) := by decide +kernel
theorem dL_law_1413 : decode cL_law 1413 = .ok (.invokevirtual 94, 3) := by decide +kernel
theorem dL_law_1416 : decode cL_law 1416 = .ok (.iload 6, 2) := by decide +kernel
theorem dL_law_1418 : decode cL_law 1418 = .ok (.if_icmp .eq 5, 3) := by decide +kernel
theorem dL_law_1421 : decode cL_law 1421 = .ok (.iconst 0, 1) := by decide +kernel
theorem dL_law_1422 : decode cL_law 1422 = .ok (.ireturn, 1) := by decide +kernel
theorem dL_law_1423 : decode cL_law 1423 = .ok (.iload 6, 2) := by decide +kernel
theorem dL_law_1425 : decode cL_law 1425 = .ok (.ifCond .ne 15, 3) := by decide +kernel
theorem dL_law_1428 : decode cL_law 1428 = .ok (.aload_n 3, 1) := by decide +kernel
theorem dL_law_1429 : decode cL_law 1429 = .ok (.iconst 0, 1) := by decide +kernel
theorem dL_law_1430 : decode cL_law 1430 = .ok (.laload, 1) := by decide +kernel
theorem dL_law_1431 : decode cL_law 1431 = .ok (.iload 7, 2) := by decide +kernel
theorem dL_law_1433 : decode cL_law 1433 = .ok (.i2l, 1) := by decide +kernel
theorem dL_law_1434 : decode cL_law 1434 = .ok (.lcmp, 1) := by decide +kernel
theorem dL_law_1435 : decode cL_law 1435 = .ok (.ifCond .eq 5, 3) := by decide +kernel
theorem dL_law_1438 : decode cL_law 1438 = .ok (.iconst 0, 1) := by decide +kernel
theorem dL_law_1439 : decode cL_law 1439 = .ok (.ireturn, 1) := by decide +kernel
theorem dL_law_1440 : decode cL_law 1440 = .ok (.goto 105, 3) := by decide +kernel
theorem dL_law_1443 : decode cL_law 1443 = .ok (.aload_n 1, 1) := by decide +kernel
theorem dL_law_1444 : decode cL_law 1444 = .ok (.aload_n 3, 1) := by decide +kernel
theorem dL_law_1445 : decode cL_law 1445 = .ok (.invokestatic 166, 3) := by decide +kernel
theorem dL_law_1448 : decode cL_law 1448 = .ok (.istore 6, 2) := by decide +kernel
theorem dL_law_1450 : decode cL_law 1450 = .ok (.aload_n 2, 1) := by decide +kernel
theorem dL_law_1451 : decode cL_law 1451 = .ok (.invokevirtual 169, 3) := by decide +kernel
theorem dL_law_1454 : decode cL_law 1454 = .ok (.istore 7, 2) := by decide +kernel
theorem dL_law_1456 : decode cL_law 1456 = .ok (.aload_n 2, 1) := by decide +kernel
theorem dL_law_1457 : decode cL_law 1457 = .ok (.invokevirtual 94, 3) := by decide +kernel
theorem dL_law_1460 : decode cL_law 1460 = .ok (.iload 6, 2) := by decide +kernel
theorem dL_law_1462 : decode cL_law 1462 = .ok (.if_icmp .eq 5, 3) := by decide +kernel
theorem dL_law_1465 : decode cL_law 1465 = .ok (.iconst 0, 1) := by decide +kernel
theorem dL_law_1466 : decode cL_law 1466 = .ok (.ireturn, 1) := by decide +kernel
theorem dL_law_1467 : decode cL_law 1467 = .ok (.iload 6, 2) := by decide +kernel
theorem dL_law_1469 : decode cL_law 1469 = .ok (.ifCond .ne 15, 3) := by decide +kernel
theorem dL_law_1472 : decode cL_law 1472 = .ok (.aload_n 3, 1) := by decide +kernel
theorem dL_law_1473 : decode cL_law 1473 = .ok (.iconst 0, 1) := by decide +kernel
theorem dL_law_1474 : decode cL_law 1474 = .ok (.laload, 1) := by decide +kernel
theorem dL_law_1475 : decode cL_law 1475 = .ok (.iload 7, 2) := by decide +kernel
theorem dL_law_1477 : decode cL_law 1477 = .ok (.i2l, 1) := by decide +kernel
theorem dL_law_1478 : decode cL_law 1478 = .ok (.lcmp, 1) := by decide +kernel
theorem dL_law_1479 : decode cL_law 1479 = .ok (.ifCond .eq 5, 3) := by decide +kernel
theorem dL_law_1482 : decode cL_law 1482 = .ok (.iconst 0, 1) := by decide +kernel
theorem dL_law_1483 : decode cL_law 1483 = .ok (.ireturn, 1) := by decide +kernel
theorem dL_law_1484 : decode cL_law 1484 = .ok (.goto 61, 3) := by decide +kernel
theorem dL_law_1487 : decode cL_law 1487 = .ok (.aload_n 1, 1) := by decide +kernel
theorem dL_law_1488 : decode cL_law 1488 = .ok (.aload_n 3, 1) := by decide +kernel
theorem dL_law_1489 : decode cL_law 1489 = .ok (.invokestatic 170, 3) := by decide +kernel
theorem dL_law_1492 : decode cL_law 1492 = .ok (.istore 6, 2) := by decide +kernel
theorem dL_law_1494 : decode cL_law 1494 = .ok (.aload_n 2, 1) := by decide +kernel
theorem dL_law_1495 : decode cL_law 1495 = .ok (.invokevirtual 172, 3) := by decide +kernel
theorem dL_law_1498 : decode cL_law 1498 = .ok (.istore 7, 2) := by decide +kernel
theorem dL_law_1500 : decode cL_law 1500 = .ok (.aload_n 2, 1) := by decide +kernel
theorem dL_law_1501 : decode cL_law 1501 = .ok (.invokevirtual 94, 3) := by decide +kernel
theorem dL_law_1504 : decode cL_law 1504 = .ok (.iload 6, 2) := by decide +kernel
theorem dL_law_1506 : decode cL_law 1506 = .ok (.if_icmp .eq 5, 3) := by decide +kernel
theorem dL_law_1509 : decode cL_law 1509 = .ok (.iconst 0, 1) := by decide +kernel
theorem dL_law_1510 : decode cL_law 1510 = .ok (.ireturn, 1) := by decide +kernel
theorem dL_law_1511 : decode cL_law 1511 = .ok (.iload 6, 2) := by decide +kernel
theorem dL_law_1513 : decode cL_law 1513 = .ok (.ifCond .ne 15, 3) := by decide +kernel
theorem dL_law_1516 : decode cL_law 1516 = .ok (.aload_n 3, 1) := by decide +kernel
theorem dL_law_1517 : decode cL_law 1517 = .ok (.iconst 0, 1) := by decide +kernel
theorem dL_law_1518 : decode cL_law 1518 = .ok (.laload, 1) := by decide +kernel
theorem dL_law_1519 : decode cL_law 1519 = .ok (.iload 7, 2) := by decide +kernel
theorem dL_law_1521 : decode cL_law 1521 = .ok (.i2l, 1) := by decide +kernel
theorem dL_law_1522 : decode cL_law 1522 = .ok (.lcmp, 1) := by decide +kernel
theorem dL_law_1523 : decode cL_law 1523 = .ok (.ifCond .eq 5, 3) := by decide +kernel
theorem dL_law_1526 : decode cL_law 1526 = .ok (.iconst 0, 1) := by decide +kernel
theorem dL_law_1527 : decode cL_law 1527 = .ok (.ireturn, 1) := by decide +kernel
theorem dL_law_1528 : decode cL_law 1528 = .ok (.goto 17, 3) := by decide +kernel
theorem dL_law_1531 : decode cL_law 1531 = .ok (.aload_n 1, 1) := by decide +kernel
theorem dL_law_1532 : decode cL_law 1532 = .ok (.invokevirtual 173, 3) := by decide +kernel
theorem dL_law_1535 : decode cL_law 1535 = .ok (.aload_n 2, 1) := by decide +kernel
theorem dL_law_1536 : decode cL_law 1536 = .ok (.invokevirtual 176, 3) := by decide +kernel
theorem dL_law_1539 : decode cL_law 1539 = .ok (.lcmp, 1) := by decide +kernel
theorem dL_law_1540 : decode cL_law 1540 = .ok (.ifCond .eq 5, 3) := by decide +kernel
theorem dL_law_1543 : decode cL_law 1543 = .ok (.iconst 0, 1) := by decide +kernel
theorem dL_law_1544 : decode cL_law 1544 = .ok (.ireturn, 1) := by decide +kernel
theorem dL_law_1545 : decode cL_law 1545 = .ok (.iinc 5 7, 3) := by decide +kernel
theorem dL_law_1548 : decode cL_law 1548 = .ok (.goto (-1520), 3) := by decide +kernel
theorem dL_law_1551 : decode cL_law 1551 = .ok (.iconst 1, 1) := by decide +kernel
theorem dL_law_1552 : decode cL_law 1552 = .ok (.ireturn, 1) := by decide +kernel
end
section
/-! ===== BEGIN words of one list among another's, by their places ===== -/
theorem goodIn_r {big : List Cond} (ws : List Cond) (ps : List Nat) (hp : ws = ps.filterMap (fun i => big[i]?)) (h : ws.all goodWord = true) : GoodIn big ws := by
  intro w hw
  have h1 := List.all_eq_true.mp h w hw
  rw [hp] at hw
  obtain ⟨i, -, hi⟩ := List.mem_filterMap.mp hw
  have hm : w ∈ big := by first | exact List.mem_of_getElem? hi | exact List.getElem?_mem hi
  exact ⟨hm, good_of_word h1⟩
theorem goodIn_app {big a b : List Cond} (ha : GoodIn big a) (hb : GoodIn big b) : GoodIn big (a ++ b) := fun w h => (List.mem_append.mp h).elim (ha w) (hb w)
theorem goodIn_ca {big a b : List Cond} {c : Cond} (ha : GoodIn big (c :: a)) (hb : GoodIn big b) : GoodIn big (c :: (a ++ b)) := fun w h => (List.mem_cons.mp h).elim (fun e => ha w (List.mem_cons.mpr (Or.inl e))) (fun h => (List.mem_append.mp h).elim (fun h => ha w (List.mem_cons.mpr (Or.inr h))) (hb w))
theorem goodIn_sub {big ws : List Cond} (hm : ∀ w ∈ ws, w ∈ big) (h : ws.all goodWord = true) : GoodIn big ws := fun w hw => ⟨hm w hw, good_of_word (List.all_eq_true.mp h w hw)⟩
/-! ===== END ===== -/
/-! ===== BEGIN exceptions that leave a method, and their catching by the caller (launches without stack traces) ===== -/
section VXA
/-! The laws vx_back, vx_callV, vx_callS, vx_callSW, vx_throw0, vx_throwS follow proofs of the library, with one case more: JvmDerived/Free/Laws.lean (Back.of_free), Shelf42/LK1.lean (callV, callS), Shelf/KitTraced.lean (throwNew0V, throwNewS). -/
/-- where a method has thrown q: the class by its name, the cell, what was written, the world -/
def vx_T (XC : String → State → State → Prop) (st : State) (q : Addr) (t : State) (mc ms : Nat) (free : Addr → Prop) : Prop :=
  ∃ (E : String) (ce : Cell) (L : List Loc), XC E st t ∧ t.heap[q]? = some ce ∧ ce.vm = .none ∧ st.vm.findClass E = some ce.cls ∧ st.WarmedH t.vm ∧ st.sameButNew ({ t with vm := st.vm } : State) L mc ms ∧ ∀ z ∈ L, free z.base
def vx_Q (Qc : Array Value → State → Outcome → State → Prop) (XC : String → State → State → Prop) (mc ms : Nat) (free : Addr → Prop) : Array Value → State → Outcome → State → Prop := fun a st o t =>
  (Qc a st o t ∧ ∃ L, FrameEnd st o t L mc ms ∧ ∀ q ∈ L, free q.base) ∨ ∃ q, o = .threw q ∧ vx_T XC st q t mc ms free
/-- a callee that returns or throws -/
def vx_Met (l : Launch) (y : MethodName) (ws : List Cond) (rm : Room) (Pc : Array Value → State → Prop) (Qc : Array Value → State → Outcome → State → Prop) (XC : String → State → State → Prop) (mc ms : Nat) (free : Addr → Prop) : Prop :=
  MetFree l y (headSpec ws rm) Pc (fun _ _ _ _ _ => True) (vx_Q Qc XC mc ms free)
def vx_Post (XC : String → State → State → Prop) (mc ms : Nat) (free : Addr → Prop) : Pt → Array Value → Addr → Pt → Prop := fun A a q B =>
  ∃ (g : JFrame) (mk : MethodId) (t : State) (L : List Loc) (E : String) (ce : Cell), B.U.heap = t.heap ∧ B.U.vm = t.vm ∧ XC E (A.U.calling g mk a) t ∧ t.heap[q]? = some ce ∧ ce.vm = .none ∧ A.U.vm.findClass E = some ce.cls ∧ B.locs = A.locs ++ L ∧ (∀ z ∈ L, free z.base) ∧ B.cells = A.cells + mc ∧ B.slots = A.slots + ms
def vx_Back (l : Launch) (R : Room) (p : Program) (e : Env) (below : List Frame) (s : State) (sargs : Array Value) (y : MethodName) (len W9 : Nat)
    (Pre : Pt → Array Value → Prop) (Post : Pt → Array Value → Option Value → Pt → Prop) (PostX : Pt → Array Value → Addr → Pt → Prop) : Prop :=
  ∀ (m : MethodId) (meth : Method) (c : Code) (A : Pt) (g : JFrame) (ig : Instr) (mk : MethodId) (a : Array Value),
    Stand p l e R s m sargs below meth c A.U A.locs A.cells A.slots → g.method = m → g.locals.size = c.maxLocals → decode c.code g.pc = .ok (ig, len) →
    2 * g.monitorRoom + (g.stack.map fun v => v.category).sum ≤ W9 → A.U.methodNamed? y = some mk → Pre A a →
    (∃ (v : Option Value) (B : Pt), Stand p l e R s m sargs below meth c B.U B.locs B.cells B.slots ∧ Post A a v B ∧
      Steps p.tables e below (doInvoke e (A.U.setTop g) [] mk a).1 (B.U.setTop { g with pc := g.pc + len, stack := v.toList ++ g.stack })) ∨
    (∃ (q : Addr) (B : Pt), Stand p l e R s m sargs below meth c B.U B.locs B.cells B.slots ∧ PostX A a q B ∧
      Steps p.tables e below (doInvoke e (A.U.setTop g) [] mk a).1 ((B.U.setTop g).pushFrame (.throwing q)))
section Payer
variable {l : Launch} {R : Room} {p : Program} {e : Env} {below : List Frame} {s : State} {sargs : Array Value} {y : MethodName} {len W9 : Nat}
theorem vx_back {ws : List Cond} {rm : Room} {Pc : Array Value → State → Prop} {Qc : Array Value → State → Outcome → State → Prop} {XC : String → State → State → Prop} {mc ms : Nat} {free : Addr → Prop} {bytes : ByteArray} {maxL : Nat} {ret : Option FieldType}
    (hM : vx_Met l y ws rm Pc Qc XC mc ms free) (hblind : FrameBlind Pc) (hrc : rm.cells = mc) (hrs : rm.slots = ms)
    (hframes : rm.frames + 1 ≤ R.frames) (hlocals : W9 + (maxL + 11) + rm.locals ≤ R.locals)
    (hws : ∀ w ∈ ws, ∀ a' U, s.WarmedH U.vm → w.before a' U = true) (hcode : Cond.code y bytes maxL ret ∈ ws) (hinit : ∀ a' U, s.WarmedH U.vm → (Cond.initialized y.cls).before a' U = true) :
    vx_Back l R p e below s sargs y len W9 (PreOf R mc ms Pc) (PostOf Qc mc ms free) (vx_Post XC mc ms free) := by
  intro m meth c A g ig mk a X hg hsize hdg hW hn hp
  have h1 : (headSpec ws rm).pre.before a A.U = true := atoms_intro fun w hw => hws w hw _ _ X.warmed
  have h2 : (Cond.code y bytes maxL ret).before a A.U = true := hws _ hcode _ _ X.warmed
  have h3 : (Cond.initialized y.cls).before a A.U = true := hinit _ _ X.warmed
  have h4 : A.cells + (headSpec ws rm).room.cells ≤ R.cells := by rw [show (headSpec ws rm).room.cells = mc from hrc]; exact hp.1
  have h5 : A.slots + (headSpec ws rm).room.slots ≤ R.slots := by rw [show (headSpec ws rm).room.slots = ms from hrs]; exact hp.2.1
  have hPc : Pc a (A.U.calling g mk a) := hblind _ _ _ _ hp.2.2
  obtain ⟨U, Ls, c0, s0⟩ := A
  dsimp only [Pt.U, Pt.locs, Pt.cells, Pt.slots] at h1 h2 h3 h4 h5 X hn hPc ⊢
  obtain ⟨methY, cY, hmY, hcY, -, hlY, -, -, -, -⟩ := Cond.code_spec hn h2
  obtain ⟨kY, hkY, -⟩ := className_of_methodNamed hn
  have hinitY : kY.init = .initialized := Cond.initialized_spec (findClass_of_methodNamed hn) hkY h3
  have h : At U g.method c below := by rw [hg]; exact X.here
  have hlocals9 : W9 + (maxL + 11) + (headSpec ws rm).room.locals ≤ R.locals := hlocals
  have happ : (headSpec ws rm).appliesLoose y e.platform (U.calling g mk a) = true :=
    Spec.appliesLoose_calling (g := g) h hdg hn hkY hinitY
      (X.room_calling (g := g) (R' := (headSpec ws rm).room) hsize hmY hcY hframes (by rw [hlY]; omega) h4 h5) h1
  obtain ⟨mid, hmid⟩ := h.above
  have hfr : (U.setTop g).frames = (.java g :: mid) ++ below := by rw [State.frames_setTop' g h.top, hmid]; rfl
  obtain ⟨o, s₂, hsteps, -, hend, hq⟩ := Steps.callFree hM p X.admits X.cas X.clock (acts := []) hfr happ hPc trivial
  have hq' : vx_Q Qc XC mc ms free a (U.calling g mk a) o s₂ := hq
  rw [State.frames_setTop' g h.top] at hend
  obtain ⟨g₀, hg0⟩ := Option.isSome_iff_exists.mp h.top
  obtain ⟨r, hr⟩ := State.topJava?_eq_some.mp hg0
  have hr' : (({ U with heap := s₂.heap, slotsUsed := s₂.slotsUsed } : State).setVm s₂.vm).frames = .java g₀ :: r := hr
  rcases hq' with ⟨hqc, L, hfe, hL⟩ | ⟨q, rfl, E, ce, L, hx, hce, hcv, hcl, hW₂, hsm, hL⟩
  · obtain ⟨⟨v, rfl⟩, hW₂, e2, q2, q3, q4, q5, q6⟩ := id hfe
    have e3 : s₂ = ({ (U.calling g mk a).setFrames s₂.frames with heap := s₂.heap, slotsUsed := s₂.slotsUsed } : State).setVm s₂.vm := by
      have : s₂ = ({ s₂ with vm := (U.calling g mk a).vm } : State).setVm s₂.vm := rfl
      rw [e2] at this
      exact this
    obtain ⟨c₂, i₂, len₂, hc₂, hd₂, hf₂⟩ := hend
    have hW' : U.WarmedH s₂.vm := hW₂
    have hcc : c₂ = c := by
      have h1 : s₂.code? g.method = U.code? g.method := by
        rw [State.code?_eq, State.code?_eq, hW'.alike.method?]
      exact Option.some.inj (hc₂.symm.trans (h1.trans h.code))
    subst hcc
    have hlen : len₂ = len := by rw [hdg] at hd₂; cases hd₂; rfl
    subst hlen
    have hs₂ : s₂ = (({ U with heap := s₂.heap, slotsUsed := s₂.slotsUsed } : State).setVm s₂.vm).setTop { g with pc := g.pc + len₂, stack := v.toList ++ g.stack } := by
      refine e3.trans ?_
      rw [hf₂, State.calling_eq h.top, State.setFrames_setFrames, State.setTop_of_frames _ hr', hr]
      rfl
    have hsame : U.sameButNew ({ U with heap := s₂.heap, slotsUsed := s₂.slotsUsed } : State) L mc ms := by
      refine ⟨?_, q2, q3, q4, q5, q6⟩
      obtain ⟨t, ht, -⟩ := State.frames_cons hr
      show ({ U with heap := s₂.heap, slotsUsed := s₂.slotsUsed } : State) = { U.setFrames U.frames with heap := s₂.heap, slotsUsed := s₂.slotsUsed }
      rw [State.setFrames_self ht]
    subst hg
    refine Or.inl ⟨v, ⟨(({ U with heap := s₂.heap, slotsUsed := s₂.slotsUsed } : State).setVm s₂.vm), Ls ++ L, c0 + mc, s0 + ms⟩,
      ⟨X.admits, X.cas, X.clock, X.frames, X.room, X.hears, X.method, X.code, (X.here.setHeapUsed s₂.heap s₂.slotsUsed).setVm hW'.alike, X.tail, State.WarmedH.trans X.warmed hW', X.limits, X.bytes, X.same.trans (hsame.setVm s.vm)⟩,
      ⟨g, mk, s₂, L, rfl, rfl, hqc, rfl, hL, rfl, rfl⟩, ?_⟩
    show Steps p.tables e below _ ((({ U with heap := s₂.heap, slotsUsed := s₂.slotsUsed } : State).setVm s₂.vm).setTop { g with pc := g.pc + len₂, stack := v.toList ++ g.stack })
    rw [← hs₂]
    exact hsteps
  · obtain ⟨e2, q2, q3, q4, q5, q6⟩ := id hsm
    have e3 : s₂ = ({ (U.calling g mk a).setFrames s₂.frames with heap := s₂.heap, slotsUsed := s₂.slotsUsed } : State).setVm s₂.vm := by
      have : s₂ = ({ s₂ with vm := (U.calling g mk a).vm } : State).setVm s₂.vm := rfl
      rw [e2] at this
      exact this
    have hf₂ : s₂.frames = .throwing q :: .java g :: U.frames.tail := hend
    have hW' : U.WarmedH s₂.vm := hW₂
    have hs₂ : s₂ = ((({ U with heap := s₂.heap, slotsUsed := s₂.slotsUsed } : State).setVm s₂.vm).setTop g).pushFrame (.throwing q) := by
      refine e3.trans ?_
      rw [hf₂, State.calling_eq h.top, State.setFrames_setFrames, State.pushFrame, State.frames_setTop _ hr', State.setTop_of_frames _ hr', State.setFrames_setFrames, hr]
      rfl
    have hsame : U.sameButNew ({ U with heap := s₂.heap, slotsUsed := s₂.slotsUsed } : State) L mc ms := by
      refine ⟨?_, q2, q3, q4, q5, q6⟩
      obtain ⟨t, ht, -⟩ := State.frames_cons hr
      show ({ U with heap := s₂.heap, slotsUsed := s₂.slotsUsed } : State) = { U.setFrames U.frames with heap := s₂.heap, slotsUsed := s₂.slotsUsed }
      rw [State.setFrames_self ht]
    subst hg
    refine Or.inr ⟨q, ⟨(({ U with heap := s₂.heap, slotsUsed := s₂.slotsUsed } : State).setVm s₂.vm), Ls ++ L, c0 + mc, s0 + ms⟩,
      ⟨X.admits, X.cas, X.clock, X.frames, X.room, X.hears, X.method, X.code, (X.here.setHeapUsed s₂.heap s₂.slotsUsed).setVm hW'.alike, X.tail, State.WarmedH.trans X.warmed hW', X.limits, X.bytes, X.same.trans (hsame.setVm s.vm)⟩,
      ⟨g, mk, s₂, L, E, ce, rfl, rfl, hx, hce, hcv, hcl, rfl, hL, rfl, rfl⟩, ?_⟩
    show Steps p.tables e below _ (((({ U with heap := s₂.heap, slotsUsed := s₂.slotsUsed } : State).setVm s₂.vm).setTop g).pushFrame (.throwing q))
    rw [← hs₂]
    exact hsteps
end Payer
section Calls
variable {p : Program} {l : Launch} {e : Env} {R : Room} {s : State} {m : MethodId} {args : Array Value} {below : List Frame} {meth : Method} {c : Code} {T : State} {locs : List Loc} {cells slots : Nat}
theorem vx_callV (X : Stand p l e R s m args below meth c T locs cells slots) (hexec : p.tables.exec = Jvm.exec) {own C : String} {index : Nat} {y : MethodName} {bytes : ByteArray} {maxL : Nat} {ret : Option FieldType}
    (hown : s.vm.findClass own = some m.cls) (hlink : (Cond.methodLink own index y).before args s = true) (hinst : (Cond.instanceMethod y).before args s = true) (hsel : (Cond.selects C y y).before args s = true)
    (hcode : (Cond.code y bytes maxL ret).before args s = true) (hy : y.cls ≠ "java/lang/invoke/MethodHandle" ∧ y.cls ≠ "java/lang/invoke/VarHandle")
    {W9 : Nat} {Pre : Pt → Array Value → Prop} {Post : Pt → Array Value → Option Value → Pt → Prop} {PostX : Pt → Array Value → Addr → Pt → Prop} (hK : vx_Back l R p e below s args y 3 W9 Pre Post PostX)
    {b : Addr} {cellB : Cell} (hcell : T.heap[b]? = some cellB) (hobj : cellB.vm.isStatics = false) (hcls : s.vm.findClass C = some cellB.cls)
    {g : JFrame} (hg : g.method = m) (hsize : g.locals.size = c.maxLocals) {argsL rest : List Value} (hlen : ∀ sig, parseMethodDescriptor y.desc = some sig → argsL.length = sig.parameters.length)
    (hstack : g.stack = argsL.reverse ++ .ref b :: rest) (hW : 2 * g.monitorRoom + (rest.map fun v => v.category).sum ≤ W9) (hdg : decode c.code g.pc = .ok (.invokevirtual index, 3))
    (hpre : ∀ vm₁, s.WarmedH vm₁ → Pre ⟨T.setVm vm₁, locs, cells, slots⟩ (Value.ref b :: argsL).toArray) :
    (∃ (v : Option Value) (vm₁ : Vm) (B : Pt), s.WarmedH vm₁ ∧ Stand p l e R s m args below meth c B.U B.locs B.cells B.slots ∧ Post ⟨T.setVm vm₁, locs, cells, slots⟩ (Value.ref b :: argsL).toArray v B ∧
      ∀ target, Steps p.tables e below (B.U.setTop { g with pc := g.pc + 3, stack := v.toList ++ rest }) target → Steps p.tables e below (T.setTop g) target) ∨
    (∃ (q : Addr) (vm₁ : Vm) (B : Pt), s.WarmedH vm₁ ∧ Stand p l e R s m args below meth c B.U B.locs B.cells B.slots ∧ PostX ⟨T.setVm vm₁, locs, cells, slots⟩ (Value.ref b :: argsL).toArray q B ∧
      Steps p.tables e below (T.setTop g) ((B.U.setTop { g with stack := rest }).pushFrame (.throwing q))) := by
  obtain ⟨mk, methM, hnamed, hmethM, hstM, habM⟩ := Cond.instanceMethod_spec hinst
  obtain ⟨methM', cM, hmethM', -, -, -, -, -, -, hsigM⟩ := Cond.code_spec hnamed hcode
  cases hmethM.symm.trans hmethM'
  obtain ⟨c2, r2, m2, q1, q2, q3, q4, kP, hkP, hkPi⟩ := Cond.selects_spec hsel
  cases hcls.symm.trans q1
  cases (State.methodFound?_of_named hnamed hy).symm.trans q2
  cases hnamed.symm.trans q3
  have hselP : selectMethod e.platform s.vm cellB.cls mk = .method mk := by rw [Launch.admits_selectMethod X.admits]; exact q4
  obtain ⟨vm₁, X₁, hstep₁⟩ := X.invokevirtual hexec hown hlink hnamed hmethM hstM hkP hkPi hy (a := b) (cell := cellB) hcell
    (fun z h => by rw [h] at hobj; cases hobj) hselP hmethM habM hkP hkPi (g := g) hg (argsL := argsL) (rest := rest) (hlen _ hsigM) hstack hdg
  rcases hK m meth c ⟨T.setVm vm₁, locs, cells, slots⟩ { g with stack := rest } (.invokevirtual index) mk (Value.ref b :: argsL).toArray X₁ hg hsize hdg hW (X₁.named hnamed) (hpre vm₁ X₁.warmed) with ⟨v, B, X', hpost, hsteps⟩ | ⟨q, B, X', hpost, hsteps⟩
  · exact Or.inl ⟨v, vm₁, B, X₁.warmed, X', hpost, fun target h => hstep₁ _ fun acts => by rw [doInvoke_state]; exact hsteps.trans h⟩
  · exact Or.inr ⟨q, vm₁, B, X₁.warmed, X', hpost, hstep₁ _ fun acts => by rw [doInvoke_state]; exact hsteps⟩
theorem vx_callS (X : Stand p l e R s m args below meth c T locs cells slots) (hexec : p.tables.exec = Jvm.exec) {own : String} {index : Nat} {y : MethodName} {bytes : ByteArray} {maxL : Nat} {ret : Option FieldType}
    (hown : s.vm.findClass own = some m.cls) (hlink : (Cond.methodLink own index y).before args s = true) (hstat : (Cond.static y).before args s = true) (hinit : (Cond.initialized y.cls).before args s = true)
    (hcode : (Cond.code y bytes maxL ret).before args s = true) (hy : y.cls ≠ "java/lang/invoke/MethodHandle" ∧ y.cls ≠ "java/lang/invoke/VarHandle")
    {W9 : Nat} {Pre : Pt → Array Value → Prop} {Post : Pt → Array Value → Option Value → Pt → Prop} {PostX : Pt → Array Value → Addr → Pt → Prop} (hK : vx_Back l R p e below s args y 3 W9 Pre Post PostX)
    {g : JFrame} (hg : g.method = m) (hsize : g.locals.size = c.maxLocals) {argsL rest : List Value} (hlen : ∀ sig, parseMethodDescriptor y.desc = some sig → argsL.length = sig.parameters.length)
    (hstack : g.stack = argsL.reverse ++ rest) (hW : 2 * g.monitorRoom + (rest.map fun v => v.category).sum ≤ W9) (hdg : decode c.code g.pc = .ok (.invokestatic index, 3))
    (hpre : ∀ vm₁, s.WarmedH vm₁ → Pre ⟨T.setVm vm₁, locs, cells, slots⟩ argsL.toArray) :
    (∃ (v : Option Value) (vm₁ : Vm) (B : Pt), s.WarmedH vm₁ ∧ Stand p l e R s m args below meth c B.U B.locs B.cells B.slots ∧ Post ⟨T.setVm vm₁, locs, cells, slots⟩ argsL.toArray v B ∧
      ∀ target, Steps p.tables e below (B.U.setTop { g with pc := g.pc + 3, stack := v.toList ++ rest }) target → Steps p.tables e below (T.setTop g) target) ∨
    (∃ (q : Addr) (vm₁ : Vm) (B : Pt), s.WarmedH vm₁ ∧ Stand p l e R s m args below meth c B.U B.locs B.cells B.slots ∧ PostX ⟨T.setVm vm₁, locs, cells, slots⟩ argsL.toArray q B ∧
      Steps p.tables e below (T.setTop g) ((B.U.setTop { g with stack := rest }).pushFrame (.throwing q))) := by
  obtain ⟨mk, hnamed⟩ := Cond.code_named hcode
  obtain ⟨methM, cM, hmethM, -, -, -, -, -, -, hsigM⟩ := Cond.code_spec hnamed hcode
  have hstatic : methM.isStatic = true := Cond.static_spec hnamed hmethM hstat
  obtain ⟨kP, hkP, -⟩ := className_of_methodNamed hnamed
  have hinitP : kP.init = .initialized := Cond.initialized_spec (findClass_of_methodNamed hnamed) hkP hinit
  obtain ⟨vm₁, X₁, hstep₁⟩ := X.invokestatic hexec hown hlink hnamed hmethM hstatic hkP hinitP hy (g := g) hg (argsL := argsL) (rest := rest) (hlen _ hsigM) hstack hdg
  rcases hK m meth c ⟨T.setVm vm₁, locs, cells, slots⟩ { g with stack := rest } (.invokestatic index) mk argsL.toArray X₁ hg hsize hdg hW (X₁.named hnamed) (hpre vm₁ X₁.warmed) with ⟨v, B, X', hpost, hsteps⟩ | ⟨q, B, X', hpost, hsteps⟩
  · exact Or.inl ⟨v, vm₁, B, X₁.warmed, X', hpost, fun target h => hstep₁ _ fun acts => by rw [doInvoke_state]; exact hsteps.trans h⟩
  · exact Or.inr ⟨q, vm₁, B, X₁.warmed, X', hpost, hstep₁ _ fun acts => by rw [doInvoke_state]; exact hsteps⟩
end Calls
theorem vx_cls {s : State} {T : State} {vm₁ : Vm} {E : String} {k : ClassId} (hW : s.WarmedH vm₁) (h : (T.setVm vm₁).vm.findClass E = some k) : s.vm.findClass E = some k := by
  have h1 : vm₁.findClass E = some k := h
  rw [hW.alike.findClass] at h1
  exact h1
/-- the method's frame g, with q thrown over it -/
def vx_W (p : Program) (l : Launch) (e : Env) (R : Room) (s : State) (m : MethodId) (args : Array Value) (below : List Frame) (meth : Method) (c : Code) (H : Heap) (locs : List Loc) (cells slots : Nat) (Q : State → Prop) (g : JFrame) (q : Addr) : Prop :=
  ∀ T : State, T.heap = H → Stand p l e R s m args below meth c T locs cells slots → ∃ t, Steps p.tables e below ((T.setTop g).pushFrame (.throwing q)) t ∧ Q t
def vx_Run (p : Program) (l : Launch) (e : Env) (R : Room) (s : State) (m : MethodId) (args : Array Value) (below : List Frame) (meth : Method) (c : Code) (H : Heap) (locs : List Loc) (cells slots mc ms : Nat) (g : JFrame) (rest : List Value) (Qa : State → Outcome → State → Prop) (XC : String → State → State → Prop) (free : Addr → Prop) : Prop :=
  ∀ T : State, T.heap = H → Stand p l e R s m args below meth c T locs cells slots →
    (∃ (v : Option Value) (st₀ t T' : State) (L : List Loc), st₀.heap = H ∧ Stand p l e R s m args below meth c T' (locs ++ L) (cells + mc) (slots + ms) ∧ (∀ q ∈ L, free q.base) ∧ T'.heap = t.heap ∧ T'.vm = t.vm ∧ Qa st₀ (.returned v) t ∧
      Goes p e below T g T' { g with pc := g.pc + 3, stack := v.toList ++ rest }) ∨
    (∃ (q : Addr) (st₀ t T' : State) (L : List Loc) (E : String) (ce : Cell), st₀.heap = H ∧ Stand p l e R s m args below meth c T' (locs ++ L) (cells + mc) (slots + ms) ∧ (∀ z ∈ L, free z.base) ∧ T'.heap = t.heap ∧ T'.vm = t.vm ∧ XC E st₀ t ∧ t.heap[q]? = some ce ∧ ce.vm = .none ∧ s.vm.findClass E = some ce.cls ∧
      Steps p.tables e below (T.setTop g) ((T'.setTop { g with stack := rest }).pushFrame (.throwing q)))
def vx_X {S : Type} (px : S → Prop) (B : String → S → State → Prop) (A : Nat → Prop) : String → State → State → Prop := fun E st t => ∃ u : S, px u ∧ B E u t ∧ va_F A st t
section Runs
variable {p : Program} {l : Launch} {e : Env} {R : Room} {s : State} {m : MethodId} {args : Array Value} {below : List Frame} {meth : Method} {c : Code} {H : Heap} {locs : List Loc} {cells slots : Nat}
variable {y : MethodName} {bytes cc : ByteArray} {maxL nL mc ms n index : Nat} {ret : Option FieldType} {ws : List Cond} {rm : Room} {Pc : Array Value → State → Prop} {Qc : Array Value → State → Outcome → State → Prop} {XC : String → State → State → Prop} {free : Addr → Prop} {Ts : List Cond} {own C : String} {b : Addr} {As rest : List Value} {g : JFrame}
theorem vx_callBack (cb : CallB R s args own index y bytes maxL ret ws rm mc ms n) (hM : vx_Met l y ws rm Pc Qc XC mc ms free) (hbl : FrameBlind Pc) : vx_Back l R p e below s args y 3 8 (PreOf R mc ms Pc) (PostOf Qc mc ms free) (vx_Post XC mc ms free) := by
  obtain ⟨hrc, hrs, hfr, hlo, hws, hcw, -, hini, -⟩ := cb
  exact vx_back (bytes := bytes) (maxL := maxL) (ret := ret) hM hbl hrc hrs hfr hlo hws hcw (fun a' U hW => word_at hW (Or.inl (by first | rfl | simp [Cond.onTables, Cond.keeps, Cond.steady])) hini)
theorem vx_runV (S : CallFix p m c cc nL s args Ts own) (hM : vx_Met l y ws rm Pc Qc XC mc ms free) (cw : CallW R s args own C index y bytes maxL ret ws rm mc ms n) (hp : PreV s H C b Pc As)
    (hg : g.method = m) (hn : As.length = n) (hsize : g.locals.size = nL) (hstack : g.stack = As.reverse ++ .ref b :: rest) (hW : 2 * g.monitorRoom + (rest.map fun v => v.category).sum ≤ 8) (hdg : decode cc g.pc = .ok (.invokevirtual index, 3)) (hf : cells + mc ≤ R.cells ∧ slots + ms ≤ R.slots) :
    vx_Run p l e R s m args below meth c H locs cells slots mc ms g rest (Qc (Value.ref b :: As).toArray) XC free := by
  have hK : vx_Back l R p e below s args y 3 8 (PreOf R mc ms Pc) (PostOf Qc mc ms free) (vx_Post XC mc ms free) := vx_callBack cw.1 hM hp.1
  obtain ⟨⟨-, -, -, -, -, -, hcode, -, hy, hlen, hl⟩, hin, hse⟩ := cw
  obtain ⟨hx, hb, hml, ho, -⟩ := S
  obtain ⟨-, ⟨cellB, hcB, hoB, hclB⟩, hPc⟩ := hp
  intro T hT X
  rcases vx_callV X hx (C := C) (bytes := bytes) (maxL := maxL) (ret := ret) ho hl hin hse hcode hy hK (by rw [hT]; exact hcB) hoB hclB hg (hsize.trans hml.symm) (argsL := As) (rest := rest) (fun sig h => hn.trans (hlen sig h)) hstack hW (by rw [hb]; exact hdg)
    (fun vm₁ hW₁ => ⟨hf.1, hf.2, hPc (T.setVm vm₁) hT hW₁⟩) with ⟨v, vm₁, ⟨U', l2, c2, s2⟩, hW₁, X', ⟨g', mk, t, L, e1, e2, hq, h1, hL, h2, h3⟩, st⟩ | ⟨q, vm₁, ⟨U', l2, c2, s2⟩, hW₁, X', ⟨g', mk, t, L, E, ce, e1, e2, hq, hce, hcv, hcl, h1, hL, h2, h3⟩, st⟩
  · dsimp only [Pt.U, Pt.locs, Pt.cells, Pt.slots] at X' e1 e2 h1 h2 h3 st
    subst h1; subst h2; subst h3
    exact Or.inl ⟨v, (T.setVm vm₁).calling g' mk (Value.ref b :: As).toArray, t, U', L, hT, X', hL, e1, e2, hq, st⟩
  · dsimp only [Pt.U, Pt.locs, Pt.cells, Pt.slots] at X' e1 e2 h1 h2 h3 st hcl
    subst h1; subst h2; subst h3
    exact Or.inr ⟨q, (T.setVm vm₁).calling g' mk (Value.ref b :: As).toArray, t, U', L, E, ce, hT, X', hL, e1, e2, hq, hce, hcv, vx_cls hW₁ hcl, st⟩
theorem vx_runS (S : CallFix p m c cc nL s args Ts own) (hM : vx_Met l y ws rm Pc Qc XC mc ms free) (cw : CallB R s args own index y bytes maxL ret ws rm mc ms n ∧ (Cond.static y).before args s = true) (hp : PreS s H Pc As)
    (hg : g.method = m) (hn : As.length = n) (hsize : g.locals.size = nL) (hstack : g.stack = As.reverse ++ rest) (hW : 2 * g.monitorRoom + (rest.map fun v => v.category).sum ≤ 8) (hdg : decode cc g.pc = .ok (.invokestatic index, 3)) (hf : cells + mc ≤ R.cells ∧ slots + ms ≤ R.slots) :
    vx_Run p l e R s m args below meth c H locs cells slots mc ms g rest (Qc As.toArray) XC free := by
  have hK : vx_Back l R p e below s args y 3 8 (PreOf R mc ms Pc) (PostOf Qc mc ms free) (vx_Post XC mc ms free) := vx_callBack cw.1 hM hp.1
  obtain ⟨⟨-, -, -, -, -, -, hcode, hini, hy, hlen, hl⟩, hstt⟩ := cw
  obtain ⟨hx, hb, hml, ho, -⟩ := S
  intro T hT X
  rcases vx_callS X hx (bytes := bytes) (maxL := maxL) (ret := ret) ho hl hstt hini hcode hy hK hg (hsize.trans hml.symm) (argsL := As) (rest := rest) (fun sig h => hn.trans (hlen sig h)) hstack hW (by rw [hb]; exact hdg)
    (fun vm₁ hW₁ => ⟨hf.1, hf.2, hp.2 (T.setVm vm₁) hT hW₁⟩) with ⟨v, vm₁, ⟨U', l2, c2, s2⟩, hW₁, X', ⟨g', mk, t, L, e1, e2, hq, h1, hL, h2, h3⟩, st⟩ | ⟨q, vm₁, ⟨U', l2, c2, s2⟩, hW₁, X', ⟨g', mk, t, L, E, ce, e1, e2, hq, hce, hcv, hcl, h1, hL, h2, h3⟩, st⟩
  · dsimp only [Pt.U, Pt.locs, Pt.cells, Pt.slots] at X' e1 e2 h1 h2 h3 st
    subst h1; subst h2; subst h3
    exact Or.inl ⟨v, (T.setVm vm₁).calling g' mk As.toArray, t, U', L, hT, X', hL, e1, e2, hq, st⟩
  · dsimp only [Pt.U, Pt.locs, Pt.cells, Pt.slots] at X' e1 e2 h1 h2 h3 st hcl
    subst h1; subst h2; subst h3
    exact Or.inr ⟨q, (T.setVm vm₁).calling g' mk As.toArray, t, U', L, E, ce, hT, X', hL, e1, e2, hq, hce, hcv, vx_cls hW₁ hcl, st⟩
end Runs
section Rows
variable {p : Program} {l : Launch} {e : Env} {R : Room} {s : State} {m : MethodId} {args : Array Value} {below : List Frame} {meth : Method} {c : Code} {H : Heap} {locs : List Loc} {cells slots : Nat} {Q : State → Prop}
variable {mc ms : Nat} {free : Addr → Prop} {A0 A1 : Nat → Prop} {H0 : Heap} {a : Array Value} {pc : Nat} {ls : Array Slot} {st0 rest : List Value}
theorem vx_keep {st₀ t T' : State} {L : List Loc} (h0 : st₀.heap = H) (e1 : T'.heap = t.heap) (hS : va_S A0 H0 H locs) (hA : ∀ q, q < H.size → A1 q → A0 q) (hf : ∀ q, free q → A0 q) (hL : ∀ q ∈ L, free q.base) (hF : va_F A1 st₀ t) :
    H.size ≤ T'.heap.size ∧ (∀ q : Nat, q < H.size → ¬ A1 q → T'.heap[q]? = H[q]?) ∧ va_S A0 H0 T'.heap (locs ++ L) := by
  obtain ⟨hz, hk⟩ := hF
  rw [h0] at hz hk
  exact ⟨by rw [e1]; exact hz, fun q h1 h2 => by rw [e1]; exact hk q h1 h2,
    ⟨Nat.le_trans hS.1 (by rw [e1]; exact hz), fun q h1 h2 => by rw [e1, hk q (Nat.lt_of_lt_of_le h1 hS.1) (fun z => h2 (hA q (Nat.lt_of_lt_of_le h1 hS.1) z))]; exact hS.2.1 q h1 h2, fun q hq => by
      rcases List.mem_append.mp hq with h | h
      · exact hS.2.2 q h
      · exact hf _ (hL q h)⟩⟩
theorem vx_calli {S SX : Type} {post : Int32 → S → Prop} {px : SX → Prop} {B : S → State → Prop} {BX : String → SX → State → Prop} {AX : Nat → Prop} (hr : vx_Run p l e R s m args below meth c H locs cells slots mc ms (F0 m pc ls st0) rest (va_Qi post B A1 a) (vx_X px BX AX) free) (hS : va_S A0 H0 H locs) (hA : ∀ q, q < H.size → A1 q → A0 q) (hf : ∀ q, free q → A0 q) (hAX : ∀ q, q < H.size → AX q → A0 q)
    (kx : ∀ (E : String) (ce : Cell) (q9 : Addr) (u : SX) (t : State) (H1 : Heap) (locs1 : List Loc), t.heap = H1 → s.vm.Alike t.vm → px u → BX E u t → H.size ≤ H1.size → (∀ q : Nat, q < H.size → ¬ AX q → H1[q]? = H[q]?) → va_S A0 H0 H1 locs1 → H1[q9]? = some ce → ce.vm = .none → s.vm.findClass E = some ce.cls → vx_W p l e R s m args below meth c H1 locs1 (cells + mc) (slots + ms) Q (F0 m pc ls rest) q9)
    (kk : ∀ (r : Int32) (u : S) (t : State) (H1 : Heap) (locs1 : List Loc), t.heap = H1 → s.vm.Alike t.vm → post r u → B u t → H.size ≤ H1.size → (∀ q : Nat, q < H.size → ¬ A1 q → H1[q]? = H[q]?) → va_S A0 H0 H1 locs1 → W p l e R s m args below meth c H1 locs1 (cells + mc) (slots + ms) Q (F0 m (pc + 3) ls (.int r :: rest))) : W p l e R s m args below meth c H locs cells slots Q (F0 m pc ls st0) := by
  intro T hT X
  rcases hr T hT X with ⟨v, st₀, t, T', L, h0, X', hL, e1, e2, ⟨⟨r, u, hv, hp, hb⟩, hF⟩, st⟩ | ⟨q, st₀, t, T', L, E, ce, h0, X', hL, e1, e2, ⟨u, hp, hb, hF⟩, hce, hcv, hcl, st⟩
  · cases hv
    obtain ⟨k1, k2, k3⟩ := vx_keep h0 e1 hS hA hf hL hF
    obtain ⟨t2, a1, b1⟩ := kk r u t T'.heap (locs ++ L) e1.symm (by rw [← e2]; exact X'.warmed.alike) hp hb k1 k2 k3 T' rfl X'
    exact ⟨t2, st t2 a1, b1⟩
  · obtain ⟨k1, k2, k3⟩ := vx_keep h0 e1 hS hAX hf hL hF
    obtain ⟨t2, a1, b1⟩ := kx E ce q u t T'.heap (locs ++ L) e1.symm (by rw [← e2]; exact X'.warmed.alike) hp hb k1 k2 k3 (by rw [e1]; exact hce) hcv hcl T' rfl X'
    exact ⟨t2, st.trans a1, b1⟩
theorem vx_calll {S SX : Type} {post : Int64 → S → Prop} {px : SX → Prop} {B : S → State → Prop} {BX : String → SX → State → Prop} {AX : Nat → Prop} (hr : vx_Run p l e R s m args below meth c H locs cells slots mc ms (F0 m pc ls st0) rest (va_Ql post B A1 a) (vx_X px BX AX) free) (hS : va_S A0 H0 H locs) (hA : ∀ q, q < H.size → A1 q → A0 q) (hf : ∀ q, free q → A0 q) (hAX : ∀ q, q < H.size → AX q → A0 q)
    (kx : ∀ (E : String) (ce : Cell) (q9 : Addr) (u : SX) (t : State) (H1 : Heap) (locs1 : List Loc), t.heap = H1 → s.vm.Alike t.vm → px u → BX E u t → H.size ≤ H1.size → (∀ q : Nat, q < H.size → ¬ AX q → H1[q]? = H[q]?) → va_S A0 H0 H1 locs1 → H1[q9]? = some ce → ce.vm = .none → s.vm.findClass E = some ce.cls → vx_W p l e R s m args below meth c H1 locs1 (cells + mc) (slots + ms) Q (F0 m pc ls rest) q9)
    (kk : ∀ (r : Int64) (u : S) (t : State) (H1 : Heap) (locs1 : List Loc), t.heap = H1 → s.vm.Alike t.vm → post r u → B u t → H.size ≤ H1.size → (∀ q : Nat, q < H.size → ¬ A1 q → H1[q]? = H[q]?) → va_S A0 H0 H1 locs1 → W p l e R s m args below meth c H1 locs1 (cells + mc) (slots + ms) Q (F0 m (pc + 3) ls (.long r :: rest))) : W p l e R s m args below meth c H locs cells slots Q (F0 m pc ls st0) := by
  intro T hT X
  rcases hr T hT X with ⟨v, st₀, t, T', L, h0, X', hL, e1, e2, ⟨⟨r, u, hv, hp, hb⟩, hF⟩, st⟩ | ⟨q, st₀, t, T', L, E, ce, h0, X', hL, e1, e2, ⟨u, hp, hb, hF⟩, hce, hcv, hcl, st⟩
  · cases hv
    obtain ⟨k1, k2, k3⟩ := vx_keep h0 e1 hS hA hf hL hF
    obtain ⟨t2, a1, b1⟩ := kk r u t T'.heap (locs ++ L) e1.symm (by rw [← e2]; exact X'.warmed.alike) hp hb k1 k2 k3 T' rfl X'
    exact ⟨t2, st t2 a1, b1⟩
  · obtain ⟨k1, k2, k3⟩ := vx_keep h0 e1 hS hAX hf hL hF
    obtain ⟨t2, a1, b1⟩ := kx E ce q u t T'.heap (locs ++ L) e1.symm (by rw [← e2]; exact X'.warmed.alike) hp hb k1 k2 k3 (by rw [e1]; exact hce) hcv hcl T' rfl X'
    exact ⟨t2, st.trans a1, b1⟩
theorem vx_callf {S SX : Type} {post : UInt32 → S → Prop} {px : SX → Prop} {B : S → State → Prop} {BX : String → SX → State → Prop} {AX : Nat → Prop} (hr : vx_Run p l e R s m args below meth c H locs cells slots mc ms (F0 m pc ls st0) rest (va_Qf post B A1 a) (vx_X px BX AX) free) (hS : va_S A0 H0 H locs) (hA : ∀ q, q < H.size → A1 q → A0 q) (hf : ∀ q, free q → A0 q) (hAX : ∀ q, q < H.size → AX q → A0 q)
    (kx : ∀ (E : String) (ce : Cell) (q9 : Addr) (u : SX) (t : State) (H1 : Heap) (locs1 : List Loc), t.heap = H1 → s.vm.Alike t.vm → px u → BX E u t → H.size ≤ H1.size → (∀ q : Nat, q < H.size → ¬ AX q → H1[q]? = H[q]?) → va_S A0 H0 H1 locs1 → H1[q9]? = some ce → ce.vm = .none → s.vm.findClass E = some ce.cls → vx_W p l e R s m args below meth c H1 locs1 (cells + mc) (slots + ms) Q (F0 m pc ls rest) q9)
    (kk : ∀ (r : UInt32) (u : S) (t : State) (H1 : Heap) (locs1 : List Loc), t.heap = H1 → s.vm.Alike t.vm → post r u → B u t → H.size ≤ H1.size → (∀ q : Nat, q < H.size → ¬ A1 q → H1[q]? = H[q]?) → va_S A0 H0 H1 locs1 → W p l e R s m args below meth c H1 locs1 (cells + mc) (slots + ms) Q (F0 m (pc + 3) ls (.float r :: rest))) : W p l e R s m args below meth c H locs cells slots Q (F0 m pc ls st0) := by
  intro T hT X
  rcases hr T hT X with ⟨v, st₀, t, T', L, h0, X', hL, e1, e2, ⟨⟨r, u, hv, hp, hb⟩, hF⟩, st⟩ | ⟨q, st₀, t, T', L, E, ce, h0, X', hL, e1, e2, ⟨u, hp, hb, hF⟩, hce, hcv, hcl, st⟩
  · cases hv
    obtain ⟨k1, k2, k3⟩ := vx_keep h0 e1 hS hA hf hL hF
    obtain ⟨t2, a1, b1⟩ := kk r u t T'.heap (locs ++ L) e1.symm (by rw [← e2]; exact X'.warmed.alike) hp hb k1 k2 k3 T' rfl X'
    exact ⟨t2, st t2 a1, b1⟩
  · obtain ⟨k1, k2, k3⟩ := vx_keep h0 e1 hS hAX hf hL hF
    obtain ⟨t2, a1, b1⟩ := kx E ce q u t T'.heap (locs ++ L) e1.symm (by rw [← e2]; exact X'.warmed.alike) hp hb k1 k2 k3 (by rw [e1]; exact hce) hcv hcl T' rfl X'
    exact ⟨t2, st.trans a1, b1⟩
theorem vx_calld {S SX : Type} {post : UInt64 → S → Prop} {px : SX → Prop} {B : S → State → Prop} {BX : String → SX → State → Prop} {AX : Nat → Prop} (hr : vx_Run p l e R s m args below meth c H locs cells slots mc ms (F0 m pc ls st0) rest (va_Qd post B A1 a) (vx_X px BX AX) free) (hS : va_S A0 H0 H locs) (hA : ∀ q, q < H.size → A1 q → A0 q) (hf : ∀ q, free q → A0 q) (hAX : ∀ q, q < H.size → AX q → A0 q)
    (kx : ∀ (E : String) (ce : Cell) (q9 : Addr) (u : SX) (t : State) (H1 : Heap) (locs1 : List Loc), t.heap = H1 → s.vm.Alike t.vm → px u → BX E u t → H.size ≤ H1.size → (∀ q : Nat, q < H.size → ¬ AX q → H1[q]? = H[q]?) → va_S A0 H0 H1 locs1 → H1[q9]? = some ce → ce.vm = .none → s.vm.findClass E = some ce.cls → vx_W p l e R s m args below meth c H1 locs1 (cells + mc) (slots + ms) Q (F0 m pc ls rest) q9)
    (kk : ∀ (r : UInt64) (u : S) (t : State) (H1 : Heap) (locs1 : List Loc), t.heap = H1 → s.vm.Alike t.vm → post r u → B u t → H.size ≤ H1.size → (∀ q : Nat, q < H.size → ¬ A1 q → H1[q]? = H[q]?) → va_S A0 H0 H1 locs1 → W p l e R s m args below meth c H1 locs1 (cells + mc) (slots + ms) Q (F0 m (pc + 3) ls (.double r :: rest))) : W p l e R s m args below meth c H locs cells slots Q (F0 m pc ls st0) := by
  intro T hT X
  rcases hr T hT X with ⟨v, st₀, t, T', L, h0, X', hL, e1, e2, ⟨⟨r, u, hv, hp, hb⟩, hF⟩, st⟩ | ⟨q, st₀, t, T', L, E, ce, h0, X', hL, e1, e2, ⟨u, hp, hb, hF⟩, hce, hcv, hcl, st⟩
  · cases hv
    obtain ⟨k1, k2, k3⟩ := vx_keep h0 e1 hS hA hf hL hF
    obtain ⟨t2, a1, b1⟩ := kk r u t T'.heap (locs ++ L) e1.symm (by rw [← e2]; exact X'.warmed.alike) hp hb k1 k2 k3 T' rfl X'
    exact ⟨t2, st t2 a1, b1⟩
  · obtain ⟨k1, k2, k3⟩ := vx_keep h0 e1 hS hAX hf hL hF
    obtain ⟨t2, a1, b1⟩ := kx E ce q u t T'.heap (locs ++ L) e1.symm (by rw [← e2]; exact X'.warmed.alike) hp hb k1 k2 k3 (by rw [e1]; exact hce) hcv hcl T' rfl X'
    exact ⟨t2, st.trans a1, b1⟩
theorem vx_callv {S SX : Type} {post : S → Prop} {px : SX → Prop} {B : S → State → Prop} {BX : String → SX → State → Prop} {AX : Nat → Prop} (hr : vx_Run p l e R s m args below meth c H locs cells slots mc ms (F0 m pc ls st0) rest (va_Qv post B A1 a) (vx_X px BX AX) free) (hS : va_S A0 H0 H locs) (hA : ∀ q, q < H.size → A1 q → A0 q) (hf : ∀ q, free q → A0 q) (hAX : ∀ q, q < H.size → AX q → A0 q)
    (kx : ∀ (E : String) (ce : Cell) (q9 : Addr) (u : SX) (t : State) (H1 : Heap) (locs1 : List Loc), t.heap = H1 → s.vm.Alike t.vm → px u → BX E u t → H.size ≤ H1.size → (∀ q : Nat, q < H.size → ¬ AX q → H1[q]? = H[q]?) → va_S A0 H0 H1 locs1 → H1[q9]? = some ce → ce.vm = .none → s.vm.findClass E = some ce.cls → vx_W p l e R s m args below meth c H1 locs1 (cells + mc) (slots + ms) Q (F0 m pc ls rest) q9)
    (kk : ∀ (u : S) (t : State) (H1 : Heap) (locs1 : List Loc), t.heap = H1 → s.vm.Alike t.vm → post u → B u t → H.size ≤ H1.size → (∀ q : Nat, q < H.size → ¬ A1 q → H1[q]? = H[q]?) → va_S A0 H0 H1 locs1 → W p l e R s m args below meth c H1 locs1 (cells + mc) (slots + ms) Q (F0 m (pc + 3) ls (rest))) : W p l e R s m args below meth c H locs cells slots Q (F0 m pc ls st0) := by
  intro T hT X
  rcases hr T hT X with ⟨v, st₀, t, T', L, h0, X', hL, e1, e2, ⟨⟨u, hv, hp, hb⟩, hF⟩, st⟩ | ⟨q, st₀, t, T', L, E, ce, h0, X', hL, e1, e2, ⟨u, hp, hb, hF⟩, hce, hcv, hcl, st⟩
  · cases hv
    obtain ⟨k1, k2, k3⟩ := vx_keep h0 e1 hS hA hf hL hF
    obtain ⟨t2, a1, b1⟩ := kk u t T'.heap (locs ++ L) e1.symm (by rw [← e2]; exact X'.warmed.alike) hp hb k1 k2 k3 T' rfl X'
    exact ⟨t2, st t2 a1, b1⟩
  · obtain ⟨k1, k2, k3⟩ := vx_keep h0 e1 hS hAX hf hL hF
    obtain ⟨t2, a1, b1⟩ := kx E ce q u t T'.heap (locs ++ L) e1.symm (by rw [← e2]; exact X'.warmed.alike) hp hb k1 k2 k3 (by rw [e1]; exact hce) hcv hcl T' rfl X'
    exact ⟨t2, st.trans a1, b1⟩
/-- caught by the row x of this method's table; the rows ahead don't take it -/
theorem vx_catch {own name : String} {E : String} {ce : Cell} {q : Addr} (hown : s.vm.findClass own = some m.cls) (pre : List ExceptionTableEntry) (x : ExceptionTableEntry) (suf : List ExceptionTableEntry) (hsplit : c.exceptionTable.toList = pre ++ x :: suf)
    (hpass : ∀ z ∈ pre, covers z pc = false ∨ (z.catchType ≠ 0 ∧ ∃ nm : String, (Cond.classLink own z.catchType nm).before args s = true ∧ va_Nc E nm s)) (hx : covers x pc = true) (h0 : x.catchType ≠ 0)
    (hlink : (Cond.classLink own x.catchType name).before args s = true) (hcast : (Cond.castable E name).before args s = true) (hcell : H[q]? = some ce) (hv : ce.vm = .none) (hcl : s.vm.findClass E = some ce.cls)
    (kk : W p l e R s m args below meth c H locs cells slots Q (F0 m x.handlerPc ls [.ref q])) : vx_W p l e R s m args below meth c H locs cells slots Q (F0 m pc ls rest) q := by
  intro T hT X
  have hpl : e.platform.magicAccessors = ({} : Platform).magicAccessors := by rw [X.admits.platform]
  obtain ⟨c3, c4, hc3, hc4, hasg⟩ := Cond.castable_spec hcast
  cases Option.some.inj (hc3.symm.trans hcl)
  obtain ⟨c5, hc5, hcl5⟩ := Cond.classLink_spec hown hlink e.platform hpl
  cases Option.some.inj (hc4.symm.trans hc5)
  obtain ⟨vm', X', st⟩ := X.thenCaughtThrough q (g := F0 m pc ls rest) rfl (Steps.refl _) (by rw [hT]; exact hcell) (by rw [hv]; rfl) (by obtain ⟨k9, h9, -⟩ := Vm.findClass_spec hcl; exact ⟨k9, h9⟩) pre x suf hsplit
    (fun z hz => by
      rcases hpass z hz with h | ⟨hz0, nm, hl1, hn1⟩
      · exact Or.inl h
      · obtain ⟨c6, hc6, hcl6⟩ := Cond.classLink_spec hown hl1 e.platform hpl
        obtain ⟨a8, b8, h1, h2, h3⟩ := hn1
        cases Option.some.inj (h1.symm.trans hcl)
        cases Option.some.inj (h2.symm.trans hc6)
        exact Or.inr ⟨hz0, _, hcl6, h3⟩) hx (Or.inr ⟨h0, c4, hcl5, hasg⟩)
  obtain ⟨t, a1, b1⟩ := kk (T.setVm vm') hT X'
  exact ⟨t, st.trans a1, b1⟩
end Rows
section Ends
variable {p : Program} {l : Launch} {e : Env} {R : Room} {s : State} {m : MethodId} {args : Array Value} {below : List Frame} {meth : Method} {c : Code} {H : Heap} {locs : List Loc} {cells slots : Nat} {Q : State → Prop}
variable {mc ms : Nat} {free : Addr → Prop} {A0 A1 : Nat → Prop} {H0 : Heap} {a : Array Value} {ls : Array Slot} {st0 rest : List Value}
variable {Qc : Array Value → State → Outcome → State → Prop} {XC : String → State → State → Prop}
/-- what a body that may throw owes at its end -/
def vx_MQ (below : List Frame) (Qc : Array Value → State → Outcome → State → Prop) (XC : String → State → State → Prop) (a : Array Value) (s : State) (mc ms : Nat) (free : Addr → Prop) : State → Prop := fun t =>
  ∃ o, t.status = .running ∧ Ended t below o ∧ vx_Q Qc XC mc ms free a s o t
theorem vx_ret {g : JFrame} {mc ms : Nat} (k : W p l e R s m args below meth c H locs cells slots (MQ below Qc args s mc ms free) g) : W p l e R s m args below meth c H locs cells slots (vx_MQ below Qc XC args s mc ms free) g := by
  intro T hT X
  obtain ⟨t, a1, o, b1, b2, b3, b4⟩ := k T hT X
  exact ⟨t, a1, o, b1, b2, Or.inl ⟨b3, b4⟩⟩
/-- not caught here: it goes on to the caller -/
theorem vx_widen {g : JFrame} {q : Addr} {k n : Nat} (h1 : cells ≤ k) (h2 : slots ≤ n) (kk : vx_W p l e R s m args below meth c H locs k n Q g q) : vx_W p l e R s m args below meth c H locs cells slots Q g q := fun T hT X => kk T hT (stand_widen X h1 h2)
theorem vx_out {pc : Nat} {E : String} {ce : Cell} {q : Addr} {mc ms : Nat} (hout : ∀ x ∈ c.exceptionTable.toList, covers x pc = false) (hlocks : meth.locks = false) (hcell : H[q]? = some ce) (hv : ce.vm = .none) (hcl : s.vm.findClass E = some ce.cls)
    (hx : ∀ t : State, t.heap = H → s.vm.Alike t.vm → XC E s t) (hf : ∀ z ∈ locs, free z.base) (hc : cells ≤ mc) (hs : slots ≤ ms) :
    vx_W p l e R s m args below meth c H locs cells slots (vx_MQ below Qc XC args s mc ms free) (F0 m pc ls rest) q := by
  intro T hT X
  obtain ⟨st1, hrun, hend, hW, hsm⟩ := X.leaveThrown q (g := F0 m pc ls rest) rfl rfl rfl hout hlocks
  have hcell9 : (T.setFrames (.throwing q :: below)).heap[q]? = some ce := by
    show T.heap[q]? = some ce
    rw [hT]; exact hcell
  exact ⟨_, st1, .threw q, hrun, hend, Or.inr ⟨q, rfl, E, ce, locs, hx _ hT hW.alike, hcell9, hv, hcl, hW, hsm.mono hc hs, hf⟩⟩
theorem vx_frame {U : State} {k n : Nat} (h : s.sameButNew ({ U with vm := s.vm } : State) locs k n) : s.heap.size ≤ U.heap.size ∧ ∀ q : Nat, q < s.heap.size → (∀ z ∈ locs, z.base ≠ q) → U.heap[q]? = s.heap[q]? := by
  obtain ⟨-, h2, -, -, -, h6⟩ := h
  refine ⟨h2, fun q hq hz => ?_⟩
  obtain ⟨c9, e1, e2, e3, e4⟩ := h6 q _ (Array.getElem?_eq_getElem hq)
  have hs : c9.slots = (s.heap[q]).slots := Array.ext_getElem? fun i => e4 i fun hm => hz _ hm rfl
  have h9 : c9 = s.heap[q] := by
    rw [hs] at e2
    exact e2
  have e5 : U.heap[q]? = some c9 := e1
  rw [e5, h9, Array.getElem?_eq_getElem hq]
/-- the words of a throw but the four that speak of the heap -/
def vx_no (w : Cond) : Bool := decide (w ≠ .isRef (.static Bundle.tN "UNASSIGNED_STACK" Bundle.steD)) && decide (w ≠ .isRef (.static Bundle.tN "SUPPRESSED_SENTINEL" Bundle.listD)) && decide (w ≠ .laysStatic Bundle.tN "UNASSIGNED_STACK" Bundle.steD) && decide (w ≠ .laysStatic Bundle.tN "SUPPRESSED_SENTINEL" Bundle.listD)
def vx_at0 (own : String) (ic : Nat) (X : String) (names : List String) : List Cond := (Bundle.ownAtoms0 own ic X names).filter vx_no
def vx_atS (own : String) (ic : Nat) (X : String) (names : List String) : List Cond := (Bundle.ownAtoms own ic X names).filter vx_no
/-- a word that the tables alone decide, or a good one -/
def vx_ot (w : Cond) : Bool := w.onTables || goodWord w
theorem vx_ot_at {args a' : Array Value} {s U : State} {w : Cond} (hW : s.WarmedH U.vm) (hvm : s.vm = U.vm) (hg : vx_ot w = true) (h : w.before args s = true) : w.before a' U = true := by
  simp only [vx_ot, Bool.or_eq_true] at hg
  rcases hg with hg | hg
  · exact va_tabs hg hvm h
  · exact word_at hW (good_of_word hg) h
/-- a list's words: the good ones out of the method's own list, the others by premises of their own -/
theorem vx_hat {args : Array Value} {s : State} {L B : List Cond} (h1 : ∀ w ∈ L.filter goodWord, w.before args s = true) (h2 : ∀ w ∈ L.filter (fun w => !goodWord w), w ∈ B) (h3 : ∀ w ∈ B, w.before args s = true) : ∀ w ∈ L, w.before args s = true := by
  intro w hw
  by_cases g : goodWord w = true
  · exact h1 w (List.mem_filter.mpr ⟨hw, g⟩)
  · refine h3 w (h2 w (List.mem_filter.mpr ⟨hw, ?_⟩))
    show (!goodWord w) = true
    cases hgw : goodWord w
    · rfl
    · exact absurd hgw g
theorem vx_c {args : Array Value} {s : State} {w : Cond} {B : List Cond} (h : w.before args s = true) (t : ∀ w ∈ B, w.before args s = true) : ∀ w' ∈ w :: B, w'.before args s = true := fun w' h' => (List.mem_cons.mp h').elim (fun e => by rw [e]; exact h) (t w')
theorem vx_n {args : Array Value} {s : State} : ∀ w ∈ ([] : List Cond), w.before args s = true := fun _ h => nomatch h
theorem vx_own {args : Array Value} {s : State} {L : List Cond} (h1 : ∀ w ∈ L.filter vx_no, w.before args s = true)
    (hU : (Cond.isRef (.static Bundle.tN "UNASSIGNED_STACK" Bundle.steD)).before args s = true) (hN : (Cond.isRef (.static Bundle.tN "SUPPRESSED_SENTINEL" Bundle.listD)).before args s = true)
    (lU : (Cond.laysStatic Bundle.tN "UNASSIGNED_STACK" Bundle.steD).before args s = true) (lN : (Cond.laysStatic Bundle.tN "SUPPRESSED_SENTINEL" Bundle.listD).before args s = true) : ∀ w ∈ L, w.before args s = true := by
  intro w hw
  by_cases e1 : w = .isRef (.static Bundle.tN "UNASSIGNED_STACK" Bundle.steD)
  · rw [e1]; exact hU
  · by_cases e2 : w = .isRef (.static Bundle.tN "SUPPRESSED_SENTINEL" Bundle.listD)
    · rw [e2]; exact hN
    · by_cases e3 : w = .laysStatic Bundle.tN "UNASSIGNED_STACK" Bundle.steD
      · rw [e3]; exact lU
      · by_cases e4 : w = .laysStatic Bundle.tN "SUPPRESSED_SENTINEL" Bundle.listD
        · rw [e4]; exact lN
        · exact h1 w (List.mem_filter.mpr ⟨hw, by unfold vx_no; rw [decide_eq_true e1, decide_eq_true e2, decide_eq_true e3, decide_eq_true e4]; rfl⟩)
/-- where a static field lies, its class's statics cell in H -/
def vx_L (C n d : String) (A : Nat → Prop) (U : State) (H : Heap) : Prop := ∃ (c : ClassId) (k : Class) (i : Nat) (f : Field) (a : Nat) (cell : Cell), U.vm.findClass C = some c ∧ U.fieldFound? C n d = some (c, k, i, f) ∧ f.isStatic = true ∧ k.statics = some a ∧ H[a]? = some cell ∧ cell.vm.isStatics = true ∧ cell.cls = c ∧ f.slot < cell.slots.size ∧ k.staticTypes[f.slot]? = some f.type ∧ ¬ A a
theorem vx_L.moved {C n d : String} {A : Nat → Prop} {u U : State} {H : Heap} (hvm : u.vm.Alike U.vm) (h : vx_L C n d A u H) : vx_L C n d A U H := by
  obtain ⟨c, k, i, f, a, cell, h1, h2, h3, h4, h5, h6, h7, h8, h9, h10⟩ := h
  obtain ⟨k', hi', he⟩ := State.fieldFound?_setVm hvm h2
  exact ⟨c, k', i, f, a, cell, by rw [hvm.findClass]; exact h1, hi', h3, by rw [he]; exact h4, h5, h6, h7, h8, by rw [he]; exact h9, h10⟩
theorem vx_L.kept {C n d : String} {A : Nat → Prop} {U : State} {H H1 : Heap} (h : vx_L C n d A U H) (hq : ∀ a : Nat, a < H.size → ¬ A a → H1[a]? = H[a]?) : vx_L C n d A U H1 := by
  obtain ⟨c, k, i, f, a, cell, h1, h2, h3, h4, h5, h6, h7, h8, h9, h10⟩ := h
  exact ⟨c, k, i, f, a, cell, h1, h2, h3, h4, by rw [hq a (Array.getElem?_eq_some_iff.mp h5).1 h10]; exact h5, h6, h7, h8, h9, h10⟩
theorem vx_L.narrow {C n d : String} {A B : Nat → Prop} {U : State} {H : Heap} (h : vx_L C n d A U H) (hAB : ∀ q, B q → A q) : vx_L C n d B U H := by
  obtain ⟨c, k, i, f, a, cell, h1, h2, h3, h4, h5, h6, h7, h8, h9, h10⟩ := h
  exact ⟨c, k, i, f, a, cell, h1, h2, h3, h4, h5, h6, h7, h8, h9, fun z => h10 (hAB _ z)⟩
theorem vx_L.word {C n d : String} {A : Nat → Prop} {s : State} {args : Array Value} (h : vx_L C n d A s s.heap) : (Cond.laysStatic C n d).before args s = true := by
  obtain ⟨c, k, i, f, a, cell, h1, h2, h3, h4, h5, h6, h7, h8, h9, -⟩ := h
  show (Cond.laysStatic C n d).holds args s none s [] = true
  exact Cond.laysStatic_of h1 h2 h3 h4 h5 h6 h7 h8 h9
/-- .. and what it holds: null or some reference -/
def vx_Zq (C n d : String) (A : Nat → Prop) (U : State) (H : Heap) : Prop := va_Zq C n d A U H ∧ vx_L C n d A U H
theorem vx_Zq.moved {C n d : String} {A : Nat → Prop} {u U : State} {H : Heap} (hvm : u.vm.Alike U.vm) (h : vx_Zq C n d A u H) : vx_Zq C n d A U H := ⟨va_Zq.moved hvm h.1, vx_L.moved hvm h.2⟩
theorem vx_Zq.kept {C n d : String} {A : Nat → Prop} {U : State} {H H1 : Heap} (h : vx_Zq C n d A U H) (hq : ∀ a : Nat, a < H.size → ¬ A a → H1[a]? = H[a]?) : vx_Zq C n d A U H1 := ⟨va_Zq.kept h.1 hq, vx_L.kept h.2 hq⟩
theorem vx_Zq.narrow {C n d : String} {A B : Nat → Prop} {U : State} {H : Heap} (h : vx_Zq C n d A U H) (hAB : ∀ q, B q → A q) : vx_Zq C n d B U H := ⟨va_Zq.narrow h.1 hAB, vx_L.narrow h.2 hAB⟩
theorem vx_Zqof {args : Array Value} {s : State} {C n d : String} {A : Nat → Prop} (hl : (Cond.laysStatic C n d).before args s = true) (hini : (Cond.initialized C).before args s = true) (h : (Cond.isRef (.static C n d)).before args s = true) (hA : ∀ a : Nat, a < s.heap.size → ¬ A a) : vx_Zq C n d A s s.heap := by
  refine ⟨va_Zqof hl hini h hA, ?_⟩
  obtain ⟨c, k, i, f, a, cell, h1, h2, h3, h4, h5, h6, h7, h8, h9⟩ := Cond.laysStatic_spec hl
  exact ⟨c, k, i, f, a, cell, h1, h2, h3, h4, h5, h6, h7, h8, h9, hA a (Array.getElem?_eq_some_iff.mp h5).1⟩
theorem vx_isRef {C n d : String} {v : Value} {A : Nat → Prop} {s : State} {args : Array Value} (h : va_Z C n d v A s s.heap) (hv : v.isRef = true) : (Cond.isRef (.static C n d)).before args s = true := by
  obtain ⟨cf, kf, fi, f, a, cell, h1, h2, h3, h4, h5, h6, h7, -⟩ := h
  have he : (Term.static C n d).eval args s none [] s = some v := by
    simp [Term.eval, State.fieldNamed?, h1, h2, h4, h5, h6, h7]
  simp only [Cond.before, Cond.holds, Cond.value, he]
  cases v <;> simp_all [Value.isRef]
theorem vx_isRefq {C n d : String} {A : Nat → Prop} {s : State} {args : Array Value} (h : va_Zq C n d A s s.heap) : (Cond.isRef (.static C n d)).before args s = true := by
  rcases h with h | ⟨t, h⟩
  · exact vx_isRef h rfl
  · exact vx_isRef h rfl
/-- the same frame, seen from here: as if the method were called anew in this heap -/
theorem vx_rebase {T : State} (X : Stand p l e R s m args below meth c T locs cells slots) {R' : Room} (hf : R'.frames ≤ R.frames) (hl : R'.locals ≤ R.locals) (hc : cells + R'.cells ≤ R.cells) (hs : slots + R'.slots ≤ R.slots) :
    Stand p l e R' ((T.setVm s.vm).setFrames (.invoking m args :: below)) m args below meth c T [] 0 0 := by
  have htop : (T.setVm s.vm).topJava?.isSome := X.here.top
  have hF : ((T.setVm s.vm).setFrames (.invoking m args :: below)).frames = .invoking m args :: below := State.frames_setFrames _ (State.cur_lt_of_top htop)
  obtain ⟨g₀, hg0⟩ := Option.isSome_iff_exists.mp htop
  obtain ⟨r, hr⟩ := State.topJava?_eq_some.mp hg0
  have hl9 : e.platform.stackLimits (T.setVm s.vm).me = e.platform.stackLimits s.me := X.limits
  have hb9 : (T.setVm s.vm).me.stackBytes = s.me.stackBytes := X.bytes
  refine ⟨X.admits, X.cas, X.clock, hF, ?_, X.hears, X.method, X.code, X.here, X.tail, X.warmed, ?_, ?_, ?_⟩
  · have h := X.room
    have hU : ((T.setVm s.vm).setFrames (.invoking m args :: below)).localsInUse = s.localsInUse := by
      rw [State.localsInUse_invoking hF (meth := meth) (c := c) X.method X.code, State.localsInUse_invoking X.frames X.method X.code]
    simp only [State.hasRoom, Bool.and_eq_true, decide_eq_true_eq] at h ⊢
    obtain ⟨⟨⟨⟨h1, h2, h3, h4, h5, h6⟩, h7⟩, h8⟩, h9⟩ := h
    rw [X.frames, List.length_cons] at h2 h3
    have q1 := X.heapSize
    have q2 := X.used
    simp only [hF, hU, List.length_cons, State.stackLimits_setFrames, State.stackBytes_setFrames, hl9, hb9]
    refine ⟨⟨⟨⟨by omega, by omega, by omega, by omega, by omega, h6⟩, ?_⟩, ?_⟩, X.book⟩
    · show T.heap.size + R'.cells ≤ e.platform.maxCells
      omega
    · show T.slotsUsed + R'.slots ≤ e.platform.maxSlots
      omega
  · rw [State.stackLimits_setFrames]; rfl
  · rw [State.stackBytes_setFrames]; rfl
  · refine ⟨?_, Nat.le_refl _, Nat.le_refl _, ?_, ?_, fun a c9 h9 => ⟨c9, h9, rfl, rfl, fun _ _ => rfl⟩⟩
    · obtain ⟨t, ht, -⟩ := State.frames_cons hr
      show T.setVm s.vm = { ((T.setVm s.vm).setFrames (.invoking m args :: below)).setFrames (T.setVm s.vm).frames with heap := T.heap, slotsUsed := T.slotsUsed }
      rw [State.setFrames_setFrames, State.setFrames_self ht]
      rfl
    · show T.slotsUsed = T.slotsUsed + ((T.heap.toList.drop T.heap.size).map (·.slots.size)).sum
      rw [List.drop_eq_nil_of_le (Nat.le_of_eq Array.length_toList)]
      rfl
    · show ((T.heap.toList.drop T.heap.size).map (·.slots.size)).sum ≤ 0
      rw [List.drop_eq_nil_of_le (Nat.le_of_eq Array.length_toList)]
      exact Nat.le_refl _
/-- 'throw new E()': new; dup; invokespecial; athrow -/
theorem vx_throw0 {cc : ByteArray} {pc : Nat} (hexec : p.tables.exec = Jvm.exec) (hb : c.code = cc) (hl : l.stackTraces = false) {own cls : String} {names : List String} {ik ic mc ms : Nat} {A : Nat → Prop}
    (hown : s.vm.findClass own = some m.cls) (hcls : Bundle.fit cls = true) (hnames : ∀ n ∈ names, Bundle.fit n = true)
    (hk : (Cond.classLink own ik cls).before args s = true) (hini : (Cond.initialized cls).before args s = true) (hat : ∀ w ∈ vx_at0 own ic cls names, w.before args s = true)
    (hgood : ∀ w ∈ Cond.classLink own ik cls :: Cond.initialized cls :: vx_at0 own ic cls names, vx_ot w = true)
    (hU : vx_Zq Bundle.tN "UNASSIGNED_STACK" Bundle.steD A s s.heap) (hN : vx_Zq Bundle.tN "SUPPRESSED_SENTINEL" Bundle.listD A s s.heap) (hS : va_S A s.heap H locs) (hsize : ls.size = c.maxLocals)
    (d0 : decode cc pc = .ok (.new ik, 3)) (d3 : decode cc (pc + 3) = .ok (.dup, 1)) (d4 : decode cc (pc + 4) = .ok (.invokespecial ic, 3)) (d7 : decode cc (pc + 7) = .ok (.athrow, 1))
    (hout : ∀ x ∈ c.exceptionTable.toList, covers x (pc + 7) = false)
    (hRframes : names.length + 3 < R.frames) (hRlocals : (rest.map fun v => v.category).sum + (13 * (names.length + 1) + 42) ≤ R.locals) (hRcells : cells + 1 ≤ R.cells) (hRslots : slots + 6 ≤ R.slots) (hlocks : meth.locks = false)
    (hx : ∀ t : State, s.vm.Alike t.vm → H.size ≤ t.heap.size → (∀ q : Nat, q < H.size → t.heap[q]? = H[q]?) → XC cls s t)
    (hf : ∀ z ∈ locs, free z.base) (hc : cells + 1 ≤ mc) (hs : slots + 6 ≤ ms) :
    W p l e R s m args below meth c H locs cells slots (vx_MQ below Qc XC args s mc ms free) (F0 m pc ls rest) := by
  intro T hT X
  have htr : e.platform.stackTraces = false := (show e.platform.stackTraces = l.stackTraces by rw [X.admits.platform]).trans hl
  have Y := vx_rebase X (R' := { frames := R.frames, locals := R.locals, cells := 1, slots := 6 }) (Nat.le_refl _) (Nat.le_refl _) hRcells hRslots
  obtain ⟨s', hA⟩ : ∃ z, z = (T.setVm s.vm).setFrames (.invoking m args :: below) := ⟨_, rfl⟩
  rw [← hA] at Y
  have hvm : s'.vm = s.vm := by rw [hA]; rfl
  have hhp : s'.heap = H := by rw [hA]; exact hT
  have hW0 : s.WarmedH s'.vm := by rw [hvm]; exact State.WarmedH.refl s
  have hat' : ∀ w ∈ vx_at0 own ic cls names, w.before args s' = true := fun w hw => vx_ot_at hW0 hvm.symm (hgood w (List.mem_cons_of_mem _ (List.mem_cons_of_mem _ hw))) (hat w hw)
  have hk' : (Cond.classLink own ik cls).before args s' = true := vx_ot_at hW0 hvm.symm (hgood _ List.mem_cons_self) hk
  have hini' : (Cond.initialized cls).before args s' = true := vx_ot_at hW0 hvm.symm (hgood _ (List.mem_cons_of_mem _ List.mem_cons_self)) hini
  have hU' : vx_Zq Bundle.tN "UNASSIGNED_STACK" Bundle.steD A s' s'.heap := by rw [hhp]; exact vx_Zq.moved hW0.alike (hU.kept hS.2.1)
  have hN' : vx_Zq Bundle.tN "SUPPRESSED_SENTINEL" Bundle.listD A s' s'.heap := by rw [hhp]; exact vx_Zq.moved hW0.alike (hN.kept hS.2.1)
  have h : ∀ w ∈ Bundle.ownAtoms0 own ic cls names, w.before args s' = true := vx_own hat' (vx_isRefq hU'.1) (vx_isRefq hN'.1) hU'.2.word hN'.2.word
  have hown' : s'.vm.findClass own = some m.cls := by rw [hvm]; exact hown
  have hins : (Cond.instantiable cls 6).before args s' = true := h _ (by simp [Bundle.ownAtoms0])
  obtain ⟨vm₁, cX, kX, hfX, hkX, -, -, X₁, st1⟩ := Y.newCold hexec (own := own) (C := cls) (index := ik) (n := 6) hown' hk' hins hini'
    (g := F0 m pc ls rest) rfl (by rw [hb]; exact d0) (Nat.le_refl _) (Nat.le_refl _)
  generalize hT1 : (T.setVm vm₁).pushCell { cls := cX, slots := kX.instanceTypes.map defaultValue, vm := .none } = T1 at X₁ st1
  have hcat : (Value.ref T.heap.size).category = 1 := rfl
  have hcellA : T1.heap[T.heap.size]? = some (freshCell cX kX) := by rw [← hT1]; exact State.heap_pushCell_size _ _
  have d3' : decode c.code (pc + 3) = .ok (.dup, 1) := by rw [hb]; exact d3
  obtain ⟨U, hsteps, hrun, hend, hW, hsame, ce, hce, hO⟩ := X₁.ctorThrow0 hexec htr (own := own) (cls := cls) (names := names) (ic := ic) hown' hcls hnames h (fun x hx => nomatch hx) hfX hkX hcellA (by rw [hhp, hT]; exact Nat.le_refl _)
    (g := { method := m, pc := pc + 4, locals := ls, stack := .ref T.heap.size :: .ref T.heap.size :: rest, locked := none }) rfl hsize rfl rfl (rest := rest) rfl
    (by rw [hb]; exact d4) (by rw [hb]; exact d7) hout hRframes (by simp only [List.map_cons, List.sum_cons, hcat]; omega) hlocks
  obtain ⟨f1, f2⟩ := vx_frame hsame
  rw [hhp] at f1 f2
  have hWs : s.WarmedH U.vm := State.WarmedH.trans hW0 hW
  have hcl : s.vm.findClass cls = some ce.cls := by
    have h9 := hO.cls
    rw [hvm] at h9
    exact h9
  have hall : s.sameButNew ({ U with vm := s.vm } : State) locs mc ms := by
    subst hA
    obtain ⟨e1, e2⟩ := hsame
    rw [State.setFrames_setFrames] at e1
    have h2 : (T.setVm s.vm).sameButNew ({ U with vm := s.vm } : State) [] (0 + 1) (0 + 6) := ⟨e1, e2⟩
    have h3 := X.same.trans h2
    rw [List.append_nil] at h3
    exact h3.mono hc hs
  refine ⟨U, ?_, .threw T.heap.size, hrun, hend, Or.inr ⟨T.heap.size, rfl, cls, ce, locs, hx U hWs.alike f1 (fun q hq => f2 q hq (fun z hz => nomatch hz)), hce, hO.vm, hcl, hWs, hall, hf⟩⟩
  refine st1 _ ?_
  show Steps p.tables e below (T1.setTop { method := m, pc := pc + 3, locals := ls, stack := .ref T.heap.size :: rest, locked := none }) _
  jvm_step X₁.here [X₁.here.top, hexec, d3', Value.category]
  exact hsteps
/-- 'throw new E("text")': new; dup; ldc; invokespecial; athrow -/
theorem vx_throwS {cc : ByteArray} {pc : Nat} (hexec : p.tables.exec = Jvm.exec) (hb : c.code = cc) (hl : l.stackTraces = false) {own cls text : String} {names : List String} {ik is ic mc ms sa : Nat} {A : Nat → Prop}
    (hown : s.vm.findClass own = some m.cls) (hcls : Bundle.fit cls = true) (hnames : ∀ n ∈ names, Bundle.fit n = true)
    (hk : (Cond.classLink own ik cls).before args s = true) (hini : (Cond.initialized cls).before args s = true) (hstr : vk_R own is text sa s) (hat : ∀ w ∈ vx_atS own ic cls names, w.before args s = true)
    (hgood : ∀ w ∈ Cond.classLink own ik cls :: Cond.initialized cls :: vx_atS own ic cls names, vx_ot w = true)
    (hU : vx_Zq Bundle.tN "UNASSIGNED_STACK" Bundle.steD A s s.heap) (hN : vx_Zq Bundle.tN "SUPPRESSED_SENTINEL" Bundle.listD A s s.heap) (hS : va_S A s.heap H locs) (hsize : ls.size = c.maxLocals)
    (d0 : decode cc pc = .ok (.new ik, 3)) (d3 : decode cc (pc + 3) = .ok (.dup, 1)) (d4 : decode cc (pc + 4) = .ok (.ldc is, 2)) (d6 : decode cc (pc + 6) = .ok (.invokespecial ic, 3)) (d9 : decode cc (pc + 9) = .ok (.athrow, 1))
    (hout : ∀ x ∈ c.exceptionTable.toList, covers x (pc + 9) = false)
    (hRframes : names.length + 3 < R.frames) (hRlocals : (rest.map fun v => v.category).sum + (13 * (names.length + 1) + 43) ≤ R.locals) (hRcells : cells + 1 ≤ R.cells) (hRslots : slots + 6 ≤ R.slots) (hlocks : meth.locks = false)
    (hx : ∀ t : State, s.vm.Alike t.vm → H.size ≤ t.heap.size → (∀ q : Nat, q < H.size → t.heap[q]? = H[q]?) → XC cls s t)
    (hf : ∀ z ∈ locs, free z.base) (hc : cells + 1 ≤ mc) (hs : slots + 6 ≤ ms) :
    W p l e R s m args below meth c H locs cells slots (vx_MQ below Qc XC args s mc ms free) (F0 m pc ls rest) := by
  intro T hT X
  have htr : e.platform.stackTraces = false := (show e.platform.stackTraces = l.stackTraces by rw [X.admits.platform]).trans hl
  have Y := vx_rebase X (R' := { frames := R.frames, locals := R.locals, cells := 1, slots := 6 }) (Nat.le_refl _) (Nat.le_refl _) hRcells hRslots
  obtain ⟨s', hA⟩ : ∃ z, z = (T.setVm s.vm).setFrames (.invoking m args :: below) := ⟨_, rfl⟩
  rw [← hA] at Y
  have hvm : s'.vm = s.vm := by rw [hA]; rfl
  have hhp : s'.heap = H := by rw [hA]; exact hT
  have hW0 : s.WarmedH s'.vm := by rw [hvm]; exact State.WarmedH.refl s
  have hat' : ∀ w ∈ vx_atS own ic cls names, w.before args s' = true := fun w hw => vx_ot_at hW0 hvm.symm (hgood w (List.mem_cons_of_mem _ (List.mem_cons_of_mem _ hw))) (hat w hw)
  have hk' : (Cond.classLink own ik cls).before args s' = true := vx_ot_at hW0 hvm.symm (hgood _ List.mem_cons_self) hk
  have hini' : (Cond.initialized cls).before args s' = true := vx_ot_at hW0 hvm.symm (hgood _ (List.mem_cons_of_mem _ List.mem_cons_self)) hini
  have hU' : vx_Zq Bundle.tN "UNASSIGNED_STACK" Bundle.steD A s' s'.heap := by rw [hhp]; exact vx_Zq.moved hW0.alike (hU.kept hS.2.1)
  have hN' : vx_Zq Bundle.tN "SUPPRESSED_SENTINEL" Bundle.listD A s' s'.heap := by rw [hhp]; exact vx_Zq.moved hW0.alike (hN.kept hS.2.1)
  have h : ∀ w ∈ Bundle.ownAtoms own ic cls names, w.before args s' = true := vx_own hat' (vx_isRefq hU'.1) (vx_isRefq hN'.1) hU'.2.word hN'.2.word
  have hown' : s'.vm.findClass own = some m.cls := by rw [hvm]; exact hown
  have hins : (Cond.instantiable cls 6).before args s' = true := h _ (by simp [Bundle.ownAtoms])
  obtain ⟨vm₁, cX, kX, hfX, hkX, -, -, X₁, st1⟩ := Y.newCold hexec (own := own) (C := cls) (index := ik) (n := 6) hown' hk' hins hini'
    (g := F0 m pc ls rest) rfl (by rw [hb]; exact d0) (Nat.le_refl _) (Nat.le_refl _)
  generalize hT1 : (T.setVm vm₁).pushCell { cls := cX, slots := kX.instanceTypes.map defaultValue, vm := .none } = T1 at X₁ st1
  have hcat : (Value.ref T.heap.size).category = 1 := rfl
  have hcellA : T1.heap[T.heap.size]? = some (freshCell cX kX) := by rw [← hT1]; exact State.heap_pushCell_size _ _
  have d3' : decode c.code (pc + 3) = .ok (.dup, 1) := by rw [hb]; exact d3
  have d4' : decode c.code (pc + 4) = .ok (.ldc is, 2) := by rw [hb]; exact d4
  have hstr' : vk_R own is text sa s' := vk_R.warm hW0 hstr
  obtain ⟨U, hsteps, hrun, hend, hW, hsame, ce, hce, hO⟩ := X₁.ctorThrowS hexec htr (own := own) (cls := cls) (names := names) (ic := ic) hown' hcls hnames h (fun x hx => nomatch hx) hfX hkX hcellA (by rw [hhp, hT]; exact Nat.le_refl _) (msg := .ref sa) rfl
    (g := { method := m, pc := pc + 6, locals := ls, stack := .ref sa :: .ref T.heap.size :: .ref T.heap.size :: rest, locked := none }) rfl hsize rfl rfl (rest := rest) rfl
    (by rw [hb]; exact d6) (by rw [hb]; exact d9) hout hRframes (by simp only [List.map_cons, List.sum_cons, hcat]; omega) hlocks
  obtain ⟨f1, f2⟩ := vx_frame hsame
  rw [hhp] at f1 f2
  have hWs : s.WarmedH U.vm := State.WarmedH.trans hW0 hW
  have hcl : s.vm.findClass cls = some ce.cls := by
    have h9 := hO.cls
    rw [hvm] at h9
    exact h9
  have hall : s.sameButNew ({ U with vm := s.vm } : State) locs mc ms := by
    subst hA
    obtain ⟨e1, e2⟩ := hsame
    rw [State.setFrames_setFrames] at e1
    have h2 : (T.setVm s.vm).sameButNew ({ U with vm := s.vm } : State) [] (0 + 1) (0 + 6) := ⟨e1, e2⟩
    have h3 := X.same.trans h2
    rw [List.append_nil] at h3
    exact h3.mono hc hs
  refine ⟨U, ?_, .threw T.heap.size, hrun, hend, Or.inr ⟨T.heap.size, rfl, cls, ce, locs, hx U hWs.alike f1 (fun q hq => f2 q hq (fun z hz => nomatch hz)), hce, hO.vm, hcl, hWs, hall, hf⟩⟩
  refine st1 _ ?_
  show Steps p.tables e below (T1.setTop { method := m, pc := pc + 3, locals := ls, stack := .ref T.heap.size :: rest, locked := none }) _
  jvm_step X₁.here [X₁.here.top, hexec, d3', Value.category]
  exact X₁.ldcString hexec (own := own) (text := text) (index := is) (a := sa) hown' hstr'.1 hstr'.2
    (g := { method := m, pc := pc + 4, locals := ls, stack := .ref T.heap.size :: .ref T.heap.size :: rest, locked := none }) rfl d4' _ hsteps
/-- 'throw new E("text")', the text by a wide index -/
theorem vx_throwSW {cc : ByteArray} {pc : Nat} (hexec : p.tables.exec = Jvm.exec) (hb : c.code = cc) (hl : l.stackTraces = false) {own cls text : String} {names : List String} {ik is ic mc ms sa : Nat} {A : Nat → Prop}
    (hown : s.vm.findClass own = some m.cls) (hcls : Bundle.fit cls = true) (hnames : ∀ n ∈ names, Bundle.fit n = true)
    (hk : (Cond.classLink own ik cls).before args s = true) (hini : (Cond.initialized cls).before args s = true) (hstr : vk_R own is text sa s) (hat : ∀ w ∈ vx_atS own ic cls names, w.before args s = true)
    (hgood : ∀ w ∈ Cond.classLink own ik cls :: Cond.initialized cls :: vx_atS own ic cls names, vx_ot w = true)
    (hU : vx_Zq Bundle.tN "UNASSIGNED_STACK" Bundle.steD A s s.heap) (hN : vx_Zq Bundle.tN "SUPPRESSED_SENTINEL" Bundle.listD A s s.heap) (hS : va_S A s.heap H locs) (hsize : ls.size = c.maxLocals)
    (d0 : decode cc pc = .ok (.new ik, 3)) (d3 : decode cc (pc + 3) = .ok (.dup, 1)) (d4 : decode cc (pc + 4) = .ok (.ldc_w is, 3)) (d7 : decode cc (pc + 7) = .ok (.invokespecial ic, 3)) (d10 : decode cc (pc + 10) = .ok (.athrow, 1))
    (hout : ∀ x ∈ c.exceptionTable.toList, covers x (pc + 10) = false)
    (hRframes : names.length + 3 < R.frames) (hRlocals : (rest.map fun v => v.category).sum + (13 * (names.length + 1) + 43) ≤ R.locals) (hRcells : cells + 1 ≤ R.cells) (hRslots : slots + 6 ≤ R.slots) (hlocks : meth.locks = false)
    (hx : ∀ t : State, s.vm.Alike t.vm → H.size ≤ t.heap.size → (∀ q : Nat, q < H.size → t.heap[q]? = H[q]?) → XC cls s t)
    (hf : ∀ z ∈ locs, free z.base) (hc : cells + 1 ≤ mc) (hs : slots + 6 ≤ ms) :
    W p l e R s m args below meth c H locs cells slots (vx_MQ below Qc XC args s mc ms free) (F0 m pc ls rest) := by
  intro T hT X
  have htr : e.platform.stackTraces = false := (show e.platform.stackTraces = l.stackTraces by rw [X.admits.platform]).trans hl
  have Y := vx_rebase X (R' := { frames := R.frames, locals := R.locals, cells := 1, slots := 6 }) (Nat.le_refl _) (Nat.le_refl _) hRcells hRslots
  obtain ⟨s', hA⟩ : ∃ z, z = (T.setVm s.vm).setFrames (.invoking m args :: below) := ⟨_, rfl⟩
  rw [← hA] at Y
  have hvm : s'.vm = s.vm := by rw [hA]; rfl
  have hhp : s'.heap = H := by rw [hA]; exact hT
  have hW0 : s.WarmedH s'.vm := by rw [hvm]; exact State.WarmedH.refl s
  have hat' : ∀ w ∈ vx_atS own ic cls names, w.before args s' = true := fun w hw => vx_ot_at hW0 hvm.symm (hgood w (List.mem_cons_of_mem _ (List.mem_cons_of_mem _ hw))) (hat w hw)
  have hk' : (Cond.classLink own ik cls).before args s' = true := vx_ot_at hW0 hvm.symm (hgood _ List.mem_cons_self) hk
  have hini' : (Cond.initialized cls).before args s' = true := vx_ot_at hW0 hvm.symm (hgood _ (List.mem_cons_of_mem _ List.mem_cons_self)) hini
  have hU' : vx_Zq Bundle.tN "UNASSIGNED_STACK" Bundle.steD A s' s'.heap := by rw [hhp]; exact vx_Zq.moved hW0.alike (hU.kept hS.2.1)
  have hN' : vx_Zq Bundle.tN "SUPPRESSED_SENTINEL" Bundle.listD A s' s'.heap := by rw [hhp]; exact vx_Zq.moved hW0.alike (hN.kept hS.2.1)
  have h : ∀ w ∈ Bundle.ownAtoms own ic cls names, w.before args s' = true := vx_own hat' (vx_isRefq hU'.1) (vx_isRefq hN'.1) hU'.2.word hN'.2.word
  have hown' : s'.vm.findClass own = some m.cls := by rw [hvm]; exact hown
  have hins : (Cond.instantiable cls 6).before args s' = true := h _ (by simp [Bundle.ownAtoms])
  obtain ⟨vm₁, cX, kX, hfX, hkX, -, -, X₁, st1⟩ := Y.newCold hexec (own := own) (C := cls) (index := ik) (n := 6) hown' hk' hins hini'
    (g := F0 m pc ls rest) rfl (by rw [hb]; exact d0) (Nat.le_refl _) (Nat.le_refl _)
  generalize hT1 : (T.setVm vm₁).pushCell { cls := cX, slots := kX.instanceTypes.map defaultValue, vm := .none } = T1 at X₁ st1
  have hcat : (Value.ref T.heap.size).category = 1 := rfl
  have hcellA : T1.heap[T.heap.size]? = some (freshCell cX kX) := by rw [← hT1]; exact State.heap_pushCell_size _ _
  have d3' : decode c.code (pc + 3) = .ok (.dup, 1) := by rw [hb]; exact d3
  have d4' : decode c.code (pc + 4) = .ok (.ldc_w is, 3) := by rw [hb]; exact d4
  have hstr' : vk_R own is text sa s' := vk_R.warm hW0 hstr
  obtain ⟨U, hsteps, hrun, hend, hW, hsame, ce, hce, hO⟩ := X₁.ctorThrowS hexec htr (own := own) (cls := cls) (names := names) (ic := ic) hown' hcls hnames h (fun x hx => nomatch hx) hfX hkX hcellA (by rw [hhp, hT]; exact Nat.le_refl _) (msg := .ref sa) rfl
    (g := { method := m, pc := pc + 7, locals := ls, stack := .ref sa :: .ref T.heap.size :: .ref T.heap.size :: rest, locked := none }) rfl hsize rfl rfl (rest := rest) rfl
    (by rw [hb]; exact d7) (by rw [hb]; exact d10) hout hRframes (by simp only [List.map_cons, List.sum_cons, hcat]; omega) hlocks
  obtain ⟨f1, f2⟩ := vx_frame hsame
  rw [hhp] at f1 f2
  have hWs : s.WarmedH U.vm := State.WarmedH.trans hW0 hW
  have hcl : s.vm.findClass cls = some ce.cls := by
    have h9 := hO.cls
    rw [hvm] at h9
    exact h9
  have hall : s.sameButNew ({ U with vm := s.vm } : State) locs mc ms := by
    subst hA
    obtain ⟨e1, e2⟩ := hsame
    rw [State.setFrames_setFrames] at e1
    have h2 : (T.setVm s.vm).sameButNew ({ U with vm := s.vm } : State) [] (0 + 1) (0 + 6) := ⟨e1, e2⟩
    have h3 := X.same.trans h2
    rw [List.append_nil] at h3
    exact h3.mono hc hs
  refine ⟨U, ?_, .threw T.heap.size, hrun, hend, Or.inr ⟨T.heap.size, rfl, cls, ce, locs, hx U hWs.alike f1 (fun q hq => f2 q hq (fun z hz => nomatch hz)), hce, hO.vm, hcl, hWs, hall, hf⟩⟩
  refine st1 _ ?_
  show Steps p.tables e below (T1.setTop { method := m, pc := pc + 3, locals := ls, stack := .ref T.heap.size :: rest, locked := none }) _
  jvm_step X₁.here [X₁.here.top, hexec, d3', Value.category]
  exact X₁.ldcStringW hexec (own := own) (text := text) (index := is) (a := sa) hown' hstr'.1 hstr'.2
    (g := { method := m, pc := pc + 4, locals := ls, stack := .ref T.heap.size :: .ref T.heap.size :: rest, locked := none }) rfl d4' _ hsteps
end Ends
section Bodies
variable {l : Launch}
theorem vx_ofW {y : MethodName} {ws ws' : List Cond} {rm : Room} {Pc : Array Value → State → Prop} {Qc : Array Value → State → Outcome → State → Prop} {XC : String → State → State → Prop} {mc ms : Nat} {free : Addr → Prop} {cc : ByteArray} {maxL : Nat} {ret : Option FieldType}
    (hy : plainName y.cls = true) (hw : ws = Cond.code y cc maxL ret :: ws')
    (body : ∀ p e s m args below meth c s₁, BodyLoose p l y (headSpec ws rm) cc maxL ret e s m args below meth c s₁ → c.maxLocals = maxL → (∀ x ∈ c.exceptionTable.toList, False) → Pc args s →
      W p l e (headSpec ws rm).room s m args below meth c s.heap [] 0 0 (vx_MQ below Qc XC args s mc ms free) (entryFrame m args maxL)) : vx_Met l y ws rm Pc Qc XC mc ms free := by
  refine MetFree.of_bodyS (code := cc) (maxLocals := maxL) (ret := ret) hy ?_ ?_
  · intro args s m h hn
    obtain ⟨meth, c, h1, h2, h3, h4, h5, h6, -, -⟩ := Cond.code_spec hn (atoms_spec (ws := ws) h _ (by rw [hw]; exact List.mem_cons_self))
    exact ⟨meth, c, h1, h2, h3, h4, h5, h6⟩
  · intro p e s m args below meth c s₁ B hml hP _
    have hh0 : s₁.heap = s.heap := by rw [B.state]; rfl
    have ht : ∀ x ∈ c.exceptionTable.toList, False := by
      obtain ⟨meth9, c9, h1, h2, -, -, -, -, h7, -⟩ := Cond.code_spec B.named (atoms_spec (ws := ws) B.pre _ (by rw [hw]; exact List.mem_cons_self))
      cases Option.some.inj (h1.symm.trans B.method)
      cases Option.some.inj (h2.symm.trans (Stand.of_body B).code)
      intro x hx
      rw [Array.isEmpty_iff.mp h7] at hx
      cases hx
    obtain ⟨t, a1, o, b1, b2, b3⟩ := body p e s m args below meth c s₁ B hml ht hP s₁ hh0 (Stand.of_body B)
    exact ⟨t, o, a1, b1, b2, b3⟩
/-- the table of a body with handlers -/
theorem vx_table {p : Program} {x y : MethodName} {S : Spec} {cc bytes : ByteArray} {maxL maxL' : Nat} {ret ret' : Option FieldType} {e : Env} {s s₁ : State} {m : MethodId} {args : Array Value} {below : List Frame} {meth : Method} {c : Code} {hh : List (Nat × Nat × Nat × Nat)}
    (B : BodyLoose p l y S cc maxL ret e s m args below meth c s₁) (h : (Cond.codeWith y bytes maxL' ret' hh).before args s = true) : c.exceptionTable.toList = tableOf hh := by
  obtain ⟨m9, meth9, c9, hn9, h1, h2, -, -, h6, -⟩ := Cond.codeWith_spec h
  cases Option.some.inj (hn9.symm.trans B.named)
  cases Option.some.inj (h1.symm.trans B.method)
  cases Option.some.inj (h2.symm.trans (Stand.of_body B).code)
  rw [← h6, table_eq]
end Bodies
end VXA
/-! ===== END ===== -/
/-! ===== BEGIN a static call of a method with an exception table ===== -/
section VXS
variable {p : Program} {l : Launch} {e : Env} {R : Room} {s : State} {m : MethodId} {args : Array Value} {below : List Frame} {meth : Method} {c : Code} {T : State} {H : Heap} {locs : List Loc} {cells slots : Nat}
abbrev vx_CSW (R : Room) (s : State) (args : Array Value) (own : String) (index : Nat) (y : MethodName) (bytes : ByteArray) (maxL : Nat) (ret : Option FieldType) (hh : List (Nat × Nat × Nat × Nat)) (ws : List Cond) (rm : Room) (mc ms n : Nat) : Prop :=
  (rm.cells = mc ∧ rm.slots = ms ∧ rm.frames + 1 ≤ R.frames ∧ 8 + (maxL + 11) + rm.locals ≤ R.locals ∧ (∀ w ∈ ws, ∀ (a' : Array Value) (U : State), s.WarmedH U.vm → w.before a' U = true) ∧ Cond.codeWith y bytes maxL ret hh ∈ ws) ∧
  (Cond.codeWith y bytes maxL ret hh).before args s = true ∧ (Cond.initialized y.cls).before args s = true ∧ (y.cls ≠ "java/lang/invoke/MethodHandle" ∧ y.cls ≠ "java/lang/invoke/VarHandle") ∧
  (∀ sig, parseMethodDescriptor y.desc = some sig → n = sig.parameters.length) ∧ (Cond.methodLink own index y).before args s = true ∧ (Cond.static y).before args s = true
theorem vx_cwSW {own : String} {index maxL mc ms : Nat} {y : MethodName} {bytes : ByteArray} {ret : Option FieldType} {hh : List (Nat × Nat × Nat × Nat)} {Ts ws ws' : List Cond} {rm : Room} (n : Nat) (ht : ∀ w ∈ Ts, w.before args s = true) (hT : GoodIn Ts (va_wsS own index y ws)) (hw : ws = Cond.codeWith y bytes maxL ret hh :: ws') (hrc : rm.cells = mc) (hrs : rm.slots = ms)
    (hd : y.cls ≠ "java/lang/invoke/MethodHandle" ∧ y.cls ≠ "java/lang/invoke/VarHandle" ∧ (parseMethodDescriptor y.desc).map (fun d => d.parameters.length) = some n) (hR : rm.frames + 1 ≤ R.frames ∧ 8 + (maxL + 11) + rm.locals ≤ R.locals) :
    vx_CSW R s args own index y bytes maxL ret hh ws rm mc ms n := by
  have ok : ∀ w ∈ va_wsS own index y ws, w.before args s = true := fun w h => ht w (hT w h).1
  have hG : GoodIn Ts ws := fun w h => hT w (by unfold va_wsS; exact List.mem_append_right _ h)
  have hc : Cond.codeWith y bytes maxL ret hh ∈ ws := by rw [hw]; exact List.mem_cons_self
  refine ⟨⟨hrc, hrs, hR.1, hR.2, pay_in ht hG, hc⟩, ht _ (hG _ hc).1, ok _ (by simp [va_wsS]), ⟨hd.1, hd.2.1⟩, fun sig h => ?_, ok _ (by simp [va_wsS]), ok _ (by simp [va_wsS])⟩
  have h2 := hd.2.2
  rw [h] at h2
  exact (Option.some.inj h2).symm
theorem vx_callSW (X : Stand p l e R s m args below meth c T locs cells slots) (hexec : p.tables.exec = Jvm.exec) {own : String} {index : Nat} {y : MethodName} {bytes : ByteArray} {maxL : Nat} {ret : Option FieldType} {hh : List (Nat × Nat × Nat × Nat)}
    (hown : s.vm.findClass own = some m.cls) (hlink : (Cond.methodLink own index y).before args s = true) (hstat : (Cond.static y).before args s = true) (hinit : (Cond.initialized y.cls).before args s = true)
    (hcode : (Cond.codeWith y bytes maxL ret hh).before args s = true) (hy : y.cls ≠ "java/lang/invoke/MethodHandle" ∧ y.cls ≠ "java/lang/invoke/VarHandle")
    {W9 : Nat} {Pre : Pt → Array Value → Prop} {Post : Pt → Array Value → Option Value → Pt → Prop} (hK : Back l R p e below s args y 3 W9 Pre Post)
    {g : JFrame} (hg : g.method = m) (hsize : g.locals.size = c.maxLocals) {argsL rest : List Value} (hlen : ∀ sig, parseMethodDescriptor y.desc = some sig → argsL.length = sig.parameters.length)
    (hstack : g.stack = argsL.reverse ++ rest) (hW : 2 * g.monitorRoom + (rest.map fun v => v.category).sum ≤ W9) (hdg : decode c.code g.pc = .ok (.invokestatic index, 3))
    (hpre : ∀ vm₁, s.WarmedH vm₁ → Pre ⟨T.setVm vm₁, locs, cells, slots⟩ argsL.toArray) :
    ∃ (v : Option Value) (vm₁ : Vm) (B : Pt), s.WarmedH vm₁ ∧ Stand p l e R s m args below meth c B.U B.locs B.cells B.slots ∧ Post ⟨T.setVm vm₁, locs, cells, slots⟩ argsL.toArray v B ∧
      ∀ target, Steps p.tables e below (B.U.setTop { g with pc := g.pc + 3, stack := v.toList ++ rest }) target → Steps p.tables e below (T.setTop g) target := by
  obtain ⟨mk, methM, cM, hnamed, hmethM, -, -, -, -, -, -, hsigM⟩ := Cond.codeWith_spec hcode
  have hstatic : methM.isStatic = true := Cond.static_spec hnamed hmethM hstat
  obtain ⟨kP, hkP, -⟩ := className_of_methodNamed hnamed
  have hinitP : kP.init = .initialized := Cond.initialized_spec (findClass_of_methodNamed hnamed) hkP hinit
  obtain ⟨vm₁, X₁, hstep₁⟩ := X.invokestatic hexec hown hlink hnamed hmethM hstatic hkP hinitP hy (g := g) hg (argsL := argsL) (rest := rest) (hlen _ hsigM) hstack hdg
  obtain ⟨v, B, X', hpost, hsteps⟩ := hK m meth c ⟨T.setVm vm₁, locs, cells, slots⟩ { g with stack := rest } (.invokestatic index) mk argsL.toArray X₁ hg hsize hdg hW (X₁.named hnamed) (hpre vm₁ X₁.warmed)
  exact ⟨v, vm₁, B, X₁.warmed, X', hpost, fun target h => hstep₁ _ fun acts => by rw [doInvoke_state]; exact hsteps.trans h⟩
theorem vx_runSW {y : MethodName} {bytes cc : ByteArray} {maxL nL mc ms n index : Nat} {ret : Option FieldType} {hh : List (Nat × Nat × Nat × Nat)} {ws : List Cond} {rm : Room} {Pc : Array Value → State → Prop} {Qc : Array Value → State → Outcome → State → Prop} {free : Addr → Prop} {Ts : List Cond} {own : String} {As rest : List Value} {g : JFrame}
    (S : CallFix p m c cc nL s args Ts own) (hM : Met l y ws rm Pc Qc mc ms free) (cw : vx_CSW R s args own index y bytes maxL ret hh ws rm mc ms n) (hp : PreS s H Pc As)
    (hg : g.method = m) (hn : As.length = n) (hsize : g.locals.size = nL) (hstack : g.stack = As.reverse ++ rest) (hW : 2 * g.monitorRoom + (rest.map fun v => v.category).sum ≤ 8) (hdg : decode cc g.pc = .ok (.invokestatic index, 3)) (hf : cells + mc ≤ R.cells ∧ slots + ms ≤ R.slots) :
    va_Run p l e R s m args below meth c H locs cells slots mc ms g rest (Qc As.toArray) (free) := by
  obtain ⟨⟨hrc, hrs, hfr, hlo, hws, hcw⟩, hcode, hini, hy, hlen, hl, hstt⟩ := cw
  have hK : Back l R p e below s args y 3 8 (PreOf R mc ms Pc) (PostOf Qc mc ms free) := va_backW (hh := hh) (bytes := bytes) (maxL := maxL) (ret := ret) hM hp.1 hrc hrs hfr hlo hws hcw (fun a' U hW => word_at hW (Or.inl (by first | rfl | simp [Cond.onTables, Cond.keeps, Cond.steady])) hini)
  obtain ⟨hx, hb, hml, ho, -⟩ := S
  intro T hT X
  obtain ⟨v, vm₁, ⟨U', l2, c2, s2⟩, hW₁, X', ⟨g', mk, t, L, e1, e2, hq, h1, hL, h2, h3⟩, st⟩ := vx_callSW X hx (hh := hh) (bytes := bytes) (maxL := maxL) (ret := ret) ho hl hstt hini hcode hy hK hg (hsize.trans hml.symm) (argsL := As) (rest := rest) (fun sig h => hn.trans (hlen sig h)) hstack hW (by rw [hb]; exact hdg)
    (fun vm₁ hW₁ => ⟨hf.1, hf.2, hp.2 (T.setVm vm₁) hT hW₁⟩)
  dsimp only [Pt.U, Pt.locs, Pt.cells, Pt.slots] at X' e1 e2 h1 h2 h3 st
  subst h1; subst h2; subst h3
  exact ⟨v, (T.setVm vm₁).calling g' mk As.toArray, t, U', L, hT, X', hL, e1, e2, hq, st⟩
/-- not caught here, past rows that name other classes: it goes on to the caller -/
theorem vx_outP {p : Program} {l : Launch} {e : Env} {R : Room} {s : State} {m : MethodId} {args : Array Value} {below : List Frame} {meth : Method} {c : Code} {H : Heap} {locs : List Loc} {cells slots : Nat} {free : Addr → Prop} {ls : Array Slot} {rest : List Value} {Qc : Array Value → State → Outcome → State → Prop} {XC : String → State → State → Prop}
    {pc : Nat} {own E : String} {ce : Cell} {q : Addr} {mc ms : Nat} (hown : s.vm.findClass own = some m.cls) (hlocks : meth.locks = false)
    (hpass : ∀ z ∈ c.exceptionTable.toList, covers z pc = false ∨ (z.catchType ≠ 0 ∧ ∃ nm : String, (Cond.classLink own z.catchType nm).before args s = true ∧ va_Nc E nm s)) (hcell : H[q]? = some ce) (hv : ce.vm = .none) (hcl : s.vm.findClass E = some ce.cls)
    (hx : ∀ t : State, t.heap = H → s.vm.Alike t.vm → XC E s t) (hf : ∀ z ∈ locs, free z.base) (hc : cells ≤ mc) (hs : slots ≤ ms) :
    vx_W p l e R s m args below meth c H locs cells slots (vx_MQ below Qc XC args s mc ms free) (F0 m pc ls rest) q := by
  intro T hT X
  have hpl : e.platform.magicAccessors = ({} : Platform).magicAccessors := by rw [X.admits.platform]
  obtain ⟨vm', hW', X', st⟩ := X.outThrough hlocks q (g := F0 m pc ls rest) rfl rfl rfl (cell := ce) (by rw [hT]; exact hcell) (by rw [hv]; rfl)
    (by obtain ⟨k9, h9, -⟩ := Vm.findClass_spec hcl; exact ⟨k9, h9⟩) (fun z hz => by
      rcases hpass z hz with h | ⟨hz0, nm, hl1, hn1⟩
      · exact Or.inl h
      · obtain ⟨c6, hc6, hcl6⟩ := Cond.classLink_spec hown hl1 e.platform hpl
        obtain ⟨a8, b8, h1, h2, h3⟩ := hn1
        cases Option.some.inj (h1.symm.trans hcl)
        cases Option.some.inj (h2.symm.trans hc6)
        exact Or.inr ⟨hz0, _, hcl6, h3⟩)
  obtain ⟨g₀, hfr⟩ := X'.frames_eq
  have hcell9 : ((T.setVm vm').setFrames (.throwing q :: below)).heap[q]? = some ce := by
    show T.heap[q]? = some ce
    rw [hT]; exact hcell
  have hend : Ended ((T.setVm vm').setFrames (.throwing q :: below)) below (.threw q) := State.frames_setFrames _ (State.cur_lt_of_frames hfr)
  refine ⟨(T.setVm vm').setFrames (.throwing q :: below), ?_, .threw q, X'.here.running, hend, Or.inr ⟨q, rfl, E, ce, locs, hx _ hT (X'.ends _).1.alike, hcell9, hv, hcl, (X'.ends _).1, (X'.ends _).2.mono hc hs, hf⟩⟩
  rw [X.pushThrowing_eq]
  exact st
/-- a thing of a world lies in the heap -/
theorem vx_lt {D : va_G} {cl : List vw_C} {ws : va_W} {H1 : Heap} (h : va_P D cl ws H1) {k : Nat} {q : Nat × va_E} (hk : ws[k]? = some q) : q.1 < H1.size := (h k q hk).lt
end VXS
/-! ===== END ===== -/
/-! ===== BEGIN methods with a table of their own: called by a name, returning or throwing ===== -/
section VXH
/-! vx_backW, vx_callVX, vx_callSX, vx_callVW, vx_runVW, vx_runVX, vx_runSX, vx_ofWH follow the same proofs as their sisters above (Free/Laws.lean, Shelf42/LK1.lean); vx_outP calls Shelf42/NT130.lean (outThrough). -/
section
variable {l : Launch} {R : Room} {p : Program} {e : Env} {below : List Frame} {s : State} {sargs : Array Value} {y : MethodName} {len W9 : Nat}
theorem vx_backW {ws : List Cond} {rm : Room} {Pc : Array Value → State → Prop} {Qc : Array Value → State → Outcome → State → Prop} {XC : String → State → State → Prop} {mc ms : Nat} {free : Addr → Prop} {bytes : ByteArray} {maxL : Nat} {ret : Option FieldType} {hh : List (Nat × Nat × Nat × Nat)}
    (hM : vx_Met l y ws rm Pc Qc XC mc ms free) (hblind : FrameBlind Pc) (hrc : rm.cells = mc) (hrs : rm.slots = ms)
    (hframes : rm.frames + 1 ≤ R.frames) (hlocals : W9 + (maxL + 11) + rm.locals ≤ R.locals)
    (hws : ∀ w ∈ ws, ∀ a' U, s.WarmedH U.vm → w.before a' U = true) (hcode : Cond.codeWith y bytes maxL ret hh ∈ ws) (hinit : ∀ a' U, s.WarmedH U.vm → (Cond.initialized y.cls).before a' U = true) :
    vx_Back l R p e below s sargs y len W9 (PreOf R mc ms Pc) (PostOf Qc mc ms free) (vx_Post XC mc ms free) := by
  intro m meth c A g ig mk a X hg hsize hdg hW hn hp
  have h1 : (headSpec ws rm).pre.before a A.U = true := atoms_intro fun w hw => hws w hw _ _ X.warmed
  have h2 : (Cond.codeWith y bytes maxL ret hh).before a A.U = true := hws _ hcode _ _ X.warmed
  have h3 : (Cond.initialized y.cls).before a A.U = true := hinit _ _ X.warmed
  have h4 : A.cells + (headSpec ws rm).room.cells ≤ R.cells := by rw [show (headSpec ws rm).room.cells = mc from hrc]; exact hp.1
  have h5 : A.slots + (headSpec ws rm).room.slots ≤ R.slots := by rw [show (headSpec ws rm).room.slots = ms from hrs]; exact hp.2.1
  have hPc : Pc a (A.U.calling g mk a) := hblind _ _ _ _ hp.2.2
  obtain ⟨U, Ls, c0, s0⟩ := A
  dsimp only [Pt.U, Pt.locs, Pt.cells, Pt.slots] at h1 h2 h3 h4 h5 X hn hPc ⊢
  obtain ⟨m9, methY, cY, hn9, hmY, hcY, -, hlY, -⟩ := Cond.codeWith_spec h2
  cases Option.some.inj (hn9.symm.trans hn)
  obtain ⟨kY, hkY, -⟩ := className_of_methodNamed hn
  have hinitY : kY.init = .initialized := Cond.initialized_spec (findClass_of_methodNamed hn) hkY h3
  have h : At U g.method c below := by rw [hg]; exact X.here
  have hlocals9 : W9 + (maxL + 11) + (headSpec ws rm).room.locals ≤ R.locals := hlocals
  have happ : (headSpec ws rm).appliesLoose y e.platform (U.calling g mk a) = true :=
    Spec.appliesLoose_calling (g := g) h hdg hn hkY hinitY
      (X.room_calling (g := g) (R' := (headSpec ws rm).room) hsize hmY hcY hframes (by rw [hlY]; omega) h4 h5) h1
  obtain ⟨mid, hmid⟩ := h.above
  have hfr : (U.setTop g).frames = (.java g :: mid) ++ below := by rw [State.frames_setTop' g h.top, hmid]; rfl
  obtain ⟨o, s₂, hsteps, -, hend, hq⟩ := Steps.callFree hM p X.admits X.cas X.clock (acts := []) hfr happ hPc trivial
  have hq' : vx_Q Qc XC mc ms free a (U.calling g mk a) o s₂ := hq
  rw [State.frames_setTop' g h.top] at hend
  obtain ⟨g₀, hg0⟩ := Option.isSome_iff_exists.mp h.top
  obtain ⟨r, hr⟩ := State.topJava?_eq_some.mp hg0
  have hr' : (({ U with heap := s₂.heap, slotsUsed := s₂.slotsUsed } : State).setVm s₂.vm).frames = .java g₀ :: r := hr
  rcases hq' with ⟨hqc, L, hfe, hL⟩ | ⟨q, rfl, E, ce, L, hx, hce, hcv, hcl, hW₂, hsm, hL⟩
  · obtain ⟨⟨v, rfl⟩, hW₂, e2, q2, q3, q4, q5, q6⟩ := id hfe
    have e3 : s₂ = ({ (U.calling g mk a).setFrames s₂.frames with heap := s₂.heap, slotsUsed := s₂.slotsUsed } : State).setVm s₂.vm := by
      have : s₂ = ({ s₂ with vm := (U.calling g mk a).vm } : State).setVm s₂.vm := rfl
      rw [e2] at this
      exact this
    obtain ⟨c₂, i₂, len₂, hc₂, hd₂, hf₂⟩ := hend
    have hW' : U.WarmedH s₂.vm := hW₂
    have hcc : c₂ = c := by
      have h1 : s₂.code? g.method = U.code? g.method := by
        rw [State.code?_eq, State.code?_eq, hW'.alike.method?]
      exact Option.some.inj (hc₂.symm.trans (h1.trans h.code))
    subst hcc
    have hlen : len₂ = len := by rw [hdg] at hd₂; cases hd₂; rfl
    subst hlen
    have hs₂ : s₂ = (({ U with heap := s₂.heap, slotsUsed := s₂.slotsUsed } : State).setVm s₂.vm).setTop { g with pc := g.pc + len₂, stack := v.toList ++ g.stack } := by
      refine e3.trans ?_
      rw [hf₂, State.calling_eq h.top, State.setFrames_setFrames, State.setTop_of_frames _ hr', hr]
      rfl
    have hsame : U.sameButNew ({ U with heap := s₂.heap, slotsUsed := s₂.slotsUsed } : State) L mc ms := by
      refine ⟨?_, q2, q3, q4, q5, q6⟩
      obtain ⟨t, ht, -⟩ := State.frames_cons hr
      show ({ U with heap := s₂.heap, slotsUsed := s₂.slotsUsed } : State) = { U.setFrames U.frames with heap := s₂.heap, slotsUsed := s₂.slotsUsed }
      rw [State.setFrames_self ht]
    subst hg
    refine Or.inl ⟨v, ⟨(({ U with heap := s₂.heap, slotsUsed := s₂.slotsUsed } : State).setVm s₂.vm), Ls ++ L, c0 + mc, s0 + ms⟩,
      ⟨X.admits, X.cas, X.clock, X.frames, X.room, X.hears, X.method, X.code, (X.here.setHeapUsed s₂.heap s₂.slotsUsed).setVm hW'.alike, X.tail, State.WarmedH.trans X.warmed hW', X.limits, X.bytes, X.same.trans (hsame.setVm s.vm)⟩,
      ⟨g, mk, s₂, L, rfl, rfl, hqc, rfl, hL, rfl, rfl⟩, ?_⟩
    show Steps p.tables e below _ ((({ U with heap := s₂.heap, slotsUsed := s₂.slotsUsed } : State).setVm s₂.vm).setTop { g with pc := g.pc + len₂, stack := v.toList ++ g.stack })
    rw [← hs₂]
    exact hsteps
  · obtain ⟨e2, q2, q3, q4, q5, q6⟩ := id hsm
    have e3 : s₂ = ({ (U.calling g mk a).setFrames s₂.frames with heap := s₂.heap, slotsUsed := s₂.slotsUsed } : State).setVm s₂.vm := by
      have : s₂ = ({ s₂ with vm := (U.calling g mk a).vm } : State).setVm s₂.vm := rfl
      rw [e2] at this
      exact this
    have hf₂ : s₂.frames = .throwing q :: .java g :: U.frames.tail := hend
    have hW' : U.WarmedH s₂.vm := hW₂
    have hs₂ : s₂ = ((({ U with heap := s₂.heap, slotsUsed := s₂.slotsUsed } : State).setVm s₂.vm).setTop g).pushFrame (.throwing q) := by
      refine e3.trans ?_
      rw [hf₂, State.calling_eq h.top, State.setFrames_setFrames, State.pushFrame, State.frames_setTop _ hr', State.setTop_of_frames _ hr', State.setFrames_setFrames, hr]
      rfl
    have hsame : U.sameButNew ({ U with heap := s₂.heap, slotsUsed := s₂.slotsUsed } : State) L mc ms := by
      refine ⟨?_, q2, q3, q4, q5, q6⟩
      obtain ⟨t, ht, -⟩ := State.frames_cons hr
      show ({ U with heap := s₂.heap, slotsUsed := s₂.slotsUsed } : State) = { U.setFrames U.frames with heap := s₂.heap, slotsUsed := s₂.slotsUsed }
      rw [State.setFrames_self ht]
    subst hg
    refine Or.inr ⟨q, ⟨(({ U with heap := s₂.heap, slotsUsed := s₂.slotsUsed } : State).setVm s₂.vm), Ls ++ L, c0 + mc, s0 + ms⟩,
      ⟨X.admits, X.cas, X.clock, X.frames, X.room, X.hears, X.method, X.code, (X.here.setHeapUsed s₂.heap s₂.slotsUsed).setVm hW'.alike, X.tail, State.WarmedH.trans X.warmed hW', X.limits, X.bytes, X.same.trans (hsame.setVm s.vm)⟩,
      ⟨g, mk, s₂, L, E, ce, rfl, rfl, hx, hce, hcv, hcl, rfl, hL, rfl, rfl⟩, ?_⟩
    show Steps p.tables e below _ (((({ U with heap := s₂.heap, slotsUsed := s₂.slotsUsed } : State).setVm s₂.vm).setTop g).pushFrame (.throwing q))
    rw [← hs₂]
    exact hsteps
end
variable {p : Program} {l : Launch} {e : Env} {R : Room} {s : State} {m : MethodId} {args : Array Value} {below : List Frame} {meth : Method} {c : Code} {T : State} {H : Heap} {locs : List Loc} {cells slots : Nat}
theorem vx_callVX (X : Stand p l e R s m args below meth c T locs cells slots) (hexec : p.tables.exec = Jvm.exec) {own C : String} {index : Nat} {y : MethodName} {bytes : ByteArray} {maxL : Nat} {ret : Option FieldType} {hh : List (Nat × Nat × Nat × Nat)}
    (hown : s.vm.findClass own = some m.cls) (hlink : (Cond.methodLink own index y).before args s = true) (hinst : (Cond.instanceMethod y).before args s = true) (hsel : (Cond.selects C y y).before args s = true)
    (hcode : (Cond.codeWith y bytes maxL ret hh).before args s = true) (hy : y.cls ≠ "java/lang/invoke/MethodHandle" ∧ y.cls ≠ "java/lang/invoke/VarHandle")
    {W9 : Nat} {Pre : Pt → Array Value → Prop} {Post : Pt → Array Value → Option Value → Pt → Prop} {PostX : Pt → Array Value → Addr → Pt → Prop} (hK : vx_Back l R p e below s args y 3 W9 Pre Post PostX)
    {b : Addr} {cellB : Cell} (hcell : T.heap[b]? = some cellB) (hobj : cellB.vm.isStatics = false) (hcls : s.vm.findClass C = some cellB.cls)
    {g : JFrame} (hg : g.method = m) (hsize : g.locals.size = c.maxLocals) {argsL rest : List Value} (hlen : ∀ sig, parseMethodDescriptor y.desc = some sig → argsL.length = sig.parameters.length)
    (hstack : g.stack = argsL.reverse ++ .ref b :: rest) (hW : 2 * g.monitorRoom + (rest.map fun v => v.category).sum ≤ W9) (hdg : decode c.code g.pc = .ok (.invokevirtual index, 3))
    (hpre : ∀ vm₁, s.WarmedH vm₁ → Pre ⟨T.setVm vm₁, locs, cells, slots⟩ (Value.ref b :: argsL).toArray) :
    (∃ (v : Option Value) (vm₁ : Vm) (B : Pt), s.WarmedH vm₁ ∧ Stand p l e R s m args below meth c B.U B.locs B.cells B.slots ∧ Post ⟨T.setVm vm₁, locs, cells, slots⟩ (Value.ref b :: argsL).toArray v B ∧
      ∀ target, Steps p.tables e below (B.U.setTop { g with pc := g.pc + 3, stack := v.toList ++ rest }) target → Steps p.tables e below (T.setTop g) target) ∨
    (∃ (q : Addr) (vm₁ : Vm) (B : Pt), s.WarmedH vm₁ ∧ Stand p l e R s m args below meth c B.U B.locs B.cells B.slots ∧ PostX ⟨T.setVm vm₁, locs, cells, slots⟩ (Value.ref b :: argsL).toArray q B ∧
      Steps p.tables e below (T.setTop g) ((B.U.setTop { g with stack := rest }).pushFrame (.throwing q))) := by
  obtain ⟨mk, methM, hnamed, hmethM, hstM, habM⟩ := Cond.instanceMethod_spec hinst
  obtain ⟨m8, methM', cM, hn8, hmethM', -, -, -, -, -, -, hsigM⟩ := Cond.codeWith_spec hcode
  cases Option.some.inj (hn8.symm.trans hnamed)
  cases hmethM.symm.trans hmethM'
  obtain ⟨c2, r2, m2, q1, q2, q3, q4, kP, hkP, hkPi⟩ := Cond.selects_spec hsel
  cases hcls.symm.trans q1
  cases (State.methodFound?_of_named hnamed hy).symm.trans q2
  cases hnamed.symm.trans q3
  have hselP : selectMethod e.platform s.vm cellB.cls mk = .method mk := by rw [Launch.admits_selectMethod X.admits]; exact q4
  obtain ⟨vm₁, X₁, hstep₁⟩ := X.invokevirtual hexec hown hlink hnamed hmethM hstM hkP hkPi hy (a := b) (cell := cellB) hcell
    (fun z h => by rw [h] at hobj; cases hobj) hselP hmethM habM hkP hkPi (g := g) hg (argsL := argsL) (rest := rest) (hlen _ hsigM) hstack hdg
  rcases hK m meth c ⟨T.setVm vm₁, locs, cells, slots⟩ { g with stack := rest } (.invokevirtual index) mk (Value.ref b :: argsL).toArray X₁ hg hsize hdg hW (X₁.named hnamed) (hpre vm₁ X₁.warmed) with ⟨v, B, X', hpost, hsteps⟩ | ⟨q, B, X', hpost, hsteps⟩
  · exact Or.inl ⟨v, vm₁, B, X₁.warmed, X', hpost, fun target h => hstep₁ _ fun acts => by rw [doInvoke_state]; exact hsteps.trans h⟩
  · exact Or.inr ⟨q, vm₁, B, X₁.warmed, X', hpost, hstep₁ _ fun acts => by rw [doInvoke_state]; exact hsteps⟩
theorem vx_callSX (X : Stand p l e R s m args below meth c T locs cells slots) (hexec : p.tables.exec = Jvm.exec) {own : String} {index : Nat} {y : MethodName} {bytes : ByteArray} {maxL : Nat} {ret : Option FieldType} {hh : List (Nat × Nat × Nat × Nat)}
    (hown : s.vm.findClass own = some m.cls) (hlink : (Cond.methodLink own index y).before args s = true) (hstat : (Cond.static y).before args s = true) (hinit : (Cond.initialized y.cls).before args s = true)
    (hcode : (Cond.codeWith y bytes maxL ret hh).before args s = true) (hy : y.cls ≠ "java/lang/invoke/MethodHandle" ∧ y.cls ≠ "java/lang/invoke/VarHandle")
    {W9 : Nat} {Pre : Pt → Array Value → Prop} {Post : Pt → Array Value → Option Value → Pt → Prop} {PostX : Pt → Array Value → Addr → Pt → Prop} (hK : vx_Back l R p e below s args y 3 W9 Pre Post PostX)
    {g : JFrame} (hg : g.method = m) (hsize : g.locals.size = c.maxLocals) {argsL rest : List Value} (hlen : ∀ sig, parseMethodDescriptor y.desc = some sig → argsL.length = sig.parameters.length)
    (hstack : g.stack = argsL.reverse ++ rest) (hW : 2 * g.monitorRoom + (rest.map fun v => v.category).sum ≤ W9) (hdg : decode c.code g.pc = .ok (.invokestatic index, 3))
    (hpre : ∀ vm₁, s.WarmedH vm₁ → Pre ⟨T.setVm vm₁, locs, cells, slots⟩ argsL.toArray) :
    (∃ (v : Option Value) (vm₁ : Vm) (B : Pt), s.WarmedH vm₁ ∧ Stand p l e R s m args below meth c B.U B.locs B.cells B.slots ∧ Post ⟨T.setVm vm₁, locs, cells, slots⟩ argsL.toArray v B ∧
      ∀ target, Steps p.tables e below (B.U.setTop { g with pc := g.pc + 3, stack := v.toList ++ rest }) target → Steps p.tables e below (T.setTop g) target) ∨
    (∃ (q : Addr) (vm₁ : Vm) (B : Pt), s.WarmedH vm₁ ∧ Stand p l e R s m args below meth c B.U B.locs B.cells B.slots ∧ PostX ⟨T.setVm vm₁, locs, cells, slots⟩ argsL.toArray q B ∧
      Steps p.tables e below (T.setTop g) ((B.U.setTop { g with stack := rest }).pushFrame (.throwing q))) := by
  obtain ⟨mk, methM, cM, hnamed, hmethM, -, -, -, -, -, -, hsigM⟩ := Cond.codeWith_spec hcode
  have hstatic : methM.isStatic = true := Cond.static_spec hnamed hmethM hstat
  obtain ⟨kP, hkP, -⟩ := className_of_methodNamed hnamed
  have hinitP : kP.init = .initialized := Cond.initialized_spec (findClass_of_methodNamed hnamed) hkP hinit
  obtain ⟨vm₁, X₁, hstep₁⟩ := X.invokestatic hexec hown hlink hnamed hmethM hstatic hkP hinitP hy (g := g) hg (argsL := argsL) (rest := rest) (hlen _ hsigM) hstack hdg
  rcases hK m meth c ⟨T.setVm vm₁, locs, cells, slots⟩ { g with stack := rest } (.invokestatic index) mk argsL.toArray X₁ hg hsize hdg hW (X₁.named hnamed) (hpre vm₁ X₁.warmed) with ⟨v, B, X', hpost, hsteps⟩ | ⟨q, B, X', hpost, hsteps⟩
  · exact Or.inl ⟨v, vm₁, B, X₁.warmed, X', hpost, fun target h => hstep₁ _ fun acts => by rw [doInvoke_state]; exact hsteps.trans h⟩
  · exact Or.inr ⟨q, vm₁, B, X₁.warmed, X', hpost, hstep₁ _ fun acts => by rw [doInvoke_state]; exact hsteps⟩
theorem vx_callVW (X : Stand p l e R s m args below meth c T locs cells slots) (hexec : p.tables.exec = Jvm.exec) {own C : String} {index : Nat} {y : MethodName} {bytes : ByteArray} {maxL : Nat} {ret : Option FieldType} {hh : List (Nat × Nat × Nat × Nat)}
    (hown : s.vm.findClass own = some m.cls) (hlink : (Cond.methodLink own index y).before args s = true) (hinst : (Cond.instanceMethod y).before args s = true) (hsel : (Cond.selects C y y).before args s = true)
    (hcode : (Cond.codeWith y bytes maxL ret hh).before args s = true) (hy : y.cls ≠ "java/lang/invoke/MethodHandle" ∧ y.cls ≠ "java/lang/invoke/VarHandle")
    {W9 : Nat} {Pre : Pt → Array Value → Prop} {Post : Pt → Array Value → Option Value → Pt → Prop} (hK : Back l R p e below s args y 3 W9 Pre Post)
    {b : Addr} {cellB : Cell} (hcell : T.heap[b]? = some cellB) (hobj : cellB.vm.isStatics = false) (hcls : s.vm.findClass C = some cellB.cls)
    {g : JFrame} (hg : g.method = m) (hsize : g.locals.size = c.maxLocals) {argsL rest : List Value} (hlen : ∀ sig, parseMethodDescriptor y.desc = some sig → argsL.length = sig.parameters.length)
    (hstack : g.stack = argsL.reverse ++ .ref b :: rest) (hW : 2 * g.monitorRoom + (rest.map fun v => v.category).sum ≤ W9) (hdg : decode c.code g.pc = .ok (.invokevirtual index, 3))
    (hpre : ∀ vm₁, s.WarmedH vm₁ → Pre ⟨T.setVm vm₁, locs, cells, slots⟩ (Value.ref b :: argsL).toArray) :
    ∃ (v : Option Value) (vm₁ : Vm) (B : Pt), s.WarmedH vm₁ ∧ Stand p l e R s m args below meth c B.U B.locs B.cells B.slots ∧ Post ⟨T.setVm vm₁, locs, cells, slots⟩ (Value.ref b :: argsL).toArray v B ∧
      ∀ target, Steps p.tables e below (B.U.setTop { g with pc := g.pc + 3, stack := v.toList ++ rest }) target → Steps p.tables e below (T.setTop g) target := by
  obtain ⟨mk, methM, hnamed, hmethM, hstM, habM⟩ := Cond.instanceMethod_spec hinst
  obtain ⟨m8, methM', cM, hn8, hmethM', -, -, -, -, -, -, hsigM⟩ := Cond.codeWith_spec hcode
  cases Option.some.inj (hn8.symm.trans hnamed)
  cases hmethM.symm.trans hmethM'
  obtain ⟨c2, r2, m2, q1, q2, q3, q4, kP, hkP, hkPi⟩ := Cond.selects_spec hsel
  cases hcls.symm.trans q1
  cases (State.methodFound?_of_named hnamed hy).symm.trans q2
  cases hnamed.symm.trans q3
  have hselP : selectMethod e.platform s.vm cellB.cls mk = .method mk := by rw [Launch.admits_selectMethod X.admits]; exact q4
  obtain ⟨vm₁, X₁, hstep₁⟩ := X.invokevirtual hexec hown hlink hnamed hmethM hstM hkP hkPi hy (a := b) (cell := cellB) hcell
    (fun z h => by rw [h] at hobj; cases hobj) hselP hmethM habM hkP hkPi (g := g) hg (argsL := argsL) (rest := rest) (hlen _ hsigM) hstack hdg
  obtain ⟨v, B, X', hpost, hsteps⟩ := hK m meth c ⟨T.setVm vm₁, locs, cells, slots⟩ { g with stack := rest } (.invokevirtual index) mk (Value.ref b :: argsL).toArray X₁ hg hsize hdg hW (X₁.named hnamed) (hpre vm₁ X₁.warmed)
  exact ⟨v, vm₁, B, X₁.warmed, X', hpost, fun target h => hstep₁ _ fun acts => by rw [doInvoke_state]; exact hsteps.trans h⟩
abbrev vx_CVW (R : Room) (s : State) (args : Array Value) (own C : String) (index : Nat) (y : MethodName) (bytes : ByteArray) (maxL : Nat) (ret : Option FieldType) (hh : List (Nat × Nat × Nat × Nat)) (ws : List Cond) (rm : Room) (mc ms n : Nat) : Prop :=
  (rm.cells = mc ∧ rm.slots = ms ∧ rm.frames + 1 ≤ R.frames ∧ 8 + (maxL + 11) + rm.locals ≤ R.locals ∧ (∀ w ∈ ws, ∀ (a' : Array Value) (U : State), s.WarmedH U.vm → w.before a' U = true) ∧ Cond.codeWith y bytes maxL ret hh ∈ ws) ∧
  (Cond.codeWith y bytes maxL ret hh).before args s = true ∧ (Cond.initialized y.cls).before args s = true ∧ (y.cls ≠ "java/lang/invoke/MethodHandle" ∧ y.cls ≠ "java/lang/invoke/VarHandle") ∧
  (∀ sig, parseMethodDescriptor y.desc = some sig → n = sig.parameters.length) ∧ (Cond.methodLink own index y).before args s = true ∧ (Cond.instanceMethod y).before args s = true ∧ (Cond.selects C y y).before args s = true
theorem vx_cwVW {own C : String} {index maxL mc ms : Nat} {y : MethodName} {bytes : ByteArray} {ret : Option FieldType} {hh : List (Nat × Nat × Nat × Nat)} {Ts ws ws' : List Cond} {rm : Room} (n : Nat) (ht : ∀ w ∈ Ts, w.before args s = true) (hT : GoodIn Ts (wsV own index C y ws)) (hw : ws = Cond.codeWith y bytes maxL ret hh :: ws') (hrc : rm.cells = mc) (hrs : rm.slots = ms)
    (hd : y.cls = C ∧ y.cls ≠ "java/lang/invoke/MethodHandle" ∧ y.cls ≠ "java/lang/invoke/VarHandle" ∧ (parseMethodDescriptor y.desc).map (fun d => d.parameters.length) = some n) (hR : rm.frames + 1 ≤ R.frames ∧ 8 + (maxL + 11) + rm.locals ≤ R.locals) :
    vx_CVW R s args own C index y bytes maxL ret hh ws rm mc ms n := by
  obtain ⟨hC, hd⟩ := hd
  subst hC
  have ok : ∀ w ∈ wsV own index y.cls y ws, w.before args s = true := fun w h => ht w (hT w h).1
  have hG : GoodIn Ts ws := fun w h => hT w (by unfold wsV; exact List.mem_append_right _ h)
  have hc : Cond.codeWith y bytes maxL ret hh ∈ ws := by rw [hw]; exact List.mem_cons_self
  refine ⟨⟨hrc, hrs, hR.1, hR.2, pay_in ht hG, hc⟩, ht _ (hG _ hc).1, ok _ (by simp [wsV]), ⟨hd.1, hd.2.1⟩, fun sig h => ?_, ok _ (by simp [wsV]), ok _ (by simp [wsV]), ok _ (by simp [wsV])⟩
  have h2 := hd.2.2
  rw [h] at h2
  exact (Option.some.inj h2).symm
theorem vx_runVW {y : MethodName} {bytes cc : ByteArray} {maxL nL mc ms n index : Nat} {ret : Option FieldType} {hh : List (Nat × Nat × Nat × Nat)} {ws : List Cond} {rm : Room} {Pc : Array Value → State → Prop} {Qc : Array Value → State → Outcome → State → Prop} {free : Addr → Prop} {Ts : List Cond} {own C : String} {b : Addr} {As rest : List Value} {g : JFrame}
    (S : CallFix p m c cc nL s args Ts own) (hM : Met l y ws rm Pc Qc mc ms free) (cw : vx_CVW R s args own C index y bytes maxL ret hh ws rm mc ms n) (hp : PreV s H C b Pc As)
    (hg : g.method = m) (hn : As.length = n) (hsize : g.locals.size = nL) (hstack : g.stack = As.reverse ++ .ref b :: rest) (hW : 2 * g.monitorRoom + (rest.map fun v => v.category).sum ≤ 8) (hdg : decode cc g.pc = .ok (.invokevirtual index, 3)) (hf : cells + mc ≤ R.cells ∧ slots + ms ≤ R.slots) :
    va_Run p l e R s m args below meth c H locs cells slots mc ms g rest (Qc (Value.ref b :: As).toArray) free := by
  obtain ⟨⟨hrc, hrs, hfr, hlo, hws, hcw⟩, hcode, hini, hy, hlen, hl, hin, hse⟩ := cw
  have hK : Back l R p e below s args y 3 8 (PreOf R mc ms Pc) (PostOf Qc mc ms free) := va_backW (hh := hh) (bytes := bytes) (maxL := maxL) (ret := ret) hM hp.1 hrc hrs hfr hlo hws hcw (fun a' U hW => word_at hW (Or.inl (by first | rfl | simp [Cond.onTables, Cond.keeps, Cond.steady])) hini)
  obtain ⟨hx, hb, hml, ho, -⟩ := S
  obtain ⟨-, ⟨cellB, hcB, hoB, hclB⟩, hPc⟩ := hp
  intro T hT X
  obtain ⟨v, vm₁, ⟨U', l2, c2, s2⟩, hW₁, X', ⟨g', mk, t, L, e1, e2, hq, h1, hL, h2, h3⟩, st⟩ := vx_callVW X hx (C := C) (hh := hh) (bytes := bytes) (maxL := maxL) (ret := ret) ho hl hin hse hcode hy hK (by rw [hT]; exact hcB) hoB hclB hg (hsize.trans hml.symm) (argsL := As) (rest := rest) (fun sig h => hn.trans (hlen sig h)) hstack hW (by rw [hb]; exact hdg)
    (fun vm₁ hW₁ => ⟨hf.1, hf.2, hPc (T.setVm vm₁) hT hW₁⟩)
  dsimp only [Pt.U, Pt.locs, Pt.cells, Pt.slots] at X' e1 e2 h1 h2 h3 st
  subst h1; subst h2; subst h3
  exact ⟨v, (T.setVm vm₁).calling g' mk (Value.ref b :: As).toArray, t, U', L, hT, X', hL, e1, e2, hq, st⟩
section
variable {y : MethodName} {bytes cc : ByteArray} {maxL nL mc ms n index : Nat} {ret : Option FieldType} {ws : List Cond} {rm : Room} {Pc : Array Value → State → Prop} {Qc : Array Value → State → Outcome → State → Prop} {XC : String → State → State → Prop} {free : Addr → Prop} {Ts : List Cond} {own C : String} {b : Addr} {As rest : List Value} {g : JFrame}
theorem vx_runVX {hh : List (Nat × Nat × Nat × Nat)} (S : CallFix p m c cc nL s args Ts own) (hM : vx_Met l y ws rm Pc Qc XC mc ms free) (cw : vx_CVW R s args own C index y bytes maxL ret hh ws rm mc ms n) (hp : PreV s H C b Pc As)
    (hg : g.method = m) (hn : As.length = n) (hsize : g.locals.size = nL) (hstack : g.stack = As.reverse ++ .ref b :: rest) (hW : 2 * g.monitorRoom + (rest.map fun v => v.category).sum ≤ 8) (hdg : decode cc g.pc = .ok (.invokevirtual index, 3)) (hf : cells + mc ≤ R.cells ∧ slots + ms ≤ R.slots) :
    vx_Run p l e R s m args below meth c H locs cells slots mc ms g rest (Qc (Value.ref b :: As).toArray) XC free := by
  obtain ⟨⟨hrc, hrs, hfr, hlo, hws, hcw⟩, hcode, hini, hy, hlen, hl, hin, hse⟩ := cw
  have hK : vx_Back l R p e below s args y 3 8 (PreOf R mc ms Pc) (PostOf Qc mc ms free) (vx_Post XC mc ms free) := vx_backW (hh := hh) (bytes := bytes) (maxL := maxL) (ret := ret) hM hp.1 hrc hrs hfr hlo hws hcw (fun a' U hW => word_at hW (Or.inl (by first | rfl | simp [Cond.onTables, Cond.keeps, Cond.steady])) hini)
  obtain ⟨hx, hb, hml, ho, -⟩ := S
  obtain ⟨-, ⟨cellB, hcB, hoB, hclB⟩, hPc⟩ := hp
  intro T hT X
  rcases vx_callVX X hx (C := C) (hh := hh) (bytes := bytes) (maxL := maxL) (ret := ret) ho hl hin hse hcode hy hK (by rw [hT]; exact hcB) hoB hclB hg (hsize.trans hml.symm) (argsL := As) (rest := rest) (fun sig h => hn.trans (hlen sig h)) hstack hW (by rw [hb]; exact hdg)
    (fun vm₁ hW₁ => ⟨hf.1, hf.2, hPc (T.setVm vm₁) hT hW₁⟩) with ⟨v, vm₁, ⟨U', l2, c2, s2⟩, hW₁, X', ⟨g', mk, t, L, e1, e2, hq, h1, hL, h2, h3⟩, st⟩ | ⟨q, vm₁, ⟨U', l2, c2, s2⟩, hW₁, X', ⟨g', mk, t, L, E, ce, e1, e2, hq, hce, hcv, hcl, h1, hL, h2, h3⟩, st⟩
  · dsimp only [Pt.U, Pt.locs, Pt.cells, Pt.slots] at X' e1 e2 h1 h2 h3 st
    subst h1; subst h2; subst h3
    exact Or.inl ⟨v, (T.setVm vm₁).calling g' mk (Value.ref b :: As).toArray, t, U', L, hT, X', hL, e1, e2, hq, st⟩
  · dsimp only [Pt.U, Pt.locs, Pt.cells, Pt.slots] at X' e1 e2 h1 h2 h3 st hcl
    subst h1; subst h2; subst h3
    exact Or.inr ⟨q, (T.setVm vm₁).calling g' mk (Value.ref b :: As).toArray, t, U', L, E, ce, hT, X', hL, e1, e2, hq, hce, hcv, vx_cls hW₁ hcl, st⟩
theorem vx_runSX {hh : List (Nat × Nat × Nat × Nat)} (S : CallFix p m c cc nL s args Ts own) (hM : vx_Met l y ws rm Pc Qc XC mc ms free) (cw : vx_CSW R s args own index y bytes maxL ret hh ws rm mc ms n) (hp : PreS s H Pc As)
    (hg : g.method = m) (hn : As.length = n) (hsize : g.locals.size = nL) (hstack : g.stack = As.reverse ++ rest) (hW : 2 * g.monitorRoom + (rest.map fun v => v.category).sum ≤ 8) (hdg : decode cc g.pc = .ok (.invokestatic index, 3)) (hf : cells + mc ≤ R.cells ∧ slots + ms ≤ R.slots) :
    vx_Run p l e R s m args below meth c H locs cells slots mc ms g rest (Qc As.toArray) XC free := by
  obtain ⟨⟨hrc, hrs, hfr, hlo, hws, hcw⟩, hcode, hini, hy, hlen, hl, hstt⟩ := cw
  have hK : vx_Back l R p e below s args y 3 8 (PreOf R mc ms Pc) (PostOf Qc mc ms free) (vx_Post XC mc ms free) := vx_backW (hh := hh) (bytes := bytes) (maxL := maxL) (ret := ret) hM hp.1 hrc hrs hfr hlo hws hcw (fun a' U hW => word_at hW (Or.inl (by first | rfl | simp [Cond.onTables, Cond.keeps, Cond.steady])) hini)
  obtain ⟨hx, hb, hml, ho, -⟩ := S
  intro T hT X
  rcases vx_callSX X hx (hh := hh) (bytes := bytes) (maxL := maxL) (ret := ret) ho hl hstt hini hcode hy hK hg (hsize.trans hml.symm) (argsL := As) (rest := rest) (fun sig h => hn.trans (hlen sig h)) hstack hW (by rw [hb]; exact hdg)
    (fun vm₁ hW₁ => ⟨hf.1, hf.2, hp.2 (T.setVm vm₁) hT hW₁⟩) with ⟨v, vm₁, ⟨U', l2, c2, s2⟩, hW₁, X', ⟨g', mk, t, L, e1, e2, hq, h1, hL, h2, h3⟩, st⟩ | ⟨q, vm₁, ⟨U', l2, c2, s2⟩, hW₁, X', ⟨g', mk, t, L, E, ce, e1, e2, hq, hce, hcv, hcl, h1, hL, h2, h3⟩, st⟩
  · dsimp only [Pt.U, Pt.locs, Pt.cells, Pt.slots] at X' e1 e2 h1 h2 h3 st
    subst h1; subst h2; subst h3
    exact Or.inl ⟨v, (T.setVm vm₁).calling g' mk As.toArray, t, U', L, hT, X', hL, e1, e2, hq, st⟩
  · dsimp only [Pt.U, Pt.locs, Pt.cells, Pt.slots] at X' e1 e2 h1 h2 h3 st hcl
    subst h1; subst h2; subst h3
    exact Or.inr ⟨q, (T.setVm vm₁).calling g' mk As.toArray, t, U', L, E, ce, hT, X', hL, e1, e2, hq, hce, hcv, vx_cls hW₁ hcl, st⟩
end
end VXH
theorem vx_ofWH {l : Launch} {y : MethodName} {ws ws' : List Cond} {rm : Room} {Pc : Array Value → State → Prop} {Qc : Array Value → State → Outcome → State → Prop} {XC : String → State → State → Prop} {mc ms : Nat} {free : Addr → Prop} {cc : ByteArray} {maxL : Nat} {ret : Option FieldType} {hh : List (Nat × Nat × Nat × Nat)}
    (hy : plainName y.cls = true) (hw : ws = Cond.codeWith y cc maxL ret hh :: ws')
    (body : ∀ p e s m args below meth c s₁, BodyLoose p l y (headSpec ws rm) cc maxL ret e s m args below meth c s₁ → c.maxLocals = maxL → Pc args s →
      W p l e (headSpec ws rm).room s m args below meth c s.heap [] 0 0 (vx_MQ below Qc XC args s mc ms free) (entryFrame m args maxL)) : vx_Met l y ws rm Pc Qc XC mc ms free := by
  refine MetFree.of_bodyS (code := cc) (maxLocals := maxL) (ret := ret) hy ?_ ?_
  · intro args s m h hn
    obtain ⟨m9, meth, c, hn9, h1, h2, h3, h4, -, h5, h6, -⟩ := Cond.codeWith_spec (atoms_spec (ws := ws) h _ (by rw [hw]; exact List.mem_cons_self))
    cases hn.symm.trans hn9
    exact ⟨meth, c, h1, h2, h3, h4, h5, h6⟩
  · intro p e s m args below meth c s₁ B hml hP _
    have hh0 : s₁.heap = s.heap := by rw [B.state]; rfl
    obtain ⟨t, a1, o, b1, b2, b3⟩ := body p e s m args below meth c s₁ B hml hP s₁ hh0 (Stand.of_body B)
    exact ⟨t, o, a1, b1, b2, b3⟩
/-! ===== END ===== -/
/-! ===== BEGIN a constructor that throws (launches without stack traces) ===== -/
section VXIA
variable {p : Program} {l : Launch} {e : Env} {R : Room} {s : State} {m : MethodId} {args : Array Value} {below : List Frame} {meth : Method} {c : Code} {T : State} {locs : List Loc} {cells slots : Nat}
theorem vx_callI (X : Stand p l e R s m args below meth c T locs cells slots) (hexec : p.tables.exec = Jvm.exec) {own : String} {index : Nat} {y : MethodName} {bytes : ByteArray} {maxL : Nat}
    (hown : s.vm.findClass own = some m.cls) (hy1 : y.name = "<init>") (hlink : (Cond.methodLink own index y).before args s = true) (hinst : (Cond.instanceMethod y).before args s = true)
    (hcode : (Cond.code y bytes maxL none).before args s = true) (hy : y.cls ≠ "java/lang/invoke/MethodHandle" ∧ y.cls ≠ "java/lang/invoke/VarHandle")
    {W9 : Nat} {Pre : Pt → Array Value → Prop} {Post : Pt → Array Value → Option Value → Pt → Prop} {PostX : Pt → Array Value → Addr → Pt → Prop} (hK : vx_Back l R p e below s args y 3 W9 Pre Post PostX)
    {g : JFrame} (hg : g.method = m) (hsize : g.locals.size = c.maxLocals) {a : Addr} {argsL rest : List Value} (hlen : ∀ sig, parseMethodDescriptor y.desc = some sig → argsL.length = sig.parameters.length)
    (hstack : g.stack = argsL.reverse ++ .ref a :: rest) (hW : 2 * g.monitorRoom + (rest.map fun v => v.category).sum ≤ W9) (hdg : decode c.code g.pc = .ok (.invokespecial index, 3))
    (hpre : ∀ vm₁, s.WarmedH vm₁ → Pre ⟨T.setVm vm₁, locs, cells, slots⟩ (Value.ref a :: argsL).toArray) :
    (∃ (v : Option Value) (vm₁ : Vm) (B : Pt), s.WarmedH vm₁ ∧ Stand p l e R s m args below meth c B.U B.locs B.cells B.slots ∧ Post ⟨T.setVm vm₁, locs, cells, slots⟩ (Value.ref a :: argsL).toArray v B ∧
      ∀ target, Steps p.tables e below (B.U.setTop { g with pc := g.pc + 3, stack := v.toList ++ rest }) target → Steps p.tables e below (T.setTop g) target) ∨
    (∃ (q : Addr) (vm₁ : Vm) (B : Pt), s.WarmedH vm₁ ∧ Stand p l e R s m args below meth c B.U B.locs B.cells B.slots ∧ PostX ⟨T.setVm vm₁, locs, cells, slots⟩ (Value.ref a :: argsL).toArray q B ∧
      Steps p.tables e below (T.setTop g) ((B.U.setTop { g with stack := rest }).pushFrame (.throwing q))) := by
  subst hg
  have hpl : e.platform.magicAccessors = ({} : Platform).magicAccessors := by rw [X.admits.platform]
  obtain ⟨mk, methM, cM, kP, vm₁, hnamed, hmethM, hcodeM, -, hlocalsM, -, hkP, -, hW₁, hstep₁⟩ := Steps.initColdArgs (e := e) X.here hexec X.warmed hpl hown hy1 hy hlink hinst hcode (f := g) rfl hlen hstack hdg
  have X₁ := X.noted hW₁
  rcases hK g.method meth c ⟨T.setVm vm₁, locs, cells, slots⟩ { g with stack := rest } (.invokespecial index) mk (Value.ref a :: argsL).toArray X₁ rfl hsize hdg hW (X₁.named hnamed) (hpre vm₁ X₁.warmed) with ⟨v, B, X', hpost, hsteps⟩ | ⟨q, B, X', hpost, hsteps⟩
  · exact Or.inl ⟨v, vm₁, B, X₁.warmed, X', hpost, fun target h => hstep₁ _ fun acts => by rw [doInvoke_state]; exact hsteps.trans h⟩
  · exact Or.inr ⟨q, vm₁, B, X₁.warmed, X', hpost, hstep₁ _ fun acts => by rw [doInvoke_state]; exact hsteps⟩
end VXIA
section VXIB
variable {p : Program} {l : Launch} {e : Env} {R : Room} {s : State} {m : MethodId} {args : Array Value} {below : List Frame} {meth : Method} {c : Code} {H : Heap} {locs : List Loc} {cells slots : Nat}
variable {y : MethodName} {bytes cc : ByteArray} {maxL nL mc ms n index : Nat} {ret : Option FieldType} {ws : List Cond} {rm : Room} {Pc : Array Value → State → Prop} {Qc : Array Value → State → Outcome → State → Prop} {XC : String → State → State → Prop} {free : Addr → Prop} {Ts : List Cond} {own C : String} {b : Addr} {As rest : List Value} {g : JFrame}
theorem vx_runI (S : CallFix p m c cc nL s args Ts own) (hM : vx_Met l y ws rm Pc Qc XC mc ms free) (cw : CallB R s args own index y bytes maxL none ws rm mc ms n ∧ y.name = "<init>" ∧ (Cond.instanceMethod y).before args s = true) (hp : PreS s H Pc (.ref b :: As))
    (hg : g.method = m) (hn : As.length = n) (hsize : g.locals.size = nL) (hstack : g.stack = As.reverse ++ .ref b :: rest) (hW : 2 * g.monitorRoom + (rest.map fun v => v.category).sum ≤ 8) (hdg : decode cc g.pc = .ok (.invokespecial index, 3)) (hf : cells + mc ≤ R.cells ∧ slots + ms ≤ R.slots) :
    vx_Run p l e R s m args below meth c H locs cells slots mc ms g rest (Qc (Value.ref b :: As).toArray) XC free := by
  have hK : vx_Back l R p e below s args y 3 8 (PreOf R mc ms Pc) (PostOf Qc mc ms free) (vx_Post XC mc ms free) := vx_callBack cw.1 hM hp.1
  obtain ⟨⟨-, -, -, -, -, -, hcode, -, hy, hlen, hl⟩, hy1, hin⟩ := cw
  obtain ⟨hx, hb, hml, ho, -⟩ := S
  have hPc := hp.2
  intro T hT X
  rcases vx_callI X hx (bytes := bytes) (maxL := maxL) ho hy1 hl hin hcode hy hK hg (hsize.trans hml.symm) (a := b) (argsL := As) (rest := rest) (fun sig h => hn.trans (hlen sig h)) hstack hW (by rw [hb]; exact hdg)
    (fun vm₁ hW₁ => ⟨hf.1, hf.2, hPc (T.setVm vm₁) hT hW₁⟩) with ⟨v, vm₁, ⟨U', l2, c2, s2⟩, hW₁, X', ⟨g', mk, t, L, e1, e2, hq, h1, hL, h2, h3⟩, st⟩ | ⟨q, vm₁, ⟨U', l2, c2, s2⟩, hW₁, X', ⟨g', mk, t, L, E, ce, e1, e2, hq, hce, hcv, hcl, h1, hL, h2, h3⟩, st⟩
  · dsimp only [Pt.U, Pt.locs, Pt.cells, Pt.slots] at X' e1 e2 h1 h2 h3 st
    subst h1; subst h2; subst h3
    exact Or.inl ⟨v, (T.setVm vm₁).calling g' mk (Value.ref b :: As).toArray, t, U', L, hT, X', hL, e1, e2, hq, st⟩
  · dsimp only [Pt.U, Pt.locs, Pt.cells, Pt.slots] at X' e1 e2 h1 h2 h3 st hcl
    subst h1; subst h2; subst h3
    exact Or.inr ⟨q, (T.setVm vm₁).calling g' mk (Value.ref b :: As).toArray, t, U', L, E, ce, hT, X', hL, e1, e2, hq, hce, hcv, vx_cls hW₁ hcl, st⟩
end VXIB
/-! ===== END ===== -/
/-! ===== BEGIN a private constructor of a nest mate that throws ===== -/
section VXIC
variable {p : Program} {l : Launch} {e : Env} {R : Room} {s : State} {m : MethodId} {args : Array Value} {below : List Frame} {meth : Method} {c : Code} {T : State} {locs : List Loc} {cells slots : Nat}
theorem vx_callIN (X : Stand p l e R s m args below meth c T locs cells slots) (hexec : p.tables.exec = Jvm.exec) {own : String} {index : Nat} {host : String} {y : MethodName} {bytes : ByteArray} {maxL : Nat}
    (hown : s.vm.findClass own = some m.cls) (hy1 : y.name = "<init>") (hlink : (Cond.methodLinkNest own index y host).before args s = true) (hinst : (Cond.instanceMethod y).before args s = true)
    (hcode : (Cond.code y bytes maxL none).before args s = true) (hy : y.cls ≠ "java/lang/invoke/MethodHandle" ∧ y.cls ≠ "java/lang/invoke/VarHandle")
    {W9 : Nat} {Pre : Pt → Array Value → Prop} {Post : Pt → Array Value → Option Value → Pt → Prop} {PostX : Pt → Array Value → Addr → Pt → Prop} (hK : vx_Back l R p e below s args y 3 W9 Pre Post PostX)
    {g : JFrame} (hg : g.method = m) (hsize : g.locals.size = c.maxLocals) {a : Addr} {argsL rest : List Value} (hlen : ∀ sig, parseMethodDescriptor y.desc = some sig → argsL.length = sig.parameters.length)
    (hstack : g.stack = argsL.reverse ++ .ref a :: rest) (hW : 2 * g.monitorRoom + (rest.map fun v => v.category).sum ≤ W9) (hdg : decode c.code g.pc = .ok (.invokespecial index, 3))
    (hpre : ∀ vm₁, s.WarmedH vm₁ → Pre ⟨T.setVm vm₁, locs, cells, slots⟩ (Value.ref a :: argsL).toArray) :
    (∃ (v : Option Value) (vm₁ : Vm) (B : Pt), s.WarmedH vm₁ ∧ Stand p l e R s m args below meth c B.U B.locs B.cells B.slots ∧ Post ⟨T.setVm vm₁, locs, cells, slots⟩ (Value.ref a :: argsL).toArray v B ∧
      ∀ target, Steps p.tables e below (B.U.setTop { g with pc := g.pc + 3, stack := v.toList ++ rest }) target → Steps p.tables e below (T.setTop g) target) ∨
    (∃ (q : Addr) (vm₁ : Vm) (B : Pt), s.WarmedH vm₁ ∧ Stand p l e R s m args below meth c B.U B.locs B.cells B.slots ∧ PostX ⟨T.setVm vm₁, locs, cells, slots⟩ (Value.ref a :: argsL).toArray q B ∧
      Steps p.tables e below (T.setTop g) ((B.U.setTop { g with stack := rest }).pushFrame (.throwing q))) := by
  subst hg
  have hpl : e.platform.magicAccessors = ({} : Platform).magicAccessors := by rw [X.admits.platform]
  obtain ⟨mk, methM, cM, kP, vm₁, hnamed, hmethM, hcodeM, -, hlocalsM, -, hkP, -, hW₁, hstep₁⟩ := Steps.initColdArgsNest (e := e) X.here hexec X.warmed hpl hown hy1 hy hlink hinst hcode (f := g) rfl hlen hstack hdg
  have X₁ := X.noted hW₁
  rcases hK g.method meth c ⟨T.setVm vm₁, locs, cells, slots⟩ { g with stack := rest } (.invokespecial index) mk (Value.ref a :: argsL).toArray X₁ rfl hsize hdg hW (X₁.named hnamed) (hpre vm₁ X₁.warmed) with ⟨v, B, X', hpost, hsteps⟩ | ⟨q, B, X', hpost, hsteps⟩
  · exact Or.inl ⟨v, vm₁, B, X₁.warmed, X', hpost, fun target h => hstep₁ _ fun acts => by rw [doInvoke_state]; exact hsteps.trans h⟩
  · exact Or.inr ⟨q, vm₁, B, X₁.warmed, X', hpost, hstep₁ _ fun acts => by rw [doInvoke_state]; exact hsteps⟩
end VXIC
section VXID
variable {p : Program} {l : Launch} {e : Env} {R : Room} {s : State} {m : MethodId} {args : Array Value} {below : List Frame} {meth : Method} {c : Code} {H : Heap} {locs : List Loc} {cells slots : Nat}
theorem vx_runIN {y : MethodName} {bytes cc : ByteArray} {maxL nL mc ms n index : Nat} {ws : List Cond} {rm : Room} {Pc : Array Value → State → Prop} {Qc : Array Value → State → Outcome → State → Prop} {XC : String → State → State → Prop} {free : Addr → Prop} {Ts : List Cond} {own host : String} {b : Addr} {As rest : List Value} {g : JFrame}
    (S : CallFix p m c cc nL s args Ts own) (hM : vx_Met l y ws rm Pc Qc XC mc ms free) (cw : va_CN R s args own index y host bytes maxL none ws rm mc ms n ∧ y.name = "<init>" ∧ (Cond.instanceMethod y).before args s = true) (hp : PreS s H Pc (.ref b :: As))
    (hg : g.method = m) (hn : As.length = n) (hsize : g.locals.size = nL) (hstack : g.stack = As.reverse ++ .ref b :: rest) (hW : 2 * g.monitorRoom + (rest.map fun v => v.category).sum ≤ 8) (hdg : decode cc g.pc = .ok (.invokespecial index, 3)) (hf : cells + mc ≤ R.cells ∧ slots + ms ≤ R.slots) :
    vx_Run p l e R s m args below meth c H locs cells slots mc ms g rest (Qc (Value.ref b :: As).toArray) XC free := by
  obtain ⟨⟨⟨hrc, hrs, hfr, hlo, hws, hcw⟩, hcode, hini, hy, hlen, hl⟩, hx1, hx2⟩ := cw
  have hK : vx_Back l R p e below s args y 3 8 (PreOf R mc ms Pc) (PostOf Qc mc ms free) (vx_Post XC mc ms free) := vx_back (bytes := bytes) (maxL := maxL) (ret := none) hM hp.1 hrc hrs hfr hlo hws hcw (fun a' U hW => word_at hW (Or.inl (by first | rfl | simp [Cond.onTables, Cond.keeps, Cond.steady])) hini)
  obtain ⟨hx, hb, hml, ho, -⟩ := S
  have hPc := hp.2
  intro T hT X
  rcases vx_callIN X hx (bytes := bytes) (maxL := maxL) ho hx1 hl hx2 hcode hy hK hg (hsize.trans hml.symm) (a := b) (argsL := As) (rest := rest) (fun sig h => hn.trans (hlen sig h)) hstack hW (by rw [hb]; exact hdg)
    (fun vm₁ hW₁ => ⟨hf.1, hf.2, hPc (T.setVm vm₁) hT hW₁⟩) with ⟨v, vm₁, ⟨U', l2, c2, s2⟩, hW₁, X', ⟨g', mk, t, L, e1, e2, hq, h1, hL, h2, h3⟩, st⟩ | ⟨q, vm₁, ⟨U', l2, c2, s2⟩, hW₁, X', ⟨g', mk, t, L, E, ce, e1, e2, hq, hce, hcv, hcl, h1, hL, h2, h3⟩, st⟩
  · dsimp only [Pt.U, Pt.locs, Pt.cells, Pt.slots] at X' e1 e2 h1 h2 h3 st
    subst h1; subst h2; subst h3
    exact Or.inl ⟨v, (T.setVm vm₁).calling g' mk (Value.ref b :: As).toArray, t, U', L, hT, X', hL, e1, e2, hq, st⟩
  · dsimp only [Pt.U, Pt.locs, Pt.cells, Pt.slots] at X' e1 e2 h1 h2 h3 st hcl
    subst h1; subst h2; subst h3
    exact Or.inr ⟨q, (T.setVm vm₁).calling g' mk (Value.ref b :: As).toArray, t, U', L, E, ce, hT, X', hL, e1, e2, hq, hce, hcv, vx_cls hW₁ hcl, st⟩
end VXID
/-! ===== END ===== -/
/-! ===== BEGIN a private method of a nest mate that may throw (follows va_callVN, va_callSN, va_runVN, va_runSN) ===== -/
section
variable {p : Program} {l : Launch} {e : Env} {R : Room} {s : State} {m : MethodId} {args : Array Value} {below : List Frame} {meth : Method} {c : Code} {H : Heap} {locs : List Loc} {cells slots : Nat}
variable {T : State}
theorem vx_callVN (X : Stand p l e R s m args below meth c T locs cells slots) (hexec : p.tables.exec = Jvm.exec) {own C : String} {index : Nat} {host : String} {y : MethodName} {bytes : ByteArray} {maxL : Nat} {ret : Option FieldType}
    (hown : s.vm.findClass own = some m.cls) (hlink : (Cond.methodLinkNest own index y host).before args s = true) (hinst : (Cond.instanceMethod y).before args s = true) (hsel : (Cond.selects C y y).before args s = true)
    (hcode : (Cond.code y bytes maxL ret).before args s = true) (hy : y.cls ≠ "java/lang/invoke/MethodHandle" ∧ y.cls ≠ "java/lang/invoke/VarHandle")
    {W : Nat} {Pre : Pt → Array Value → Prop} {Post : Pt → Array Value → Option Value → Pt → Prop} {PostX : Pt → Array Value → Addr → Pt → Prop} (hK : vx_Back l R p e below s args y 3 W Pre Post PostX)
    {b : Addr} {cellB : Cell} (hcell : T.heap[b]? = some cellB) (hobj : cellB.vm.isStatics = false) (hcls : s.vm.findClass C = some cellB.cls)
    {g : JFrame} (hg : g.method = m) (hsize : g.locals.size = c.maxLocals) {argsL rest : List Value} (hlen : ∀ sig, parseMethodDescriptor y.desc = some sig → argsL.length = sig.parameters.length)
    (hstack : g.stack = argsL.reverse ++ .ref b :: rest) (hW : 2 * g.monitorRoom + (rest.map fun v => v.category).sum ≤ W) (hdg : decode c.code g.pc = .ok (.invokevirtual index, 3))
    (hpre : ∀ vm₁, s.WarmedH vm₁ → Pre ⟨T.setVm vm₁, locs, cells, slots⟩ (Value.ref b :: argsL).toArray) :
    (∃ (v : Option Value) (vm₁ : Vm) (B : Pt), s.WarmedH vm₁ ∧ Stand p l e R s m args below meth c B.U B.locs B.cells B.slots ∧ Post ⟨T.setVm vm₁, locs, cells, slots⟩ (Value.ref b :: argsL).toArray v B ∧
      ∀ target, Steps p.tables e below (B.U.setTop { g with pc := g.pc + 3, stack := v.toList ++ rest }) target → Steps p.tables e below (T.setTop g) target) ∨
    (∃ (q : Addr) (vm₁ : Vm) (B : Pt), s.WarmedH vm₁ ∧ Stand p l e R s m args below meth c B.U B.locs B.cells B.slots ∧ PostX ⟨T.setVm vm₁, locs, cells, slots⟩ (Value.ref b :: argsL).toArray q B ∧
      Steps p.tables e below (T.setTop g) ((B.U.setTop { g with stack := rest }).pushFrame (.throwing q))) := by
  obtain ⟨mk, methM, hnamed, hmethM, hstM, habM⟩ := Cond.instanceMethod_spec hinst
  obtain ⟨methM', cM, hmethM', -, -, -, -, -, -, hsigM⟩ := Cond.code_spec hnamed hcode
  cases hmethM.symm.trans hmethM'
  obtain ⟨c2, r2, m2, q1, q2, q3, q4, kP, hkP, hkPi⟩ := Cond.selects_spec hsel
  cases hcls.symm.trans q1
  cases (State.methodFound?_of_named hnamed hy).symm.trans q2
  cases hnamed.symm.trans q3
  have hselP : selectMethod e.platform s.vm cellB.cls mk = .method mk := by rw [Launch.admits_selectMethod X.admits]; exact q4
  obtain ⟨vm₁, X₁, hstep₁⟩ := X.invokevirtualNest hexec hown hlink hnamed hmethM hstM hkP hkPi hy (a := b) (cell := cellB) hcell
    (fun z h => by rw [h] at hobj; cases hobj) hselP hmethM habM hkP hkPi (g := g) hg (argsL := argsL) (rest := rest) (hlen _ hsigM) hstack hdg
  rcases hK m meth c ⟨T.setVm vm₁, locs, cells, slots⟩ { g with stack := rest } (.invokevirtual index) mk (Value.ref b :: argsL).toArray X₁ hg hsize hdg hW (X₁.named hnamed) (hpre vm₁ X₁.warmed) with ⟨v, B, X', hpost, hsteps⟩ | ⟨q, B, X', hpost, hsteps⟩
  · exact Or.inl ⟨v, vm₁, B, X₁.warmed, X', hpost, fun target h => hstep₁ _ fun acts => by rw [doInvoke_state]; exact hsteps.trans h⟩
  · exact Or.inr ⟨q, vm₁, B, X₁.warmed, X', hpost, hstep₁ _ fun acts => by rw [doInvoke_state]; exact hsteps⟩
theorem vx_callSN (X : Stand p l e R s m args below meth c T locs cells slots) (hexec : p.tables.exec = Jvm.exec) {own : String} {index : Nat} {host : String} {y : MethodName} {bytes : ByteArray} {maxL : Nat} {ret : Option FieldType}
    (hown : s.vm.findClass own = some m.cls) (hlink : (Cond.methodLinkNest own index y host).before args s = true) (hstat : (Cond.static y).before args s = true) (hinit : (Cond.initialized y.cls).before args s = true)
    (hcode : (Cond.code y bytes maxL ret).before args s = true) (hy : y.cls ≠ "java/lang/invoke/MethodHandle" ∧ y.cls ≠ "java/lang/invoke/VarHandle")
    {W : Nat} {Pre : Pt → Array Value → Prop} {Post : Pt → Array Value → Option Value → Pt → Prop} {PostX : Pt → Array Value → Addr → Pt → Prop} (hK : vx_Back l R p e below s args y 3 W Pre Post PostX)
    {g : JFrame} (hg : g.method = m) (hsize : g.locals.size = c.maxLocals) {argsL rest : List Value} (hlen : ∀ sig, parseMethodDescriptor y.desc = some sig → argsL.length = sig.parameters.length)
    (hstack : g.stack = argsL.reverse ++ rest) (hW : 2 * g.monitorRoom + (rest.map fun v => v.category).sum ≤ W) (hdg : decode c.code g.pc = .ok (.invokestatic index, 3))
    (hpre : ∀ vm₁, s.WarmedH vm₁ → Pre ⟨T.setVm vm₁, locs, cells, slots⟩ argsL.toArray) :
    (∃ (v : Option Value) (vm₁ : Vm) (B : Pt), s.WarmedH vm₁ ∧ Stand p l e R s m args below meth c B.U B.locs B.cells B.slots ∧ Post ⟨T.setVm vm₁, locs, cells, slots⟩ argsL.toArray v B ∧
      ∀ target, Steps p.tables e below (B.U.setTop { g with pc := g.pc + 3, stack := v.toList ++ rest }) target → Steps p.tables e below (T.setTop g) target) ∨
    (∃ (q : Addr) (vm₁ : Vm) (B : Pt), s.WarmedH vm₁ ∧ Stand p l e R s m args below meth c B.U B.locs B.cells B.slots ∧ PostX ⟨T.setVm vm₁, locs, cells, slots⟩ argsL.toArray q B ∧
      Steps p.tables e below (T.setTop g) ((B.U.setTop { g with stack := rest }).pushFrame (.throwing q))) := by
  obtain ⟨mk, hnamed⟩ := Cond.code_named hcode
  obtain ⟨methM, cM, hmethM, -, -, -, -, -, -, hsigM⟩ := Cond.code_spec hnamed hcode
  have hstatic : methM.isStatic = true := Cond.static_spec hnamed hmethM hstat
  obtain ⟨kP, hkP, -⟩ := className_of_methodNamed hnamed
  have hinitP : kP.init = .initialized := Cond.initialized_spec (findClass_of_methodNamed hnamed) hkP hinit
  obtain ⟨vm₁, X₁, hstep₁⟩ := X.invokestaticNest hexec hown hlink hnamed hmethM hstatic hkP hinitP hy (g := g) hg (argsL := argsL) (rest := rest) (hlen _ hsigM) hstack hdg
  rcases hK m meth c ⟨T.setVm vm₁, locs, cells, slots⟩ { g with stack := rest } (.invokestatic index) mk argsL.toArray X₁ hg hsize hdg hW (X₁.named hnamed) (hpre vm₁ X₁.warmed) with ⟨v, B, X', hpost, hsteps⟩ | ⟨q, B, X', hpost, hsteps⟩
  · exact Or.inl ⟨v, vm₁, B, X₁.warmed, X', hpost, fun target h => hstep₁ _ fun acts => by rw [doInvoke_state]; exact hsteps.trans h⟩
  · exact Or.inr ⟨q, vm₁, B, X₁.warmed, X', hpost, hstep₁ _ fun acts => by rw [doInvoke_state]; exact hsteps⟩
theorem vx_runVN {y : MethodName} {bytes cc : ByteArray} {maxL nL mc ms n index : Nat} {ret : Option FieldType} {ws : List Cond} {rm : Room} {Pc : Array Value → State → Prop} {Qc : Array Value → State → Outcome → State → Prop} {XC : String → State → State → Prop} {free : Addr → Prop} {Ts : List Cond} {own C host : String} {b : Addr} {As rest : List Value} {g : JFrame}
    (S : CallFix p m c cc nL s args Ts own) (hM : vx_Met l y ws rm Pc Qc XC mc ms free) (cw : va_CN R s args own index y host bytes maxL ret ws rm mc ms n ∧ (Cond.instanceMethod y).before args s = true ∧ (Cond.selects C y y).before args s = true) (hp : PreV s H C b Pc As)
    (hg : g.method = m) (hn : As.length = n) (hsize : g.locals.size = nL) (hstack : g.stack = As.reverse ++ .ref b :: rest) (hW : 2 * g.monitorRoom + (rest.map fun v => v.category).sum ≤ 8) (hdg : decode cc g.pc = .ok (.invokevirtual index, 3)) (hf : cells + mc ≤ R.cells ∧ slots + ms ≤ R.slots) :
    vx_Run p l e R s m args below meth c H locs cells slots mc ms g rest (Qc (Value.ref b :: As).toArray) XC free := by
  obtain ⟨⟨⟨hrc, hrs, hfr, hlo, hws, hcw⟩, hcode, hini, hy, hlen, hl⟩, hx1, hx2⟩ := cw
  have hK : vx_Back l R p e below s args y 3 8 (PreOf R mc ms Pc) (PostOf Qc mc ms free) (vx_Post XC mc ms free) := vx_back (bytes := bytes) (maxL := maxL) (ret := ret) hM hp.1 hrc hrs hfr hlo hws hcw (fun a' U hW => word_at hW (Or.inl (by first | rfl | simp [Cond.onTables, Cond.keeps, Cond.steady])) hini)
  obtain ⟨hx, hb, hml, ho, -⟩ := S
  obtain ⟨-, ⟨cellB, hcB, hoB, hclB⟩, hPc⟩ := hp
  intro T hT X
  rcases vx_callVN X hx (C := C) (bytes := bytes) (maxL := maxL) (ret := ret) ho hl hx1 hx2 hcode hy hK (by rw [hT]; exact hcB) hoB hclB hg (hsize.trans hml.symm) (argsL := As) (rest := rest) (fun sig h => hn.trans (hlen sig h)) hstack hW (by rw [hb]; exact hdg)
    (fun vm₁ hW₁ => ⟨hf.1, hf.2, hPc (T.setVm vm₁) hT hW₁⟩) with ⟨v, vm₁, ⟨U', l2, c2, s2⟩, hW₁, X', ⟨g', mk, t, L, e1, e2, hq, h1, hL, h2, h3⟩, st⟩ | ⟨q, vm₁, ⟨U', l2, c2, s2⟩, hW₁, X', ⟨g', mk, t, L, E, ce, e1, e2, hq, hce, hcv, hcl, h1, hL, h2, h3⟩, st⟩
  · dsimp only [Pt.U, Pt.locs, Pt.cells, Pt.slots] at X' e1 e2 h1 h2 h3 st
    subst h1; subst h2; subst h3
    exact Or.inl ⟨v, (T.setVm vm₁).calling g' mk (Value.ref b :: As).toArray, t, U', L, hT, X', hL, e1, e2, hq, st⟩
  · dsimp only [Pt.U, Pt.locs, Pt.cells, Pt.slots] at X' e1 e2 h1 h2 h3 st hcl
    subst h1; subst h2; subst h3
    exact Or.inr ⟨q, (T.setVm vm₁).calling g' mk (Value.ref b :: As).toArray, t, U', L, E, ce, hT, X', hL, e1, e2, hq, hce, hcv, vx_cls hW₁ hcl, st⟩
theorem vx_runSN {y : MethodName} {bytes cc : ByteArray} {maxL nL mc ms n index : Nat} {ret : Option FieldType} {ws : List Cond} {rm : Room} {Pc : Array Value → State → Prop} {Qc : Array Value → State → Outcome → State → Prop} {XC : String → State → State → Prop} {free : Addr → Prop} {Ts : List Cond} {own host : String} {As rest : List Value} {g : JFrame}
    (S : CallFix p m c cc nL s args Ts own) (hM : vx_Met l y ws rm Pc Qc XC mc ms free) (cw : va_CN R s args own index y host bytes maxL ret ws rm mc ms n ∧ (Cond.static y).before args s = true ∧ True) (hp : PreS s H Pc As)
    (hg : g.method = m) (hn : As.length = n) (hsize : g.locals.size = nL) (hstack : g.stack = As.reverse ++ rest) (hW : 2 * g.monitorRoom + (rest.map fun v => v.category).sum ≤ 8) (hdg : decode cc g.pc = .ok (.invokestatic index, 3)) (hf : cells + mc ≤ R.cells ∧ slots + ms ≤ R.slots) :
    vx_Run p l e R s m args below meth c H locs cells slots mc ms g rest (Qc As.toArray) XC free := by
  obtain ⟨⟨⟨hrc, hrs, hfr, hlo, hws, hcw⟩, hcode, hini, hy, hlen, hl⟩, hx1, hx2⟩ := cw
  have hK : vx_Back l R p e below s args y 3 8 (PreOf R mc ms Pc) (PostOf Qc mc ms free) (vx_Post XC mc ms free) := vx_back (bytes := bytes) (maxL := maxL) (ret := ret) hM hp.1 hrc hrs hfr hlo hws hcw (fun a' U hW => word_at hW (Or.inl (by first | rfl | simp [Cond.onTables, Cond.keeps, Cond.steady])) hini)
  obtain ⟨hx, hb, hml, ho, -⟩ := S
  have hPc := hp.2
  intro T hT X
  rcases vx_callSN X hx (bytes := bytes) (maxL := maxL) (ret := ret) ho hl hx1 hini hcode hy hK hg (hsize.trans hml.symm) (argsL := As) (rest := rest) (fun sig h => hn.trans (hlen sig h)) hstack hW (by rw [hb]; exact hdg)
    (fun vm₁ hW₁ => ⟨hf.1, hf.2, hPc (T.setVm vm₁) hT hW₁⟩) with ⟨v, vm₁, ⟨U', l2, c2, s2⟩, hW₁, X', ⟨g', mk, t, L, e1, e2, hq, h1, hL, h2, h3⟩, st⟩ | ⟨q, vm₁, ⟨U', l2, c2, s2⟩, hW₁, X', ⟨g', mk, t, L, E, ce, e1, e2, hq, hce, hcv, hcl, h1, hL, h2, h3⟩, st⟩
  · dsimp only [Pt.U, Pt.locs, Pt.cells, Pt.slots] at X' e1 e2 h1 h2 h3 st
    subst h1; subst h2; subst h3
    exact Or.inl ⟨v, (T.setVm vm₁).calling g' mk As.toArray, t, U', L, hT, X', hL, e1, e2, hq, st⟩
  · dsimp only [Pt.U, Pt.locs, Pt.cells, Pt.slots] at X' e1 e2 h1 h2 h3 st hcl
    subst h1; subst h2; subst h3
    exact Or.inr ⟨q, (T.setVm vm₁).calling g' mk As.toArray, t, U', L, E, ce, hT, X', hL, e1, e2, hq, hce, hcv, vx_cls hW₁ hcl, st⟩
end
/-! ===== END ===== -/
end
section
/-! ===== the layer G: one memory of numbered cells, contracts that tell the answer and the memory behind it ===== -/
/-- a word that rides from a method's start to its callees' -/
def tkRide (w : Cond) : Bool := (match w with | .arrayClass _ => true | .methodLinkNest .. => true | _ => false) || (w.onTables && w.keepsFace)
def tkAll : List Cond := lw_tbl.filter tkRide
theorem tk_ride {s U : State} {args a' : Array Value} {w : Cond} (hW : s.WarmedH U.vm) (hw : tkRide w = true) (h : w.before args s = true) : w.before a' U = true := by
  simp only [tkRide, Bool.or_eq_true, Bool.and_eq_true] at hw
  rcases hw with hw | ⟨h1, h2⟩
  · cases w <;> first | exact word_at hW (Or.inr ⟨_, rfl⟩) h | exact (va_Nw.warmM hW (va_Nw.of rfl h)).use rfl | (exact (Bool.false_ne_true hw).elim)
  · have h3 : w.before args (s.setVm U.vm) = true := Cond.before_shiftedFace (State.Shifted.of_warmed hW) _ h2 h
    exact va_tabs h1 (rfl : (s.setVm U.vm).vm = U.vm) h3
theorem tk_rides {s U : State} {args a' : Array Value} (hW : s.WarmedH U.vm) (h : ∀ w ∈ tkAll, w.before args s = true) : ∀ w ∈ tkAll, w.before a' U = true :=
  fun w hw => tk_ride hW (List.mem_filter.mp hw).2 (h w hw)
theorem tk_in {w : Cond} (h1 : w ∈ lw_tbl) (h2 : tkRide w = true) : w ∈ tkAll := List.mem_filter.mpr ⟨h1, h2⟩
theorem tk_at {w : Cond} (i : Nat) (h1 : lw_tbl[i]? = some w) (h2 : tkRide w = true) : w ∈ tkAll := tk_in (List.mem_of_getElem? h1) h2
/-! memory: its size, the shape of each cell (kind, length), the references in it; ints and longs stand apart -/
abbrev tkM : Type := Nat × (Nat → Nat × Nat) × (Nat → Nat → Option Nat)
abbrev tkI : Type := Nat → Nat → Int32
abbrev tkL : Type := Nat → Nat → Int64
def tk2 {α : Type} (f : Nat → Nat → α) (a i : Nat) (x : α) : Nat → Nat → α := fun b j => if b = a ∧ j = i then x else f b j
def tk1 {α : Type} (f : Nat → α) (a : Nat) (x : α) : Nat → α := fun b => if b = a then x else f b
def tkTy (k : Nat) : Nat → FieldType := match k with | 0 => tyX0 | 1 => tyX1 | 2 => tyX2 | 3 => tyX3 | 4 => tyX4 | 5 => tyX5 | _ => tyX6
def tkVal (t : FieldType) (x : Int32) (y : Int64) (r : Option Nat) : Value := match t with
  | .long => .long y
  | .object _ => va_rf r
  | .array _ => va_rf r
  | _ => .int x
def tkObj (D : va_G) (H : Heap) (a k : Nat) (f : Nat → Int32) (g : Nat → Int64) (r : Nat → Option Nat) : Prop :=
  ∃ q : vw_C, vwCl[k]? = some q ∧ t_OB a (D.1 k) q.2.2 (D.2 k) H (fun j => tkVal (tkTy k j) (f j) (g j) (r j))
def tkCell (D : va_G) (H : Heap) (a : Nat) (sh : Nat × Nat) (f : Nat → Int32) (g : Nat → Int64) (r : Nat → Option Nat) : Prop :=
  (sh.1 < 7 → tkObj D H a sh.1 f g r) ∧
  (sh.1 = 10 → H[a]? = some (arrV (D.1 10) sh.2 (fun j => .int (f j)))) ∧
  (sh.1 = 11 → H[a]? = some (arrV (D.1 11) sh.2 (fun j => .long (g j)))) ∧
  (sh.1 = 12 → H[a]? = some (arrV (D.1 12) sh.2 (fun j => .int (f j))) ∧ ∀ j, j < sh.2 → fits .boolean (.int (f j)) = true) ∧
  (sh.1 = 13 → H[a]? = some (arrV (D.1 13) sh.2 (fun j => .double (g j).toUInt64))) ∧
  (sh.1 = 14 → H[a]? = some (arrV (D.1 14) sh.2 (fun j => va_rf (r j))))
/-- 99: a cell of which nothing is known -/
def tkRel (D : va_G) (base : Nat) (σ : tkM) (I : tkI) (L : tkL) (H : Heap) : Prop :=
  H.size = σ.1 ∧ base ≤ σ.1 ∧ (∀ a, (a < base ∨ σ.1 ≤ a) → (σ.2.1 a).1 = 99) ∧ ∀ a, base ≤ a → a < σ.1 → tkCell D H a (σ.2.1 a) (I a) (L a) (σ.2.2 a)
theorem tkCell.kept {D : va_G} {H H1 : Heap} {a : Nat} {sh : Nat × Nat} {f : Nat → Int32} {g : Nat → Int64} {r : Nat → Option Nat} (h : tkCell D H a sh f g r) (hq : H1[a]? = H[a]?) : tkCell D H1 a sh f g r := by
  obtain ⟨h1, h2, h3, h4, h5, h6⟩ := h
  refine ⟨fun q => ?_, fun q => ?_, fun q => ?_, fun q => ?_, fun q => ?_, fun q => ?_⟩
  · obtain ⟨c, c1, c2⟩ := h1 q
    exact ⟨c, c1, c2.kept hq⟩
  · rw [hq]; exact h2 q
  · rw [hq]; exact h3 q
  · rw [hq]; exact h4 q
  · rw [hq]; exact h5 q
  · rw [hq]; exact h6 q
theorem tkCell.hole (D : va_G) (H : Heap) (a n : Nat) (f : Nat → Int32) (g : Nat → Int64) (r : Nat → Option Nat) : tkCell D H a (99, n) f g r :=
  ⟨fun q => absurd (show 99 < 7 from q) (by decide), fun q => absurd (show 99 = 10 from q) (by decide), fun q => absurd (show 99 = 11 from q) (by decide), fun q => absurd (show 99 = 12 from q) (by decide), fun q => absurd (show 99 = 13 from q) (by decide), fun q => absurd (show 99 = 14 from q) (by decide)⟩
theorem tkRel.at {D : va_G} {base : Nat} {σ : tkM} {I : tkI} {L : tkL} {H : Heap} (h : tkRel D base σ I L H) {a k n : Nat} (hs : σ.2.1 a = (k, n)) (hk : k ≠ 99) :
    base ≤ a ∧ a < σ.1 ∧ a < H.size ∧ tkCell D H a (k, n) (I a) (L a) (σ.2.2 a) := by
  obtain ⟨h1, h2, h3, h4⟩ := h
  have hb : base ≤ a := by
    rcases Nat.lt_or_ge a base with q | q
    · have := h3 a (Or.inl q); rw [hs] at this; exact absurd this hk
    · exact q
  have hl : a < σ.1 := by
    rcases Nat.lt_or_ge a σ.1 with q | q
    · exact q
    · have := h3 a (Or.inr q); rw [hs] at this; exact absurd this hk
  exact ⟨hb, hl, by rw [h1]; exact hl, by rw [← hs]; exact h4 a hb hl⟩
/-- one cell has changed -/
theorem tkRel.put {D : va_G} {base : Nat} {σ σ1 : tkM} {I I1 : tkI} {L L1 : tkL} {H H1 : Heap} (h : tkRel D base σ I L H) {a : Nat} (ha : base ≤ a) (hz : H1.size = H.size) (oq : ∀ q, q ≠ a → H1[q]? = H[q]?)
    (hn : σ1.1 = σ.1) (hs : σ1.2.1 = σ.2.1) (hI : ∀ b, b ≠ a → I1 b = I b) (hL : ∀ b, b ≠ a → L1 b = L b) (hR : ∀ b, b ≠ a → σ1.2.2 b = σ.2.2 b)
    (hc : a < σ.1 → tkCell D H1 a (σ.2.1 a) (I1 a) (L1 a) (σ1.2.2 a)) : tkRel D base σ1 I1 L1 H1 := by
  obtain ⟨h1, h2, h3, h4⟩ := h
  refine ⟨by rw [hz, h1, hn], by rw [hn]; exact h2, fun b hb => by rw [hs]; exact h3 b (by rw [hn] at hb; exact hb), fun b hb hl => ?_⟩
  rw [hn] at hl
  rw [hs]
  by_cases e : b = a
  · subst e; exact hc hl
  · rw [hI b e, hL b e, hR b e]
    exact (h4 b hb hl).kept (oq b e)
/-- a new cell -/
theorem tkRel.push {D : va_G} {base : Nat} {σ : tkM} {I I1 : tkI} {L L1 : tkL} {H H1 : Heap} (h : tkRel D base σ I L H) {sh : Nat × Nat} {r : Nat → Option Nat} (hz : H1.size = H.size + 1) (oq : ∀ q, q < H.size → H1[q]? = H[q]?)
    (hI : ∀ b, b ≠ σ.1 → I1 b = I b) (hL : ∀ b, b ≠ σ.1 → L1 b = L b) (hc : tkCell D H1 σ.1 sh (I1 σ.1) (L1 σ.1) r) : tkRel D base (σ.1 + 1, tk1 σ.2.1 σ.1 sh, tk1 σ.2.2 σ.1 r) I1 L1 H1 := by
  obtain ⟨h1, h2, h3, h4⟩ := h
  refine ⟨by rw [hz, h1], by omega, fun b hb => ?_, fun b hb hl => ?_⟩
  · have hb' : b < base ∨ σ.1 + 1 ≤ b := hb
    have e : b ≠ σ.1 := by omega
    show (tk1 σ.2.1 σ.1 sh b).1 = 99
    rw [tk1, if_neg e]
    exact h3 b (by omega)
  · have hl' : b < σ.1 + 1 := hl
    show tkCell D H1 b (tk1 σ.2.1 σ.1 sh b) (I1 b) (L1 b) (tk1 σ.2.2 σ.1 r b)
    by_cases e : b = σ.1
    · subst e
      rw [tk1, if_pos rfl, tk1, if_pos rfl]
      exact hc
    · rw [tk1, if_neg e, tk1, if_neg e, hI b e, hL b e]
      exact (h4 b hb (by omega)).kept (oq b (by omega))
theorem tkRel.grow {D : va_G} {base n : Nat} {σ : tkM} {I : tkI} {L : tkL} {H H1 : Heap} (h : tkRel D base σ I L H) (hz : H1.size = n) (hn : σ.1 ≤ n) (oq : ∀ q, q < H.size → H1[q]? = H[q]?) : tkRel D base (n, σ.2) I L H1 := by
  obtain ⟨h1, h2, h3, h4⟩ := h
  refine ⟨hz, Nat.le_trans h2 hn, fun b hb => h3 b (hb.elim Or.inl (fun q => Or.inr (Nat.le_trans hn q))), fun b hb hl => ?_⟩
  rcases Nat.lt_or_ge b σ.1 with q | q
  · exact (h4 b hb q).kept (oq b (by omega))
  · have e : (σ.2.1 b) = (99, (σ.2.1 b).2) := Prod.ext (h3 b (Or.inr q)) rfl
    show tkCell D H1 b (σ.2.1 b) _ _ _
    rw [e]
    exact tkCell.hole _ _ _ _ _ _ _
/-! locals by their places -/
def tkGet : List (Option Value) → Nat → Option Value
  | [], _ => none
  | o :: _, 0 => o
  | _ :: r, n + 1 => tkGet r n
def tkPut (v : Option Value) : List (Option Value) → Nat → List (Option Value)
  | [], _ => []
  | _ :: r, 0 => v :: r
  | o :: r, n + 1 => o :: tkPut v r n
def tkWide : Option Value → Bool
  | some (.long _) => true
  | some (.double _) => true
  | _ => false
def tkKill (lv : List (Option Value)) (i : Nat) : List (Option Value) := match i with
  | 0 => lv
  | j + 1 => match tkWide (tkGet lv j) with
    | true => tkPut none lv j
    | false => lv
def tkSt1 (lv : List (Option Value)) (i : Nat) (v : Value) : List (Option Value) := tkPut (some v) (tkKill lv i) i
def tkSt2 (lv : List (Option Value)) (i : Nat) (v : Value) : List (Option Value) := tkPut none (tkPut (some v) (tkKill lv i) i) (i + 1)
theorem tkGet_put (v : Option Value) : ∀ (lv : List (Option Value)) (i j : Nat) (w : Value), tkGet (tkPut v lv i) j = some w → (j = i ∧ v = some w) ∨ (j ≠ i ∧ tkGet lv j = some w)
  | [], i, j, w, h => by simp [tkPut, tkGet] at h
  | o :: r, 0, 0, w, h => Or.inl ⟨rfl, h⟩
  | o :: r, 0, j + 1, w, h => Or.inr ⟨by omega, h⟩
  | o :: r, i + 1, 0, w, h => Or.inr ⟨by omega, h⟩
  | o :: r, i + 1, j + 1, w, h => by
    rcases tkGet_put v r i j w h with ⟨e, q⟩ | ⟨e, q⟩
    · exact Or.inl ⟨by omega, q⟩
    · exact Or.inr ⟨by omega, q⟩
theorem tkWide_cat (v : Value) : (tkWide (some v) = true ↔ v.category = 2) := by
  cases v <;> simp [tkWide, Value.category]
theorem tkGet_kill {lv : List (Option Value)} {i j : Nat} {w : Value} (h : tkGet (tkKill lv i) j = some w) : tkGet lv j = some w ∧ ¬ (j + 1 = i ∧ w.category = 2) := by
  cases i with
  | zero => exact ⟨h, fun q => by omega⟩
  | succ k =>
    simp only [tkKill] at h
    cases hw : tkWide (tkGet lv k) with
    | true =>
      rw [hw] at h
      rcases tkGet_put none lv k j w h with ⟨e, q⟩ | ⟨e, q⟩
      · cases q
      · exact ⟨q, fun z => e (by omega)⟩
    | false =>
      rw [hw] at h
      refine ⟨h, fun z => ?_⟩
      have e : j = k := by omega
      subst e
      have h5 : tkGet lv j = some w := h
      rw [h5, (tkWide_cat w).mpr z.2] at hw
      cases hw
def tkAl (lv : List (Option Value)) : List (Nat × Value) := (List.range lv.length).filterMap fun j => (tkGet lv j).map fun v => (j, v)
theorem tkGet_lt : ∀ {lv : List (Option Value)} {j : Nat} {v : Value}, tkGet lv j = some v → j < lv.length
  | [], j, v, h => by simp [tkGet] at h
  | o :: r, 0, v, _ => Nat.succ_pos _
  | o :: r, j + 1, v, h => Nat.succ_lt_succ (tkGet_lt (lv := r) h)
theorem tkAl_mem {lv : List (Option Value)} {j : Nat} {v : Value} : (j, v) ∈ tkAl lv ↔ tkGet lv j = some v := by
  simp only [tkAl, List.mem_filterMap, List.mem_range, Option.map_eq_some_iff, Prod.mk.injEq]
  constructor
  · rintro ⟨k, -, w, hw, rfl, rfl⟩
    exact hw
  · intro h
    exact ⟨j, tkGet_lt h, v, h, rfl, rfl⟩
def tkLv (ls : Array Slot) (nL : Nat) (lv : List (Option Value)) : Prop := lv_has ls nL (tkAl lv)
theorem tkLv.get {ls : Array Slot} {nL : Nat} {lv : List (Option Value)} (h : tkLv ls nL lv) {i : Nat} {v : Value} (hv : tkGet lv i = some v) : ls[i]? = some (.val v) := h.2.2 (i, v) (tkAl_mem.mpr hv)
theorem tkLv.of {ls : Array Slot} {nL : Nat} {lv : List (Option Value)} {l : List (Nat × Value)} (h : lv_has ls nL l) (hv : ∀ j v, tkGet lv j = some v → (j, v) ∈ l) : tkLv ls nL lv := ⟨h.1, h.2.1, fun q hq => h.2.2 q (hv q.1 q.2 (tkAl_mem.mp hq))⟩
theorem tkLv.st1 {ls : Array Slot} {nL : Nat} {lv : List (Option Value)} {i : Nat} {v : Value} (h : lv_has ls nL ((i, v) :: (tkAl lv).filter (fun q => !(q.1 == i) && !(q.1 + 1 == i && q.2.category == 2)))) : tkLv ls nL (tkSt1 lv i v) := by
  refine tkLv.of h fun j w hj => ?_
  rcases tkGet_put _ _ _ _ _ hj with ⟨e, q⟩ | ⟨e, q⟩
  · cases q; subst e; exact List.mem_cons_self
  · obtain ⟨q1, q2⟩ := tkGet_kill q
    refine List.mem_cons_of_mem _ (List.mem_filter.mpr ⟨tkAl_mem.mpr q1, ?_⟩)
    simp only [Bool.and_eq_true, Bool.not_eq_true', beq_eq_false_iff_ne, ne_eq, Bool.and_eq_false_iff]
    refine ⟨e, ?_⟩
    by_cases e2 : j + 1 = i
    · exact Or.inr fun z => q2 ⟨e2, z⟩
    · exact Or.inl e2
theorem tkLv.st2 {ls : Array Slot} {nL : Nat} {lv : List (Option Value)} {i : Nat} {v : Value} (h : lv_has ls nL ((i, v) :: (tkAl lv).filter (fun q => !(q.1 == i) && (!(q.1 == i + 1) && !(q.1 + 1 == i && q.2.category == 2))))) : tkLv ls nL (tkSt2 lv i v) := by
  refine tkLv.of h fun j w hj => ?_
  rcases tkGet_put _ _ _ _ _ hj with ⟨e, q⟩ | ⟨e, q⟩
  · cases q
  rcases tkGet_put _ _ _ _ _ q with ⟨e2, q⟩ | ⟨e2, q⟩
  · cases q; subst e2; exact List.mem_cons_self
  · obtain ⟨q1, q2⟩ := tkGet_kill q
    refine List.mem_cons_of_mem _ (List.mem_filter.mpr ⟨tkAl_mem.mpr q1, ?_⟩)
    simp only [Bool.and_eq_true, Bool.not_eq_true', beq_eq_false_iff_ne, ne_eq, Bool.and_eq_false_iff]
    refine ⟨e2, e, ?_⟩
    by_cases e3 : j + 1 = i
    · exact Or.inr fun z => q2 ⟨e3, z⟩
    · exact Or.inl e3
def tkEnt : List Value → List (Option Value)
  | [] => []
  | v :: vs => match tkWide (some v) with
    | true => some v :: none :: tkEnt vs
    | false => some v :: tkEnt vs
theorem tkEnt_mem : ∀ (vs : List Value) (k n j : Nat) (w : Value), tkGet (tkEnt vs ++ List.replicate n none) j = some w → (k + j, w) ∈ lv_args k vs
  | [], k, n, j, w, h => by
    exfalso
    have h1 : tkGet (List.replicate n none) j = some w := h
    clear h
    induction n generalizing j with
    | zero => simp [tkGet] at h1
    | succ n ih =>
      rw [List.replicate_succ] at h1
      cases j with
      | zero => cases h1
      | succ j => exact ih j h1
  | v :: vs, k, n, j, w, h => by
    have hc := tkWide_cat v
    cases hw : tkWide (some v) with
    | true =>
      have c2 : v.category = 2 := hc.mp hw
      simp only [tkEnt, hw] at h
      cases j with
      | zero =>
        cases h
        exact List.mem_cons_self
      | succ j =>
        cases j with
        | zero => cases h
        | succ j =>
          have h2 := tkEnt_mem vs (k + 2) n j w h
          refine List.mem_cons_of_mem _ ?_
          show (k + (j + 1 + 1), w) ∈ lv_args (if v.category = 2 then k + 2 else k + 1) vs
          rw [if_pos c2, show k + (j + 1 + 1) = k + 2 + j by omega]
          exact h2
    | false =>
      have c2 : ¬ v.category = 2 := fun z => by rw [hc.mpr z] at hw; cases hw
      simp only [tkEnt, hw] at h
      cases j with
      | zero =>
        cases h
        exact List.mem_cons_self
      | succ j =>
        have h2 := tkEnt_mem vs (k + 1) n j w h
        refine List.mem_cons_of_mem _ ?_
        show (k + (j + 1), w) ∈ lv_args (if v.category = 2 then k + 2 else k + 1) vs
        rw [if_neg c2, show k + (j + 1) = k + 1 + j by omega]
        exact h2
/-! what the tables say, at any method's start -/
def tkStr : List (Nat × String) := [(34, "capacity is not 1 to 1000000000"), (58, "there are 8 tanks"), (72, "not 0 <= low < high <= capacity"), (81, "there are 10 switches"), (90, "from and to are the same"), (95, "lift is not 0 to 100"), (104, "there are 16 pumps"), (187, "there are 4 depots"), (189, "there is no depot"), (205, "there is no such tank"), (208, "there is no such switch"), (210, "there is no such pump"), (216, "there is no such index in the log"), (218, "level is not 0 to the capacity"), (221, "leak is not 0 to 1000000"), (223, "rate is not 1 to 1000000"), (225, "the number of ticks is out of its range")]
def tkNc : List (String × String) := [("java/lang/IllegalArgumentException", "java/lang/IllegalStateException"), ("java/lang/IllegalArgumentException", "java/lang/IndexOutOfBoundsException"), ("java/lang/IllegalStateException", "java/lang/IllegalArgumentException"), ("java/lang/IllegalStateException", "java/lang/IndexOutOfBoundsException"), ("java/lang/IndexOutOfBoundsException", "java/lang/IllegalArgumentException"), ("java/lang/IndexOutOfBoundsException", "java/lang/IllegalStateException")]
def tkTys (D : va_G) : List (ClassId × FieldType) := [(D.1 10, .int), (D.1 11, .long), (D.1 12, .boolean), (D.1 13, .double), (D.1 14, .object RX1)]
def tkK (D : va_G) (U : State) : Prop := va_K D vwCl (tkTys D) U ∧ va_AO RX1 U ∧ (∀ q ∈ tkStr, ∃ sa, vk_R RX5 q.1 q.2 sa U) ∧ ∀ q ∈ tkNc, va_Nc q.1 q.2 U
theorem tkK.warm {D : va_G} {s U : State} (hW : s.WarmedH U.vm) (h : tkK D s) : tkK D U :=
  ⟨va_K.moved hW.alike h.1, va_AO.moved hW.alike h.2.1, fun q hq => (h.2.2.1 q hq).imp fun _ z => vk_R.warm hW z, fun q hq => va_Nc.moved hW.alike (h.2.2.2 q hq)⟩
def tkE (base : Nat) (U : State) (H : Heap) : Prop := vx_Zq Bundle.tN "UNASSIGNED_STACK" Bundle.steD (fun q => base ≤ q) U H ∧ vx_Zq Bundle.tN "SUPPRESSED_SENTINEL" Bundle.listD (fun q => base ≤ q) U H
theorem tkE.warm {base : Nat} {s U : State} {H : Heap} (hW : s.WarmedH U.vm) (h : tkE base s H) : tkE base U H := ⟨vx_Zq.moved hW.alike h.1, vx_Zq.moved hW.alike h.2⟩
theorem tkE.kept {base : Nat} {s : State} {H H1 : Heap} (h : tkE base s H) (hq : ∀ a : Nat, a < H.size → ¬ base ≤ a → H1[a]? = H[a]?) : tkE base s H1 := ⟨h.1.kept hq, h.2.kept hq⟩
/-! the contract of a method: it answers 'out' (a value, none, or an exception's class) and leaves the memory as told -/
abbrev tkOut : Type := Option Value ⊕ String
def tkRm (d mc ms : Nat) : Room := { frames := d, cells := mc, slots := ms, locals := 37 * d }
def tkPc (base : Nat) (D : va_G) (a : List Value) (σ : tkM) (I : tkI) (L : tkL) : Array Value → State → Prop := fun v U => v = a.toArray ∧ tkK D U ∧ tkE base U U.heap ∧ tkRel D base σ I L U.heap
def tkQc (lo : Bool) (base : Nat) (D : va_G) (out : tkOut) (σ : tkM) (I : tkI) (L : tkL) : Array Value → State → Outcome → State → Prop := fun _ st o t =>
  (∃ v, out = .inl v ∧ o = .returned v) ∧ (∃ n, σ.1 ≤ n ∧ (lo = false → n = σ.1) ∧ tkRel D base (n, σ.2) I L t.heap) ∧ va_F (fun q => base ≤ q) st t
def tkXC (base : Nat) (D : va_G) (out : tkOut) (σ : tkM) (I : tkI) (L : tkL) : String → State → State → Prop := fun E st t =>
  out = .inr E ∧ (∃ n, σ.1 ≤ n ∧ tkRel D base (n, σ.2) I L t.heap) ∧ va_F (fun q => base ≤ q) st t
def tkCon (lo : Bool) (w : Cond) (y : MethodName) (d : Nat) (a : List Value) (σ : tkM) (I : tkI) (L : tkL) (mc ms : Nat) (out : tkOut) (σ' : tkM) (I' : tkI) (L' : tkL) : Prop :=
  ∀ (l : Launch), l.stackTraces = false → ∀ (base : Nat) (D : va_G), vx_Met l y (w :: tkAll) (tkRm d mc ms) (tkPc base D a σ I L) (tkQc lo base D out σ' I' L') (tkXC base D out σ' I' L') mc ms (fun q => base ≤ q)
abbrev tkX : Type := Program × Launch × Env × Room × State × MethodId × Array Value × List Frame × Method × Code × Nat × va_G
def tkG (X : tkX) (Q : State → Prop) (cells slots pc : Nat) (lv : List (Option Value)) (stk : List Value) (σ : tkM) (I : tkI) (L : tkL) : Prop :=
  match X with
  | (p, l, e, R, s, m, args, below, meth, c, base, D) => ∀ (H : Heap) (locs : List Loc) (ls : Array Slot), va_S (fun q => base ≤ q) s.heap H locs → tkRel D base σ I L H → tkLv ls c.maxLocals lv →
    W p l e R s m args below meth c H locs cells slots Q (F0 m pc ls stk)
/-- the same with q thrown over the frame -/
def tkT (X : tkX) (Q : State → Prop) (cells slots pc : Nat) (lv : List (Option Value)) (stk : List Value) (σ : tkM) (I : tkI) (L : tkL) (E : String) : Prop :=
  match X with
  | (p, l, e, R, s, m, args, below, meth, c, base, D) => ∀ (H : Heap) (locs : List Loc) (ls : Array Slot) (q : Addr) (ce : Cell), va_S (fun q => base ≤ q) s.heap H locs → tkRel D base σ I L H → tkLv ls c.maxLocals lv → H[q]? = some ce → ce.vm = .none → s.vm.findClass E = some ce.cls →
    vx_W p l e R s m args below meth c H locs cells slots Q (F0 m pc ls stk) q
def tkC (X : tkX) (cc : ByteArray) (own nm : String) (nL : Nat) (ret : Option FieldType) (hh : List (Nat × Nat × Nat × Nat)) (d MC MS : Nat) : Prop :=
  match X with
  | (p, l, e, R, s, m, args, below, meth, c, base, D) => p.tables.exec = Jvm.exec ∧ c.code = cc ∧ c.maxLocals = nL ∧ s.vm.findClass own = some m.cls ∧ (∀ w ∈ tkAll, w.before args s = true) ∧ tkK D s ∧ tkE base s s.heap ∧ meth.locks = false ∧ meth.sig.returnType = ret ∧ meth.name = nm ∧
    c.exceptionTable.toList = tableOf hh ∧ d ≤ R.frames ∧ 37 * d ≤ R.locals ∧ R.cells = MC ∧ R.slots = MS ∧ l.stackTraces = false
def tkQ (lo : Bool) (X : tkX) (mc ms : Nat) (out : tkOut) (σ' : tkM) (I' : tkI) (L' : tkL) : State → Prop :=
  match X with
  | (p, l, e, R, s, m, args, below, meth, c, base, D) => vx_MQ below (tkQc lo base D out σ' I' L') (tkXC base D out σ' I' L') args s mc ms (fun q => base ≤ q)
theorem tkG.entry {X : tkX} {Q : State → Prop} {p : Program} {l : Launch} {e : Env} {R : Room} {s : State} {m : MethodId} {below : List Frame} {meth : Method} {c : Code} {base : Nat} {D : va_G} {a : List Value} {nL : Nat} {σ : tkM} {I : tkI} {L : tkL}
    (hX : X = (p, l, e, R, s, m, a.toArray, below, meth, c, base, D)) (hml : c.maxLocals = nL) (hn : (lg_sl a).length ≤ nL) (hr : tkRel D base σ I L s.heap)
    (h : tkG X Q 0 0 0 (tkEnt a ++ List.replicate (nL - (lg_sl a).length) none) [] σ I L) : W p l e R s m a.toArray below meth c s.heap [] 0 0 Q (entryFrame m a.toArray nL) := by
  subst hX
  rw [lg_entry_eq]
  refine h s.heap [] _ va_S.rf hr ?_
  rw [hml]
  refine tkLv.of (lv_entry a hn) fun j v hj => ?_
  have := tkEnt_mem a 0 _ j v hj
  rwa [Nat.zero_add] at this
theorem tkCon.of {lo : Bool} {y : MethodName} {cc : ByteArray} {nL d mc ms : Nat} {ret : Option FieldType} {a : List Value} {σ σ' : tkM} {I I' : tkI} {L L' : tkL} {out : tkOut} (hy : plainName y.cls = true) (hn : (lg_sl a).length ≤ nL)
    (body : ∀ X : tkX, tkC X cc y.cls y.name nL ret [] d mc ms → tkG X (tkQ lo X mc ms out σ' I' L') 0 0 0 (tkEnt a ++ List.replicate (nL - (lg_sl a).length) none) [] σ I L) :
    tkCon lo (.code y cc nL ret) y d a σ I L mc ms out σ' I' L' := by
  intro l hl base D
  refine vx_ofW (cc := cc) (maxL := nL) (ret := ret) hy rfl ?_
  intro p e s m args below meth c s₁ B hml ht hv
  obtain ⟨rfl, hK, hE, hR⟩ := hv
  have hts0 := atoms_spec (ws := Cond.code y cc nL ret :: tkAll) B.pre
  have C : tkC (p, l, e, tkRm d mc ms, s, m, a.toArray, below, meth, c, base, D) cc y.cls y.name nL ret [] d mc ms :=
    ⟨B.exec, B.bytes, hml, findClass_of_methodNamed B.named, fun w hw => hts0 w (List.mem_cons_of_mem _ hw), hK, hE, B.notSynchronized, B.returns, (name_of_methodNamed B.named B.method).1, List.eq_nil_iff_forall_not_mem.mpr ht, Nat.le_refl _, Nat.le_refl _, rfl, rfl, hl⟩
  exact tkG.entry rfl hml hn hR (body _ C)
theorem tkCon.ofH {lo : Bool} {y : MethodName} {cc : ByteArray} {nL d mc ms : Nat} {ret : Option FieldType} {hh : List (Nat × Nat × Nat × Nat)} {a : List Value} {σ σ' : tkM} {I I' : tkI} {L L' : tkL} {out : tkOut} (hy : plainName y.cls = true) (hn : (lg_sl a).length ≤ nL)
    (body : ∀ X : tkX, tkC X cc y.cls y.name nL ret hh d mc ms → tkG X (tkQ lo X mc ms out σ' I' L') 0 0 0 (tkEnt a ++ List.replicate (nL - (lg_sl a).length) none) [] σ I L) :
    tkCon lo (.codeWith y cc nL ret hh) y d a σ I L mc ms out σ' I' L' := by
  intro l hl base D
  refine vx_ofWH (cc := cc) (maxL := nL) (ret := ret) (hh := hh) hy rfl ?_
  intro p e s m args below meth c s₁ B hml hv
  obtain ⟨rfl, hK, hE, hR⟩ := hv
  have hts0 := atoms_spec (ws := Cond.codeWith y cc nL ret hh :: tkAll) B.pre
  have C : tkC (p, l, e, tkRm d mc ms, s, m, a.toArray, below, meth, c, base, D) cc y.cls y.name nL ret hh d mc ms :=
    ⟨B.exec, B.bytes, hml, findClass_of_methodNamed B.named, fun w hw => hts0 w (List.mem_cons_of_mem _ hw), hK, hE, B.notSynchronized, B.returns, (name_of_methodNamed B.named B.method).1, vx_table (x := y) B (hts0 _ List.mem_cons_self), Nat.le_refl _, Nat.le_refl _, rfl, rfl, hl⟩
  exact tkG.entry rfl hml hn hR (body _ C)
end
section
section TKR
variable {X : tkX} {Q : State → Prop} {cc : ByteArray} {own nm : String} {nL d MC MS cs ss pc : Nat} {ret : Option FieldType} {hh : List (Nat × Nat × Nat × Nat)} {lv : List (Option Value)} {stk : List Value} {σ : tkM} {I : tkI} {L : tkL}
theorem g_iconst (C : tkC X cc own nm nL ret hh d MC MS) {n : Int} (v : Int32) (hd : decode cc pc = .ok (.iconst n, 1)) (hv : Int32.ofInt n = v) (k : tkG X Q cs ss (pc + 1) lv (.int v :: stk) σ I L) : tkG X Q cs ss pc lv stk σ I L := by
  obtain ⟨p, l, e, R, s, m, args, below, meth, c, base, D⟩ := X
  obtain ⟨hx, hb, hml, hown, hts, hK, hE, hlocks, hr, hnm, hhh, hfr, hlo, hRc, hRs, hst⟩ := C
  intro H locs ls hS hR hl
  exact lv_iconst hx hb hd hv (k H locs ls hS hR hl)
theorem g_bipush (C : tkC X cc own nm nL ret hh d MC MS) {n : Int} (v : Int32) (hd : decode cc pc = .ok (.bipush n, 2)) (hv : (Int8.ofInt n).toInt32 = v) (k : tkG X Q cs ss (pc + 2) lv (.int v :: stk) σ I L) : tkG X Q cs ss pc lv stk σ I L := by
  obtain ⟨p, l, e, R, s, m, args, below, meth, c, base, D⟩ := X
  obtain ⟨hx, hb, hml, hown, hts, hK, hE, hlocks, hr, hnm, hhh, hfr, hlo, hRc, hRs, hst⟩ := C
  intro H locs ls hS hR hl
  exact lv_bipush hx hb hd hv (k H locs ls hS hR hl)
theorem g_sipush (C : tkC X cc own nm nL ret hh d MC MS) {n : Int} (v : Int32) (hd : decode cc pc = .ok (.sipush n, 3)) (hv : (Int16.ofInt n).toInt32 = v) (k : tkG X Q cs ss (pc + 3) lv (.int v :: stk) σ I L) : tkG X Q cs ss pc lv stk σ I L := by
  obtain ⟨p, l, e, R, s, m, args, below, meth, c, base, D⟩ := X
  obtain ⟨hx, hb, hml, hown, hts, hK, hE, hlocks, hr, hnm, hhh, hfr, hlo, hRc, hRs, hst⟩ := C
  intro H locs ls hS hR hl
  exact lv_sipush hx hb hd hv (k H locs ls hS hR hl)
theorem g_lconst (C : tkC X cc own nm nL ret hh d MC MS) {n : Fin 2} (v : Int64) (hd : decode cc pc = .ok (.lconst n, 1)) (hv : Int64.ofNat (n : Nat) = v) (k : tkG X Q cs ss (pc + 1) lv (.long v :: stk) σ I L) : tkG X Q cs ss pc lv stk σ I L := by
  obtain ⟨p, l, e, R, s, m, args, below, meth, c, base, D⟩ := X
  obtain ⟨hx, hb, hml, hown, hts, hK, hE, hlocks, hr, hnm, hhh, hfr, hlo, hRc, hRs, hst⟩ := C
  intro H locs ls hS hR hl
  exact lv_lconst hx hb hd hv (k H locs ls hS hR hl)
theorem g_ldc (C : tkC X cc own nm nL ret hh d MC MS) {i : Nat} (v : Int32) (hd : decode cc pc = .ok (.ldc i, 2)) (hw : Cond.constant own i v ∈ tkAll) (k : tkG X Q cs ss (pc + 2) lv (.int v :: stk) σ I L) : tkG X Q cs ss pc lv stk σ I L := by
  obtain ⟨p, l, e, R, s, m, args, below, meth, c, base, D⟩ := X
  obtain ⟨hx, hb, hml, hown, hts, hK, hE, hlocks, hr, hnm, hhh, hfr, hlo, hRc, hRs, hst⟩ := C
  intro H locs ls hS hR hl
  exact lv_ldc hx hb hown (hts _ hw) hd (k H locs ls hS hR hl)
theorem g_ldc2 (C : tkC X cc own nm nL ret hh d MC MS) {i : Nat} (v : Int64) (hd : decode cc pc = .ok (.ldc2_w i, 3)) (hw : Cond.constantLong own i v ∈ tkAll) (k : tkG X Q cs ss (pc + 3) lv (.long v :: stk) σ I L) : tkG X Q cs ss pc lv stk σ I L := by
  obtain ⟨p, l, e, R, s, m, args, below, meth, c, base, D⟩ := X
  obtain ⟨hx, hb, hml, hown, hts, hK, hE, hlocks, hr, hnm, hhh, hfr, hlo, hRc, hRs, hst⟩ := C
  intro H locs ls hS hR hl
  exact lv_ldc2 hx hb hown (hts _ hw) hd (k H locs ls hS hR hl)
theorem g_iload_n (C : tkC X cc own nm nL ret hh d MC MS) {k0 : Fin 4} {i : Nat} {x : Int32} (hd : decode cc pc = .ok (.iload_n k0, 1)) (hi : (k0 : Nat) = i) (hg : tkGet lv i = some (.int x)) (k : tkG X Q cs ss (pc + 1) lv (.int x :: stk) σ I L) : tkG X Q cs ss pc lv stk σ I L := by
  obtain ⟨p, l, e, R, s, m, args, below, meth, c, base, D⟩ := X
  obtain ⟨hx, hb, hml, hown, hts, hK, hE, hlocks, hr, hnm, hhh, hfr, hlo, hRc, hRs, hst⟩ := C
  intro H locs ls hS hR hl
  exact lv_iload_n hx hb hd hi (hl.get hg) (k H locs ls hS hR hl)
theorem g_iload (C : tkC X cc own nm nL ret hh d MC MS) {i : Nat} {x : Int32} (hd : decode cc pc = .ok (.iload i, 2)) (hg : tkGet lv i = some (.int x)) (k : tkG X Q cs ss (pc + 2) lv (.int x :: stk) σ I L) : tkG X Q cs ss pc lv stk σ I L := by
  obtain ⟨p, l, e, R, s, m, args, below, meth, c, base, D⟩ := X
  obtain ⟨hx, hb, hml, hown, hts, hK, hE, hlocks, hr, hnm, hhh, hfr, hlo, hRc, hRs, hst⟩ := C
  intro H locs ls hS hR hl
  exact lv_iload hx hb hd (hl.get hg) (k H locs ls hS hR hl)
theorem g_lload_n (C : tkC X cc own nm nL ret hh d MC MS) {k0 : Fin 4} {i : Nat} {x : Int64} (hd : decode cc pc = .ok (.lload_n k0, 1)) (hi : (k0 : Nat) = i) (hg : tkGet lv i = some (.long x)) (k : tkG X Q cs ss (pc + 1) lv (.long x :: stk) σ I L) : tkG X Q cs ss pc lv stk σ I L := by
  obtain ⟨p, l, e, R, s, m, args, below, meth, c, base, D⟩ := X
  obtain ⟨hx, hb, hml, hown, hts, hK, hE, hlocks, hr, hnm, hhh, hfr, hlo, hRc, hRs, hst⟩ := C
  intro H locs ls hS hR hl
  exact lv_lload_n hx hb hd hi (hl.get hg) (k H locs ls hS hR hl)
theorem g_lload (C : tkC X cc own nm nL ret hh d MC MS) {i : Nat} {x : Int64} (hd : decode cc pc = .ok (.lload i, 2)) (hg : tkGet lv i = some (.long x)) (k : tkG X Q cs ss (pc + 2) lv (.long x :: stk) σ I L) : tkG X Q cs ss pc lv stk σ I L := by
  obtain ⟨p, l, e, R, s, m, args, below, meth, c, base, D⟩ := X
  obtain ⟨hx, hb, hml, hown, hts, hK, hE, hlocks, hr, hnm, hhh, hfr, hlo, hRc, hRs, hst⟩ := C
  intro H locs ls hS hR hl
  exact lv_lload hx hb hd (hl.get hg) (k H locs ls hS hR hl)
theorem g_aload_n (C : tkC X cc own nm nL ret hh d MC MS) {k0 : Fin 4} {i : Nat} {x : Nat} (hd : decode cc pc = .ok (.aload_n k0, 1)) (hi : (k0 : Nat) = i) (hg : tkGet lv i = some (.ref x)) (k : tkG X Q cs ss (pc + 1) lv (.ref x :: stk) σ I L) : tkG X Q cs ss pc lv stk σ I L := by
  obtain ⟨p, l, e, R, s, m, args, below, meth, c, base, D⟩ := X
  obtain ⟨hx, hb, hml, hown, hts, hK, hE, hlocks, hr, hnm, hhh, hfr, hlo, hRc, hRs, hst⟩ := C
  intro H locs ls hS hR hl
  exact lv_aload_n hx hb hd hi (hl.get hg) (k H locs ls hS hR hl)
theorem g_aload (C : tkC X cc own nm nL ret hh d MC MS) {i : Nat} {x : Nat} (hd : decode cc pc = .ok (.aload i, 2)) (hg : tkGet lv i = some (.ref x)) (k : tkG X Q cs ss (pc + 2) lv (.ref x :: stk) σ I L) : tkG X Q cs ss pc lv stk σ I L := by
  obtain ⟨p, l, e, R, s, m, args, below, meth, c, base, D⟩ := X
  obtain ⟨hx, hb, hml, hown, hts, hK, hE, hlocks, hr, hnm, hhh, hfr, hlo, hRc, hRs, hst⟩ := C
  intro H locs ls hS hR hl
  exact lv_aload hx hb hd (hl.get hg) (k H locs ls hS hR hl)
theorem g_dload_n (C : tkC X cc own nm nL ret hh d MC MS) {k0 : Fin 4} {i : Nat} {x : UInt64} (hd : decode cc pc = .ok (.dload_n k0, 1)) (hi : (k0 : Nat) = i) (hg : tkGet lv i = some (.double x)) (k : tkG X Q cs ss (pc + 1) lv (.double x :: stk) σ I L) : tkG X Q cs ss pc lv stk σ I L := by
  obtain ⟨p, l, e, R, s, m, args, below, meth, c, base, D⟩ := X
  obtain ⟨hx, hb, hml, hown, hts, hK, hE, hlocks, hr, hnm, hhh, hfr, hlo, hRc, hRs, hst⟩ := C
  intro H locs ls hS hR hl
  exact lv_dload_n hx hb hd hi (hl.get hg) (k H locs ls hS hR hl)
theorem g_dload (C : tkC X cc own nm nL ret hh d MC MS) {i : Nat} {x : UInt64} (hd : decode cc pc = .ok (.dload i, 2)) (hg : tkGet lv i = some (.double x)) (k : tkG X Q cs ss (pc + 2) lv (.double x :: stk) σ I L) : tkG X Q cs ss pc lv stk σ I L := by
  obtain ⟨p, l, e, R, s, m, args, below, meth, c, base, D⟩ := X
  obtain ⟨hx, hb, hml, hown, hts, hK, hE, hlocks, hr, hnm, hhh, hfr, hlo, hRc, hRs, hst⟩ := C
  intro H locs ls hS hR hl
  exact lv_dload hx hb hd (hl.get hg) (k H locs ls hS hR hl)
theorem g_istore_n (C : tkC X cc own nm nL ret hh d MC MS) {k0 : Fin 4} {i : Nat} {x : Int32} (hd : decode cc pc = .ok (.istore_n k0, 1)) (hi : (k0 : Nat) = i) (hn : i < nL) (k : tkG X Q cs ss (pc + 1) (tkSt1 lv i (.int x)) stk σ I L) : tkG X Q cs ss pc lv (.int x :: stk) σ I L := by
  obtain ⟨p, l, e, R, s, m, args, below, meth, c, base, D⟩ := X
  obtain ⟨hx, hb, hml, hown, hts, hK, hE, hlocks, hr, hnm, hhh, hfr, hlo, hRc, hRs, hst⟩ := C
  intro H locs ls hS hR hl
  exact lv_istore_n (nL := c.maxLocals) hx hb hd hi hl (by rw [hml]; exact hn) rfl (fun ls' h' => k H locs ls' hS hR (tkLv.st1 h'))
theorem g_istore (C : tkC X cc own nm nL ret hh d MC MS) {i : Nat} {x : Int32} (hd : decode cc pc = .ok (.istore i, 2)) (hn : i < nL) (k : tkG X Q cs ss (pc + 2) (tkSt1 lv i (.int x)) stk σ I L) : tkG X Q cs ss pc lv (.int x :: stk) σ I L := by
  obtain ⟨p, l, e, R, s, m, args, below, meth, c, base, D⟩ := X
  obtain ⟨hx, hb, hml, hown, hts, hK, hE, hlocks, hr, hnm, hhh, hfr, hlo, hRc, hRs, hst⟩ := C
  intro H locs ls hS hR hl
  exact lv_istore (nL := c.maxLocals) hx hb hd hl (by rw [hml]; exact hn) rfl (fun ls' h' => k H locs ls' hS hR (tkLv.st1 h'))
theorem g_lstore_n (C : tkC X cc own nm nL ret hh d MC MS) {k0 : Fin 4} {i : Nat} {x : Int64} (hd : decode cc pc = .ok (.lstore_n k0, 1)) (hi : (k0 : Nat) = i) (hn : i + 1 < nL) (k : tkG X Q cs ss (pc + 1) (tkSt2 lv i (.long x)) stk σ I L) : tkG X Q cs ss pc lv (.long x :: stk) σ I L := by
  obtain ⟨p, l, e, R, s, m, args, below, meth, c, base, D⟩ := X
  obtain ⟨hx, hb, hml, hown, hts, hK, hE, hlocks, hr, hnm, hhh, hfr, hlo, hRc, hRs, hst⟩ := C
  intro H locs ls hS hR hl
  exact lv_lstore_n (nL := c.maxLocals) hx hb hd hi hl (by rw [hml]; exact hn) rfl (fun ls' h' => k H locs ls' hS hR (tkLv.st2 h'))
theorem g_lstore (C : tkC X cc own nm nL ret hh d MC MS) {i : Nat} {x : Int64} (hd : decode cc pc = .ok (.lstore i, 2)) (hn : i + 1 < nL) (k : tkG X Q cs ss (pc + 2) (tkSt2 lv i (.long x)) stk σ I L) : tkG X Q cs ss pc lv (.long x :: stk) σ I L := by
  obtain ⟨p, l, e, R, s, m, args, below, meth, c, base, D⟩ := X
  obtain ⟨hx, hb, hml, hown, hts, hK, hE, hlocks, hr, hnm, hhh, hfr, hlo, hRc, hRs, hst⟩ := C
  intro H locs ls hS hR hl
  exact lv_lstore (nL := c.maxLocals) hx hb hd hl (by rw [hml]; exact hn) rfl (fun ls' h' => k H locs ls' hS hR (tkLv.st2 h'))
theorem g_astore_n (C : tkC X cc own nm nL ret hh d MC MS) {k0 : Fin 4} {i : Nat} {x : Nat} (hd : decode cc pc = .ok (.astore_n k0, 1)) (hi : (k0 : Nat) = i) (hn : i < nL) (k : tkG X Q cs ss (pc + 1) (tkSt1 lv i (.ref x)) stk σ I L) : tkG X Q cs ss pc lv (.ref x :: stk) σ I L := by
  obtain ⟨p, l, e, R, s, m, args, below, meth, c, base, D⟩ := X
  obtain ⟨hx, hb, hml, hown, hts, hK, hE, hlocks, hr, hnm, hhh, hfr, hlo, hRc, hRs, hst⟩ := C
  intro H locs ls hS hR hl
  exact lv_astore_n (nL := c.maxLocals) hx hb hd hi hl (by rw [hml]; exact hn) rfl (fun ls' h' => k H locs ls' hS hR (tkLv.st1 h'))
theorem g_astore (C : tkC X cc own nm nL ret hh d MC MS) {i : Nat} {x : Nat} (hd : decode cc pc = .ok (.astore i, 2)) (hn : i < nL) (k : tkG X Q cs ss (pc + 2) (tkSt1 lv i (.ref x)) stk σ I L) : tkG X Q cs ss pc lv (.ref x :: stk) σ I L := by
  obtain ⟨p, l, e, R, s, m, args, below, meth, c, base, D⟩ := X
  obtain ⟨hx, hb, hml, hown, hts, hK, hE, hlocks, hr, hnm, hhh, hfr, hlo, hRc, hRs, hst⟩ := C
  intro H locs ls hS hR hl
  exact lv_astore (nL := c.maxLocals) hx hb hd hl (by rw [hml]; exact hn) rfl (fun ls' h' => k H locs ls' hS hR (tkLv.st1 h'))
theorem g_dstore_n (C : tkC X cc own nm nL ret hh d MC MS) {k0 : Fin 4} {i : Nat} {x : UInt64} (hd : decode cc pc = .ok (.dstore_n k0, 1)) (hi : (k0 : Nat) = i) (hn : i + 1 < nL) (k : tkG X Q cs ss (pc + 1) (tkSt2 lv i (.double x)) stk σ I L) : tkG X Q cs ss pc lv (.double x :: stk) σ I L := by
  obtain ⟨p, l, e, R, s, m, args, below, meth, c, base, D⟩ := X
  obtain ⟨hx, hb, hml, hown, hts, hK, hE, hlocks, hr, hnm, hhh, hfr, hlo, hRc, hRs, hst⟩ := C
  intro H locs ls hS hR hl
  exact lv_dstore_n (nL := c.maxLocals) hx hb hd hi hl (by rw [hml]; exact hn) rfl (fun ls' h' => k H locs ls' hS hR (tkLv.st2 h'))
theorem g_dstore (C : tkC X cc own nm nL ret hh d MC MS) {i : Nat} {x : UInt64} (hd : decode cc pc = .ok (.dstore i, 2)) (hn : i + 1 < nL) (k : tkG X Q cs ss (pc + 2) (tkSt2 lv i (.double x)) stk σ I L) : tkG X Q cs ss pc lv (.double x :: stk) σ I L := by
  obtain ⟨p, l, e, R, s, m, args, below, meth, c, base, D⟩ := X
  obtain ⟨hx, hb, hml, hown, hts, hK, hE, hlocks, hr, hnm, hhh, hfr, hlo, hRc, hRs, hst⟩ := C
  intro H locs ls hS hR hl
  exact lv_dstore (nL := c.maxLocals) hx hb hd hl (by rw [hml]; exact hn) rfl (fun ls' h' => k H locs ls' hS hR (tkLv.st2 h'))
theorem g_iinc (C : tkC X cc own nm nL ret hh d MC MS) {i : Nat} {n : Int} {x : Int32} (v : Int32) (hd : decode cc pc = .ok (.iinc i n, 3)) (hg : tkGet lv i = some (.int x)) (hv : x + Int32.ofInt n = v) (hn : i < nL) (k : tkG X Q cs ss (pc + 3) (tkSt1 lv i (.int v)) stk σ I L) : tkG X Q cs ss pc lv stk σ I L := by
  obtain ⟨p, l, e, R, s, m, args, below, meth, c, base, D⟩ := X
  obtain ⟨hx, hb, hml, hown, hts, hK, hE, hlocks, hr, hnm, hhh, hfr, hlo, hRc, hRs, hst⟩ := C
  intro H locs ls hS hR hl
  obtain ⟨k1, hk1⟩ := List.getElem?_of_mem (tkAl_mem.mpr hg)
  exact lv_iinc (nL := c.maxLocals) hx hb hd hl hk1 hv (by rw [hml]; exact hn) rfl (fun ls' h' => k H locs ls' hS hR (tkLv.st1 h'))
theorem g_iadd (C : tkC X cc own nm nL ret hh d MC MS) {x y : Int32} (hd : decode cc pc = .ok (.iadd, 1)) (k : tkG X Q cs ss (pc + 1) lv (.int (x + y) :: stk) σ I L) : tkG X Q cs ss pc lv (.int y :: .int x :: stk) σ I L := by
  obtain ⟨p, l, e, R, s, m, args, below, meth, c, base, D⟩ := X
  obtain ⟨hx, hb, hml, hown, hts, hK, hE, hlocks, hr, hnm, hhh, hfr, hlo, hRc, hRs, hst⟩ := C
  intro H locs ls hS hR hl
  exact lv_iadd hx hb hd (k H locs ls hS hR hl)
theorem g_isub (C : tkC X cc own nm nL ret hh d MC MS) {x y : Int32} (hd : decode cc pc = .ok (.isub, 1)) (k : tkG X Q cs ss (pc + 1) lv (.int (x - y) :: stk) σ I L) : tkG X Q cs ss pc lv (.int y :: .int x :: stk) σ I L := by
  obtain ⟨p, l, e, R, s, m, args, below, meth, c, base, D⟩ := X
  obtain ⟨hx, hb, hml, hown, hts, hK, hE, hlocks, hr, hnm, hhh, hfr, hlo, hRc, hRs, hst⟩ := C
  intro H locs ls hS hR hl
  exact lv_isub hx hb hd (k H locs ls hS hR hl)
theorem g_imul (C : tkC X cc own nm nL ret hh d MC MS) {x y : Int32} (hd : decode cc pc = .ok (.imul, 1)) (k : tkG X Q cs ss (pc + 1) lv (.int (x * y) :: stk) σ I L) : tkG X Q cs ss pc lv (.int y :: .int x :: stk) σ I L := by
  obtain ⟨p, l, e, R, s, m, args, below, meth, c, base, D⟩ := X
  obtain ⟨hx, hb, hml, hown, hts, hK, hE, hlocks, hr, hnm, hhh, hfr, hlo, hRc, hRs, hst⟩ := C
  intro H locs ls hS hR hl
  exact lv_imul hx hb hd (k H locs ls hS hR hl)
theorem g_iand (C : tkC X cc own nm nL ret hh d MC MS) {x y : Int32} (hd : decode cc pc = .ok (.iand, 1)) (k : tkG X Q cs ss (pc + 1) lv (.int (x &&& y) :: stk) σ I L) : tkG X Q cs ss pc lv (.int y :: .int x :: stk) σ I L := by
  obtain ⟨p, l, e, R, s, m, args, below, meth, c, base, D⟩ := X
  obtain ⟨hx, hb, hml, hown, hts, hK, hE, hlocks, hr, hnm, hhh, hfr, hlo, hRc, hRs, hst⟩ := C
  intro H locs ls hS hR hl
  exact lv_iand hx hb hd (k H locs ls hS hR hl)
theorem g_ladd (C : tkC X cc own nm nL ret hh d MC MS) {x y : Int64} (hd : decode cc pc = .ok (.ladd, 1)) (k : tkG X Q cs ss (pc + 1) lv (.long (x + y) :: stk) σ I L) : tkG X Q cs ss pc lv (.long y :: .long x :: stk) σ I L := by
  obtain ⟨p, l, e, R, s, m, args, below, meth, c, base, D⟩ := X
  obtain ⟨hx, hb, hml, hown, hts, hK, hE, hlocks, hr, hnm, hhh, hfr, hlo, hRc, hRs, hst⟩ := C
  intro H locs ls hS hR hl
  exact lv_ladd hx hb hd (k H locs ls hS hR hl)
theorem g_lsub (C : tkC X cc own nm nL ret hh d MC MS) {x y : Int64} (hd : decode cc pc = .ok (.lsub, 1)) (k : tkG X Q cs ss (pc + 1) lv (.long (x - y) :: stk) σ I L) : tkG X Q cs ss pc lv (.long y :: .long x :: stk) σ I L := by
  obtain ⟨p, l, e, R, s, m, args, below, meth, c, base, D⟩ := X
  obtain ⟨hx, hb, hml, hown, hts, hK, hE, hlocks, hr, hnm, hhh, hfr, hlo, hRc, hRs, hst⟩ := C
  intro H locs ls hS hR hl
  exact lv_lsub hx hb hd (k H locs ls hS hR hl)
theorem g_lmul (C : tkC X cc own nm nL ret hh d MC MS) {x y : Int64} (hd : decode cc pc = .ok (.lmul, 1)) (k : tkG X Q cs ss (pc + 1) lv (.long (x * y) :: stk) σ I L) : tkG X Q cs ss pc lv (.long y :: .long x :: stk) σ I L := by
  obtain ⟨p, l, e, R, s, m, args, below, meth, c, base, D⟩ := X
  obtain ⟨hx, hb, hml, hown, hts, hK, hE, hlocks, hr, hnm, hhh, hfr, hlo, hRc, hRs, hst⟩ := C
  intro H locs ls hS hR hl
  exact lv_lmul hx hb hd (k H locs ls hS hR hl)
theorem g_ldiv (C : tkC X cc own nm nL ret hh d MC MS) {x y : Int64} (hd : decode cc pc = .ok (.ldiv, 1)) (hne : ¬ y = 0) (k : tkG X Q cs ss (pc + 1) lv (.long (x / y) :: stk) σ I L) : tkG X Q cs ss pc lv (.long y :: .long x :: stk) σ I L := by
  obtain ⟨p, l, e, R, s, m, args, below, meth, c, base, D⟩ := X
  obtain ⟨hx, hb, hml, hown, hts, hK, hE, hlocks, hr, hnm, hhh, hfr, hlo, hRc, hRs, hst⟩ := C
  intro H locs ls hS hR hl
  exact lv_ldiv hx hb hd hne (k H locs ls hS hR hl)
theorem g_lrem (C : tkC X cc own nm nL ret hh d MC MS) {x y : Int64} (hd : decode cc pc = .ok (.lrem, 1)) (hne : ¬ y = 0) (k : tkG X Q cs ss (pc + 1) lv (.long (x - x / y * y) :: stk) σ I L) : tkG X Q cs ss pc lv (.long y :: .long x :: stk) σ I L := by
  obtain ⟨p, l, e, R, s, m, args, below, meth, c, base, D⟩ := X
  obtain ⟨hx, hb, hml, hown, hts, hK, hE, hlocks, hr, hnm, hhh, hfr, hlo, hRc, hRs, hst⟩ := C
  intro H locs ls hS hR hl
  exact lv_lrem hx hb hd hne (k H locs ls hS hR hl)
theorem g_ineg (C : tkC X cc own nm nL ret hh d MC MS) {x : Int32} (hd : decode cc pc = .ok (.ineg, 1)) (k : tkG X Q cs ss (pc + 1) lv (.int (-x) :: stk) σ I L) : tkG X Q cs ss pc lv (.int x :: stk) σ I L := by
  obtain ⟨p, l, e, R, s, m, args, below, meth, c, base, D⟩ := X
  obtain ⟨hx, hb, hml, hown, hts, hK, hE, hlocks, hr, hnm, hhh, hfr, hlo, hRc, hRs, hst⟩ := C
  intro H locs ls hS hR hl
  exact lv_ineg hx hb hd (k H locs ls hS hR hl)
theorem g_lneg (C : tkC X cc own nm nL ret hh d MC MS) {x : Int64} (hd : decode cc pc = .ok (.lneg, 1)) (k : tkG X Q cs ss (pc + 1) lv (.long (-x) :: stk) σ I L) : tkG X Q cs ss pc lv (.long x :: stk) σ I L := by
  obtain ⟨p, l, e, R, s, m, args, below, meth, c, base, D⟩ := X
  obtain ⟨hx, hb, hml, hown, hts, hK, hE, hlocks, hr, hnm, hhh, hfr, hlo, hRc, hRs, hst⟩ := C
  intro H locs ls hS hR hl
  exact lv_lneg hx hb hd (k H locs ls hS hR hl)
theorem g_i2l (C : tkC X cc own nm nL ret hh d MC MS) {x : Int32} (hd : decode cc pc = .ok (.i2l, 1)) (k : tkG X Q cs ss (pc + 1) lv (.long x.toInt64 :: stk) σ I L) : tkG X Q cs ss pc lv (.int x :: stk) σ I L := by
  obtain ⟨p, l, e, R, s, m, args, below, meth, c, base, D⟩ := X
  obtain ⟨hx, hb, hml, hown, hts, hK, hE, hlocks, hr, hnm, hhh, hfr, hlo, hRc, hRs, hst⟩ := C
  intro H locs ls hS hR hl
  exact lv_i2l hx hb hd rfl (k H locs ls hS hR hl)
theorem g_l2i (C : tkC X cc own nm nL ret hh d MC MS) {x : Int64} (hd : decode cc pc = .ok (.l2i, 1)) (k : tkG X Q cs ss (pc + 1) lv (.int x.toInt32 :: stk) σ I L) : tkG X Q cs ss pc lv (.long x :: stk) σ I L := by
  obtain ⟨p, l, e, R, s, m, args, below, meth, c, base, D⟩ := X
  obtain ⟨hx, hb, hml, hown, hts, hK, hE, hlocks, hr, hnm, hhh, hfr, hlo, hRc, hRs, hst⟩ := C
  intro H locs ls hS hR hl
  exact lv_l2i hx hb hd rfl (k H locs ls hS hR hl)
theorem g_i2d (C : tkC X cc own nm nL ret hh d MC MS) {x : Int32} (hd : decode cc pc = .ok (.i2d, 1)) (k : tkG X Q cs ss (pc + 1) lv (.double (FP.i2d x) :: stk) σ I L) : tkG X Q cs ss pc lv (.int x :: stk) σ I L := by
  obtain ⟨p, l, e, R, s, m, args, below, meth, c, base, D⟩ := X
  obtain ⟨hx, hb, hml, hown, hts, hK, hE, hlocks, hr, hnm, hhh, hfr, hlo, hRc, hRs, hst⟩ := C
  intro H locs ls hS hR hl
  exact lv_i2d hx hb hd (k H locs ls hS hR hl)
theorem g_l2d (C : tkC X cc own nm nL ret hh d MC MS) {x : Int64} (hd : decode cc pc = .ok (.l2d, 1)) (k : tkG X Q cs ss (pc + 1) lv (.double (FP.l2d x) :: stk) σ I L) : tkG X Q cs ss pc lv (.long x :: stk) σ I L := by
  obtain ⟨p, l, e, R, s, m, args, below, meth, c, base, D⟩ := X
  obtain ⟨hx, hb, hml, hown, hts, hK, hE, hlocks, hr, hnm, hhh, hfr, hlo, hRc, hRs, hst⟩ := C
  intro H locs ls hS hR hl
  exact lv_l2d hx hb hd (k H locs ls hS hR hl)
theorem g_ddiv (C : tkC X cc own nm nL ret hh d MC MS) {x y : UInt64} (hd : decode cc pc = .ok (.ddiv, 1)) (hne : vf_n64 (FP.ddiv x y)) (k : tkG X Q cs ss (pc + 1) lv (.double (FP.ddiv x y) :: stk) σ I L) : tkG X Q cs ss pc lv (.double y :: .double x :: stk) σ I L := by
  obtain ⟨p, l, e, R, s, m, args, below, meth, c, base, D⟩ := X
  obtain ⟨hx, hb, hml, hown, hts, hK, hE, hlocks, hr, hnm, hhh, hfr, hlo, hRc, hRs, hst⟩ := C
  intro H locs ls hS hR hl
  exact lv_ddiv hx hb hd hne (k H locs ls hS hR hl)
theorem g_lcmp (C : tkC X cc own nm nL ret hh d MC MS) {x y : Int64} (hd : decode cc pc = .ok (.lcmp, 1)) (k : tkG X Q cs ss (pc + 1) lv (.int (lg_cmp x y) :: stk) σ I L) : tkG X Q cs ss pc lv (.long y :: .long x :: stk) σ I L := by
  obtain ⟨p, l, e, R, s, m, args, below, meth, c, base, D⟩ := X
  obtain ⟨hx, hb, hml, hown, hts, hK, hE, hlocks, hr, hnm, hhh, hfr, hlo, hRc, hRs, hst⟩ := C
  intro H locs ls hS hR hl
  exact W.lcmp hx hb hd (k H locs ls hS hR hl)
theorem g_dcmp (C : tkC X cc own nm nL ret hh d MC MS) {x y : UInt64} {op : CmpOp} (hd : decode cc pc = .ok (.dcmp op, 1)) (k : tkG X Q cs ss (pc + 1) lv (.int (Op.cmpValue (FP.dcmp x y) op) :: stk) σ I L) : tkG X Q cs ss pc lv (.double y :: .double x :: stk) σ I L := by
  obtain ⟨p, l, e, R, s, m, args, below, meth, c, base, D⟩ := X
  obtain ⟨hx, hb, hml, hown, hts, hK, hE, hlocks, hr, hnm, hhh, hfr, hlo, hRc, hRs, hst⟩ := C
  intro H locs ls hS hR hl
  exact lv_dcmp hx hb hd (k H locs ls hS hR hl)
theorem g_dup (C : tkC X cc own nm nL ret hh d MC MS) {va : Value} (hd : decode cc pc = .ok (.dup, 1)) (hva : va.category = 1) (k : tkG X Q cs ss (pc + 1) lv (va :: va :: stk) σ I L) : tkG X Q cs ss pc lv (va :: stk) σ I L := by
  obtain ⟨p, l, e, R, s, m, args, below, meth, c, base, D⟩ := X
  obtain ⟨hx, hb, hml, hown, hts, hK, hE, hlocks, hr, hnm, hhh, hfr, hlo, hRc, hRs, hst⟩ := C
  intro H locs ls hS hR hl
  exact lv_dup hx hb hd hva (k H locs ls hS hR hl)
theorem g_pop (C : tkC X cc own nm nL ret hh d MC MS) {va : Value} (hd : decode cc pc = .ok (.pop, 1)) (hva : va.category = 1) (k : tkG X Q cs ss (pc + 1) lv stk σ I L) : tkG X Q cs ss pc lv (va :: stk) σ I L := by
  obtain ⟨p, l, e, R, s, m, args, below, meth, c, base, D⟩ := X
  obtain ⟨hx, hb, hml, hown, hts, hK, hE, hlocks, hr, hnm, hhh, hfr, hlo, hRc, hRs, hst⟩ := C
  intro H locs ls hS hR hl
  exact lv_pop hx hb hd hva (k H locs ls hS hR hl)
theorem g_dup2 (C : tkC X cc own nm nL ret hh d MC MS) {va vb : Value} (hd : decode cc pc = .ok (.dup2, 1)) (hva : va.category = 1) (hvb : vb.category = 1) (k : tkG X Q cs ss (pc + 1) lv (va :: vb :: va :: vb :: stk) σ I L) : tkG X Q cs ss pc lv (va :: vb :: stk) σ I L := by
  obtain ⟨p, l, e, R, s, m, args, below, meth, c, base, D⟩ := X
  obtain ⟨hx, hb, hml, hown, hts, hK, hE, hlocks, hr, hnm, hhh, hfr, hlo, hRc, hRs, hst⟩ := C
  intro H locs ls hS hR hl
  exact lv_dup2_11 hx hb hd hva hvb (k H locs ls hS hR hl)
theorem g_if_eq (C : tkC X cc own nm nL ret hh d MC MS) {x : Int32} {off : Int} (tgt : Nat) (hd : decode cc pc = .ok (.ifCond .eq off, 3)) (ht : (pc : Int) + off = (tgt : Int)) (kt : x = 0 → tkG X Q cs ss tgt lv stk σ I L) (kf : ¬ x = 0 → tkG X Q cs ss (pc + 3) lv stk σ I L) : tkG X Q cs ss pc lv (.int x :: stk) σ I L := by
  obtain ⟨p, l, e, R, s, m, args, below, meth, c, base, D⟩ := X
  obtain ⟨hx, hb, hml, hown, hts, hK, hE, hlocks, hr, hnm, hhh, hfr, hlo, hRc, hRs, hst⟩ := C
  intro H locs ls hS hR hl
  exact lv_if_eq hx hb hd ht (fun z => kt z H locs ls hS hR hl) (fun z => kf z H locs ls hS hR hl)
theorem g_icmp_eq (C : tkC X cc own nm nL ret hh d MC MS) {x y : Int32} {off : Int} (tgt : Nat) (hd : decode cc pc = .ok (.if_icmp .eq off, 3)) (ht : (pc : Int) + off = (tgt : Int)) (kt : x = y → tkG X Q cs ss tgt lv stk σ I L) (kf : ¬ x = y → tkG X Q cs ss (pc + 3) lv stk σ I L) : tkG X Q cs ss pc lv (.int y :: .int x :: stk) σ I L := by
  obtain ⟨p, l, e, R, s, m, args, below, meth, c, base, D⟩ := X
  obtain ⟨hx, hb, hml, hown, hts, hK, hE, hlocks, hr, hnm, hhh, hfr, hlo, hRc, hRs, hst⟩ := C
  intro H locs ls hS hR hl
  exact lv_icmp_eq hx hb hd ht (fun z => kt z H locs ls hS hR hl) (fun z => kf z H locs ls hS hR hl)
theorem g_if_ne (C : tkC X cc own nm nL ret hh d MC MS) {x : Int32} {off : Int} (tgt : Nat) (hd : decode cc pc = .ok (.ifCond .ne off, 3)) (ht : (pc : Int) + off = (tgt : Int)) (kt : ¬ x = 0 → tkG X Q cs ss tgt lv stk σ I L) (kf : x = 0 → tkG X Q cs ss (pc + 3) lv stk σ I L) : tkG X Q cs ss pc lv (.int x :: stk) σ I L := by
  obtain ⟨p, l, e, R, s, m, args, below, meth, c, base, D⟩ := X
  obtain ⟨hx, hb, hml, hown, hts, hK, hE, hlocks, hr, hnm, hhh, hfr, hlo, hRc, hRs, hst⟩ := C
  intro H locs ls hS hR hl
  exact lv_if_ne hx hb hd ht (fun z => kt z H locs ls hS hR hl) (fun z => kf z H locs ls hS hR hl)
theorem g_icmp_ne (C : tkC X cc own nm nL ret hh d MC MS) {x y : Int32} {off : Int} (tgt : Nat) (hd : decode cc pc = .ok (.if_icmp .ne off, 3)) (ht : (pc : Int) + off = (tgt : Int)) (kt : ¬ x = y → tkG X Q cs ss tgt lv stk σ I L) (kf : x = y → tkG X Q cs ss (pc + 3) lv stk σ I L) : tkG X Q cs ss pc lv (.int y :: .int x :: stk) σ I L := by
  obtain ⟨p, l, e, R, s, m, args, below, meth, c, base, D⟩ := X
  obtain ⟨hx, hb, hml, hown, hts, hK, hE, hlocks, hr, hnm, hhh, hfr, hlo, hRc, hRs, hst⟩ := C
  intro H locs ls hS hR hl
  exact lv_icmp_ne hx hb hd ht (fun z => kt z H locs ls hS hR hl) (fun z => kf z H locs ls hS hR hl)
theorem g_if_lt (C : tkC X cc own nm nL ret hh d MC MS) {x : Int32} {off : Int} (tgt : Nat) (hd : decode cc pc = .ok (.ifCond .lt off, 3)) (ht : (pc : Int) + off = (tgt : Int)) (kt : x < 0 → tkG X Q cs ss tgt lv stk σ I L) (kf : ¬ x < 0 → tkG X Q cs ss (pc + 3) lv stk σ I L) : tkG X Q cs ss pc lv (.int x :: stk) σ I L := by
  obtain ⟨p, l, e, R, s, m, args, below, meth, c, base, D⟩ := X
  obtain ⟨hx, hb, hml, hown, hts, hK, hE, hlocks, hr, hnm, hhh, hfr, hlo, hRc, hRs, hst⟩ := C
  intro H locs ls hS hR hl
  exact lv_if_lt hx hb hd ht (fun z => kt z H locs ls hS hR hl) (fun z => kf z H locs ls hS hR hl)
theorem g_icmp_lt (C : tkC X cc own nm nL ret hh d MC MS) {x y : Int32} {off : Int} (tgt : Nat) (hd : decode cc pc = .ok (.if_icmp .lt off, 3)) (ht : (pc : Int) + off = (tgt : Int)) (kt : x < y → tkG X Q cs ss tgt lv stk σ I L) (kf : ¬ x < y → tkG X Q cs ss (pc + 3) lv stk σ I L) : tkG X Q cs ss pc lv (.int y :: .int x :: stk) σ I L := by
  obtain ⟨p, l, e, R, s, m, args, below, meth, c, base, D⟩ := X
  obtain ⟨hx, hb, hml, hown, hts, hK, hE, hlocks, hr, hnm, hhh, hfr, hlo, hRc, hRs, hst⟩ := C
  intro H locs ls hS hR hl
  exact lv_icmp_lt hx hb hd ht (fun z => kt z H locs ls hS hR hl) (fun z => kf z H locs ls hS hR hl)
theorem g_if_ge (C : tkC X cc own nm nL ret hh d MC MS) {x : Int32} {off : Int} (tgt : Nat) (hd : decode cc pc = .ok (.ifCond .ge off, 3)) (ht : (pc : Int) + off = (tgt : Int)) (kt : 0 ≤ x → tkG X Q cs ss tgt lv stk σ I L) (kf : ¬ 0 ≤ x → tkG X Q cs ss (pc + 3) lv stk σ I L) : tkG X Q cs ss pc lv (.int x :: stk) σ I L := by
  obtain ⟨p, l, e, R, s, m, args, below, meth, c, base, D⟩ := X
  obtain ⟨hx, hb, hml, hown, hts, hK, hE, hlocks, hr, hnm, hhh, hfr, hlo, hRc, hRs, hst⟩ := C
  intro H locs ls hS hR hl
  exact lv_if_ge hx hb hd ht (fun z => kt z H locs ls hS hR hl) (fun z => kf z H locs ls hS hR hl)
theorem g_icmp_ge (C : tkC X cc own nm nL ret hh d MC MS) {x y : Int32} {off : Int} (tgt : Nat) (hd : decode cc pc = .ok (.if_icmp .ge off, 3)) (ht : (pc : Int) + off = (tgt : Int)) (kt : y ≤ x → tkG X Q cs ss tgt lv stk σ I L) (kf : ¬ y ≤ x → tkG X Q cs ss (pc + 3) lv stk σ I L) : tkG X Q cs ss pc lv (.int y :: .int x :: stk) σ I L := by
  obtain ⟨p, l, e, R, s, m, args, below, meth, c, base, D⟩ := X
  obtain ⟨hx, hb, hml, hown, hts, hK, hE, hlocks, hr, hnm, hhh, hfr, hlo, hRc, hRs, hst⟩ := C
  intro H locs ls hS hR hl
  exact lv_icmp_ge hx hb hd ht (fun z => kt z H locs ls hS hR hl) (fun z => kf z H locs ls hS hR hl)
theorem g_if_gt (C : tkC X cc own nm nL ret hh d MC MS) {x : Int32} {off : Int} (tgt : Nat) (hd : decode cc pc = .ok (.ifCond .gt off, 3)) (ht : (pc : Int) + off = (tgt : Int)) (kt : 0 < x → tkG X Q cs ss tgt lv stk σ I L) (kf : ¬ 0 < x → tkG X Q cs ss (pc + 3) lv stk σ I L) : tkG X Q cs ss pc lv (.int x :: stk) σ I L := by
  obtain ⟨p, l, e, R, s, m, args, below, meth, c, base, D⟩ := X
  obtain ⟨hx, hb, hml, hown, hts, hK, hE, hlocks, hr, hnm, hhh, hfr, hlo, hRc, hRs, hst⟩ := C
  intro H locs ls hS hR hl
  exact lv_if_gt hx hb hd ht (fun z => kt z H locs ls hS hR hl) (fun z => kf z H locs ls hS hR hl)
theorem g_icmp_gt (C : tkC X cc own nm nL ret hh d MC MS) {x y : Int32} {off : Int} (tgt : Nat) (hd : decode cc pc = .ok (.if_icmp .gt off, 3)) (ht : (pc : Int) + off = (tgt : Int)) (kt : y < x → tkG X Q cs ss tgt lv stk σ I L) (kf : ¬ y < x → tkG X Q cs ss (pc + 3) lv stk σ I L) : tkG X Q cs ss pc lv (.int y :: .int x :: stk) σ I L := by
  obtain ⟨p, l, e, R, s, m, args, below, meth, c, base, D⟩ := X
  obtain ⟨hx, hb, hml, hown, hts, hK, hE, hlocks, hr, hnm, hhh, hfr, hlo, hRc, hRs, hst⟩ := C
  intro H locs ls hS hR hl
  exact lv_icmp_gt hx hb hd ht (fun z => kt z H locs ls hS hR hl) (fun z => kf z H locs ls hS hR hl)
theorem g_if_le (C : tkC X cc own nm nL ret hh d MC MS) {x : Int32} {off : Int} (tgt : Nat) (hd : decode cc pc = .ok (.ifCond .le off, 3)) (ht : (pc : Int) + off = (tgt : Int)) (kt : x ≤ 0 → tkG X Q cs ss tgt lv stk σ I L) (kf : ¬ x ≤ 0 → tkG X Q cs ss (pc + 3) lv stk σ I L) : tkG X Q cs ss pc lv (.int x :: stk) σ I L := by
  obtain ⟨p, l, e, R, s, m, args, below, meth, c, base, D⟩ := X
  obtain ⟨hx, hb, hml, hown, hts, hK, hE, hlocks, hr, hnm, hhh, hfr, hlo, hRc, hRs, hst⟩ := C
  intro H locs ls hS hR hl
  exact lv_if_le hx hb hd ht (fun z => kt z H locs ls hS hR hl) (fun z => kf z H locs ls hS hR hl)
theorem g_icmp_le (C : tkC X cc own nm nL ret hh d MC MS) {x y : Int32} {off : Int} (tgt : Nat) (hd : decode cc pc = .ok (.if_icmp .le off, 3)) (ht : (pc : Int) + off = (tgt : Int)) (kt : x ≤ y → tkG X Q cs ss tgt lv stk σ I L) (kf : ¬ x ≤ y → tkG X Q cs ss (pc + 3) lv stk σ I L) : tkG X Q cs ss pc lv (.int y :: .int x :: stk) σ I L := by
  obtain ⟨p, l, e, R, s, m, args, below, meth, c, base, D⟩ := X
  obtain ⟨hx, hb, hml, hown, hts, hK, hE, hlocks, hr, hnm, hhh, hfr, hlo, hRc, hRs, hst⟩ := C
  intro H locs ls hS hR hl
  exact lv_icmp_le hx hb hd ht (fun z => kt z H locs ls hS hR hl) (fun z => kf z H locs ls hS hR hl)
theorem g_goto (C : tkC X cc own nm nL ret hh d MC MS) {off : Int} (tgt : Nat) (hd : decode cc pc = .ok (.goto off, 3)) (ht : (pc : Int) + off = (tgt : Int)) (k : tkG X Q cs ss tgt lv stk σ I L) : tkG X Q cs ss pc lv stk σ I L := by
  obtain ⟨p, l, e, R, s, m, args, below, meth, c, base, D⟩ := X
  obtain ⟨hx, hb, hml, hown, hts, hK, hE, hlocks, hr, hnm, hhh, hfr, hlo, hRc, hRs, hst⟩ := C
  intro H locs ls hS hR hl
  exact lv_goto hx hb hd ht (k H locs ls hS hR hl)
theorem g_ifnonnull (C : tkC X cc own nm nL ret hh d MC MS) {x : Nat} {off : Int} (tgt : Nat) (hd : decode cc pc = .ok (.ifnonnull off, 3)) (ht : (pc : Int) + off = (tgt : Int)) (k : tkG X Q cs ss tgt lv stk σ I L) : tkG X Q cs ss pc lv (.ref x :: stk) σ I L := by
  obtain ⟨p, l, e, R, s, m, args, below, meth, c, base, D⟩ := X
  obtain ⟨hx, hb, hml, hown, hts, hK, hE, hlocks, hr, hnm, hhh, hfr, hlo, hRc, hRs, hst⟩ := C
  intro H locs ls hS hR hl
  exact lv_ifnonnull hx hb hd ht (k H locs ls hS hR hl)
theorem g_ifnonnullN (C : tkC X cc own nm nL ret hh d MC MS) {off : Int} (hd : decode cc pc = .ok (.ifnonnull off, 3)) (k : tkG X Q cs ss (pc + 3) lv stk σ I L) : tkG X Q cs ss pc lv (.null :: stk) σ I L := by
  obtain ⟨p, l, e, R, s, m, args, below, meth, c, base, D⟩ := X
  obtain ⟨hx, hb, hml, hown, hts, hK, hE, hlocks, hr, hnm, hhh, hfr, hlo, hRc, hRs, hst⟩ := C
  intro H locs ls hS hR hl
  exact lv_ifnonnullN hx hb hd (k H locs ls hS hR hl)
theorem g_null (C : tkC X cc own nm nL ret hh d MC MS)  (hd : decode cc pc = .ok (.aconst_null, 1)) (k : tkG X Q cs ss (pc + 1) lv (.null :: stk) σ I L) : tkG X Q cs ss pc lv stk σ I L := by
  obtain ⟨p, l, e, R, s, m, args, below, meth, c, base, D⟩ := X
  obtain ⟨hx, hb, hml, hown, hts, hK, hE, hlocks, hr, hnm, hhh, hfr, hlo, hRc, hRs, hst⟩ := C
  intro H locs ls hS hR hl
  exact lv_null hx hb hd (k H locs ls hS hR hl)
theorem g_aloadN_n (C : tkC X cc own nm nL ret hh d MC MS) {k0 : Fin 4} {i : Nat} (hd : decode cc pc = .ok (.aload_n k0, 1)) (hi : (k0 : Nat) = i) (hg : tkGet lv i = some .null) (k : tkG X Q cs ss (pc + 1) lv (.null :: stk) σ I L) : tkG X Q cs ss pc lv stk σ I L := by
  obtain ⟨p, l, e, R, s, m, args, below, meth, c, base, D⟩ := X
  obtain ⟨hx, hb, hml, hown, hts, hK, hE, hlocks, hr, hnm, hhh, hfr, hlo, hRc, hRs, hst⟩ := C
  intro H locs ls hS hR hl
  exact lv_aload_nN hx hb hd hi (hl.get hg) (k H locs ls hS hR hl)
theorem g_astoreN_n (C : tkC X cc own nm nL ret hh d MC MS) {k0 : Fin 4} {i : Nat} (hd : decode cc pc = .ok (.astore_n k0, 1)) (hi : (k0 : Nat) = i) (hn : i < nL) (k : tkG X Q cs ss (pc + 1) (tkSt1 lv i .null) stk σ I L) : tkG X Q cs ss pc lv (.null :: stk) σ I L := by
  obtain ⟨p, l, e, R, s, m, args, below, meth, c, base, D⟩ := X
  obtain ⟨hx, hb, hml, hown, hts, hK, hE, hlocks, hr, hnm, hhh, hfr, hlo, hRc, hRs, hst⟩ := C
  intro H locs ls hS hR hl
  exact lv_astore_nN (nL := c.maxLocals) hx hb hd hi hl (by rw [hml]; exact hn) rfl (fun ls' h' => k H locs ls' hS hR (tkLv.st1 h'))
end TKR
end
section
section TKW
theorem tk_w0 : ∀ w ∈ u_ws RX0 TX0 3, w ∈ tkAll := by decide +kernel
theorem tk_w1 : ∀ w ∈ u_ws RX1 TX1 5, w ∈ tkAll := by decide +kernel
theorem tk_w2 : ∀ w ∈ u_ws RX2 TX2 13, w ∈ tkAll := by decide +kernel
theorem tk_w3 : ∀ w ∈ u_ws RX3 TX3 5, w ∈ tkAll := by decide +kernel
theorem tk_w4 : ∀ w ∈ u_ws RX4 TX4 6, w ∈ tkAll := by decide +kernel
theorem tk_w5 : ∀ w ∈ u_ws RX5 TX5 4, w ∈ tkAll := by decide +kernel
theorem tk_w6 : ∀ w ∈ u_ws RX6 TX6 29, w ∈ tkAll := by decide +kernel
/-- the classes' tables, one theorem for all -/
theorem tk_cls : ∀ (ci : Nat) (q : vw_C), vwCl[ci]? = some q → (∀ w ∈ u_ws q.1 q.2.1 q.2.2, w ∈ tkAll) ∧ (∀ k, k < q.2.2 → parseFieldDescriptor (q.2.1 k).2.2.1 = some (tkTy ci k)) ∧ (∀ a, a < q.2.2 → ∀ b, b < q.2.2 → a ≠ b → (q.2.1 a).2.1 ≠ (q.2.1 b).2.1) ∧ (∀ k, k < q.2.2 → defaultValue (tkTy ci k) = tkVal (tkTy ci k) 0 0 none)
  | 0, q, h => by cases h; exact ⟨tk_w0, tyX0_ok, nmX0, by decide +kernel⟩
  | 1, q, h => by cases h; exact ⟨tk_w1, tyX1_ok, nmX1, by decide +kernel⟩
  | 2, q, h => by cases h; exact ⟨tk_w2, tyX2_ok, nmX2, by decide +kernel⟩
  | 3, q, h => by cases h; exact ⟨tk_w3, tyX3_ok, nmX3, by decide +kernel⟩
  | 4, q, h => by cases h; exact ⟨tk_w4, tyX4_ok, nmX4, by decide +kernel⟩
  | 5, q, h => by cases h; exact ⟨tk_w5, tyX5_ok, nmX5, by decide +kernel⟩
  | 6, q, h => by cases h; exact ⟨tk_w6, tyX6_ok, nmX6, by decide +kernel⟩
  | n + 7, q, h => by simp at h
theorem tk_lt7 {ci : Nat} {q : vw_C} (h : vwCl[ci]? = some q) : ci < 7 := (List.getElem?_eq_some_iff.mp h).1
theorem tk_ne99 {ci : Nat} {q : vw_C} (h : vwCl[ci]? = some q) : ci ≠ 99 := by have := tk_lt7 h; omega
/-- what a field of type t keeps of the three -/
theorem tkVal_int {t : FieldType} (h : t = .int ∨ t = .boolean) (x : Int32) (y : Int64) (r : Option Nat) : tkVal t x y r = .int x := by rcases h with rfl | rfl <;> rfl
def tkRefT (t : FieldType) : Bool := match t with | .object _ => true | .array _ => true | _ => false
theorem tkVal_ref {t : FieldType} (h : tkRefT t = true) (x : Int32) (y : Int64) (r : Option Nat) : tkVal t x y r = va_rf r := by cases t <;> first | rfl | cases h
end TKW
section TKMEM
variable {X : tkX} {Q : State → Prop} {cc : ByteArray} {own nm : String} {nL d MC MS cs ss pc : Nat} {ret : Option FieldType} {hh : List (Nat × Nat × Nat × Nat)} {lv : List (Option Value)} {stk : List Value} {σ : tkM} {I : tkI} {L : tkL}
/-- getfield, any type -/
theorem g_get (C : tkC X cc own nm nL ret hh d MC MS) {idx ci k n a : Nat} {q : vw_C} {v : Value} (hd : decode cc pc = .ok (.getfield idx, 3)) (hS : σ.2.1 a = (ci, n)) (hc : vwCl[ci]? = some q) (hk : k < q.2.2) (hw : Cond.fieldLink own idx (q.2.1 k).1 (q.2.1 k).2.1 (q.2.1 k).2.2.1 ∈ tkAll)
    (hv : tkVal (tkTy ci k) (I a k) (L a k) (σ.2.2 a k) = v) (kk : tkG X Q cs ss (pc + 3) lv (v :: stk) σ I L) : tkG X Q cs ss pc lv (.ref a :: stk) σ I L := by
  obtain ⟨p, l, e, R, s, m, args, below, meth, c, base, D⟩ := X
  obtain ⟨hx, hb, hml, hown, hts, hK, hE, hlocks, hr, hnm, hhh, hfr, hlo, hRc, hRs, hst⟩ := C
  intro H locs ls hSS hR hl
  obtain ⟨-, -, -, hcell⟩ := hR.at hS (tk_ne99 hc)
  obtain ⟨q', h1, cell, q1, q2, q3, q4⟩ := hcell.1 (tk_lt7 hc)
  have hq : q' = q := Option.some.inj (h1.symm.trans hc)
  subst hq
  obtain ⟨hin, -, -, -⟩ := tk_cls ci q' hc
  obtain ⟨hSl, hfc, kC, hkC, hkind⟩ := hK.1.1 ci _ hc
  obtain ⟨cf, kf, fi, f, hi, hsl⟩ := hSl k hk
  refine W.getf hx hb hown (hts _ hw) hi (u_facts hfc hkC (u_lays hts hin hk) hi).1 q1 (by rw [q3]; exact fun h => by cases h) (v := v) ?_ rfl rfl hd (kk H locs ls hSS hR hl)
  rw [hsl, q4 k hk]
  exact congrArg some hv
theorem g_getI (C : tkC X cc own nm nL ret hh d MC MS) {idx a n : Nat} (ci k : Nat) (q : vw_C) {f : Nat → Int32} (hd : decode cc pc = .ok (.getfield idx, 3)) (hS : σ.2.1 a = (ci, n)) (hI : I a = f) (hw : Cond.fieldLink own idx (q.2.1 k).1 (q.2.1 k).2.1 (q.2.1 k).2.2.1 ∈ tkAll) (hc : vwCl[ci]? = some q) (hk : k < q.2.2)
    (ht : tkTy ci k = .int ∨ tkTy ci k = .boolean) (kk : tkG X Q cs ss (pc + 3) lv (.int (f k) :: stk) σ I L) : tkG X Q cs ss pc lv (.ref a :: stk) σ I L :=
  g_get C hd hS hc hk hw (by rw [tkVal_int ht, hI]) kk
theorem g_getL (C : tkC X cc own nm nL ret hh d MC MS) {idx a n : Nat} (ci k : Nat) (q : vw_C) {f : Nat → Int64} (hd : decode cc pc = .ok (.getfield idx, 3)) (hS : σ.2.1 a = (ci, n)) (hI : L a = f) (hw : Cond.fieldLink own idx (q.2.1 k).1 (q.2.1 k).2.1 (q.2.1 k).2.2.1 ∈ tkAll) (hc : vwCl[ci]? = some q) (hk : k < q.2.2)
    (ht : tkTy ci k = .long) (kk : tkG X Q cs ss (pc + 3) lv (.long (f k) :: stk) σ I L) : tkG X Q cs ss pc lv (.ref a :: stk) σ I L :=
  g_get C hd hS hc hk hw (by rw [ht, hI]; rfl) kk
theorem g_getR (C : tkC X cc own nm nL ret hh d MC MS) {idx a n b : Nat} (ci k : Nat) (q : vw_C) (hd : decode cc pc = .ok (.getfield idx, 3)) (hS : σ.2.1 a = (ci, n)) (hr : σ.2.2 a k = some b) (hw : Cond.fieldLink own idx (q.2.1 k).1 (q.2.1 k).2.1 (q.2.1 k).2.2.1 ∈ tkAll) (hc : vwCl[ci]? = some q) (hk : k < q.2.2)
    (ht : tkRefT (tkTy ci k) = true) (kk : tkG X Q cs ss (pc + 3) lv (.ref b :: stk) σ I L) : tkG X Q cs ss pc lv (.ref a :: stk) σ I L :=
  g_get C hd hS hc hk hw (by rw [tkVal_ref ht, hr]; rfl) kk
/-- putfield, any type -/
theorem g_put (C : tkC X cc own nm nL ret hh d MC MS) {idx ci k n a : Nat} {q : vw_C} {v : Value} {σ1 : tkM} {I1 : tkI} {L1 : tkL} (hd : decode cc pc = .ok (.putfield idx, 3)) (hS : σ.2.1 a = (ci, n)) (hc : vwCl[ci]? = some q) (hk : k < q.2.2) (hw : Cond.fieldLink own idx (q.2.1 k).1 (q.2.1 k).2.1 (q.2.1 k).2.2.1 ∈ tkAll)
    (hfin : (q.2.1 k).2.2.2 = false ∨ ((q.2.1 k).2.2.2 = true ∧ nm = "<init>" ∧ (q.2.1 k).1 = own)) (hn : narrow (tkTy ci k) v = v) (hfit : fits (tkTy ci k) v = true) (hσ : σ1.1 = σ.1 ∧ σ1.2.1 = σ.2.1) (ho : ∀ b, b ≠ a → I1 b = I b ∧ L1 b = L b ∧ σ1.2.2 b = σ.2.2 b)
    (hv : ∀ j, j < q.2.2 → tkVal (tkTy ci j) (I1 a j) (L1 a j) (σ1.2.2 a j) = if j = k then v else tkVal (tkTy ci j) (I a j) (L a j) (σ.2.2 a j))
    (kk : tkG X Q cs ss (pc + 3) lv stk σ1 I1 L1) : tkG X Q cs ss pc lv (v :: .ref a :: stk) σ I L := by
  obtain ⟨p, l, e, R, s, m, args, below, meth, c, base, D⟩ := X
  obtain ⟨hx, hb, hml, hown, hts, hK, hE, hlocks, hr, hnm, hhh, hfr, hlo, hRc, hRs, hst⟩ := C
  intro H locs ls hSS hR hl
  obtain ⟨hba, -, -, hcell⟩ := hR.at hS (tk_ne99 hc)
  obtain ⟨q', h1, cell, q1, q2, q3, q4⟩ := hcell.1 (tk_lt7 hc)
  have hq : q' = q := Option.some.inj (h1.symm.trans hc)
  subst hq
  obtain ⟨hin, hty, hnms, -⟩ := tk_cls ci q' hc
  have hap := va_apart (own := own) hts hin (tkTy ci) hty hnms hK.1 hc
  obtain ⟨hSl, hfc, kC, hkC, hkind⟩ := hK.1.1 ci _ hc
  obtain ⟨cf, kf, fi, f, hi, hsl⟩ := hSl k hk
  have hlay := hts _ (hin _ (u_in_lay hk))
  have hstat := (u_facts hfc hkC (u_lays hts hin hk) hi).1
  have fin : ∀ (H1 : Heap), H1[a]? = some (cell.setSlot f.slot v) → H1.size = H.size → (∀ b, b ≠ a → H1[b]? = H[b]?) → W p l e R s m args below meth c H1 (locs ++ [⟨a, f.slot⟩]) cs ss Q (F0 m (pc + 3) ls stk) := by
    intro H1 e1 e2 e3
    refine kk H1 _ ls (hSS.put e2 e3 hba) (hR.put hba e2 e3 hσ.1 hσ.2 (fun b z => (ho b z).1) (fun b z => (ho b z).2.1) (fun b z => (ho b z).2.2) fun _ => ?_) hl
    rw [hS]
    have h7 := tk_lt7 hc
    refine ⟨fun _ => ⟨q', hc, t_OB.to (V := updV (fun j => tkVal (tkTy ci j) (I a j) (L a j) (σ.2.2 a j)) k v) ⟨_, e1, q2, q3, by rw [hsl]; exact t_set q4 hap hk v⟩ (fun j hj => by rw [hv j hj]; rfl)⟩, fun z => ?_, fun z => ?_, fun z => ?_, fun z => ?_, fun z => ?_⟩ <;> (exfalso; dsimp only at z; omega)
  have h6 := u_fits hfc hkC hkind (u_lays hts hin hk) hi (hty k hk) hn hfit
  unfold u_lay at hlay
  rcases hfin with hfin | ⟨hfin, hin2, hdecl⟩
  · rw [if_neg (by rw [hfin]; decide)] at hlay
    have h7 := u_store hfc hkC hkind hlay hi (hty k hk) hn hfit
    exact W.putK hx hb (f := f) ⟨hown, hts _ hw, ⟨_, _, _, hi⟩, hstat⟩ (by rw [q2]; exact h7) q1 q3 (by rw [hsl]; exact k2_hasslot (q4 k hk)) rfl rfl hd fin
  · rw [if_pos hfin] at hlay
    have hcf : m.cls = cf := by
      obtain ⟨_, _, c', _, _, _, -, -, hf', -, -, -, hown2, -⟩ := Cond.laysFinal_spec hlay
      have e1 : c' = cf := by have := hi.symm.trans hf'; simp at this; exact this.1.symm
      rw [hdecl] at hown2
      rw [← e1]; exact Option.some.inj (hown.symm.trans hown2)
    exact W.putFinK hx hb hown (hts _ hw) hi hstat hcf (by rw [hnm]; exact hin2) (by rw [q2]; exact h6) q1 q3 (by rw [hsl]; exact k2_hasslot (q4 k hk)) rfl rfl hd fin
theorem g_putI (C : tkC X cc own nm nL ret hh d MC MS) {idx a n : Nat} {x : Int32} (ci k : Nat) (q : vw_C) {I1 : tkI} (hd : decode cc pc = .ok (.putfield idx, 3)) (hS : σ.2.1 a = (ci, n)) (hI : tk2 I a k x = I1) (hw : Cond.fieldLink own idx (q.2.1 k).1 (q.2.1 k).2.1 (q.2.1 k).2.2.1 ∈ tkAll) (hc : vwCl[ci]? = some q) (hk : k < q.2.2)
    (hfin : (q.2.1 k).2.2.2 = false) (ht : tkTy ci k = .int) (kk : tkG X Q cs ss (pc + 3) lv stk σ I1 L) : tkG X Q cs ss pc lv (.int x :: .ref a :: stk) σ I L := by
  subst hI
  refine g_put C hd hS hc hk hw (Or.inl hfin) (by rw [ht]; rfl) (by rw [ht]; rfl) ⟨rfl, rfl⟩ (fun b z => ⟨by funext j; simp [tk2, z], rfl, rfl⟩) (fun j _ => ?_) kk
  by_cases e : j = k
  · subst e; rw [if_pos rfl, ht]; simp [tkVal, tk2]
  · rw [if_neg e]; simp [tk2, e]
theorem g_putL (C : tkC X cc own nm nL ret hh d MC MS) {idx a n : Nat} {x : Int64} (ci k : Nat) (q : vw_C) {L1 : tkL} (hd : decode cc pc = .ok (.putfield idx, 3)) (hS : σ.2.1 a = (ci, n)) (hI : tk2 L a k x = L1) (hw : Cond.fieldLink own idx (q.2.1 k).1 (q.2.1 k).2.1 (q.2.1 k).2.2.1 ∈ tkAll) (hc : vwCl[ci]? = some q) (hk : k < q.2.2)
    (hfin : (q.2.1 k).2.2.2 = false) (ht : tkTy ci k = .long) (kk : tkG X Q cs ss (pc + 3) lv stk σ I L1) : tkG X Q cs ss pc lv (.long x :: .ref a :: stk) σ I L := by
  subst hI
  refine g_put C hd hS hc hk hw (Or.inl hfin) (by rw [ht]; rfl) (by rw [ht]; rfl) ⟨rfl, rfl⟩ (fun b z => ⟨rfl, by funext j; simp [tk2, z], rfl⟩) (fun j _ => ?_) kk
  by_cases e : j = k
  · subst e; rw [if_pos rfl, ht]; simp [tkVal, tk2]
  · rw [if_neg e]; simp [tk2, e]
/-- a final field of a reference, in the constructor -/
theorem g_putF (C : tkC X cc own nm nL ret hh d MC MS) {idx a n b0 : Nat} (ci k : Nat) (q : vw_C) {r1 : Nat → Nat → Option Nat} (hd : decode cc pc = .ok (.putfield idx, 3)) (hS : σ.2.1 a = (ci, n)) (hI : tk2 σ.2.2 a k (some b0) = r1) (hw : Cond.fieldLink own idx (q.2.1 k).1 (q.2.1 k).2.1 (q.2.1 k).2.2.1 ∈ tkAll) (hc : vwCl[ci]? = some q) (hk : k < q.2.2)
    (hfin : (q.2.1 k).2.2.2 = true ∧ nm = "<init>" ∧ (q.2.1 k).1 = own) (ht : tkRefT (tkTy ci k) = true) (kk : tkG X Q cs ss (pc + 3) lv stk (σ.1, σ.2.1, r1) I L) : tkG X Q cs ss pc lv (.ref b0 :: .ref a :: stk) σ I L := by
  subst hI
  refine g_put C (σ1 := (σ.1, σ.2.1, tk2 σ.2.2 a k (some b0))) hd hS hc hk hw (Or.inr hfin) ?_ ?_ ⟨rfl, rfl⟩ (fun b z => ⟨rfl, rfl, by funext j; simp [tk2, z]⟩) (fun j _ => ?_) kk
  · cases h : tkTy ci k <;> first | rfl | (rw [h] at ht; cases ht)
  · cases h : tkTy ci k <;> first | rfl | (rw [h] at ht; cases ht)
  · by_cases e : j = k
    · subst e; rw [if_pos rfl, tkVal_ref ht]; simp [tk2, va_rf]
    · rw [if_neg e]; simp [tk2, e]
/-! arrays -/
theorem g_iald (C : tkC X cc own nm nL ret hh d MC MS) {a n : Nat} {i : Int32} {f : Nat → Int32} (hd : decode cc pc = .ok (.iaload, 1)) (hS : σ.2.1 a = (10, n)) (hI : I a = f) (hin : vp_in i n) (kk : tkG X Q cs ss (pc + 1) lv (.int (f i.toNatClampNeg) :: stk) σ I L) : tkG X Q cs ss pc lv (.int i :: .ref a :: stk) σ I L := by
  obtain ⟨p, l, e, R, s, m, args, below, meth, c, base, D⟩ := X
  obtain ⟨hx, hb, hml, hown, hts, hK, hE, hlocks, hr, hnm, hhh, hfr, hlo, hRc, hRs, hst⟩ := C
  intro H locs ls hSS hR hl
  subst hI
  have hcell := (hR.at hS (by decide)).2.2.2.2.1 rfl
  have hlt : i.toNatClampNeg < n := Nat.not_le.mp fun q => hin (Or.inr q)
  exact W.iald (v := .int (I a i.toNatClampNeg)) hx hb hcell ((hK.1.2 0 _ rfl).1 n _) (fun q => by cases q) (by show ¬ (i < 0 ∨ (arrV _ _ _).slots.size ≤ _); rw [arrV_size]; exact hin) (by show (arrV _ _ _).slots[_]? = _; rw [arrV_read _ _ hlt]) rfl rfl hd (kk H locs ls hSS hR hl)
theorem g_lald (C : tkC X cc own nm nL ret hh d MC MS) {a n : Nat} {i : Int32} {f : Nat → Int64} (hd : decode cc pc = .ok (.laload, 1)) (hS : σ.2.1 a = (11, n)) (hI : L a = f) (hin : vp_in i n) (kk : tkG X Q cs ss (pc + 1) lv (.long (f i.toNatClampNeg) :: stk) σ I L) : tkG X Q cs ss pc lv (.int i :: .ref a :: stk) σ I L := by
  obtain ⟨p, l, e, R, s, m, args, below, meth, c, base, D⟩ := X
  obtain ⟨hx, hb, hml, hown, hts, hK, hE, hlocks, hr, hnm, hhh, hfr, hlo, hRc, hRs, hst⟩ := C
  intro H locs ls hSS hR hl
  subst hI
  have hcell := (hR.at hS (by decide)).2.2.2.2.2.1 rfl
  have hlt : i.toNatClampNeg < n := Nat.not_le.mp fun q => hin (Or.inr q)
  exact W.lald (v := .long (L a i.toNatClampNeg)) hx hb hcell ((hK.1.2 1 _ rfl).1 n _) (fun q => by cases q) (by show ¬ (i < 0 ∨ (arrV _ _ _).slots.size ≤ _); rw [arrV_size]; exact hin) (by show (arrV _ _ _).slots[_]? = _; rw [arrV_read _ _ hlt]) rfl rfl hd (kk H locs ls hSS hR hl)
theorem g_zald (C : tkC X cc own nm nL ret hh d MC MS) {a n : Nat} {i : Int32} {f : Nat → Int32} (hd : decode cc pc = .ok (.baload, 1)) (hS : σ.2.1 a = (12, n)) (hI : I a = f) (hin : vp_in i n) (kk : (f i.toNatClampNeg = 0 ∨ f i.toNatClampNeg = 1) → tkG X Q cs ss (pc + 1) lv (.int (f i.toNatClampNeg) :: stk) σ I L) : tkG X Q cs ss pc lv (.int i :: .ref a :: stk) σ I L := by
  obtain ⟨p, l, e, R, s, m, args, below, meth, c, base, D⟩ := X
  obtain ⟨hx, hb, hml, hown, hts, hK, hE, hlocks, hr, hnm, hhh, hfr, hlo, hRc, hRs, hst⟩ := C
  intro H locs ls hSS hR hl
  subst hI
  obtain ⟨hcell, hfit⟩ := (hR.at hS (by decide)).2.2.2.2.2.2.1 rfl
  have hlt : i.toNatClampNeg < n := Nat.not_le.mp fun q => hin (Or.inr q)
  have h01 : I a i.toNatClampNeg = 0 ∨ I a i.toNatClampNeg = 1 := by
    have h5 := hfit _ hlt
    simpa [fits] using h5
  exact W.zald (v := .int (I a i.toNatClampNeg)) hx hb hcell ((hK.1.2 2 _ rfl).1 n _) (fun q => by cases q) (by show ¬ (i < 0 ∨ (arrV _ _ _).slots.size ≤ _); rw [arrV_size]; exact hin) (by show (arrV _ _ _).slots[_]? = _; rw [arrV_read _ _ hlt]) rfl rfl hd (kk h01 H locs ls hSS hR hl)
theorem g_dald (C : tkC X cc own nm nL ret hh d MC MS) {a n : Nat} {i : Int32} {f : Nat → Int64} (hd : decode cc pc = .ok (.daload, 1)) (hS : σ.2.1 a = (13, n)) (hI : L a = f) (hin : vp_in i n) (kk : tkG X Q cs ss (pc + 1) lv (.double (f i.toNatClampNeg).toUInt64 :: stk) σ I L) : tkG X Q cs ss pc lv (.int i :: .ref a :: stk) σ I L := by
  obtain ⟨p, l, e, R, s, m, args, below, meth, c, base, D⟩ := X
  obtain ⟨hx, hb, hml, hown, hts, hK, hE, hlocks, hr, hnm, hhh, hfr, hlo, hRc, hRs, hst⟩ := C
  intro H locs ls hSS hR hl
  subst hI
  have hcell := (hR.at hS (by decide)).2.2.2.2.2.2.2.1 rfl
  have hlt : i.toNatClampNeg < n := Nat.not_le.mp fun q => hin (Or.inr q)
  exact W.dald (v := .double (L a i.toNatClampNeg).toUInt64) hx hb hcell ((hK.1.2 3 _ rfl).1 n _) (fun q => by cases q) (by show ¬ (i < 0 ∨ (arrV _ _ _).slots.size ≤ _); rw [arrV_size]; exact hin) (by show (arrV _ _ _).slots[_]? = _; rw [arrV_read _ _ hlt]) rfl rfl hd (kk H locs ls hSS hR hl)
theorem g_aald (C : tkC X cc own nm nL ret hh d MC MS) {a n : Nat} {i : Int32} {r : Option Nat} (hd : decode cc pc = .ok (.aaload, 1)) (hS : σ.2.1 a = (14, n)) (hin : vp_in i n) (hr : σ.2.2 a i.toNatClampNeg = r) (kk : tkG X Q cs ss (pc + 1) lv (va_rf r :: stk) σ I L) : tkG X Q cs ss pc lv (.int i :: .ref a :: stk) σ I L := by
  obtain ⟨p, l, e, R, s, m, args, below, meth, c, base, D⟩ := X
  obtain ⟨hx, hb, hml, hown, hts, hK, hE, hlocks, hrt, hnm, hhh, hfr, hlo, hRc, hRs, hst⟩ := C
  intro H locs ls hSS hR hl
  subst hr
  have hcell := (hR.at hS (by decide)).2.2.2.2.2.2.2.2 rfl
  have hlt : i.toNatClampNeg < n := Nat.not_le.mp fun q => hin (Or.inr q)
  exact W.aald (v := va_rf (σ.2.2 a i.toNatClampNeg)) (ty := .object RX1) hx hb hcell ((hK.1.2 4 _ rfl).1 n _) rfl (fun q => by cases q) (by show ¬ (i < 0 ∨ (arrV _ _ _).slots.size ≤ _); rw [arrV_size]; exact hin) (by show (arrV _ _ _).slots[_]? = _; rw [arrV_read _ _ hlt]) rfl rfl hd (kk H locs ls hSS hR hl)
theorem g_iast (C : tkC X cc own nm nL ret hh d MC MS) {a n : Nat} {i x : Int32} {I1 : tkI} (hd : decode cc pc = .ok (.iastore, 1)) (hS : σ.2.1 a = (10, n)) (hI : tk2 I a i.toNatClampNeg x = I1) (hin : vp_in i n) (kk : tkG X Q cs ss (pc + 1) lv stk σ I1 L) : tkG X Q cs ss pc lv (.int x :: .int i :: .ref a :: stk) σ I L := by
  obtain ⟨p, l, e, R, s, m, args, below, meth, c, base, D⟩ := X
  obtain ⟨hx, hb, hml, hown, hts, hK, hE, hlocks, hr, hnm, hhh, hfr, hlo, hRc, hRs, hst⟩ := C
  intro H locs ls hSS hR hl
  subst hI
  obtain ⟨hba, -, -, hc⟩ := hR.at hS (by decide)
  have hcell := hc.2.1 rfl
  refine W.iast hx hb hcell ((hK.1.2 0 _ rfl).1 n _) (fun q => by cases q) (by show ¬ (i < 0 ∨ (arrV _ _ _).slots.size ≤ _); rw [arrV_size]; exact hin) rfl rfl hd fun H1 e1 z oq => ?_
  refine kk H1 _ ls (hSS.put z oq hba) (hR.put hba z oq rfl rfl (fun b q => by funext j; simp [tk2, q]) (fun _ _ => rfl) (fun _ _ => rfl) fun _ => ?_) hl
  rw [hS]
  refine ⟨fun q => absurd (show 10 < 7 from q) (by decide), fun _ => ?_, fun q => absurd (show 10 = 11 from q) (by decide), fun q => absurd (show 10 = 12 from q) (by decide), fun q => absurd (show 10 = 13 from q) (by decide), fun q => absurd (show 10 = 14 from q) (by decide)⟩
  rw [e1, arrV_store]
  congr 2
  funext j
  by_cases hq : j = i.toNatClampNeg
  · simp [updV, tk2, hq]
  · simp [updV, tk2, hq]
theorem g_last (C : tkC X cc own nm nL ret hh d MC MS) {a n : Nat} {i : Int32} {x : Int64} {L1 : tkL} (hd : decode cc pc = .ok (.lastore, 1)) (hS : σ.2.1 a = (11, n)) (hI : tk2 L a i.toNatClampNeg x = L1) (hin : vp_in i n) (kk : tkG X Q cs ss (pc + 1) lv stk σ I L1) : tkG X Q cs ss pc lv (.long x :: .int i :: .ref a :: stk) σ I L := by
  obtain ⟨p, l, e, R, s, m, args, below, meth, c, base, D⟩ := X
  obtain ⟨hx, hb, hml, hown, hts, hK, hE, hlocks, hr, hnm, hhh, hfr, hlo, hRc, hRs, hst⟩ := C
  intro H locs ls hSS hR hl
  subst hI
  obtain ⟨hba, -, -, hc⟩ := hR.at hS (by decide)
  have hcell := hc.2.2.1 rfl
  refine W.last hx hb hcell ((hK.1.2 1 _ rfl).1 n _) (fun q => by cases q) (by show ¬ (i < 0 ∨ (arrV _ _ _).slots.size ≤ _); rw [arrV_size]; exact hin) rfl rfl hd fun H1 e1 z oq => ?_
  refine kk H1 _ ls (hSS.put z oq hba) (hR.put hba z oq rfl rfl (fun _ _ => rfl) (fun b q => by funext j; simp [tk2, q]) (fun _ _ => rfl) fun _ => ?_) hl
  rw [hS]
  refine ⟨fun q => absurd (show 11 < 7 from q) (by decide), fun q => absurd (show 11 = 10 from q) (by decide), fun _ => ?_, fun q => absurd (show 11 = 12 from q) (by decide), fun q => absurd (show 11 = 13 from q) (by decide), fun q => absurd (show 11 = 14 from q) (by decide)⟩
  rw [e1, arrV_store]
  congr 2
  funext j
  by_cases hq : j = i.toNatClampNeg
  · simp [updV, tk2, hq]
  · simp [updV, tk2, hq]
theorem g_dast (C : tkC X cc own nm nL ret hh d MC MS) {a n : Nat} {i : Int32} {x : UInt64} {L1 : tkL} (hd : decode cc pc = .ok (.dastore, 1)) (hS : σ.2.1 a = (13, n)) (hI : tk2 L a i.toNatClampNeg x.toInt64 = L1) (hin : vp_in i n) (kk : tkG X Q cs ss (pc + 1) lv stk σ I L1) : tkG X Q cs ss pc lv (.double x :: .int i :: .ref a :: stk) σ I L := by
  obtain ⟨p, l, e, R, s, m, args, below, meth, c, base, D⟩ := X
  obtain ⟨hx, hb, hml, hown, hts, hK, hE, hlocks, hr, hnm, hhh, hfr, hlo, hRc, hRs, hst⟩ := C
  intro H locs ls hSS hR hl
  subst hI
  obtain ⟨hba, -, -, hc⟩ := hR.at hS (by decide)
  have hcell := hc.2.2.2.2.1 rfl
  refine W.dast hx hb hcell ((hK.1.2 3 _ rfl).1 n _) (fun q => by cases q) (by show ¬ (i < 0 ∨ (arrV _ _ _).slots.size ≤ _); rw [arrV_size]; exact hin) rfl rfl hd fun H1 e1 z oq => ?_
  refine kk H1 _ ls (hSS.put z oq hba) (hR.put hba z oq rfl rfl (fun _ _ => rfl) (fun b q => by funext j; simp [tk2, q]) (fun _ _ => rfl) fun _ => ?_) hl
  rw [hS]
  refine ⟨fun q => absurd (show 13 < 7 from q) (by decide), fun q => absurd (show 13 = 10 from q) (by decide), fun q => absurd (show 13 = 11 from q) (by decide), fun q => absurd (show 13 = 12 from q) (by decide), fun _ => ?_, fun q => absurd (show 13 = 14 from q) (by decide)⟩
  rw [e1, arrV_store]
  congr 2
  funext j
  by_cases hq : j = i.toNatClampNeg
  · simp [updV, tk2, hq]
  · simp [updV, tk2, hq]
theorem g_zast (C : tkC X cc own nm nL ret hh d MC MS) {a n : Nat} {i x : Int32} {I1 : tkI} (hd : decode cc pc = .ok (.bastore, 1)) (hS : σ.2.1 a = (12, n)) (hI : tk2 I a i.toNatClampNeg x = I1) (hin : vp_in i n) (h01 : x = 0 ∨ x = 1) (kk : tkG X Q cs ss (pc + 1) lv stk σ I1 L) : tkG X Q cs ss pc lv (.int x :: .int i :: .ref a :: stk) σ I L := by
  obtain ⟨p, l, e, R, s, m, args, below, meth, c, base, D⟩ := X
  obtain ⟨hx, hb, hml, hown, hts, hK, hE, hlocks, hr, hnm, hhh, hfr, hlo, hRc, hRs, hst⟩ := C
  intro H locs ls hSS hR hl
  subst hI
  obtain ⟨hba, -, -, hc⟩ := hR.at hS (by decide)
  obtain ⟨hcell, hfit⟩ := hc.2.2.2.1 rfl
  have hnar : narrow .boolean (.int x) = .int x := by rcases h01 with rfl | rfl <;> rfl
  refine W.zast hx hb hcell ((hK.1.2 2 _ rfl).1 n _) (fun q => by cases q) (by show ¬ (i < 0 ∨ (arrV _ _ _).slots.size ≤ _); rw [arrV_size]; exact hin) rfl rfl hd fun H1 e1 z oq => ?_
  refine kk H1 _ ls (hSS.put z oq hba) (hR.put hba z oq rfl rfl (fun b q => by funext j; simp [tk2, q]) (fun _ _ => rfl) (fun _ _ => rfl) fun _ => ?_) hl
  rw [hS]
  refine ⟨fun q => absurd (show 12 < 7 from q) (by decide), fun q => absurd (show 12 = 10 from q) (by decide), fun q => absurd (show 12 = 11 from q) (by decide), fun _ => ⟨?_, fun j hj => ?_⟩, fun q => absurd (show 12 = 13 from q) (by decide), fun q => absurd (show 12 = 14 from q) (by decide)⟩
  · rw [e1, hnar, arrV_store]
    congr 2
    funext j
    by_cases hq : j = i.toNatClampNeg
    · simp [updV, tk2, hq]
    · simp [updV, tk2, hq]
  · by_cases hq : j = i.toNatClampNeg
    · simp only [tk2, hq]
      rcases h01 with rfl | rfl <;> rfl
    · simp only [tk2, hq, and_false, if_false]
      exact hfit j hj
/-- a plant into the row of depots -/
theorem g_aast (C : tkC X cc own nm nL ret hh d MC MS) {a n v nv : Nat} {i : Int32} {r1 : Nat → Nat → Option Nat} (hd : decode cc pc = .ok (.aastore, 1)) (hS : σ.2.1 a = (14, n)) (hv : σ.2.1 v = (1, nv)) (hI : tk2 σ.2.2 a i.toNatClampNeg (some v) = r1) (hin : vp_in i n) (kk : tkG X Q cs ss (pc + 1) lv stk (σ.1, σ.2.1, r1) I L) : tkG X Q cs ss pc lv (.ref v :: .int i :: .ref a :: stk) σ I L := by
  obtain ⟨p, l, e, R, s, m, args, below, meth, c, base, D⟩ := X
  obtain ⟨hx, hb, hml, hown, hts, hK, hE, hlocks, hr, hnm, hhh, hfr, hlo, hRc, hRs, hst⟩ := C
  intro H locs ls hSS hR hl
  subst hI
  obtain ⟨hba, -, -, hc⟩ := hR.at hS (by decide)
  have hcell := hc.2.2.2.2.2 rfl
  obtain ⟨-, -, -, hcv⟩ := hR.at hv (by decide)
  obtain ⟨qv, hqv, cellV, g1, g2, g3, -⟩ := hcv.1 (show 1 < 7 by decide)
  have hcls := (hK.1.1 1 _ rfl).2
  obtain ⟨kA, comp, k1, k2, k3, -⟩ := (hK.1.2 4 _ rfl).2
  have hcomp : comp = D.1 1 := Option.some.inj (k3.symm.trans hcls.1)
  subst hcomp
  obtain ⟨kC, hkC, -⟩ := hcls.2
  have hlt : i.toNatClampNeg < n := Nat.not_le.mp fun q => hin (Or.inr q)
  have h0 : ¬ i < 0 := fun q => hin (Or.inl q)
  refine W.aast hx hb hcell (fun q h => by cases h) (fun h => by cases h) k1 k2 rfl hkC ⟨h0, by show _ < (arrV _ _ _).slots.size; rw [arrV_size]; exact hlt⟩ g1 (fun q h => by rw [g3] at h; cases h) (by rw [g2]; exact hkC) (by rw [g2]; exact va_assign hcls) rfl rfl hd fun H1 e1 z oq => ?_
  refine kk H1 _ ls (hSS.put z oq hba) (hR.put hba z oq rfl rfl (fun _ _ => rfl) (fun _ _ => rfl) (fun b q => by funext j; simp [tk2, q]) fun _ => ?_) hl
  rw [hS]
  refine ⟨fun q => absurd (show 14 < 7 from q) (by decide), fun q => absurd (show 14 = 10 from q) (by decide), fun q => absurd (show 14 = 11 from q) (by decide), fun q => absurd (show 14 = 12 from q) (by decide), fun q => absurd (show 14 = 13 from q) (by decide), fun _ => ?_⟩
  rw [e1, arrV_store]
  congr 2
  funext j
  by_cases hq : j = i.toNatClampNeg
  · simp [updV, tk2, hq, va_rf]
  · simp [updV, tk2, hq]
/-! new cells -/
def tkNw (σ : tkM) (sh : Nat × Nat) : tkM := (σ.1 + 1, tk1 σ.2.1 σ.1 sh, tk1 σ.2.2 σ.1 (fun _ => none))
def tkZI (σ : tkM) (I : tkI) : tkI := tk1 I σ.1 (fun _ => 0)
def tkZL (σ : tkM) (L : tkL) : tkL := tk1 L σ.1 (fun _ => 0)
theorem tkRel.new {D : va_G} {base : Nat} {σ : tkM} {I : tkI} {L : tkL} {H H1 : Heap} (h : tkRel D base σ I L H) {sh : Nat × Nat} (hz : H1.size = H.size + 1) (oq : ∀ q, q < H.size → H1[q]? = H[q]?)
    (hc : tkCell D H1 σ.1 sh (fun _ => 0) (fun _ => 0) (fun _ => none)) : tkRel D base (tkNw σ sh) (tkZI σ I) (tkZL σ L) H1 :=
  h.push hz oq (fun b e => by simp [tkZI, tk1, e]) (fun b e => by simp [tkZL, tk1, e]) (by simpa [tkZI, tkZL, tk1] using hc)
theorem va_S.grow {A : Nat → Prop} {H0 H H1 : Heap} {locs : List Loc} (h : va_S A H0 H locs) (z : H1.size = H.size + 1) (oq : ∀ q : Nat, q < H.size → H1[q]? = H[q]?) : va_S A H0 H1 locs :=
  ⟨Nat.le_trans h.1 (by omega), fun q h1 h2 => (oq q (Nat.lt_of_lt_of_le h1 h.1)).trans (h.2.1 q h1 h2), h.2.2⟩
theorem g_new (C : tkC X cc own nm nL ret hh d MC MS) {idx : Nat} (ci : Nat) (q : vw_C) (hd : decode cc pc = .ok (.new idx, 3)) (hw : Cond.classLink own idx q.1 ∈ tkAll) (hw2 : Cond.instantiable q.1 q.2.2 ∈ tkAll) (hw3 : Cond.initialized q.1 ∈ tkAll) (hc : vwCl[ci]? = some q) (h1 : cs + 1 ≤ MC) (h2 : ss + q.2.2 ≤ MS)
    (kk : tkG X Q (cs + 1) (ss + q.2.2) (pc + 3) lv (.ref σ.1 :: stk) (tkNw σ (ci, 0)) (tkZI σ I) (tkZL σ L)) : tkG X Q cs ss pc lv stk σ I L := by
  obtain ⟨p, l, e, R, s, m, args, below, meth, c, base, D⟩ := X
  obtain ⟨hx, hb, hml, hown, hts, hK, hE, hlocks, hr, hnm, hhh, hfr, hlo, hRc, hRs, hst⟩ := C
  intro H locs ls hSS hR hl
  obtain ⟨hin, hty, hnms, hdef⟩ := tk_cls ci q hc
  have hKn := hK.1.1 ci _ hc
  refine W.newcK hx hb hown (hts _ hw) (hts _ hw2) (hts _ hw3) rfl hd (by rw [hRc]; exact h1) (by rw [hRs]; exact h2) hKn.2.1 hR.1 fun H1 kC hkC e1 z1 o1 => ?_
  rw [← hR.1] at z1 o1
  refine kk H1 locs ls (hSS.grow z1 o1) (hR.new z1 o1 ?_) hl
  have h7 := tk_lt7 hc
  refine ⟨fun _ => ⟨q, hc, (u_born (tkTy ci) hts hin hKn hkC e1 hty).to hdef⟩, fun z => ?_, fun z => ?_, fun z => ?_, fun z => ?_, fun z => ?_⟩ <;> (exfalso; dsimp only at z; omega)
theorem g_newa_i (C : tkC X cc own nm nL ret hh d MC MS) {n : Int32} (N : Nat) (hd : decode cc pc = .ok (.newarray .int, 2)) (hw : Cond.arrayClass .int ∈ tkAll) (hn : ¬ n < 0) (hN : n.toNatClampNeg = N) (hby : N * componentBytes .int ≤ 536870912) (h1 : cs + 1 ≤ MC) (h2 : ss + N ≤ MS)
    (kk : tkG X Q (cs + 1) (ss + N) (pc + 2) lv (.ref σ.1 :: stk) (tkNw σ (10, N)) (tkZI σ I) (tkZL σ L)) : tkG X Q cs ss pc lv (.int n :: stk) σ I L := by
  obtain ⟨p, l, e, R, s, m, args, below, meth, c, base, D⟩ := X
  obtain ⟨hx, hb, hml, hown, hts, hK, hE, hlocks, hr, hnm, hhh, hfr, hlo, hRc, hRs, hst⟩ := C
  intro H locs ls hSS hR hl
  refine va_newaK (atype := .int) hx hb (hts _ hw) rfl hd rfl hn hN hby (by rw [hRc]; exact h1) (by rw [hRs]; exact h2) hR.1 fun H1 cA e1 z1 o1 hAr hNm => ?_
  rw [← hR.1] at z1 o1
  have hcA : D.1 10 = cA := Option.some.inj ((hK.1.2 0 _ rfl).2.symm.trans hNm)
  refine kk H1 locs ls (hSS.grow z1 o1) (hR.new z1 o1 ?_) hl
  have e2 : H1[σ.1]? = some (arrV (D.1 10) N (fun _ => defaultValue .int)) := by rw [hcA]; exact e1
  exact ⟨fun q => absurd (show 10 < 7 from q) (by decide), fun _ => e2, fun q => absurd (show 10 = 11 from q) (by decide), fun q => absurd (show 10 = 12 from q) (by decide), fun q => absurd (show 10 = 13 from q) (by decide), fun q => absurd (show 10 = 14 from q) (by decide)⟩
theorem g_newa_l (C : tkC X cc own nm nL ret hh d MC MS) {n : Int32} (N : Nat) (hd : decode cc pc = .ok (.newarray .long, 2)) (hw : Cond.arrayClass .long ∈ tkAll) (hn : ¬ n < 0) (hN : n.toNatClampNeg = N) (hby : N * componentBytes .long ≤ 536870912) (h1 : cs + 1 ≤ MC) (h2 : ss + N ≤ MS)
    (kk : tkG X Q (cs + 1) (ss + N) (pc + 2) lv (.ref σ.1 :: stk) (tkNw σ (11, N)) (tkZI σ I) (tkZL σ L)) : tkG X Q cs ss pc lv (.int n :: stk) σ I L := by
  obtain ⟨p, l, e, R, s, m, args, below, meth, c, base, D⟩ := X
  obtain ⟨hx, hb, hml, hown, hts, hK, hE, hlocks, hr, hnm, hhh, hfr, hlo, hRc, hRs, hst⟩ := C
  intro H locs ls hSS hR hl
  refine va_newaK (atype := .long) hx hb (hts _ hw) rfl hd rfl hn hN hby (by rw [hRc]; exact h1) (by rw [hRs]; exact h2) hR.1 fun H1 cA e1 z1 o1 hAr hNm => ?_
  rw [← hR.1] at z1 o1
  have hcA : D.1 11 = cA := Option.some.inj ((hK.1.2 1 _ rfl).2.symm.trans hNm)
  refine kk H1 locs ls (hSS.grow z1 o1) (hR.new z1 o1 ?_) hl
  have e2 : H1[σ.1]? = some (arrV (D.1 11) N (fun _ => defaultValue .long)) := by rw [hcA]; exact e1
  exact ⟨fun q => absurd (show 11 < 7 from q) (by decide), fun q => absurd (show 11 = 10 from q) (by decide), fun _ => e2, fun q => absurd (show 11 = 12 from q) (by decide), fun q => absurd (show 11 = 13 from q) (by decide), fun q => absurd (show 11 = 14 from q) (by decide)⟩
theorem g_newa_z (C : tkC X cc own nm nL ret hh d MC MS) {n : Int32} (N : Nat) (hd : decode cc pc = .ok (.newarray .boolean, 2)) (hw : Cond.arrayClass .boolean ∈ tkAll) (hn : ¬ n < 0) (hN : n.toNatClampNeg = N) (hby : N * componentBytes .boolean ≤ 536870912) (h1 : cs + 1 ≤ MC) (h2 : ss + N ≤ MS)
    (kk : tkG X Q (cs + 1) (ss + N) (pc + 2) lv (.ref σ.1 :: stk) (tkNw σ (12, N)) (tkZI σ I) (tkZL σ L)) : tkG X Q cs ss pc lv (.int n :: stk) σ I L := by
  obtain ⟨p, l, e, R, s, m, args, below, meth, c, base, D⟩ := X
  obtain ⟨hx, hb, hml, hown, hts, hK, hE, hlocks, hr, hnm, hhh, hfr, hlo, hRc, hRs, hst⟩ := C
  intro H locs ls hSS hR hl
  refine va_newaK (atype := .boolean) hx hb (hts _ hw) rfl hd rfl hn hN hby (by rw [hRc]; exact h1) (by rw [hRs]; exact h2) hR.1 fun H1 cA e1 z1 o1 hAr hNm => ?_
  rw [← hR.1] at z1 o1
  have hcA : D.1 12 = cA := Option.some.inj ((hK.1.2 2 _ rfl).2.symm.trans hNm)
  refine kk H1 locs ls (hSS.grow z1 o1) (hR.new z1 o1 ?_) hl
  have e2 : H1[σ.1]? = some (arrV (D.1 12) N (fun _ => defaultValue .boolean)) := by rw [hcA]; exact e1
  exact ⟨fun q => absurd (show 12 < 7 from q) (by decide), fun q => absurd (show 12 = 10 from q) (by decide), fun q => absurd (show 12 = 11 from q) (by decide), fun _ => ⟨e2, fun j _ => rfl⟩, fun q => absurd (show 12 = 13 from q) (by decide), fun q => absurd (show 12 = 14 from q) (by decide)⟩
theorem g_newa_d (C : tkC X cc own nm nL ret hh d MC MS) {n : Int32} (N : Nat) (hd : decode cc pc = .ok (.newarray .double, 2)) (hw : Cond.arrayClass .double ∈ tkAll) (hn : ¬ n < 0) (hN : n.toNatClampNeg = N) (hby : N * componentBytes .double ≤ 536870912) (h1 : cs + 1 ≤ MC) (h2 : ss + N ≤ MS)
    (kk : tkG X Q (cs + 1) (ss + N) (pc + 2) lv (.ref σ.1 :: stk) (tkNw σ (13, N)) (tkZI σ I) (tkZL σ L)) : tkG X Q cs ss pc lv (.int n :: stk) σ I L := by
  obtain ⟨p, l, e, R, s, m, args, below, meth, c, base, D⟩ := X
  obtain ⟨hx, hb, hml, hown, hts, hK, hE, hlocks, hr, hnm, hhh, hfr, hlo, hRc, hRs, hst⟩ := C
  intro H locs ls hSS hR hl
  refine va_newaK (atype := .double) hx hb (hts _ hw) rfl hd rfl hn hN hby (by rw [hRc]; exact h1) (by rw [hRs]; exact h2) hR.1 fun H1 cA e1 z1 o1 hAr hNm => ?_
  rw [← hR.1] at z1 o1
  have hcA : D.1 13 = cA := Option.some.inj ((hK.1.2 3 _ rfl).2.symm.trans hNm)
  refine kk H1 locs ls (hSS.grow z1 o1) (hR.new z1 o1 ?_) hl
  have e2 : H1[σ.1]? = some (arrV (D.1 13) N (fun _ => defaultValue .double)) := by rw [hcA]; exact e1
  exact ⟨fun q => absurd (show 13 < 7 from q) (by decide), fun q => absurd (show 13 = 10 from q) (by decide), fun q => absurd (show 13 = 11 from q) (by decide), fun q => absurd (show 13 = 12 from q) (by decide), fun _ => e2, fun q => absurd (show 13 = 14 from q) (by decide)⟩
theorem g_anewa (C : tkC X cc own nm nL ret hh d MC MS) {idx : Nat} {n : Int32} (N : Nat) (hd : decode cc pc = .ok (.anewarray idx, 3)) (hw : Cond.classLink own idx RX1 ∈ tkAll) (hn : ¬ n < 0) (hN : n.toNatClampNeg = N) (hby : N * 4 ≤ 536870912) (h1 : cs + 1 ≤ MC) (h2 : ss + N ≤ MS)
    (kk : tkG X Q (cs + 1) (ss + N) (pc + 3) lv (.ref σ.1 :: stk) (tkNw σ (14, N)) (tkZI σ I) (tkZL σ L)) : tkG X Q cs ss pc lv (.int n :: stk) σ I L := by
  obtain ⟨p, l, e, R, s, m, args, below, meth, c, base, D⟩ := X
  obtain ⟨hx, hb, hml, hown, hts, hK, hE, hlocks, hr, hnm, hhh, hfr, hlo, hRc, hRs, hst⟩ := C
  intro H locs ls hSS hR hl
  subst hN
  refine W.anew hx hb hown (hts _ hw) (va_AO.use hK.2.1) rfl hd rfl hn hby (by rw [hRc]; exact h1) (by rw [hRs]; exact h2) fun cA kA comp f1 f2 f3 f4 => ?_
  generalize hH1 : H.push ({ cls := cA, slots := Array.replicate n.toNatClampNeg .null, vm := .none } : Cell) = H1
  have z1 : H1.size = H.size + 1 := by rw [← hH1, Array.size_push]
  have e1 : H1[H.size]? = some (arrV cA n.toNatClampNeg (fun _ => .null)) := by rw [← hH1, Array.getElem?_push_size, ← arrV_new]
  have o1 : ∀ q : Nat, q < H.size → H1[q]? = H[q]? := fun q hq => by rw [← hH1, Array.getElem?_push, if_neg (Nat.ne_of_lt hq)]
  obtain ⟨kA', comp', -, -, -, g4⟩ := (hK.1.2 4 _ rfl).2
  have hcA : D.1 14 = cA := Option.some.inj (g4.symm.trans f1)
  rw [show (Value.ref H.size) = Value.ref σ.1 by rw [hR.1]]
  refine kk H1 locs ls (hSS.grow z1 o1) (hR.new z1 o1 ?_) hl
  have e2 : H1[σ.1]? = some (arrV (D.1 14) n.toNatClampNeg (fun _ => .null)) := by rw [hcA, ← hR.1]; exact e1
  exact ⟨fun q => absurd (show 14 < 7 from q) (by decide), fun q => absurd (show 14 = 10 from q) (by decide), fun q => absurd (show 14 = 11 from q) (by decide), fun q => absurd (show 14 = 12 from q) (by decide), fun q => absurd (show 14 = 13 from q) (by decide), fun _ => e2⟩
theorem g_objInit (C : tkC X cc own nm nL ret hh d MC MS) {idx a : Nat} (hd : decode cc pc = .ok (.invokespecial idx, 3)) (hw : Cond.methodLink own idx objectInit ∈ tkAll) (hw2 : Cond.instanceMethod objectInit ∈ tkAll) (hw3 : Cond.code objectInit ⟨#[0xb1]⟩ 1 none ∈ tkAll) (hd1 : 1 ≤ d) (hst : (stk.map fun v => v.category).sum ≤ 8) (kk : tkG X Q cs ss (pc + 3) lv stk σ I L) : tkG X Q cs ss pc lv (.ref a :: stk) σ I L := by
  obtain ⟨p, l, e, R, s, m, args, below, meth, c, base, D⟩ := X
  obtain ⟨hx, hb, hml, hown, hts, hK, hE, hlocks, hr, hnm, hhh, hfr, hlo, hRc, hRs, hst9⟩ := C
  intro H locs ls hSS hR hl
  exact W.objInit hx hb hown (hts _ hw) (hts _ hw2) (hts _ hw3) rfl hl.1 rfl hd (by omega) (by show 2 * 0 + _ + 12 ≤ _; omega) (kk H locs ls hSS hR hl)
end TKMEM
end
section
section TKCALL
variable {X : tkX} {Q : State → Prop} {cc : ByteArray} {own nm : String} {nL d MC MS cs ss pc : Nat} {ret : Option FieldType} {hh : List (Nat × Nat × Nat × Nat)} {lv : List (Option Value)} {stk : List Value} {σ : tkM} {I : tkI} {L : tkL}
theorem tk_nn {z : Int32} (hz : ¬ z < 0) : z.toInt = (z.toNatClampNeg : Int) := by
  have hz0 : (0 : Int) ≤ z.toInt := by
    have := Int32.not_lt.mp hz
    simpa using Int32.le_iff_toInt_le.mp this
  show z.toInt = ((z.toInt.toNat : Nat) : Int)
  omega
/-! System.arraycopy -/
theorem g_copy_i (C : tkC X cc own nm nL ret hh d MC MS) {idx a a0 ns nd : Nat} {sp dp n : Int32} {I1 : tkI} (hd : decode cc pc = .ok (.invokestatic idx, 3)) (hw1 : Cond.methodLink own idx arraycopyName ∈ tkAll) (hw2 : Cond.native arraycopyName ∈ tkAll) (hw3 : Cond.static arraycopyName ∈ tkAll) (hw4 : Cond.initialized "java/lang/System" ∈ tkAll)
    (hs0 : σ.2.1 a0 = (10, ns)) (hs1 : σ.2.1 a = (10, nd)) (hI : tk1 I a (va_cpy (I a0) (I a) sp.toNatClampNeg dp.toNatClampNeg n.toNatClampNeg) = I1) (h1 : ¬ sp < 0) (h2 : ¬ dp < 0) (h3 : ¬ n < 0) (h4 : sp.toNatClampNeg + n.toNatClampNeg ≤ ns) (h5 : dp.toNatClampNeg + n.toNatClampNeg ≤ nd)
    (hd2 : 2 ≤ d) (hstk : (stk.map fun v => v.category).sum ≤ 8) (kk : tkG X Q cs ss (pc + 3) lv stk σ I1 L) : tkG X Q cs ss pc lv (.int n :: .int dp :: .ref a :: .int sp :: .ref a0 :: stk) σ I L := by
  obtain ⟨p, l, e, R, s, m, args, below, meth, c, base, D⟩ := X
  obtain ⟨hx, hb, hml, hown, hts, hK, hE, hlocks, hr, hnm, hhh, hfr, hlo, hRc, hRs, hst⟩ := C
  intro H locs ls hSS hR hl T hT X
  subst hI
  obtain ⟨-, -, -, hcs⟩ := hR.at hs0 (by decide)
  obtain ⟨hba, hla, hlz, hcd⟩ := hR.at hs1 (by decide)
  have hc0 : H[a0]? = some (arrV (D.1 10) ns (fun j => .int (I a0 j))) := hcs.2.1 rfl
  have hc1 : H[a]? = some (arrV (D.1 10) nd (fun j => .int (I a j))) := hcd.2.1 rfl
  obtain ⟨-, k0, hk0, cm0, hkk0⟩ := (hK.1.2 0 _ rfl).1 ns (fun j => .int (I a0 j))
  obtain ⟨-, k1, hk1, cm1, hkk1⟩ := (hK.1.2 0 _ rfl).1 nd (fun j => .int (I a j))
  obtain ⟨vm', X', step⟩ := X.arraycopy hx hown (hts _ hw1) (hts _ hw2) (hts _ hw3) (hts _ hw4) (src := a0) (dst := a) (cs := arrV (D.1 10) ns (fun j => .int (I a0 j))) (cd := arrV (D.1 10) nd (fun j => .int (I a j))) (srcPos := sp) (destPos := dp) (n := n) (by rw [hT]; exact hc0) (by rw [hT]; exact hc1)
    (fun _ h => by cases h) (fun _ h => by cases h) (fun h => by cases h) (fun h => by cases h) hk0 hk1 hkk0 hkk1 (by simp [refKind]) h1 h2 h3
    (by rw [tk_nn h1, tk_nn h3, arrV_size]; omega) (by rw [tk_nn h2, tk_nn h3, arrV_size]; omega)
    (fun vm₁ _ i hi => by
      have e9 : (arrV (D.1 10) ns (fun j => .int (I a0 j))).slots.getD (sp.toNatClampNeg + i) .null = .int (I a0 (sp.toNatClampNeg + i)) := by
        rw [Array.getD_eq_getD_getElem?, arrV_read _ _ (by omega)]
        rfl
      refine ⟨?_, ?_⟩
      · rw [e9]
        exact rfl
      · rw [e9]
        exact trivial)
    (g := F0 m pc ls (.int n :: .int dp :: .ref a :: .int sp :: .ref a0 :: stk)) rfl (by exact hl.1) (rest := stk) rfl (by rw [hb]; exact hd) (by omega) (by
      have e8 : nativeFrameWords "java/lang/System" "arraycopy" 5 + 11 ≤ 60 := by decide
      show 2 * 0 + _ + _ ≤ _
      omega)
  have e1 : copied (arrV (D.1 10) ns (fun j => .int (I a0 j))) (arrV (D.1 10) nd (fun j => .int (I a j))) sp dp n = arrV (D.1 10) nd (fun j => .int (va_cpy (I a0) (I a) sp.toNatClampNeg dp.toNatClampNeg n.toNatClampNeg j)) := va_copied (fun z => .int z) _ _ (I a0) (I a) h4
  rw [e1] at X' step
  generalize hN : arrV (D.1 10) nd (fun j => .int (va_cpy (I a0) (I a) sp.toNatClampNeg dp.toNatClampNeg n.toNatClampNeg j)) = N at X' step
  have hheap : ((T.setVm vm').setCell a N).heap = H.setIfInBounds a N := by rw [← hT]; rfl
  have oq : ∀ q : Nat, q ≠ a → (H.setIfInBounds a N)[q]? = H[q]? := fun q hq => by simp [Array.getElem?_setIfInBounds, Ne.symm hq]
  have hz : (H.setIfInBounds a N).size = H.size := by simp
  have e2 : (H.setIfInBounds a N)[a]? = some (arrV (D.1 10) nd (fun j => .int (tk1 I a (va_cpy (I a0) (I a) sp.toNatClampNeg dp.toNatClampNeg n.toNatClampNeg) a j))) := by
    simp only [tk1, if_true, hN]
    simp [Array.getElem?_setIfInBounds, hlz]
  obtain ⟨t, a1, b1⟩ := kk (H.setIfInBounds a N) _ ls ⟨by rw [hz]; exact hSS.1, fun q g1 g2 => by
      rw [oq q (fun e => g2 (by rw [e]; exact hba))]
      exact hSS.2.1 q g1 g2, fun q hq => by
      rcases List.mem_append.mp hq with h | h
      · exact hSS.2.2 q h
      · obtain ⟨z, -, hz9⟩ := List.mem_map.mp h
        rw [← hz9]
        exact hba⟩ (hR.put hba hz oq rfl rfl (fun b q => by simp [tk1, q]) (fun _ _ => rfl) (fun _ _ => rfl) (fun _ => by
      rw [hs1]
      exact ⟨fun q => absurd (show 10 < 7 from q) (by decide), fun _ => e2, fun q => absurd (show 10 = 11 from q) (by decide), fun q => absurd (show 10 = 12 from q) (by decide), fun q => absurd (show 10 = 13 from q) (by decide), fun q => absurd (show 10 = 14 from q) (by decide)⟩)) hl _ hheap X'
  exact ⟨t, step t a1, b1⟩
theorem g_copy_z (C : tkC X cc own nm nL ret hh d MC MS) {idx a a0 ns nd : Nat} {sp dp n : Int32} {I1 : tkI} (hd : decode cc pc = .ok (.invokestatic idx, 3)) (hw1 : Cond.methodLink own idx arraycopyName ∈ tkAll) (hw2 : Cond.native arraycopyName ∈ tkAll) (hw3 : Cond.static arraycopyName ∈ tkAll) (hw4 : Cond.initialized "java/lang/System" ∈ tkAll)
    (hs0 : σ.2.1 a0 = (12, ns)) (hs1 : σ.2.1 a = (12, nd)) (hI : tk1 I a (va_cpy (I a0) (I a) sp.toNatClampNeg dp.toNatClampNeg n.toNatClampNeg) = I1) (h1 : ¬ sp < 0) (h2 : ¬ dp < 0) (h3 : ¬ n < 0) (h4 : sp.toNatClampNeg + n.toNatClampNeg ≤ ns) (h5 : dp.toNatClampNeg + n.toNatClampNeg ≤ nd)
    (hd2 : 2 ≤ d) (hstk : (stk.map fun v => v.category).sum ≤ 8) (kk : tkG X Q cs ss (pc + 3) lv stk σ I1 L) : tkG X Q cs ss pc lv (.int n :: .int dp :: .ref a :: .int sp :: .ref a0 :: stk) σ I L := by
  obtain ⟨p, l, e, R, s, m, args, below, meth, c, base, D⟩ := X
  obtain ⟨hx, hb, hml, hown, hts, hK, hE, hlocks, hr, hnm, hhh, hfr, hlo, hRc, hRs, hst⟩ := C
  intro H locs ls hSS hR hl T hT X
  subst hI
  obtain ⟨-, -, -, hcs⟩ := hR.at hs0 (by decide)
  obtain ⟨hba, hla, hlz, hcd⟩ := hR.at hs1 (by decide)
  have hc0 : H[a0]? = some (arrV (D.1 12) ns (fun j => .int (I a0 j))) := (hcs.2.2.2.1 rfl).1
  have hc1 : H[a]? = some (arrV (D.1 12) nd (fun j => .int (I a j))) := (hcd.2.2.2.1 rfl).1
  obtain ⟨-, k0, hk0, cm0, hkk0⟩ := (hK.1.2 2 _ rfl).1 ns (fun j => .int (I a0 j))
  obtain ⟨-, k1, hk1, cm1, hkk1⟩ := (hK.1.2 2 _ rfl).1 nd (fun j => .int (I a j))
  obtain ⟨vm', X', step⟩ := X.arraycopy hx hown (hts _ hw1) (hts _ hw2) (hts _ hw3) (hts _ hw4) (src := a0) (dst := a) (cs := arrV (D.1 12) ns (fun j => .int (I a0 j))) (cd := arrV (D.1 12) nd (fun j => .int (I a j))) (srcPos := sp) (destPos := dp) (n := n) (by rw [hT]; exact hc0) (by rw [hT]; exact hc1)
    (fun _ h => by cases h) (fun _ h => by cases h) (fun h => by cases h) (fun h => by cases h) hk0 hk1 hkk0 hkk1 (by simp [refKind]) h1 h2 h3
    (by rw [tk_nn h1, tk_nn h3, arrV_size]; omega) (by rw [tk_nn h2, tk_nn h3, arrV_size]; omega)
    (fun vm₁ _ i hi => by
      have e9 : (arrV (D.1 12) ns (fun j => .int (I a0 j))).slots.getD (sp.toNatClampNeg + i) .null = .int (I a0 (sp.toNatClampNeg + i)) := by
        rw [Array.getD_eq_getD_getElem?, arrV_read _ _ (by omega)]
        rfl
      refine ⟨?_, ?_⟩
      · rw [e9]
        exact by exact (hcs.2.2.2.1 rfl).2 _ (by show _ < ns; omega)
      · rw [e9]
        exact trivial)
    (g := F0 m pc ls (.int n :: .int dp :: .ref a :: .int sp :: .ref a0 :: stk)) rfl (by exact hl.1) (rest := stk) rfl (by rw [hb]; exact hd) (by omega) (by
      have e8 : nativeFrameWords "java/lang/System" "arraycopy" 5 + 11 ≤ 60 := by decide
      show 2 * 0 + _ + _ ≤ _
      omega)
  have e1 : copied (arrV (D.1 12) ns (fun j => .int (I a0 j))) (arrV (D.1 12) nd (fun j => .int (I a j))) sp dp n = arrV (D.1 12) nd (fun j => .int (va_cpy (I a0) (I a) sp.toNatClampNeg dp.toNatClampNeg n.toNatClampNeg j)) := va_copied (fun z => .int z) _ _ (I a0) (I a) h4
  rw [e1] at X' step
  generalize hN : arrV (D.1 12) nd (fun j => .int (va_cpy (I a0) (I a) sp.toNatClampNeg dp.toNatClampNeg n.toNatClampNeg j)) = N at X' step
  have hheap : ((T.setVm vm').setCell a N).heap = H.setIfInBounds a N := by rw [← hT]; rfl
  have oq : ∀ q : Nat, q ≠ a → (H.setIfInBounds a N)[q]? = H[q]? := fun q hq => by simp [Array.getElem?_setIfInBounds, Ne.symm hq]
  have hz : (H.setIfInBounds a N).size = H.size := by simp
  have e2 : (H.setIfInBounds a N)[a]? = some (arrV (D.1 12) nd (fun j => .int (tk1 I a (va_cpy (I a0) (I a) sp.toNatClampNeg dp.toNatClampNeg n.toNatClampNeg) a j))) := by
    simp only [tk1, if_true, hN]
    simp [Array.getElem?_setIfInBounds, hlz]
  have hfit2 : ∀ j, j < nd → fits .boolean (.int (tk1 I a (va_cpy (I a0) (I a) sp.toNatClampNeg dp.toNatClampNeg n.toNatClampNeg) a j)) = true := by
    intro j hj
    simp only [tk1, if_true, va_cpy]
    split
    · exact (hcs.2.2.2.1 rfl).2 _ (by show _ < ns; omega)
    · exact (hcd.2.2.2.1 rfl).2 j hj
  obtain ⟨t, a1, b1⟩ := kk (H.setIfInBounds a N) _ ls ⟨by rw [hz]; exact hSS.1, fun q g1 g2 => by
      rw [oq q (fun e => g2 (by rw [e]; exact hba))]
      exact hSS.2.1 q g1 g2, fun q hq => by
      rcases List.mem_append.mp hq with h | h
      · exact hSS.2.2 q h
      · obtain ⟨z, -, hz9⟩ := List.mem_map.mp h
        rw [← hz9]
        exact hba⟩ (hR.put hba hz oq rfl rfl (fun b q => by simp [tk1, q]) (fun _ _ => rfl) (fun _ _ => rfl) (fun _ => by
      rw [hs1]
      exact ⟨fun q => absurd (show 12 < 7 from q) (by decide), fun q => absurd (show 12 = 10 from q) (by decide), fun q => absurd (show 12 = 11 from q) (by decide), fun _ => ⟨e2, hfit2⟩, fun q => absurd (show 12 = 13 from q) (by decide), fun q => absurd (show 12 = 14 from q) (by decide)⟩)) hl _ hheap X'
  exact ⟨t, step t a1, b1⟩
theorem g_copy_l (C : tkC X cc own nm nL ret hh d MC MS) {idx a a0 ns nd : Nat} {sp dp n : Int32} {L1 : tkL} (hd : decode cc pc = .ok (.invokestatic idx, 3)) (hw1 : Cond.methodLink own idx arraycopyName ∈ tkAll) (hw2 : Cond.native arraycopyName ∈ tkAll) (hw3 : Cond.static arraycopyName ∈ tkAll) (hw4 : Cond.initialized "java/lang/System" ∈ tkAll)
    (hs0 : σ.2.1 a0 = (11, ns)) (hs1 : σ.2.1 a = (11, nd)) (hI : tk1 L a (va_cpy (L a0) (L a) sp.toNatClampNeg dp.toNatClampNeg n.toNatClampNeg) = L1) (h1 : ¬ sp < 0) (h2 : ¬ dp < 0) (h3 : ¬ n < 0) (h4 : sp.toNatClampNeg + n.toNatClampNeg ≤ ns) (h5 : dp.toNatClampNeg + n.toNatClampNeg ≤ nd)
    (hd2 : 2 ≤ d) (hstk : (stk.map fun v => v.category).sum ≤ 8) (kk : tkG X Q cs ss (pc + 3) lv stk σ I L1) : tkG X Q cs ss pc lv (.int n :: .int dp :: .ref a :: .int sp :: .ref a0 :: stk) σ I L := by
  obtain ⟨p, l, e, R, s, m, args, below, meth, c, base, D⟩ := X
  obtain ⟨hx, hb, hml, hown, hts, hK, hE, hlocks, hr, hnm, hhh, hfr, hlo, hRc, hRs, hst⟩ := C
  intro H locs ls hSS hR hl T hT X
  subst hI
  obtain ⟨-, -, -, hcs⟩ := hR.at hs0 (by decide)
  obtain ⟨hba, hla, hlz, hcd⟩ := hR.at hs1 (by decide)
  have hc0 : H[a0]? = some (arrV (D.1 11) ns (fun j => .long (L a0 j))) := hcs.2.2.1 rfl
  have hc1 : H[a]? = some (arrV (D.1 11) nd (fun j => .long (L a j))) := hcd.2.2.1 rfl
  obtain ⟨-, k0, hk0, cm0, hkk0⟩ := (hK.1.2 1 _ rfl).1 ns (fun j => .long (L a0 j))
  obtain ⟨-, k1, hk1, cm1, hkk1⟩ := (hK.1.2 1 _ rfl).1 nd (fun j => .long (L a j))
  obtain ⟨vm', X', step⟩ := X.arraycopy hx hown (hts _ hw1) (hts _ hw2) (hts _ hw3) (hts _ hw4) (src := a0) (dst := a) (cs := arrV (D.1 11) ns (fun j => .long (L a0 j))) (cd := arrV (D.1 11) nd (fun j => .long (L a j))) (srcPos := sp) (destPos := dp) (n := n) (by rw [hT]; exact hc0) (by rw [hT]; exact hc1)
    (fun _ h => by cases h) (fun _ h => by cases h) (fun h => by cases h) (fun h => by cases h) hk0 hk1 hkk0 hkk1 (by simp [refKind]) h1 h2 h3
    (by rw [tk_nn h1, tk_nn h3, arrV_size]; omega) (by rw [tk_nn h2, tk_nn h3, arrV_size]; omega)
    (fun vm₁ _ i hi => by
      have e9 : (arrV (D.1 11) ns (fun j => .long (L a0 j))).slots.getD (sp.toNatClampNeg + i) .null = .long (L a0 (sp.toNatClampNeg + i)) := by
        rw [Array.getD_eq_getD_getElem?, arrV_read _ _ (by omega)]
        rfl
      refine ⟨?_, ?_⟩
      · rw [e9]
        exact rfl
      · rw [e9]
        exact trivial)
    (g := F0 m pc ls (.int n :: .int dp :: .ref a :: .int sp :: .ref a0 :: stk)) rfl (by exact hl.1) (rest := stk) rfl (by rw [hb]; exact hd) (by omega) (by
      have e8 : nativeFrameWords "java/lang/System" "arraycopy" 5 + 11 ≤ 60 := by decide
      show 2 * 0 + _ + _ ≤ _
      omega)
  have e1 : copied (arrV (D.1 11) ns (fun j => .long (L a0 j))) (arrV (D.1 11) nd (fun j => .long (L a j))) sp dp n = arrV (D.1 11) nd (fun j => .long (va_cpy (L a0) (L a) sp.toNatClampNeg dp.toNatClampNeg n.toNatClampNeg j)) := va_copied (fun z => .long z) _ _ (L a0) (L a) h4
  rw [e1] at X' step
  generalize hN : arrV (D.1 11) nd (fun j => .long (va_cpy (L a0) (L a) sp.toNatClampNeg dp.toNatClampNeg n.toNatClampNeg j)) = N at X' step
  have hheap : ((T.setVm vm').setCell a N).heap = H.setIfInBounds a N := by rw [← hT]; rfl
  have oq : ∀ q : Nat, q ≠ a → (H.setIfInBounds a N)[q]? = H[q]? := fun q hq => by simp [Array.getElem?_setIfInBounds, Ne.symm hq]
  have hz : (H.setIfInBounds a N).size = H.size := by simp
  have e2 : (H.setIfInBounds a N)[a]? = some (arrV (D.1 11) nd (fun j => .long (tk1 L a (va_cpy (L a0) (L a) sp.toNatClampNeg dp.toNatClampNeg n.toNatClampNeg) a j))) := by
    simp only [tk1, if_true, hN]
    simp [Array.getElem?_setIfInBounds, hlz]
  obtain ⟨t, a1, b1⟩ := kk (H.setIfInBounds a N) _ ls ⟨by rw [hz]; exact hSS.1, fun q g1 g2 => by
      rw [oq q (fun e => g2 (by rw [e]; exact hba))]
      exact hSS.2.1 q g1 g2, fun q hq => by
      rcases List.mem_append.mp hq with h | h
      · exact hSS.2.2 q h
      · obtain ⟨z, -, hz9⟩ := List.mem_map.mp h
        rw [← hz9]
        exact hba⟩ (hR.put hba hz oq rfl rfl (fun _ _ => rfl) (fun b q => by simp [tk1, q]) (fun _ _ => rfl) (fun _ => by
      rw [hs1]
      exact ⟨fun q => absurd (show 11 < 7 from q) (by decide), fun q => absurd (show 11 = 10 from q) (by decide), fun _ => e2, fun q => absurd (show 11 = 12 from q) (by decide), fun q => absurd (show 11 = 13 from q) (by decide), fun q => absurd (show 11 = 14 from q) (by decide)⟩)) hl _ hheap X'
  exact ⟨t, step t a1, b1⟩
/-! a method's standing facts -/
def tkMth (y : MethodName) (cc : ByteArray) (maxL : Nat) (ret : Option FieldType) (n : Nat) : Prop :=
  Cond.code y cc maxL ret ∈ tkAll ∧ Cond.initialized y.cls ∈ tkAll ∧ maxL ≤ 18 ∧ (y.cls ≠ "java/lang/invoke/MethodHandle" ∧ y.cls ≠ "java/lang/invoke/VarHandle" ∧ (parseMethodDescriptor y.desc).map (fun d => d.parameters.length) = some n)
theorem tkMth.len {y : MethodName} {cc : ByteArray} {maxL n : Nat} {ret : Option FieldType} (h : tkMth y cc maxL ret n) : ∀ sig, parseMethodDescriptor y.desc = some sig → n = sig.parameters.length := by
  intro sig hs
  have h2 := h.2.2.2.2.2
  rw [hs] at h2
  exact (Option.some.inj h2).symm
theorem tkPc.blind {base : Nat} {D : va_G} {a : List Value} : FrameBlind (tkPc base D a σ I L) := by
  intro v U g mk h
  obtain ⟨h1, h2, h3, h4⟩ := h
  refine ⟨h1, ?_, ?_, h4⟩
  · exact ⟨va_K.moved (u := U) (U := U.calling g mk v) (Vm.Alike.refl U.vm) h2.1, va_AO.moved (u := U) (U := U.calling g mk v) (Vm.Alike.refl U.vm) h2.2.1, fun q hq => (h2.2.2.1 q hq).imp fun _ z => vk_R.same (u := U) (U := U.calling g mk v) rfl z, fun q hq => va_Nc.moved (u := U) (U := U.calling g mk v) (Vm.Alike.refl U.vm) (h2.2.2.2 q hq)⟩
  · exact ⟨vx_Zq.moved (u := U) (U := U.calling g mk v) (Vm.Alike.refl U.vm) h3.1, vx_Zq.moved (u := U) (U := U.calling g mk v) (Vm.Alike.refl U.vm) h3.2⟩
theorem tkPc.go {base : Nat} {D : va_G} {a : List Value} {s : State} {H : Heap} {locs : List Loc} (hK : tkK D s) (hE : tkE base s s.heap) (hS : va_S (fun q => base ≤ q) s.heap H locs) (hR : tkRel D base σ I L H) : ∀ U : State, U.heap = H → s.WarmedH U.vm → tkPc base D a σ I L a.toArray U := by
  intro U hU hW
  exact ⟨rfl, hK.warm hW, by rw [hU]; exact (hE.warm hW).kept hS.2.1, by rw [hU]; exact hR⟩
/-- behind any call -/
theorem tk_after {p : Program} {l : Launch} {e : Env} {R : Room} {s : State} {m : MethodId} {args : Array Value} {below : List Frame} {meth : Method} {c : Code} {base : Nat} {D : va_G} {H : Heap} {locs : List Loc} {ls : Array Slot} {mc ms : Nat} {st0 rest : List Value} {a : Array Value} {lo : Bool} {out : tkOut} {σ' : tkM} {I' : tkI} {L' : tkL}
    (hr : vx_Run p l e R s m args below meth c H locs cs ss mc ms (F0 m pc ls st0) rest (tkQc lo base D out σ' I' L' a) (tkXC base D out σ' I' L') (fun q => base ≤ q)) (hS : va_S (fun q => base ≤ q) s.heap H locs) (hl : tkLv ls c.maxLocals lv)
    (kr : ∀ v n, out = .inl v → σ'.1 ≤ n → (lo = false → n = σ'.1) → tkG (p, l, e, R, s, m, args, below, meth, c, base, D) Q (cs + mc) (ss + ms) (pc + 3) lv (v.toList ++ rest) (n, σ'.2) I' L')
    (kt : ∀ E n, out = .inr E → σ'.1 ≤ n → tkT (p, l, e, R, s, m, args, below, meth, c, base, D) Q (cs + mc) (ss + ms) pc lv rest (n, σ'.2) I' L' E) : W p l e R s m args below meth c H locs cs ss Q (F0 m pc ls st0) := by
  intro T hT X
  rcases hr T hT X with ⟨v, st₀, t, T', L9, h0, X', hL, e1, e2, ⟨⟨v', ho, hv⟩, ⟨n, hn, hn2, hR'⟩, hF⟩, st⟩ | ⟨q, st₀, t, T', L9, E, ce, h0, X', hL, e1, e2, ⟨ho, ⟨n, hn, hR'⟩, hF⟩, hce, hcv, hcl, st⟩
  · have hv2 : v' = v := by cases hv; rfl
    subst hv2
    obtain ⟨k1, k2, k3⟩ := vx_keep h0 e1 hS (fun q _ z => z) (fun q z => z) hL hF
    obtain ⟨t2, a1, b1⟩ := kr v' n ho hn hn2 T'.heap (locs ++ L9) ls k3 (by rw [e1]; exact hR') hl T' rfl X'
    exact ⟨t2, st t2 a1, b1⟩
  · obtain ⟨k1, k2, k3⟩ := vx_keep h0 e1 hS (fun q _ z => z) (fun q z => z) hL hF
    obtain ⟨t2, a1, b1⟩ := kt E n ho hn T'.heap (locs ++ L9) ls q ce k3 (by rw [e1]; exact hR') hl (by rw [e1]; exact hce) hcv hcl T' rfl X'
    exact ⟨t2, st.trans a1, b1⟩
theorem tk_room {d d' maxL : Nat} {R : Room} {mc ms : Nat} (h : d' + 1 ≤ d) (hm : maxL ≤ 18) (h1 : d ≤ R.frames) (h2 : 37 * d ≤ R.locals) : (tkRm d' mc ms).frames + 1 ≤ R.frames ∧ 8 + (maxL + 11) + (tkRm d' mc ms).locals ≤ R.locals := by
  constructor
  · show d' + 1 ≤ R.frames; omega
  · show 8 + (maxL + 11) + 37 * d' ≤ R.locals; omega
variable {lo : Bool} {idx d' mc ms maxL : Nat} {y : MethodName} {bytes : ByteArray} {ret' : Option FieldType} {As rest : List Value} {out : tkOut} {σ' : tkM} {I' : tkI} {L' : tkL} {b : Nat}
/-- what a callee's words ask -/
theorem tk_words {s : State} {args : Array Value} {w : Cond} (hts : ∀ w ∈ tkAll, w.before args s = true) (hw : w ∈ tkAll) : ∀ z ∈ w :: tkAll, ∀ (a' : Array Value) (U : State), s.WarmedH U.vm → z.before a' U = true := by
  intro z hz a' U hW
  have hz' : z ∈ tkAll := by rcases List.mem_cons.mp hz with rfl | h; exact hw; exact h
  exact tk_rides hW hts z hz'
theorem g_callV (C : tkC X cc own nm nL ret hh d MC MS) {nb ci : Nat} {q : vw_C} (hd : decode cc pc = .ok (.invokevirtual idx, 3)) (hM : tkMth y bytes maxL ret' As.length) (hl1 : Cond.methodLink own idx y ∈ tkAll) (hl2 : Cond.instanceMethod y ∈ tkAll) (hl3 : Cond.selects y.cls y y ∈ tkAll) (hcon : tkCon lo (.code y bytes maxL ret') y d' (.ref b :: As) σ I L mc ms out σ' I' L')
    (hstk : stk = As.reverse ++ .ref b :: rest) (hS : σ.2.1 b = (ci, nb)) (hc : vwCl[ci]? = some q) (hq : q.1 = y.cls) (hroom : d' + 1 ≤ d ∧ cs + mc ≤ MC ∧ ss + ms ≤ MS ∧ (rest.map fun v => v.category).sum ≤ 8)
    (kr : ∀ v n, out = .inl v → σ'.1 ≤ n → (lo = false → n = σ'.1) → tkG X Q (cs + mc) (ss + ms) (pc + 3) lv (v.toList ++ rest) (n, σ'.2) I' L')
    (kt : ∀ E n, out = .inr E → σ'.1 ≤ n → tkT X Q (cs + mc) (ss + ms) pc lv rest (n, σ'.2) I' L' E) : tkG X Q cs ss pc lv stk σ I L := by
  obtain ⟨p, l, e, R, s, m, args, below, meth, c, base, D⟩ := X
  obtain ⟨hx, hb, hml, hown, hts, hK, hE, hlocks, hr, hnm, hhh, hfr, hlo, hRc, hRs, hst⟩ := C
  intro H locs ls hSS hR hl
  obtain ⟨h1, h2, h3, h4⟩ := hroom
  obtain ⟨-, -, -, hcell⟩ := hR.at hS (tk_ne99 hc)
  obtain ⟨q', hq1, cell, q1, q2, q3, q4⟩ := hcell.1 (tk_lt7 hc)
  have hR2 := tk_room (mc := mc) (ms := ms) h1 hM.2.2.1 hfr hlo
  exact tk_after (vx_runV (C := y.cls) (b := b) (As := As) (rest := rest) (nL := nL) (n := As.length) (bytes := bytes) (maxL := maxL) (ret := ret') (rm := tkRm d' mc ms) ⟨hx, hb, hml, hown, hts⟩ (hcon l hst base D)
    ⟨⟨rfl, rfl, hR2.1, hR2.2, tk_words hts hM.1, List.mem_cons_self, hts _ hM.1, hts _ hM.2.1, ⟨hM.2.2.2.1, hM.2.2.2.2.1⟩, hM.len, hts _ hl1⟩, hts _ hl2, hts _ hl3⟩
    ⟨tkPc.blind, ⟨cell, q1, by rw [q3]; rfl, by rw [q2, ← hq]; exact (hK.1.1 ci _ hc).2.1⟩, tkPc.go hK hE hSS hR⟩ rfl rfl (by rw [← hml]; exact hl.1) hstk (lv_room h4) hd ⟨by rw [hRc]; exact h2, by rw [hRs]; exact h3⟩) hSS hl kr kt
theorem g_callS (C : tkC X cc own nm nL ret hh d MC MS) (hd : decode cc pc = .ok (.invokestatic idx, 3)) (hM : tkMth y bytes maxL ret' As.length) (hl1 : Cond.methodLink own idx y ∈ tkAll) (hl2 : Cond.static y ∈ tkAll) (hcon : tkCon lo (.code y bytes maxL ret') y d' As σ I L mc ms out σ' I' L')
    (hstk : stk = As.reverse ++ rest) (hroom : d' + 1 ≤ d ∧ cs + mc ≤ MC ∧ ss + ms ≤ MS ∧ (rest.map fun v => v.category).sum ≤ 8)
    (kr : ∀ v n, out = .inl v → σ'.1 ≤ n → (lo = false → n = σ'.1) → tkG X Q (cs + mc) (ss + ms) (pc + 3) lv (v.toList ++ rest) (n, σ'.2) I' L')
    (kt : ∀ E n, out = .inr E → σ'.1 ≤ n → tkT X Q (cs + mc) (ss + ms) pc lv rest (n, σ'.2) I' L' E) : tkG X Q cs ss pc lv stk σ I L := by
  obtain ⟨p, l, e, R, s, m, args, below, meth, c, base, D⟩ := X
  obtain ⟨hx, hb, hml, hown, hts, hK, hE, hlocks, hr, hnm, hhh, hfr, hlo, hRc, hRs, hst⟩ := C
  intro H locs ls hSS hR hl
  obtain ⟨h1, h2, h3, h4⟩ := hroom
  have hR2 := tk_room (mc := mc) (ms := ms) h1 hM.2.2.1 hfr hlo
  exact tk_after (vx_runS (As := As) (rest := rest) (nL := nL) (n := As.length) (bytes := bytes) (maxL := maxL) (ret := ret') (rm := tkRm d' mc ms) ⟨hx, hb, hml, hown, hts⟩ (hcon l hst base D)
    ⟨⟨rfl, rfl, hR2.1, hR2.2, tk_words hts hM.1, List.mem_cons_self, hts _ hM.1, hts _ hM.2.1, ⟨hM.2.2.2.1, hM.2.2.2.2.1⟩, hM.len, hts _ hl1⟩, hts _ hl2⟩
    ⟨tkPc.blind, tkPc.go hK hE hSS hR⟩ rfl rfl (by rw [← hml]; exact hl.1) hstk (lv_room h4) hd ⟨by rw [hRc]; exact h2, by rw [hRs]; exact h3⟩) hSS hl kr kt
theorem g_callSN (C : tkC X cc own nm nL ret hh d MC MS) {host : String} (hd : decode cc pc = .ok (.invokestatic idx, 3)) (hM : tkMth y bytes maxL ret' As.length) (hl1 : Cond.methodLinkNest own idx y host ∈ tkAll) (hl2 : Cond.static y ∈ tkAll) (hcon : tkCon lo (.code y bytes maxL ret') y d' As σ I L mc ms out σ' I' L')
    (hstk : stk = As.reverse ++ rest) (hroom : d' + 1 ≤ d ∧ cs + mc ≤ MC ∧ ss + ms ≤ MS ∧ (rest.map fun v => v.category).sum ≤ 8)
    (kr : ∀ v n, out = .inl v → σ'.1 ≤ n → (lo = false → n = σ'.1) → tkG X Q (cs + mc) (ss + ms) (pc + 3) lv (v.toList ++ rest) (n, σ'.2) I' L')
    (kt : ∀ E n, out = .inr E → σ'.1 ≤ n → tkT X Q (cs + mc) (ss + ms) pc lv rest (n, σ'.2) I' L' E) : tkG X Q cs ss pc lv stk σ I L := by
  obtain ⟨p, l, e, R, s, m, args, below, meth, c, base, D⟩ := X
  obtain ⟨hx, hb, hml, hown, hts, hK, hE, hlocks, hr, hnm, hhh, hfr, hlo, hRc, hRs, hst⟩ := C
  intro H locs ls hSS hR hl
  obtain ⟨h1, h2, h3, h4⟩ := hroom
  have hR2 := tk_room (mc := mc) (ms := ms) h1 hM.2.2.1 hfr hlo
  exact tk_after (vx_runSN (As := As) (rest := rest) (nL := nL) (n := As.length) (bytes := bytes) (maxL := maxL) (ret := ret') (rm := tkRm d' mc ms) ⟨hx, hb, hml, hown, hts⟩ (hcon l hst base D)
    ⟨⟨⟨rfl, rfl, hR2.1, hR2.2, tk_words hts hM.1, List.mem_cons_self⟩, hts _ hM.1, hts _ hM.2.1, ⟨hM.2.2.2.1, hM.2.2.2.2.1⟩, hM.len, hts _ hl1⟩, hts _ hl2, trivial⟩
    ⟨tkPc.blind, tkPc.go hK hE hSS hR⟩ rfl rfl (by rw [← hml]; exact hl.1) hstk (lv_room h4) hd ⟨by rw [hRc]; exact h2, by rw [hRs]; exact h3⟩) hSS hl kr kt
theorem g_callI (C : tkC X cc own nm nL ret hh d MC MS) (hd : decode cc pc = .ok (.invokespecial idx, 3)) (hM : tkMth y bytes maxL none As.length) (hl1 : Cond.methodLink own idx y ∈ tkAll) (hl2 : Cond.instanceMethod y ∈ tkAll) (hy : y.name = "<init>") (hcon : tkCon lo (.code y bytes maxL none) y d' (.ref b :: As) σ I L mc ms out σ' I' L')
    (hstk : stk = As.reverse ++ .ref b :: rest) (hroom : d' + 1 ≤ d ∧ cs + mc ≤ MC ∧ ss + ms ≤ MS ∧ (rest.map fun v => v.category).sum ≤ 8)
    (kr : ∀ v n, out = .inl v → σ'.1 ≤ n → (lo = false → n = σ'.1) → tkG X Q (cs + mc) (ss + ms) (pc + 3) lv (v.toList ++ rest) (n, σ'.2) I' L')
    (kt : ∀ E n, out = .inr E → σ'.1 ≤ n → tkT X Q (cs + mc) (ss + ms) pc lv rest (n, σ'.2) I' L' E) : tkG X Q cs ss pc lv stk σ I L := by
  obtain ⟨p, l, e, R, s, m, args, below, meth, c, base, D⟩ := X
  obtain ⟨hx, hb, hml, hown, hts, hK, hE, hlocks, hr, hnm, hhh, hfr, hlo, hRc, hRs, hst⟩ := C
  intro H locs ls hSS hR hl
  obtain ⟨h1, h2, h3, h4⟩ := hroom
  have hR2 := tk_room (mc := mc) (ms := ms) h1 hM.2.2.1 hfr hlo
  exact tk_after (vx_runI (b := b) (As := As) (rest := rest) (nL := nL) (n := As.length) (bytes := bytes) (maxL := maxL) (rm := tkRm d' mc ms) ⟨hx, hb, hml, hown, hts⟩ (hcon l hst base D)
    ⟨⟨rfl, rfl, hR2.1, hR2.2, tk_words hts hM.1, List.mem_cons_self, hts _ hM.1, hts _ hM.2.1, ⟨hM.2.2.2.1, hM.2.2.2.2.1⟩, hM.len, hts _ hl1⟩, hy, hts _ hl2⟩
    ⟨tkPc.blind, tkPc.go hK hE hSS hR⟩ rfl rfl (by rw [← hml]; exact hl.1) hstk (lv_room h4) hd ⟨by rw [hRc]; exact h2, by rw [hRs]; exact h3⟩) hSS hl kr kt
theorem g_callIN (C : tkC X cc own nm nL ret hh d MC MS) {host : String} (hd : decode cc pc = .ok (.invokespecial idx, 3)) (hM : tkMth y bytes maxL none As.length) (hl1 : Cond.methodLinkNest own idx y host ∈ tkAll) (hl2 : Cond.instanceMethod y ∈ tkAll) (hy : y.name = "<init>") (hcon : tkCon lo (.code y bytes maxL none) y d' (.ref b :: As) σ I L mc ms out σ' I' L')
    (hstk : stk = As.reverse ++ .ref b :: rest) (hroom : d' + 1 ≤ d ∧ cs + mc ≤ MC ∧ ss + ms ≤ MS ∧ (rest.map fun v => v.category).sum ≤ 8)
    (kr : ∀ v n, out = .inl v → σ'.1 ≤ n → (lo = false → n = σ'.1) → tkG X Q (cs + mc) (ss + ms) (pc + 3) lv (v.toList ++ rest) (n, σ'.2) I' L')
    (kt : ∀ E n, out = .inr E → σ'.1 ≤ n → tkT X Q (cs + mc) (ss + ms) pc lv rest (n, σ'.2) I' L' E) : tkG X Q cs ss pc lv stk σ I L := by
  obtain ⟨p, l, e, R, s, m, args, below, meth, c, base, D⟩ := X
  obtain ⟨hx, hb, hml, hown, hts, hK, hE, hlocks, hr, hnm, hhh, hfr, hlo, hRc, hRs, hst⟩ := C
  intro H locs ls hSS hR hl
  obtain ⟨h1, h2, h3, h4⟩ := hroom
  have hR2 := tk_room (mc := mc) (ms := ms) h1 hM.2.2.1 hfr hlo
  exact tk_after (vx_runIN (b := b) (As := As) (rest := rest) (nL := nL) (n := As.length) (bytes := bytes) (maxL := maxL) (rm := tkRm d' mc ms) ⟨hx, hb, hml, hown, hts⟩ (hcon l hst base D)
    ⟨⟨⟨rfl, rfl, hR2.1, hR2.2, tk_words hts hM.1, List.mem_cons_self⟩, hts _ hM.1, hts _ hM.2.1, ⟨hM.2.2.2.1, hM.2.2.2.2.1⟩, hM.len, hts _ hl1⟩, hy, hts _ hl2⟩
    ⟨tkPc.blind, tkPc.go hK hE hSS hR⟩ rfl rfl (by rw [← hml]; exact hl.1) hstk (lv_room h4) hd ⟨by rw [hRc]; exact h2, by rw [hRs]; exact h3⟩) hSS hl kr kt
/-- a static method with a table of handlers -/
def tkMthH (y : MethodName) (cc : ByteArray) (maxL : Nat) (ret : Option FieldType) (hh : List (Nat × Nat × Nat × Nat)) (n : Nat) : Prop :=
  Cond.codeWith y cc maxL ret hh ∈ tkAll ∧ Cond.initialized y.cls ∈ tkAll ∧ maxL ≤ 18 ∧ (y.cls ≠ "java/lang/invoke/MethodHandle" ∧ y.cls ≠ "java/lang/invoke/VarHandle" ∧ (parseMethodDescriptor y.desc).map (fun d => d.parameters.length) = some n)
theorem tkMthH.len {y : MethodName} {cc : ByteArray} {maxL n : Nat} {ret : Option FieldType} {hh : List (Nat × Nat × Nat × Nat)} (h : tkMthH y cc maxL ret hh n) : ∀ sig, parseMethodDescriptor y.desc = some sig → n = sig.parameters.length := by
  intro sig hs
  have h2 := h.2.2.2.2.2
  rw [hs] at h2
  exact (Option.some.inj h2).symm
theorem g_callSH (C : tkC X cc own nm nL ret hh d MC MS) {hh' : List (Nat × Nat × Nat × Nat)} (hd : decode cc pc = .ok (.invokestatic idx, 3)) (hM : tkMthH y bytes maxL ret' hh' As.length) (hl1 : Cond.methodLink own idx y ∈ tkAll) (hl2 : Cond.static y ∈ tkAll) (hcon : tkCon lo (.codeWith y bytes maxL ret' hh') y d' As σ I L mc ms out σ' I' L')
    (hstk : stk = As.reverse ++ rest) (hroom : d' + 1 ≤ d ∧ cs + mc ≤ MC ∧ ss + ms ≤ MS ∧ (rest.map fun v => v.category).sum ≤ 8)
    (kr : ∀ v n, out = .inl v → σ'.1 ≤ n → (lo = false → n = σ'.1) → tkG X Q (cs + mc) (ss + ms) (pc + 3) lv (v.toList ++ rest) (n, σ'.2) I' L')
    (kt : ∀ E n, out = .inr E → σ'.1 ≤ n → tkT X Q (cs + mc) (ss + ms) pc lv rest (n, σ'.2) I' L' E) : tkG X Q cs ss pc lv stk σ I L := by
  obtain ⟨p, l, e, R, s, m, args, below, meth, c, base, D⟩ := X
  obtain ⟨hx, hb, hml, hown, hts, hK, hE, hlocks, hr, hnm, hhh, hfr, hlo, hRc, hRs, hst⟩ := C
  intro H locs ls hSS hR hl
  obtain ⟨h1, h2, h3, h4⟩ := hroom
  have hR2 := tk_room (mc := mc) (ms := ms) h1 hM.2.2.1 hfr hlo
  exact tk_after (vx_runSX (hh := hh') (As := As) (rest := rest) (nL := nL) (n := As.length) (bytes := bytes) (maxL := maxL) (ret := ret') (rm := tkRm d' mc ms) ⟨hx, hb, hml, hown, hts⟩ (hcon l hst base D)
    ⟨⟨rfl, rfl, hR2.1, hR2.2, tk_words hts hM.1, List.mem_cons_self⟩, hts _ hM.1, hts _ hM.2.1, ⟨hM.2.2.2.1, hM.2.2.2.2.1⟩, hM.len, hts _ hl1, hts _ hl2⟩
    ⟨tkPc.blind, tkPc.go hK hE hSS hR⟩ rfl rfl (by rw [← hml]; exact hl.1) hstk (lv_room h4) hd ⟨by rw [hRc]; exact h2, by rw [hRs]; exact h3⟩) hSS hl kr kt
end TKCALL
section TKEND
variable {X : tkX} {Q : State → Prop} {cc : ByteArray} {own nm : String} {nL d MC MS cs ss pc : Nat} {ret : Option FieldType} {hh : List (Nat × Nat × Nat × Nat)} {lv : List (Option Value)} {stk : List Value} {σ σ' : tkM} {I I' : tkI} {L L' : tkL} {lo : Bool} {mc ms : Nat} {out : tkOut}
/-- what an end says: the answer, and the memory as told -/
def tkEnd (lo : Bool) (out : tkOut) (σ' : tkM) (I' : tkI) (L' : tkL) (v : Option Value) (σ : tkM) (I : tkI) (L : tkL) : Prop := out = .inl v ∧ (σ'.1 ≤ σ.1 ∧ (lo = false → σ.1 = σ'.1)) ∧ σ.2 = σ'.2 ∧ I = I' ∧ L = L'
theorem tkEnd.rf {out : tkOut} {v : Option Value} (h : out = .inl v) (hI : I = I') (hL : L = L') : tkEnd lo out σ I' L' v σ I L := ⟨h, ⟨Nat.le_refl _, fun _ => rfl⟩, rfl, hI, hL⟩
theorem tkQc.of {base : Nat} {D : va_G} {s t : State} {H : Heap} {locs : List Loc} {v : Option Value} {args : Array Value} (h : tkEnd lo out σ' I' L' v σ I L) (hS : va_S (fun q => base ≤ q) s.heap H locs) (hR : tkRel D base σ I L H) (ht : t.heap = H) : tkQc lo base D out σ' I' L' args s (.returned v) t := by
  obtain ⟨h1, ⟨h2, h3⟩, h4, h5, h6⟩ := h
  subst h5; subst h6
  refine ⟨⟨v, h1, rfl⟩, ⟨σ.1, h2, h3, ?_⟩, hS.F ht⟩
  rw [ht, ← h4]
  exact hR
theorem g_ireturn (C : tkC X cc own nm nL (some .int) hh d MC MS) {x : Int32} (hd : decode cc pc = .ok (.ireturn, 1)) (hz : cs ≤ mc ∧ ss ≤ ms) (h : tkEnd lo out σ' I' L' (some (.int x)) σ I L) : tkG X (tkQ lo X mc ms out σ' I' L') cs ss pc lv [.int x] σ I L := by
  obtain ⟨p, l, e, R, s, m, args, below, meth, c, base, D⟩ := X
  obtain ⟨hx, hb, hml, hown, hts, hK, hE, hlocks, hr, hnm, hhh, hfr, hlo, hRc, hRs, hst⟩ := C
  intro H locs ls hSS hR hl
  exact W.widen hz.1 hz.2 (vx_ret (W.iret hx hb hr (fun t ht hW => tkQc.of h hSS hR ht) hSS.2.2 hd hlocks))
theorem g_zreturn (C : tkC X cc own nm nL (some .boolean) hh d MC MS) {x : Int32} (hd : decode cc pc = .ok (.ireturn, 1)) (hz : cs ≤ mc ∧ ss ≤ ms) (h01 : x = 0 ∨ x = 1) (h : tkEnd lo out σ' I' L' (some (.int x)) σ I L) : tkG X (tkQ lo X mc ms out σ' I' L') cs ss pc lv [.int x] σ I L := by
  obtain ⟨p, l, e, R, s, m, args, below, meth, c, base, D⟩ := X
  obtain ⟨hx, hb, hml, hown, hts, hK, hE, hlocks, hr, hnm, hhh, hfr, hlo, hRc, hRs, hst⟩ := C
  intro H locs ls hSS hR hl
  exact W.widen hz.1 hz.2 (vx_ret (W.zret hx hb hr (by rcases h01 with rfl | rfl <;> rfl) (fun t ht hW => tkQc.of h hSS hR ht) hSS.2.2 hd hlocks))
theorem g_lreturn (C : tkC X cc own nm nL (some .long) hh d MC MS) {x : Int64} (hd : decode cc pc = .ok (.lreturn, 1)) (hz : cs ≤ mc ∧ ss ≤ ms) (h : tkEnd lo out σ' I' L' (some (.long x)) σ I L) : tkG X (tkQ lo X mc ms out σ' I' L') cs ss pc lv [.long x] σ I L := by
  obtain ⟨p, l, e, R, s, m, args, below, meth, c, base, D⟩ := X
  obtain ⟨hx, hb, hml, hown, hts, hK, hE, hlocks, hr, hnm, hhh, hfr, hlo, hRc, hRs, hst⟩ := C
  intro H locs ls hSS hR hl
  exact W.widen hz.1 hz.2 (vx_ret (W.lret hx hb hr (fun t ht hW => tkQc.of h hSS hR ht) hSS.2.2 hd hlocks))
theorem g_dreturn (C : tkC X cc own nm nL (some .double) hh d MC MS) {x : UInt64} (hd : decode cc pc = .ok (.dreturn, 1)) (hz : cs ≤ mc ∧ ss ≤ ms) (h : tkEnd lo out σ' I' L' (some (.double x)) σ I L) : tkG X (tkQ lo X mc ms out σ' I' L') cs ss pc lv [.double x] σ I L := by
  obtain ⟨p, l, e, R, s, m, args, below, meth, c, base, D⟩ := X
  obtain ⟨hx, hb, hml, hown, hts, hK, hE, hlocks, hr, hnm, hhh, hfr, hlo, hRc, hRs, hst⟩ := C
  intro H locs ls hSS hR hl
  exact W.widen hz.1 hz.2 (vx_ret (W.dret hx hb hr (fun t ht hW => tkQc.of h hSS hR ht) hSS.2.2 hd hlocks))
theorem g_return (C : tkC X cc own nm nL none hh d MC MS) (hd : decode cc pc = .ok (.return_, 1)) (hz : cs ≤ mc ∧ ss ≤ ms) (h : tkEnd lo out σ' I' L' none σ I L) : tkG X (tkQ lo X mc ms out σ' I' L') cs ss pc lv [] σ I L := by
  obtain ⟨p, l, e, R, s, m, args, below, meth, c, base, D⟩ := X
  obtain ⟨hx, hb, hml, hown, hts, hK, hE, hlocks, hr, hnm, hhh, hfr, hlo, hRc, hRs, hst⟩ := C
  intro H locs ls hSS hR hl
  exact W.widen hz.1 hz.2 (vx_ret (W.vret hx hb hr (fun t ht hW => tkQc.of h hSS hR ht) hSS.2.2 hd hlocks))
/-- thrown on, past a method without handlers -/
theorem g_out (C : tkC X cc own nm nL ret [] d MC MS) {E : String} (hz : cs ≤ mc ∧ ss ≤ ms) (ho : out = .inr E) (hσ : σ'.1 ≤ σ.1 ∧ σ.2 = σ'.2) (hI : I = I') (hL : L = L') : tkT X (tkQ lo X mc ms out σ' I' L') cs ss pc lv stk σ I L E := by
  obtain ⟨p, l, e, R, s, m, args, below, meth, c, base, D⟩ := X
  obtain ⟨hx, hb, hml, hown, hts, hK, hE, hlocks, hr, hnm, hhh, hfr, hlo, hRc, hRs, hst⟩ := C
  intro H locs ls q ce hSS hR hl hce hcv hcl
  subst hI; subst hL
  have hno : ∀ x ∈ c.exceptionTable.toList, covers x pc = false := by
    intro x hx9
    rw [hhh] at hx9
    cases hx9
  refine vx_out hno hlocks hce hcv hcl (fun t ht hW => ⟨ho, ⟨σ.1, hσ.1, ?_⟩, hSS.F ht⟩) hSS.2.2 hz.1 hz.2
  rw [ht, ← hσ.2]
  exact hR
/-- throw new E("text") -/
theorem g_throwS (C : tkC X cc RX5 nm nL ret [] d MC MS) {ik is ic : Nat} {E text : String} (d0 : decode cc pc = .ok (.new ik, 3)) (d3 : decode cc (pc + 3) = .ok (.dup, 1)) (d4 : decode cc (pc + 4) = .ok (.ldc is, 2)) (d6 : decode cc (pc + 6) = .ok (.invokespecial ic, 3)) (d9 : decode cc (pc + 9) = .ok (.athrow, 1))
    (hf : Bundle.fit E = true) (hk : Cond.classLink RX5 ik E ∈ tkAll) (hini : Cond.initialized E ∈ tkAll) (hstr : (is, text) ∈ tkStr) (hat : ∀ w ∈ vx_atS RX5 ic E ["java/lang/RuntimeException", "java/lang/Exception"], w ∈ tkAll)
    (hgood : ∀ w ∈ Cond.classLink RX5 ik E :: Cond.initialized E :: vx_atS RX5 ic E ["java/lang/RuntimeException", "java/lang/Exception"], vx_ot w = true)
    (hroom : 6 ≤ d ∧ cs + 1 ≤ MC ∧ ss + 6 ≤ MS ∧ (stk.map fun v => v.category).sum ≤ 8) (hz : cs + 1 ≤ mc ∧ ss + 6 ≤ ms) (ho : out = .inr E) (hσ : σ'.1 ≤ σ.1 ∧ σ.2 = σ'.2) (hI : I = I') (hL : L = L') : tkG X (tkQ lo X mc ms out σ' I' L') cs ss pc lv stk σ I L := by
  obtain ⟨p, l, e, R, s, m, args, below, meth, c, base, D⟩ := X
  obtain ⟨hx, hb, hml, hown, hts, hK, hE, hlocks, hr, hnm, hhh, hfr, hlo, hRc, hRs, hst⟩ := C
  intro H locs ls hSS hR hl
  subst hI; subst hL
  obtain ⟨sa, hsa⟩ := hK.2.2.1 _ hstr
  have hno : ∀ x ∈ c.exceptionTable.toList, covers x (pc + 9) = false := by
    intro x hx9
    rw [hhh] at hx9
    cases hx9
  obtain ⟨r1, r2, r3, r4⟩ := hroom
  refine vx_throwS (own := RX5) (cls := E) (names := ["java/lang/RuntimeException", "java/lang/Exception"]) (text := text) (sa := sa) hx hb hst hown hf (by decide) (hts _ hk) (hts _ hini) hsa (fun w hw => hts w (hat w hw)) hgood hE.1 hE.2 hSS hl.1 d0 d3 d4 d6 d9 hno (by show 2 + 3 < R.frames; omega) (by show _ + (13 * (2 + 1) + 43) ≤ R.locals; omega) (by rw [hRc]; exact r2) (by rw [hRs]; exact r3) hlocks ?_ hSS.2.2 hz.1 hz.2
  intro t hal hsz hkeep
  refine ⟨ho, ⟨t.heap.size, Nat.le_trans hσ.1 (by rw [← hR.1]; exact hsz), ?_⟩, ?_⟩
  · rw [← hσ.2]
    exact hR.grow rfl (by rw [← hR.1]; exact hsz) hkeep
  · exact ⟨Nat.le_trans hSS.1 hsz, fun q h1 h2 => by rw [hkeep q (Nat.lt_of_lt_of_le h1 hSS.1)]; exact hSS.2.1 q h1 h2⟩
/-- caught -/
theorem g_catch (C : tkC X cc own nm nL ret hh d MC MS) {E name : String} (pre : List ExceptionTableEntry) (x : ExceptionTableEntry) (suf : List ExceptionTableEntry) (hsplit : tableOf hh = pre ++ x :: suf)
    (hpass : ∀ z ∈ pre, covers z pc = false ∨ (z.catchType ≠ 0 ∧ ∃ n9 : String, Cond.classLink own z.catchType n9 ∈ tkAll ∧ (E, n9) ∈ tkNc)) (hcov : covers x pc = true) (h0 : x.catchType ≠ 0) (hlink : Cond.classLink own x.catchType name ∈ tkAll) (hcast : Cond.castable E name ∈ tkAll)
    (kk : ∀ q : Nat, tkG X Q cs ss x.handlerPc lv [.ref q] σ I L) : tkT X Q cs ss pc lv stk σ I L E := by
  obtain ⟨p, l, e, R, s, m, args, below, meth, c, base, D⟩ := X
  obtain ⟨hx, hb, hml, hown, hts, hK, hE, hlocks, hr, hnm, hhh, hfr, hlo, hRc, hRs, hst⟩ := C
  intro H locs ls q ce hSS hR hl hce hcv hcl
  refine vx_catch hown pre x suf (by rw [hhh]; exact hsplit) (fun z hz => ?_) hcov h0 (hts _ hlink) (hts _ hcast) hce hcv hcl (kk q H locs ls hSS hR hl)
  rcases hpass z hz with h | ⟨h1, n9, h2, h3⟩
  · exact Or.inl h
  · exact Or.inr ⟨h1, n9, hts _ h2, hK.2.2.2 _ h3⟩
end TKEND
end
section
theorem ms_yX5_needTank : Cond.selects (MethodName.cls yX5_needTank) yX5_needTank yX5_needTank ∈ tkAll := tk_at 1 (by decide +kernel) (by decide +kernel)
theorem ms_yX5_needTankOrOutside : Cond.selects (MethodName.cls yX5_needTankOrOutside) yX5_needTankOrOutside yX5_needTankOrOutside ∈ tkAll := tk_at 2 (by decide +kernel) (by decide +kernel)
theorem ms_yX5_needSwitch : Cond.selects (MethodName.cls yX5_needSwitch) yX5_needSwitch yX5_needSwitch ∈ tkAll := tk_at 3 (by decide +kernel) (by decide +kernel)
theorem ms_yX5_needPump : Cond.selects (MethodName.cls yX5_needPump) yX5_needPump yX5_needPump ∈ tkAll := tk_at 4 (by decide +kernel) (by decide +kernel)
theorem ms_yX1_tick : Cond.selects (MethodName.cls yX1_tick) yX1_tick yX1_tick ∈ tkAll := tk_at 5 (by decide +kernel) (by decide +kernel)
theorem ms_yX2_move : Cond.selects (MethodName.cls yX2_move) yX2_move yX2_move ∈ tkAll := tk_at 6 (by decide +kernel) (by decide +kernel)
theorem ms_yX2_enter : Cond.selects (MethodName.cls yX2_enter) yX2_enter yX2_enter ∈ tkAll := tk_at 7 (by decide +kernel) (by decide +kernel)
theorem ms_yX1_repeatLast : Cond.selects (MethodName.cls yX1_repeatLast) yX1_repeatLast yX1_repeatLast ∈ tkAll := tk_at 8 (by decide +kernel) (by decide +kernel)
theorem ms_yX2_steadyTicksOf : Cond.selects (MethodName.cls yX2_steadyTicksOf) yX2_steadyTicksOf yX2_steadyTicksOf ∈ tkAll := tk_at 9 (by decide +kernel) (by decide +kernel)
theorem ms_yX5_needLogged : Cond.selects (MethodName.cls yX5_needLogged) yX5_needLogged yX5_needLogged ∈ tkAll := tk_at 10 (by decide +kernel) (by decide +kernel)
theorem ms_yX6_fail : Cond.selects (MethodName.cls yX6_fail) yX6_fail yX6_fail ∈ tkAll := tk_at 11 (by decide +kernel) (by decide +kernel)
theorem ms_yX6_isTank : Cond.selects (MethodName.cls yX6_isTank) yX6_isTank yX6_isTank ∈ tkAll := tk_at 12 (by decide +kernel) (by decide +kernel)
theorem ms_yX6_isSwitch : Cond.selects (MethodName.cls yX6_isSwitch) yX6_isSwitch yX6_isSwitch ∈ tkAll := tk_at 13 (by decide +kernel) (by decide +kernel)
theorem ms_yX6_isPump : Cond.selects (MethodName.cls yX6_isPump) yX6_isPump yX6_isPump ∈ tkAll := tk_at 14 (by decide +kernel) (by decide +kernel)
theorem ms_yX6_tick : Cond.selects (MethodName.cls yX6_tick) yX6_tick yX6_tick ∈ tkAll := tk_at 15 (by decide +kernel) (by decide +kernel)
theorem ms_yX6_turn : Cond.selects (MethodName.cls yX6_turn) yX6_turn yX6_turn ∈ tkAll := tk_at 16 (by decide +kernel) (by decide +kernel)
theorem ms_yX6_log : Cond.selects (MethodName.cls yX6_log) yX6_log yX6_log ∈ tkAll := tk_at 17 (by decide +kernel) (by decide +kernel)
theorem ms_yX6_pump : Cond.selects (MethodName.cls yX6_pump) yX6_pump yX6_pump ∈ tkAll := tk_at 18 (by decide +kernel) (by decide +kernel)
theorem ms_yX6_write : Cond.selects (MethodName.cls yX6_write) yX6_write yX6_write ∈ tkAll := tk_at 19 (by decide +kernel) (by decide +kernel)
theorem ms_yX6_put : Cond.selects (MethodName.cls yX6_put) yX6_put yX6_put ∈ tkAll := tk_at 20 (by decide +kernel) (by decide +kernel)
theorem ms_yX6_read : Cond.selects (MethodName.cls yX6_read) yX6_read yX6_read ∈ tkAll := tk_at 21 (by decide +kernel) (by decide +kernel)
theorem ms_yX6_take : Cond.selects (MethodName.cls yX6_take) yX6_take yX6_take ∈ tkAll := tk_at 22 (by decide +kernel) (by decide +kernel)
theorem ms_yX6_isLogged : Cond.selects (MethodName.cls yX6_isLogged) yX6_isLogged yX6_isLogged ∈ tkAll := tk_at 23 (by decide +kernel) (by decide +kernel)
theorem mi_L : Cond.initialized RL ∈ tkAll := tk_at 24 (by decide +kernel) (by decide +kernel)
theorem mi_X5 : Cond.initialized RX5 ∈ tkAll := tk_at 25 (by decide +kernel) (by decide +kernel)
theorem mi_X1 : Cond.initialized RX1 ∈ tkAll := tk_at 26 (by decide +kernel) (by decide +kernel)
theorem mi_X4 : Cond.initialized RX4 ∈ tkAll := tk_at 27 (by decide +kernel) (by decide +kernel)
theorem mi_X3 : Cond.initialized RX3 ∈ tkAll := tk_at 28 (by decide +kernel) (by decide +kernel)
theorem mi_X2 : Cond.initialized RX2 ∈ tkAll := tk_at 29 (by decide +kernel) (by decide +kernel)
theorem mi_X0 : Cond.initialized RX0 ∈ tkAll := tk_at 30 (by decide +kernel) (by decide +kernel)
theorem mi_X6 : Cond.initialized RX6 ∈ tkAll := tk_at 31 (by decide +kernel) (by decide +kernel)
theorem mi_java_lang_Throwable : Cond.initialized "java/lang/Throwable" ∈ tkAll := tk_at 32 (by decide +kernel) (by decide +kernel)
theorem mi_java_lang_Exception : Cond.initialized "java/lang/Exception" ∈ tkAll := tk_at 33 (by decide +kernel) (by decide +kernel)
theorem mi_java_lang_RuntimeException : Cond.initialized "java/lang/RuntimeException" ∈ tkAll := tk_at 34 (by decide +kernel) (by decide +kernel)
theorem mi_java_lang_IllegalArgumentException : Cond.initialized "java/lang/IllegalArgumentException" ∈ tkAll := tk_at 35 (by decide +kernel) (by decide +kernel)
theorem mi_java_lang_IllegalStateException : Cond.initialized "java/lang/IllegalStateException" ∈ tkAll := tk_at 36 (by decide +kernel) (by decide +kernel)
theorem mi_java_lang_IndexOutOfBoundsException : Cond.initialized "java/lang/IndexOutOfBoundsException" ∈ tkAll := tk_at 37 (by decide +kernel) (by decide +kernel)
theorem mi_J10 : Cond.initialized RJ10 ∈ tkAll := tk_at 38 (by decide +kernel) (by decide +kernel)
theorem mi_J9 : Cond.initialized RJ9 ∈ tkAll := tk_at 39 (by decide +kernel) (by decide +kernel)
theorem ml_L_8 : Cond.classLink RL 8 RX5 ∈ tkAll := tk_at 40 (by decide +kernel) (by decide +kernel)
theorem mn_X5 : Cond.instantiable RX5 4 ∈ tkAll := tk_at 41 (by decide +kernel) (by decide +kernel)
theorem ml_L_84 : Cond.methodLink RL 84 yX5_init ∈ tkAll := tk_at 42 (by decide +kernel) (by decide +kernel)
theorem mv_yX5_init : Cond.instanceMethod yX5_init ∈ tkAll := tk_at 43 (by decide +kernel) (by decide +kernel)
theorem mc_X5_init : Cond.code yX5_init cX5_init 1 none ∈ tkAll := tk_at 44 (by decide +kernel) (by decide +kernel)
theorem ml_X5_1 : Cond.methodLink RX5 1 objectInit ∈ tkAll := tk_at 45 (by decide +kernel) (by decide +kernel)
theorem mv_objectInit : Cond.instanceMethod objectInit ∈ tkAll := tk_at 46 (by decide +kernel) (by decide +kernel)
theorem mc_objectInit : Cond.code objectInit ⟨#[0xb1]⟩ 1 none ∈ tkAll := tk_at 47 (by decide +kernel) (by decide +kernel)
theorem ml_X5_7 : Cond.classLink RX5 7 RX1 ∈ tkAll := tk_at 48 (by decide +kernel) (by decide +kernel)
theorem mn_X1 : Cond.instantiable RX1 5 ∈ tkAll := tk_at 49 (by decide +kernel) (by decide +kernel)
theorem ml_X5_9 : Cond.methodLinkNest RX5 9 yX1_init RX5 ∈ tkAll := tk_at 50 (by decide +kernel) (by decide +kernel)
theorem mv_yX1_init : Cond.instanceMethod yX1_init ∈ tkAll := tk_at 51 (by decide +kernel) (by decide +kernel)
theorem mc_X1_init : Cond.code yX1_init cX1_init 1 none ∈ tkAll := tk_at 52 (by decide +kernel) (by decide +kernel)
theorem ml_X1_1 : Cond.methodLink RX1 1 objectInit ∈ tkAll := tk_at 53 (by decide +kernel) (by decide +kernel)
theorem ml_X1_7 : Cond.classLink RX1 7 RX4 ∈ tkAll := tk_at 54 (by decide +kernel) (by decide +kernel)
theorem mn_X4 : Cond.instantiable RX4 6 ∈ tkAll := tk_at 55 (by decide +kernel) (by decide +kernel)
theorem ml_X1_9 : Cond.methodLinkNest RX1 9 yX4_init RX5 ∈ tkAll := tk_at 56 (by decide +kernel) (by decide +kernel)
theorem mv_yX4_init : Cond.instanceMethod yX4_init ∈ tkAll := tk_at 57 (by decide +kernel) (by decide +kernel)
theorem mc_X4_init : Cond.code yX4_init cX4_init 1 none ∈ tkAll := tk_at 58 (by decide +kernel) (by decide +kernel)
theorem ml_X4_3 : Cond.methodLink RX4 3 objectInit ∈ tkAll := tk_at 59 (by decide +kernel) (by decide +kernel)
theorem ml_X4_28 : Cond.fieldLink RX4 28 "TankPlant$Tanks" "count" "I" ∈ tkAll := tk_at 60 (by decide +kernel) (by decide +kernel)
theorem ml_X5_51 : Cond.fieldLink RX5 51 "TankPlant$Tanks" "count" "I" ∈ tkAll := tk_at 61 (by decide +kernel) (by decide +kernel)
theorem ml_X4_9 : Cond.fieldLink RX4 9 "TankPlant$Tanks" "capacity" "[I" ∈ tkAll := tk_at 62 (by decide +kernel) (by decide +kernel)
theorem ml_X5_68 : Cond.fieldLink RX5 68 "TankPlant$Tanks" "capacity" "[I" ∈ tkAll := tk_at 63 (by decide +kernel) (by decide +kernel)
theorem ml_X2_88 : Cond.fieldLink RX2 88 "TankPlant$Tanks" "capacity" "[I" ∈ tkAll := tk_at 64 (by decide +kernel) (by decide +kernel)
theorem ml_X4_15 : Cond.fieldLink RX4 15 "TankPlant$Tanks" "level" "[I" ∈ tkAll := tk_at 65 (by decide +kernel) (by decide +kernel)
theorem ml_X3_35 : Cond.fieldLink RX3 35 "TankPlant$Tanks" "level" "[I" ∈ tkAll := tk_at 66 (by decide +kernel) (by decide +kernel)
theorem ml_X5_109 : Cond.fieldLink RX5 109 "TankPlant$Tanks" "level" "[I" ∈ tkAll := tk_at 67 (by decide +kernel) (by decide +kernel)
theorem ml_X2_77 : Cond.fieldLink RX2 77 "TankPlant$Tanks" "level" "[I" ∈ tkAll := tk_at 68 (by decide +kernel) (by decide +kernel)
theorem ml_X4_18 : Cond.fieldLink RX4 18 "TankPlant$Tanks" "leak" "[I" ∈ tkAll := tk_at 69 (by decide +kernel) (by decide +kernel)
theorem ml_X5_112 : Cond.fieldLink RX5 112 "TankPlant$Tanks" "leak" "[I" ∈ tkAll := tk_at 70 (by decide +kernel) (by decide +kernel)
theorem ml_X4_21 : Cond.fieldLink RX4 21 "TankPlant$Tanks" "levelSum" "[J" ∈ tkAll := tk_at 71 (by decide +kernel) (by decide +kernel)
theorem ml_X5_143 : Cond.fieldLink RX5 143 "TankPlant$Tanks" "levelSum" "[J" ∈ tkAll := tk_at 72 (by decide +kernel) (by decide +kernel)
theorem ml_X4_25 : Cond.fieldLink RX4 25 "TankPlant$Tanks" "before" "[I" ∈ tkAll := tk_at 73 (by decide +kernel) (by decide +kernel)
theorem ml_X3_46 : Cond.fieldLink RX3 46 "TankPlant$Tanks" "before" "[I" ∈ tkAll := tk_at 74 (by decide +kernel) (by decide +kernel)
theorem ma_int : Cond.arrayClass .int ∈ tkAll := tk_at 88 (by decide +kernel) (by decide +kernel)
theorem ma_long : Cond.arrayClass .long ∈ tkAll := tk_at 89 (by decide +kernel) (by decide +kernel)
theorem ml_X1_16 : Cond.classLink RX1 16 RX3 ∈ tkAll := tk_at 90 (by decide +kernel) (by decide +kernel)
theorem mn_X3 : Cond.instantiable RX3 5 ∈ tkAll := tk_at 91 (by decide +kernel) (by decide +kernel)
theorem ml_X1_18 : Cond.methodLinkNest RX1 18 yX3_init RX5 ∈ tkAll := tk_at 92 (by decide +kernel) (by decide +kernel)
theorem mv_yX3_init : Cond.instanceMethod yX3_init ∈ tkAll := tk_at 93 (by decide +kernel) (by decide +kernel)
theorem mc_X3_init : Cond.code yX3_init cX3_init 1 none ∈ tkAll := tk_at 94 (by decide +kernel) (by decide +kernel)
theorem ml_X3_3 : Cond.methodLink RX3 3 objectInit ∈ tkAll := tk_at 95 (by decide +kernel) (by decide +kernel)
theorem ml_X3_25 : Cond.fieldLink RX3 25 "TankPlant$Switches" "count" "I" ∈ tkAll := tk_at 96 (by decide +kernel) (by decide +kernel)
theorem ml_X5_78 : Cond.fieldLink RX5 78 "TankPlant$Switches" "count" "I" ∈ tkAll := tk_at 97 (by decide +kernel) (by decide +kernel)
theorem ml_X3_9 : Cond.fieldLink RX3 9 "TankPlant$Switches" "tank" "[I" ∈ tkAll := tk_at 98 (by decide +kernel) (by decide +kernel)
theorem ml_X3_15 : Cond.fieldLink RX3 15 "TankPlant$Switches" "low" "[I" ∈ tkAll := tk_at 99 (by decide +kernel) (by decide +kernel)
theorem ml_X3_18 : Cond.fieldLink RX3 18 "TankPlant$Switches" "high" "[I" ∈ tkAll := tk_at 100 (by decide +kernel) (by decide +kernel)
theorem ml_X3_21 : Cond.fieldLink RX3 21 "TankPlant$Switches" "on" "[Z" ∈ tkAll := tk_at 101 (by decide +kernel) (by decide +kernel)
theorem ml_X2_60 : Cond.fieldLink RX2 60 "TankPlant$Switches" "on" "[Z" ∈ tkAll := tk_at 102 (by decide +kernel) (by decide +kernel)
theorem ml_X5_147 : Cond.fieldLink RX5 147 "TankPlant$Switches" "on" "[Z" ∈ tkAll := tk_at 103 (by decide +kernel) (by decide +kernel)
theorem ma_boolean : Cond.arrayClass .boolean ∈ tkAll := tk_at 115 (by decide +kernel) (by decide +kernel)
theorem ml_X1_23 : Cond.classLink RX1 23 RX2 ∈ tkAll := tk_at 116 (by decide +kernel) (by decide +kernel)
theorem mn_X2 : Cond.instantiable RX2 13 ∈ tkAll := tk_at 117 (by decide +kernel) (by decide +kernel)
theorem ml_X1_25 : Cond.methodLinkNest RX1 25 yX2_init RX5 ∈ tkAll := tk_at 118 (by decide +kernel) (by decide +kernel)
theorem mv_yX2_init : Cond.instanceMethod yX2_init ∈ tkAll := tk_at 119 (by decide +kernel) (by decide +kernel)
theorem mc_X2_init : Cond.code yX2_init cX2_init 1 none ∈ tkAll := tk_at 120 (by decide +kernel) (by decide +kernel)
theorem ml_X2_3 : Cond.methodLink RX2 3 objectInit ∈ tkAll := tk_at 121 (by decide +kernel) (by decide +kernel)
theorem ml_X2_50 : Cond.fieldLink RX2 50 "TankPlant$Pumps" "count" "I" ∈ tkAll := tk_at 122 (by decide +kernel) (by decide +kernel)
theorem ml_X5_101 : Cond.fieldLink RX5 101 "TankPlant$Pumps" "count" "I" ∈ tkAll := tk_at 123 (by decide +kernel) (by decide +kernel)
theorem ml_X2_9 : Cond.fieldLink RX2 9 "TankPlant$Pumps" "from" "[I" ∈ tkAll := tk_at 124 (by decide +kernel) (by decide +kernel)
theorem ml_X2_15 : Cond.fieldLink RX2 15 "TankPlant$Pumps" "to" "[I" ∈ tkAll := tk_at 125 (by decide +kernel) (by decide +kernel)
theorem ml_X2_18 : Cond.fieldLink RX2 18 "TankPlant$Pumps" "rate" "[I" ∈ tkAll := tk_at 126 (by decide +kernel) (by decide +kernel)
theorem ml_X5_118 : Cond.fieldLink RX5 118 "TankPlant$Pumps" "rate" "[I" ∈ tkAll := tk_at 127 (by decide +kernel) (by decide +kernel)
theorem ml_X2_21 : Cond.fieldLink RX2 21 "TankPlant$Pumps" "lift" "[I" ∈ tkAll := tk_at 128 (by decide +kernel) (by decide +kernel)
theorem ml_X2_24 : Cond.fieldLink RX2 24 "TankPlant$Pumps" "control" "[I" ∈ tkAll := tk_at 129 (by decide +kernel) (by decide +kernel)
theorem ml_X2_27 : Cond.fieldLink RX2 27 "TankPlant$Pumps" "inverted" "[Z" ∈ tkAll := tk_at 130 (by decide +kernel) (by decide +kernel)
theorem ml_X2_31 : Cond.fieldLink RX2 31 "TankPlant$Pumps" "total" "[J" ∈ tkAll := tk_at 131 (by decide +kernel) (by decide +kernel)
theorem ml_X5_151 : Cond.fieldLink RX5 151 "TankPlant$Pumps" "total" "[J" ∈ tkAll := tk_at 132 (by decide +kernel) (by decide +kernel)
theorem ml_X2_35 : Cond.fieldLink RX2 35 "TankPlant$Pumps" "energy" "[J" ∈ tkAll := tk_at 133 (by decide +kernel) (by decide +kernel)
theorem ml_X5_154 : Cond.fieldLink RX5 154 "TankPlant$Pumps" "energy" "[J" ∈ tkAll := tk_at 134 (by decide +kernel) (by decide +kernel)
theorem ml_X2_38 : Cond.fieldLink RX2 38 "TankPlant$Pumps" "shortTicks" "[J" ∈ tkAll := tk_at 135 (by decide +kernel) (by decide +kernel)
theorem ml_X5_157 : Cond.fieldLink RX5 157 "TankPlant$Pumps" "shortTicks" "[J" ∈ tkAll := tk_at 136 (by decide +kernel) (by decide +kernel)
theorem ml_X2_41 : Cond.fieldLink RX2 41 "TankPlant$Pumps" "amount" "[I" ∈ tkAll := tk_at 137 (by decide +kernel) (by decide +kernel)
theorem ml_X2_44 : Cond.fieldLink RX2 44 "TankPlant$Pumps" "sourceLeft" "[I" ∈ tkAll := tk_at 138 (by decide +kernel) (by decide +kernel)
theorem ml_X2_47 : Cond.fieldLink RX2 47 "TankPlant$Pumps" "roomLeft" "[I" ∈ tkAll := tk_at 139 (by decide +kernel) (by decide +kernel)
theorem ml_X1_30 : Cond.classLink RX1 30 RX0 ∈ tkAll := tk_at 167 (by decide +kernel) (by decide +kernel)
theorem mn_X0 : Cond.instantiable RX0 3 ∈ tkAll := tk_at 168 (by decide +kernel) (by decide +kernel)
theorem ml_X1_32 : Cond.methodLinkNest RX1 32 yX0_init RX5 ∈ tkAll := tk_at 169 (by decide +kernel) (by decide +kernel)
theorem mv_yX0_init : Cond.instanceMethod yX0_init ∈ tkAll := tk_at 170 (by decide +kernel) (by decide +kernel)
theorem mc_X0_init : Cond.code yX0_init cX0_init 1 none ∈ tkAll := tk_at 171 (by decide +kernel) (by decide +kernel)
theorem ml_X0_3 : Cond.methodLink RX0 3 objectInit ∈ tkAll := tk_at 172 (by decide +kernel) (by decide +kernel)
theorem ml_X0_19 : Cond.fieldLink RX0 19 "TankPlant$ChangeLog" "count" "J" ∈ tkAll := tk_at 173 (by decide +kernel) (by decide +kernel)
theorem ml_X5_171 : Cond.fieldLink RX5 171 "TankPlant$ChangeLog" "count" "J" ∈ tkAll := tk_at 174 (by decide +kernel) (by decide +kernel)
theorem ml_X0_9 : Cond.fieldLink RX0 9 "TankPlant$ChangeLog" "times" "[J" ∈ tkAll := tk_at 175 (by decide +kernel) (by decide +kernel)
theorem ml_X5_178 : Cond.fieldLink RX5 178 "TankPlant$ChangeLog" "times" "[J" ∈ tkAll := tk_at 176 (by decide +kernel) (by decide +kernel)
theorem ml_X0_15 : Cond.fieldLink RX0 15 "TankPlant$ChangeLog" "numbers" "[I" ∈ tkAll := tk_at 177 (by decide +kernel) (by decide +kernel)
theorem ml_X5_184 : Cond.fieldLink RX5 184 "TankPlant$ChangeLog" "numbers" "[I" ∈ tkAll := tk_at 178 (by decide +kernel) (by decide +kernel)
theorem ml_X1_10 : Cond.fieldLink RX1 10 "TankPlant$Plant" "tanks" "LTankPlant$Tanks;" ∈ tkAll := tk_at 186 (by decide +kernel) (by decide +kernel)
theorem ml_X5_47 : Cond.fieldLink RX5 47 "TankPlant$Plant" "tanks" "LTankPlant$Tanks;" ∈ tkAll := tk_at 187 (by decide +kernel) (by decide +kernel)
theorem ml_X1_19 : Cond.fieldLink RX1 19 "TankPlant$Plant" "switches" "LTankPlant$Switches;" ∈ tkAll := tk_at 188 (by decide +kernel) (by decide +kernel)
theorem ml_X5_74 : Cond.fieldLink RX5 74 "TankPlant$Plant" "switches" "LTankPlant$Switches;" ∈ tkAll := tk_at 189 (by decide +kernel) (by decide +kernel)
theorem ml_X1_26 : Cond.fieldLink RX1 26 "TankPlant$Plant" "pumps" "LTankPlant$Pumps;" ∈ tkAll := tk_at 190 (by decide +kernel) (by decide +kernel)
theorem ml_X5_97 : Cond.fieldLink RX5 97 "TankPlant$Plant" "pumps" "LTankPlant$Pumps;" ∈ tkAll := tk_at 191 (by decide +kernel) (by decide +kernel)
theorem ml_X1_33 : Cond.fieldLink RX1 33 "TankPlant$Plant" "log" "LTankPlant$ChangeLog;" ∈ tkAll := tk_at 192 (by decide +kernel) (by decide +kernel)
theorem ml_X5_167 : Cond.fieldLink RX5 167 "TankPlant$Plant" "log" "LTankPlant$ChangeLog;" ∈ tkAll := tk_at 193 (by decide +kernel) (by decide +kernel)
theorem ml_X1_50 : Cond.fieldLink RX1 50 "TankPlant$Plant" "time" "J" ∈ tkAll := tk_at 194 (by decide +kernel) (by decide +kernel)
theorem ml_X5_139 : Cond.fieldLink RX5 139 "TankPlant$Plant" "time" "J" ∈ tkAll := tk_at 195 (by decide +kernel) (by decide +kernel)
theorem ml_X5_10 : Cond.fieldLink RX5 10 "TankPlant" "plant" "LTankPlant$Plant;" ∈ tkAll := tk_at 208 (by decide +kernel) (by decide +kernel)
theorem ml_X5_16 : Cond.fieldLink RX5 16 "TankPlant" "trial" "LTankPlant$Plant;" ∈ tkAll := tk_at 209 (by decide +kernel) (by decide +kernel)
theorem ml_X5_19 : Cond.fieldLink RX5 19 "TankPlant" "depots" "[LTankPlant$Plant;" ∈ tkAll := tk_at 210 (by decide +kernel) (by decide +kernel)
theorem ml_X5_23 : Cond.fieldLink RX5 23 "TankPlant" "depotCount" "I" ∈ tkAll := tk_at 211 (by decide +kernel) (by decide +kernel)
theorem ml_L_125 : Cond.methodLink RL 125 yX5_time ∈ tkAll := tk_at 221 (by decide +kernel) (by decide +kernel)
theorem mv_yX5_time : Cond.instanceMethod yX5_time ∈ tkAll := tk_at 222 (by decide +kernel) (by decide +kernel)
theorem ms_yX5_time : Cond.selects (MethodName.cls yX5_time) yX5_time yX5_time ∈ tkAll := tk_at 223 (by decide +kernel) (by decide +kernel)
theorem mc_X5_time : Cond.code yX5_time cX5_time 1 (some .long) ∈ tkAll := tk_at 224 (by decide +kernel) (by decide +kernel)
theorem ml_L_152 : Cond.methodLink RL 152 yX5_balance ∈ tkAll := tk_at 225 (by decide +kernel) (by decide +kernel)
theorem mv_yX5_balance : Cond.instanceMethod yX5_balance ∈ tkAll := tk_at 226 (by decide +kernel) (by decide +kernel)
theorem ms_yX5_balance : Cond.selects (MethodName.cls yX5_balance) yX5_balance yX5_balance ∈ tkAll := tk_at 227 (by decide +kernel) (by decide +kernel)
theorem mc_X5_balance : Cond.code yX5_balance cX5_balance 1 (some .long) ∈ tkAll := tk_at 228 (by decide +kernel) (by decide +kernel)
theorem ml_X5_160 : Cond.methodLink RX5 160 yX2_cameIn ∈ tkAll := tk_at 229 (by decide +kernel) (by decide +kernel)
theorem mv_yX2_cameIn : Cond.instanceMethod yX2_cameIn ∈ tkAll := tk_at 230 (by decide +kernel) (by decide +kernel)
theorem ms_yX2_cameIn : Cond.selects (MethodName.cls yX2_cameIn) yX2_cameIn yX2_cameIn ∈ tkAll := tk_at 231 (by decide +kernel) (by decide +kernel)
theorem mc_X2_cameIn : Cond.code yX2_cameIn cX2_cameIn 4 (some .long) ∈ tkAll := tk_at 232 (by decide +kernel) (by decide +kernel)
theorem ml_X5_164 : Cond.methodLink RX5 164 yX2_wentOut ∈ tkAll := tk_at 233 (by decide +kernel) (by decide +kernel)
theorem mv_yX2_wentOut : Cond.instanceMethod yX2_wentOut ∈ tkAll := tk_at 234 (by decide +kernel) (by decide +kernel)
theorem ms_yX2_wentOut : Cond.selects (MethodName.cls yX2_wentOut) yX2_wentOut yX2_wentOut ∈ tkAll := tk_at 235 (by decide +kernel) (by decide +kernel)
theorem mc_X2_wentOut : Cond.code yX2_wentOut cX2_wentOut 4 (some .long) ∈ tkAll := tk_at 236 (by decide +kernel) (by decide +kernel)
theorem ml_L_156 : Cond.methodLink RL 156 yX5_changeCount ∈ tkAll := tk_at 237 (by decide +kernel) (by decide +kernel)
theorem mv_yX5_changeCount : Cond.instanceMethod yX5_changeCount ∈ tkAll := tk_at 238 (by decide +kernel) (by decide +kernel)
theorem ms_yX5_changeCount : Cond.selects (MethodName.cls yX5_changeCount) yX5_changeCount yX5_changeCount ∈ tkAll := tk_at 239 (by decide +kernel) (by decide +kernel)
theorem mc_X5_changeCount : Cond.code yX5_changeCount cX5_changeCount 1 (some .long) ∈ tkAll := tk_at 240 (by decide +kernel) (by decide +kernel)
theorem ml_L_173 : Cond.methodLink RL 173 yX5_digest ∈ tkAll := tk_at 241 (by decide +kernel) (by decide +kernel)
theorem mv_yX5_digest : Cond.instanceMethod yX5_digest ∈ tkAll := tk_at 242 (by decide +kernel) (by decide +kernel)
theorem ms_yX5_digest : Cond.selects (MethodName.cls yX5_digest) yX5_digest yX5_digest ∈ tkAll := tk_at 243 (by decide +kernel) (by decide +kernel)
theorem mc_X5_digest : Cond.code yX5_digest cX5_digest 3 (some .long) ∈ tkAll := tk_at 244 (by decide +kernel) (by decide +kernel)
theorem ml_X5_191 : Cond.constantLong RX5 191 (67) ∈ tkAll := tk_at 245 (by decide +kernel) (by decide +kernel)
theorem ml_X5_193 : Cond.methodLink RX5 193 yX5_mix ∈ tkAll := tk_at 246 (by decide +kernel) (by decide +kernel)
theorem mt_yX5_mix : Cond.static yX5_mix ∈ tkAll := tk_at 247 (by decide +kernel) (by decide +kernel)
theorem mc_X5_mix : Cond.code yX5_mix cX5_mix 4 (some .long) ∈ tkAll := tk_at 248 (by decide +kernel) (by decide +kernel)
theorem ml_X5_227 : Cond.constantLong RX5 227 (31) ∈ tkAll := tk_at 249 (by decide +kernel) (by decide +kernel)
theorem ml_X5_197 : Cond.methodLink RX5 197 yX4_mixedInto ∈ tkAll := tk_at 250 (by decide +kernel) (by decide +kernel)
theorem mv_yX4_mixedInto : Cond.instanceMethod yX4_mixedInto ∈ tkAll := tk_at 251 (by decide +kernel) (by decide +kernel)
theorem ms_yX4_mixedInto : Cond.selects (MethodName.cls yX4_mixedInto) yX4_mixedInto yX4_mixedInto ∈ tkAll := tk_at 252 (by decide +kernel) (by decide +kernel)
theorem mc_X4_mixedInto : Cond.code yX4_mixedInto cX4_mixedInto 6 (some .long) ∈ tkAll := tk_at 253 (by decide +kernel) (by decide +kernel)
theorem ml_X4_54 : Cond.methodLinkNest RX4 54 yX5_mix RX5 ∈ tkAll := tk_at 254 (by decide +kernel) (by decide +kernel)
theorem ml_X5_201 : Cond.methodLink RX5 201 yX3_mixedInto ∈ tkAll := tk_at 255 (by decide +kernel) (by decide +kernel)
theorem mv_yX3_mixedInto : Cond.instanceMethod yX3_mixedInto ∈ tkAll := tk_at 256 (by decide +kernel) (by decide +kernel)
theorem ms_yX3_mixedInto : Cond.selects (MethodName.cls yX3_mixedInto) yX3_mixedInto yX3_mixedInto ∈ tkAll := tk_at 257 (by decide +kernel) (by decide +kernel)
theorem mc_X3_mixedInto : Cond.code yX3_mixedInto cX3_mixedInto 6 (some .long) ∈ tkAll := tk_at 258 (by decide +kernel) (by decide +kernel)
theorem ml_X3_57 : Cond.methodLinkNest RX3 57 yX5_mix RX5 ∈ tkAll := tk_at 259 (by decide +kernel) (by decide +kernel)
theorem ml_X5_202 : Cond.methodLink RX5 202 yX2_mixedInto ∈ tkAll := tk_at 260 (by decide +kernel) (by decide +kernel)
theorem mv_yX2_mixedInto : Cond.instanceMethod yX2_mixedInto ∈ tkAll := tk_at 261 (by decide +kernel) (by decide +kernel)
theorem ms_yX2_mixedInto : Cond.selects (MethodName.cls yX2_mixedInto) yX2_mixedInto yX2_mixedInto ∈ tkAll := tk_at 262 (by decide +kernel) (by decide +kernel)
theorem mc_X2_mixedInto : Cond.code yX2_mixedInto cX2_mixedInto 6 (some .long) ∈ tkAll := tk_at 263 (by decide +kernel) (by decide +kernel)
theorem ml_X2_103 : Cond.methodLinkNest RX2 103 yX5_mix RX5 ∈ tkAll := tk_at 264 (by decide +kernel) (by decide +kernel)
theorem ml_L_88 : Cond.methodLink RL 88 yL_addTank ∈ tkAll := tk_at 265 (by decide +kernel) (by decide +kernel)
theorem mt_yL_addTank : Cond.static yL_addTank ∈ tkAll := tk_at 266 (by decide +kernel) (by decide +kernel)
theorem mc_L_addTank : Cond.codeWith yL_addTank cL_addTank 6 (some .int) [(0, 12, 15, 13), (0, 12, 19, 15)] ∈ tkAll := tk_at 267 (by decide +kernel) (by decide +kernel)
theorem ml_L_13 : Cond.classLink RL 13 "java/lang/IllegalArgumentException" ∈ tkAll := tk_at 268 (by decide +kernel) (by decide +kernel)
theorem ml_L_15 : Cond.classLink RL 15 "java/lang/IllegalStateException" ∈ tkAll := tk_at 269 (by decide +kernel) (by decide +kernel)
theorem ml_L_7 : Cond.methodLink RL 7 yX5_addTank ∈ tkAll := tk_at 270 (by decide +kernel) (by decide +kernel)
theorem mv_yX5_addTank : Cond.instanceMethod yX5_addTank ∈ tkAll := tk_at 271 (by decide +kernel) (by decide +kernel)
theorem ms_yX5_addTank : Cond.selects (MethodName.cls yX5_addTank) yX5_addTank yX5_addTank ∈ tkAll := tk_at 272 (by decide +kernel) (by decide +kernel)
theorem mc_X5_addTank : Cond.code yX5_addTank cX5_addTank 4 (some .int) ∈ tkAll := tk_at 273 (by decide +kernel) (by decide +kernel)
theorem ml_X5_27 : Cond.constant RX5 27 (1000000000) ∈ tkAll := tk_at 274 (by decide +kernel) (by decide +kernel)
theorem ml_X5_28 : Cond.methodLink RX5 28 yX5_isWithin ∈ tkAll := tk_at 275 (by decide +kernel) (by decide +kernel)
theorem mt_yX5_isWithin : Cond.static yX5_isWithin ∈ tkAll := tk_at 276 (by decide +kernel) (by decide +kernel)
theorem mc_X5_isWithin : Cond.code yX5_isWithin cX5_isWithin 3 (some .boolean) ∈ tkAll := tk_at 277 (by decide +kernel) (by decide +kernel)
theorem ml_X5_32 : Cond.classLink RX5 32 "java/lang/IllegalArgumentException" ∈ tkAll := tk_at 278 (by decide +kernel) (by decide +kernel)
theorem mk_java_lang_IllegalArgumentException : Cond.castable "java/lang/IllegalArgumentException" "java/lang/IllegalArgumentException" ∈ tkAll := tk_at 280 (by decide +kernel) (by decide +kernel)
theorem ma_byte : Cond.arrayClass .byte ∈ tkAll := tk_at 345 (by decide +kernel) (by decide +kernel)
theorem ml_X5_39 : Cond.methodLink RX5 39 yX5_needAmount ∈ tkAll := tk_at 346 (by decide +kernel) (by decide +kernel)
theorem mt_yX5_needAmount : Cond.static yX5_needAmount ∈ tkAll := tk_at 347 (by decide +kernel) (by decide +kernel)
theorem mc_X5_needAmount : Cond.code yX5_needAmount cX5_needAmount 2 none ∈ tkAll := tk_at 348 (by decide +kernel) (by decide +kernel)
theorem ml_X5_43 : Cond.methodLink RX5 43 yX5_needLeak ∈ tkAll := tk_at 350 (by decide +kernel) (by decide +kernel)
theorem mt_yX5_needLeak : Cond.static yX5_needLeak ∈ tkAll := tk_at 351 (by decide +kernel) (by decide +kernel)
theorem mc_X5_needLeak : Cond.code yX5_needLeak cX5_needLeak 1 none ∈ tkAll := tk_at 352 (by decide +kernel) (by decide +kernel)
theorem ml_X5_220 : Cond.constant RX5 220 (1000000) ∈ tkAll := tk_at 353 (by decide +kernel) (by decide +kernel)
theorem ml_X5_56 : Cond.classLink RX5 56 "java/lang/IllegalStateException" ∈ tkAll := tk_at 355 (by decide +kernel) (by decide +kernel)
theorem mk_java_lang_IllegalStateException : Cond.castable "java/lang/IllegalStateException" "java/lang/IllegalStateException" ∈ tkAll := tk_at 357 (by decide +kernel) (by decide +kernel)
theorem ml_X5_61 : Cond.methodLink RX5 61 yX4_append ∈ tkAll := tk_at 371 (by decide +kernel) (by decide +kernel)
theorem mv_yX4_append : Cond.instanceMethod yX4_append ∈ tkAll := tk_at 372 (by decide +kernel) (by decide +kernel)
theorem ms_yX4_append : Cond.selects (MethodName.cls yX4_append) yX4_append yX4_append ∈ tkAll := tk_at 373 (by decide +kernel) (by decide +kernel)
theorem mc_X4_append : Cond.code yX4_append cX4_append 5 (some .int) ∈ tkAll := tk_at 374 (by decide +kernel) (by decide +kernel)
theorem ml_L_97 : Cond.methodLink RL 97 yL_addSwitch ∈ tkAll := tk_at 375 (by decide +kernel) (by decide +kernel)
theorem mt_yL_addSwitch : Cond.static yL_addSwitch ∈ tkAll := tk_at 376 (by decide +kernel) (by decide +kernel)
theorem mc_L_addSwitch : Cond.codeWith yL_addSwitch cL_addSwitch 6 (some .int) [(0, 12, 15, 20), (0, 12, 19, 13), (0, 12, 23, 15)] ∈ tkAll := tk_at 377 (by decide +kernel) (by decide +kernel)
theorem ml_L_20 : Cond.classLink RL 20 "java/lang/IndexOutOfBoundsException" ∈ tkAll := tk_at 378 (by decide +kernel) (by decide +kernel)
theorem ml_L_17 : Cond.methodLink RL 17 yX5_addSwitch ∈ tkAll := tk_at 379 (by decide +kernel) (by decide +kernel)
theorem mv_yX5_addSwitch : Cond.instanceMethod yX5_addSwitch ∈ tkAll := tk_at 380 (by decide +kernel) (by decide +kernel)
theorem ms_yX5_addSwitch : Cond.selects (MethodName.cls yX5_addSwitch) yX5_addSwitch yX5_addSwitch ∈ tkAll := tk_at 381 (by decide +kernel) (by decide +kernel)
theorem mc_X5_addSwitch : Cond.code yX5_addSwitch cX5_addSwitch 4 (some .int) ∈ tkAll := tk_at 382 (by decide +kernel) (by decide +kernel)
theorem ml_X5_65 : Cond.methodLink RX5 65 yX5_needTank ∈ tkAll := tk_at 383 (by decide +kernel) (by decide +kernel)
theorem mv_yX5_needTank : Cond.instanceMethod yX5_needTank ∈ tkAll := tk_at 385 (by decide +kernel) (by decide +kernel)
theorem mc_X5_needTank : Cond.code yX5_needTank cX5_needTank 2 none ∈ tkAll := tk_at 386 (by decide +kernel) (by decide +kernel)
theorem ml_X5_203 : Cond.classLink RX5 203 "java/lang/IndexOutOfBoundsException" ∈ tkAll := tk_at 387 (by decide +kernel) (by decide +kernel)
theorem mk_java_lang_IndexOutOfBoundsException : Cond.castable "java/lang/IndexOutOfBoundsException" "java/lang/IndexOutOfBoundsException" ∈ tkAll := tk_at 389 (by decide +kernel) (by decide +kernel)
theorem ml_X5_83 : Cond.methodLink RX5 83 yX3_append ∈ tkAll := tk_at 405 (by decide +kernel) (by decide +kernel)
theorem mv_yX3_append : Cond.instanceMethod yX3_append ∈ tkAll := tk_at 406 (by decide +kernel) (by decide +kernel)
theorem ms_yX3_append : Cond.selects (MethodName.cls yX3_append) yX3_append yX3_append ∈ tkAll := tk_at 407 (by decide +kernel) (by decide +kernel)
theorem mc_X3_append : Cond.code yX3_append cX3_append 5 (some .int) ∈ tkAll := tk_at 408 (by decide +kernel) (by decide +kernel)
theorem ml_L_100 : Cond.methodLink RL 100 yL_addPump ∈ tkAll := tk_at 409 (by decide +kernel) (by decide +kernel)
theorem mt_yL_addPump : Cond.static yL_addPump ∈ tkAll := tk_at 410 (by decide +kernel) (by decide +kernel)
theorem mc_L_addPump : Cond.codeWith yL_addPump cL_addPump 9 (some .int) [(0, 18, 21, 20), (0, 18, 25, 13), (0, 18, 29, 15)] ∈ tkAll := tk_at 411 (by decide +kernel) (by decide +kernel)
theorem ml_L_22 : Cond.methodLink RL 22 yX5_addPump ∈ tkAll := tk_at 412 (by decide +kernel) (by decide +kernel)
theorem mv_yX5_addPump : Cond.instanceMethod yX5_addPump ∈ tkAll := tk_at 413 (by decide +kernel) (by decide +kernel)
theorem ms_yX5_addPump : Cond.selects (MethodName.cls yX5_addPump) yX5_addPump yX5_addPump ∈ tkAll := tk_at 414 (by decide +kernel) (by decide +kernel)
theorem mc_X5_addPump : Cond.code yX5_addPump cX5_addPump 7 (some .int) ∈ tkAll := tk_at 415 (by decide +kernel) (by decide +kernel)
theorem ml_X5_84 : Cond.methodLink RX5 84 yX5_needTankOrOutside ∈ tkAll := tk_at 416 (by decide +kernel) (by decide +kernel)
theorem mv_yX5_needTankOrOutside : Cond.instanceMethod yX5_needTankOrOutside ∈ tkAll := tk_at 418 (by decide +kernel) (by decide +kernel)
theorem mc_X5_needTankOrOutside : Cond.code yX5_needTankOrOutside cX5_needTankOrOutside 2 none ∈ tkAll := tk_at 419 (by decide +kernel) (by decide +kernel)
theorem ml_X5_87 : Cond.methodLink RX5 87 yX5_needSwitch ∈ tkAll := tk_at 420 (by decide +kernel) (by decide +kernel)
theorem mv_yX5_needSwitch : Cond.instanceMethod yX5_needSwitch ∈ tkAll := tk_at 422 (by decide +kernel) (by decide +kernel)
theorem mc_X5_needSwitch : Cond.code yX5_needSwitch cX5_needSwitch 2 none ∈ tkAll := tk_at 423 (by decide +kernel) (by decide +kernel)
theorem ml_X5_92 : Cond.methodLink RX5 92 yX5_needRate ∈ tkAll := tk_at 426 (by decide +kernel) (by decide +kernel)
theorem mt_yX5_needRate : Cond.static yX5_needRate ∈ tkAll := tk_at 427 (by decide +kernel) (by decide +kernel)
theorem mc_X5_needRate : Cond.code yX5_needRate cX5_needRate 1 none ∈ tkAll := tk_at 428 (by decide +kernel) (by decide +kernel)
theorem ml_X5_106 : Cond.methodLink RX5 106 yX2_append ∈ tkAll := tk_at 432 (by decide +kernel) (by decide +kernel)
theorem mv_yX2_append : Cond.instanceMethod yX2_append ∈ tkAll := tk_at 433 (by decide +kernel) (by decide +kernel)
theorem ms_yX2_append : Cond.selects (MethodName.cls yX2_append) yX2_append yX2_append ∈ tkAll := tk_at 434 (by decide +kernel) (by decide +kernel)
theorem mc_X2_append : Cond.code yX2_append cX2_append 8 (some .int) ∈ tkAll := tk_at 435 (by decide +kernel) (by decide +kernel)
theorem ml_L_104 : Cond.methodLink RL 104 yL_setLevel ∈ tkAll := tk_at 436 (by decide +kernel) (by decide +kernel)
theorem mt_yL_setLevel : Cond.static yL_setLevel ∈ tkAll := tk_at 437 (by decide +kernel) (by decide +kernel)
theorem mc_L_setLevel : Cond.codeWith yL_setLevel cL_setLevel 5 (some .int) [(0, 10, 13, 20), (0, 10, 17, 13)] ∈ tkAll := tk_at 438 (by decide +kernel) (by decide +kernel)
theorem ml_L_26 : Cond.methodLink RL 26 yX5_setLevel ∈ tkAll := tk_at 439 (by decide +kernel) (by decide +kernel)
theorem mv_yX5_setLevel : Cond.instanceMethod yX5_setLevel ∈ tkAll := tk_at 440 (by decide +kernel) (by decide +kernel)
theorem ms_yX5_setLevel : Cond.selects (MethodName.cls yX5_setLevel) yX5_setLevel yX5_setLevel ∈ tkAll := tk_at 441 (by decide +kernel) (by decide +kernel)
theorem mc_X5_setLevel : Cond.code yX5_setLevel cX5_setLevel 4 (some .int) ∈ tkAll := tk_at 442 (by decide +kernel) (by decide +kernel)
theorem ml_L_108 : Cond.methodLink RL 108 yL_setLeak ∈ tkAll := tk_at 443 (by decide +kernel) (by decide +kernel)
theorem mt_yL_setLeak : Cond.static yL_setLeak ∈ tkAll := tk_at 444 (by decide +kernel) (by decide +kernel)
theorem mc_L_setLeak : Cond.codeWith yL_setLeak cL_setLeak 5 (some .int) [(0, 10, 13, 20), (0, 10, 17, 13)] ∈ tkAll := tk_at 445 (by decide +kernel) (by decide +kernel)
theorem ml_L_30 : Cond.methodLink RL 30 yX5_setLeak ∈ tkAll := tk_at 446 (by decide +kernel) (by decide +kernel)
theorem mv_yX5_setLeak : Cond.instanceMethod yX5_setLeak ∈ tkAll := tk_at 447 (by decide +kernel) (by decide +kernel)
theorem ms_yX5_setLeak : Cond.selects (MethodName.cls yX5_setLeak) yX5_setLeak yX5_setLeak ∈ tkAll := tk_at 448 (by decide +kernel) (by decide +kernel)
theorem mc_X5_setLeak : Cond.code yX5_setLeak cX5_setLeak 4 (some .int) ∈ tkAll := tk_at 449 (by decide +kernel) (by decide +kernel)
theorem ml_L_111 : Cond.methodLink RL 111 yL_setRate ∈ tkAll := tk_at 450 (by decide +kernel) (by decide +kernel)
theorem mt_yL_setRate : Cond.static yL_setRate ∈ tkAll := tk_at 451 (by decide +kernel) (by decide +kernel)
theorem mc_L_setRate : Cond.codeWith yL_setRate cL_setRate 5 (some .int) [(0, 10, 13, 20), (0, 10, 17, 13)] ∈ tkAll := tk_at 452 (by decide +kernel) (by decide +kernel)
theorem ml_L_33 : Cond.methodLink RL 33 yX5_setRate ∈ tkAll := tk_at 453 (by decide +kernel) (by decide +kernel)
theorem mv_yX5_setRate : Cond.instanceMethod yX5_setRate ∈ tkAll := tk_at 454 (by decide +kernel) (by decide +kernel)
theorem ms_yX5_setRate : Cond.selects (MethodName.cls yX5_setRate) yX5_setRate yX5_setRate ∈ tkAll := tk_at 455 (by decide +kernel) (by decide +kernel)
theorem mc_X5_setRate : Cond.code yX5_setRate cX5_setRate 4 (some .int) ∈ tkAll := tk_at 456 (by decide +kernel) (by decide +kernel)
theorem ml_X5_115 : Cond.methodLink RX5 115 yX5_needPump ∈ tkAll := tk_at 457 (by decide +kernel) (by decide +kernel)
theorem mv_yX5_needPump : Cond.instanceMethod yX5_needPump ∈ tkAll := tk_at 459 (by decide +kernel) (by decide +kernel)
theorem mc_X5_needPump : Cond.code yX5_needPump cX5_needPump 2 none ∈ tkAll := tk_at 460 (by decide +kernel) (by decide +kernel)
theorem ml_L_114 : Cond.methodLink RL 114 yL_run ∈ tkAll := tk_at 462 (by decide +kernel) (by decide +kernel)
theorem mt_yL_run : Cond.static yL_run ∈ tkAll := tk_at 463 (by decide +kernel) (by decide +kernel)
theorem mc_L_run : Cond.codeWith yL_run cL_run 4 (some .int) [(0, 9, 12, 13)] ∈ tkAll := tk_at 464 (by decide +kernel) (by decide +kernel)
theorem ml_L_36 : Cond.methodLink RL 36 yX5_run ∈ tkAll := tk_at 465 (by decide +kernel) (by decide +kernel)
theorem mv_yX5_run : Cond.instanceMethod yX5_run ∈ tkAll := tk_at 466 (by decide +kernel) (by decide +kernel)
theorem ms_yX5_run : Cond.selects (MethodName.cls yX5_run) yX5_run yX5_run ∈ tkAll := tk_at 467 (by decide +kernel) (by decide +kernel)
theorem mc_X5_run : Cond.code yX5_run cX5_run 2 (some .int) ∈ tkAll := tk_at 468 (by decide +kernel) (by decide +kernel)
theorem ml_X5_121 : Cond.methodLink RX5 121 yX5_needTicks ∈ tkAll := tk_at 469 (by decide +kernel) (by decide +kernel)
theorem mt_yX5_needTicks : Cond.static yX5_needTicks ∈ tkAll := tk_at 470 (by decide +kernel) (by decide +kernel)
theorem mc_X5_needTicks : Cond.code yX5_needTicks cX5_needTicks 2 none ∈ tkAll := tk_at 471 (by decide +kernel) (by decide +kernel)
theorem ml_X5_124 : Cond.methodLink RX5 124 yX1_advance ∈ tkAll := tk_at 473 (by decide +kernel) (by decide +kernel)
theorem mv_yX1_advance : Cond.instanceMethod yX1_advance ∈ tkAll := tk_at 474 (by decide +kernel) (by decide +kernel)
theorem ms_yX1_advance : Cond.selects (MethodName.cls yX1_advance) yX1_advance yX1_advance ∈ tkAll := tk_at 475 (by decide +kernel) (by decide +kernel)
theorem mc_X1_advance : Cond.code yX1_advance cX1_advance 4 (some .int) ∈ tkAll := tk_at 476 (by decide +kernel) (by decide +kernel)
theorem ml_X1_54 : Cond.methodLink RX1 54 yX1_tick ∈ tkAll := tk_at 477 (by decide +kernel) (by decide +kernel)
theorem mv_yX1_tick : Cond.instanceMethod yX1_tick ∈ tkAll := tk_at 479 (by decide +kernel) (by decide +kernel)
theorem mc_X1_tick : Cond.code yX1_tick cX1_tick 2 (some .int) ∈ tkAll := tk_at 480 (by decide +kernel) (by decide +kernel)
theorem ml_X1_70 : Cond.methodLink RX1 70 yX4_noteLevels ∈ tkAll := tk_at 481 (by decide +kernel) (by decide +kernel)
theorem mv_yX4_noteLevels : Cond.instanceMethod yX4_noteLevels ∈ tkAll := tk_at 482 (by decide +kernel) (by decide +kernel)
theorem ms_yX4_noteLevels : Cond.selects (MethodName.cls yX4_noteLevels) yX4_noteLevels yX4_noteLevels ∈ tkAll := tk_at 483 (by decide +kernel) (by decide +kernel)
theorem mc_X4_noteLevels : Cond.code yX4_noteLevels cX4_noteLevels 1 none ∈ tkAll := tk_at 484 (by decide +kernel) (by decide +kernel)
theorem ml_X4_32 : Cond.methodLink RX4 32 arraycopyName ∈ tkAll := tk_at 485 (by decide +kernel) (by decide +kernel)
theorem mt_arraycopyName : Cond.static arraycopyName ∈ tkAll := tk_at 486 (by decide +kernel) (by decide +kernel)
theorem mw_arraycopyName : Cond.native arraycopyName ∈ tkAll := tk_at 487 (by decide +kernel) (by decide +kernel)
theorem ml_X1_73 : Cond.methodLink RX1 73 yX3_follow ∈ tkAll := tk_at 488 (by decide +kernel) (by decide +kernel)
theorem mv_yX3_follow : Cond.instanceMethod yX3_follow ∈ tkAll := tk_at 489 (by decide +kernel) (by decide +kernel)
theorem ms_yX3_follow : Cond.selects (MethodName.cls yX3_follow) yX3_follow yX3_follow ∈ tkAll := tk_at 490 (by decide +kernel) (by decide +kernel)
theorem mc_X3_follow : Cond.code yX3_follow cX3_follow 9 (some .int) ∈ tkAll := tk_at 491 (by decide +kernel) (by decide +kernel)
theorem ml_X3_40 : Cond.methodLink RX3 40 yX0_note ∈ tkAll := tk_at 492 (by decide +kernel) (by decide +kernel)
theorem mv_yX0_note : Cond.instanceMethod yX0_note ∈ tkAll := tk_at 493 (by decide +kernel) (by decide +kernel)
theorem ms_yX0_note : Cond.selects (MethodName.cls yX0_note) yX0_note yX0_note ∈ tkAll := tk_at 494 (by decide +kernel) (by decide +kernel)
theorem mc_X0_note : Cond.code yX0_note cX0_note 5 none ∈ tkAll := tk_at 495 (by decide +kernel) (by decide +kernel)
theorem ml_X0_23 : Cond.constantLong RX0 23 (30) ∈ tkAll := tk_at 496 (by decide +kernel) (by decide +kernel)
theorem ml_X1_77 : Cond.methodLink RX1 77 yX2_moveAll ∈ tkAll := tk_at 497 (by decide +kernel) (by decide +kernel)
theorem mv_yX2_moveAll : Cond.instanceMethod yX2_moveAll ∈ tkAll := tk_at 498 (by decide +kernel) (by decide +kernel)
theorem ms_yX2_moveAll : Cond.selects (MethodName.cls yX2_moveAll) yX2_moveAll yX2_moveAll ∈ tkAll := tk_at 499 (by decide +kernel) (by decide +kernel)
theorem mc_X2_moveAll : Cond.code yX2_moveAll cX2_moveAll 4 none ∈ tkAll := tk_at 500 (by decide +kernel) (by decide +kernel)
theorem ml_X2_65 : Cond.methodLink RX2 65 yX2_isActive ∈ tkAll := tk_at 501 (by decide +kernel) (by decide +kernel)
theorem mv_yX2_isActive : Cond.instanceMethod yX2_isActive ∈ tkAll := tk_at 502 (by decide +kernel) (by decide +kernel)
theorem ms_yX2_isActive : Cond.selects (MethodName.cls yX2_isActive) yX2_isActive yX2_isActive ∈ tkAll := tk_at 503 (by decide +kernel) (by decide +kernel)
theorem mc_X2_isActive : Cond.code yX2_isActive cX2_isActive 4 (some .boolean) ∈ tkAll := tk_at 504 (by decide +kernel) (by decide +kernel)
theorem ml_X2_69 : Cond.methodLink RX2 69 yX2_move ∈ tkAll := tk_at 505 (by decide +kernel) (by decide +kernel)
theorem mv_yX2_move : Cond.instanceMethod yX2_move ∈ tkAll := tk_at 507 (by decide +kernel) (by decide +kernel)
theorem mc_X2_move : Cond.code yX2_move cX2_move 6 none ∈ tkAll := tk_at 508 (by decide +kernel) (by decide +kernel)
theorem ml_X2_82 : Cond.methodLink RX2 82 yJ9_min_7cf53 ∈ tkAll := tk_at 509 (by decide +kernel) (by decide +kernel)
theorem mt_yJ9_min_7cf53 : Cond.static yJ9_min_7cf53 ∈ tkAll := tk_at 510 (by decide +kernel) (by decide +kernel)
theorem mc_J9_min_7cf53 : Cond.code yJ9_min_7cf53 cJ9_min_7cf53 2 (some .int) ∈ tkAll := tk_at 511 (by decide +kernel) (by decide +kernel)
theorem ml_X2_73 : Cond.methodLink RX2 73 yX2_enter ∈ tkAll := tk_at 512 (by decide +kernel) (by decide +kernel)
theorem mv_yX2_enter : Cond.instanceMethod yX2_enter ∈ tkAll := tk_at 514 (by decide +kernel) (by decide +kernel)
theorem mc_X2_enter : Cond.code yX2_enter cX2_enter 5 none ∈ tkAll := tk_at 515 (by decide +kernel) (by decide +kernel)
theorem ml_X1_81 : Cond.methodLink RX1 81 yX4_leakAndSum ∈ tkAll := tk_at 516 (by decide +kernel) (by decide +kernel)
theorem mv_yX4_leakAndSum : Cond.instanceMethod yX4_leakAndSum ∈ tkAll := tk_at 517 (by decide +kernel) (by decide +kernel)
theorem ms_yX4_leakAndSum : Cond.selects (MethodName.cls yX4_leakAndSum) yX4_leakAndSum yX4_leakAndSum ∈ tkAll := tk_at 518 (by decide +kernel) (by decide +kernel)
theorem mc_X4_leakAndSum : Cond.code yX4_leakAndSum cX4_leakAndSum 2 none ∈ tkAll := tk_at 519 (by decide +kernel) (by decide +kernel)
theorem ml_X4_38 : Cond.methodLink RX4 38 yJ9_min_7cf53 ∈ tkAll := tk_at 520 (by decide +kernel) (by decide +kernel)
theorem ml_X1_58 : Cond.methodLink RX1 58 yX1_repeatLast ∈ tkAll := tk_at 521 (by decide +kernel) (by decide +kernel)
theorem mv_yX1_repeatLast : Cond.instanceMethod yX1_repeatLast ∈ tkAll := tk_at 523 (by decide +kernel) (by decide +kernel)
theorem mc_X1_repeatLast : Cond.code yX1_repeatLast cX1_repeatLast 3 (some .int) ∈ tkAll := tk_at 524 (by decide +kernel) (by decide +kernel)
theorem ml_X1_84 : Cond.methodLink RX1 84 yX3_steadyTicks ∈ tkAll := tk_at 525 (by decide +kernel) (by decide +kernel)
theorem mv_yX3_steadyTicks : Cond.instanceMethod yX3_steadyTicks ∈ tkAll := tk_at 526 (by decide +kernel) (by decide +kernel)
theorem ms_yX3_steadyTicks : Cond.selects (MethodName.cls yX3_steadyTicks) yX3_steadyTicks yX3_steadyTicks ∈ tkAll := tk_at 527 (by decide +kernel) (by decide +kernel)
theorem mc_X3_steadyTicks : Cond.code yX3_steadyTicks cX3_steadyTicks 7 (some .int) ∈ tkAll := tk_at 528 (by decide +kernel) (by decide +kernel)
theorem ml_X3_49 : Cond.methodLink RX3 49 yX4_drift ∈ tkAll := tk_at 529 (by decide +kernel) (by decide +kernel)
theorem mv_yX4_drift : Cond.instanceMethod yX4_drift ∈ tkAll := tk_at 530 (by decide +kernel) (by decide +kernel)
theorem ms_yX4_drift : Cond.selects (MethodName.cls yX4_drift) yX4_drift yX4_drift ∈ tkAll := tk_at 531 (by decide +kernel) (by decide +kernel)
theorem mc_X4_drift : Cond.code yX4_drift cX4_drift 2 (some .int) ∈ tkAll := tk_at 532 (by decide +kernel) (by decide +kernel)
theorem ml_X3_53 : Cond.methodLinkNest RX3 53 yX5_ticksWhile RX5 ∈ tkAll := tk_at 533 (by decide +kernel) (by decide +kernel)
theorem mt_yX5_ticksWhile : Cond.static yX5_ticksWhile ∈ tkAll := tk_at 534 (by decide +kernel) (by decide +kernel)
theorem mc_X5_ticksWhile : Cond.code yX5_ticksWhile cX5_ticksWhile 5 (some .int) ∈ tkAll := tk_at 535 (by decide +kernel) (by decide +kernel)
theorem ml_X5_229 : Cond.methodLink RX5 229 yJ9_min_f86c9 ∈ tkAll := tk_at 536 (by decide +kernel) (by decide +kernel)
theorem mt_yJ9_min_f86c9 : Cond.static yJ9_min_f86c9 ∈ tkAll := tk_at 537 (by decide +kernel) (by decide +kernel)
theorem mc_J9_min_f86c9 : Cond.code yJ9_min_f86c9 cJ9_min_f86c9 4 (some .long) ∈ tkAll := tk_at 538 (by decide +kernel) (by decide +kernel)
theorem ml_X1_88 : Cond.methodLink RX1 88 yX2_steadyTicks ∈ tkAll := tk_at 539 (by decide +kernel) (by decide +kernel)
theorem mv_yX2_steadyTicks : Cond.instanceMethod yX2_steadyTicks ∈ tkAll := tk_at 540 (by decide +kernel) (by decide +kernel)
theorem ms_yX2_steadyTicks : Cond.selects (MethodName.cls yX2_steadyTicks) yX2_steadyTicks yX2_steadyTicks ∈ tkAll := tk_at 541 (by decide +kernel) (by decide +kernel)
theorem mc_X2_steadyTicks : Cond.code yX2_steadyTicks cX2_steadyTicks 6 (some .int) ∈ tkAll := tk_at 542 (by decide +kernel) (by decide +kernel)
theorem ml_X2_91 : Cond.methodLink RX2 91 yX2_steadyTicksOf ∈ tkAll := tk_at 543 (by decide +kernel) (by decide +kernel)
theorem mv_yX2_steadyTicksOf : Cond.instanceMethod yX2_steadyTicksOf ∈ tkAll := tk_at 545 (by decide +kernel) (by decide +kernel)
theorem mc_X2_steadyTicksOf : Cond.code yX2_steadyTicksOf cX2_steadyTicksOf 7 (some .int) ∈ tkAll := tk_at 546 (by decide +kernel) (by decide +kernel)
theorem ml_X2_95 : Cond.methodLink RX2 95 yX4_drift ∈ tkAll := tk_at 547 (by decide +kernel) (by decide +kernel)
theorem ml_X2_99 : Cond.methodLinkNest RX2 99 yX5_ticksWhile RX5 ∈ tkAll := tk_at 548 (by decide +kernel) (by decide +kernel)
theorem ml_X1_91 : Cond.methodLink RX1 91 yX4_steadyTicks ∈ tkAll := tk_at 549 (by decide +kernel) (by decide +kernel)
theorem mv_yX4_steadyTicks : Cond.instanceMethod yX4_steadyTicks ∈ tkAll := tk_at 550 (by decide +kernel) (by decide +kernel)
theorem ms_yX4_steadyTicks : Cond.selects (MethodName.cls yX4_steadyTicks) yX4_steadyTicks yX4_steadyTicks ∈ tkAll := tk_at 551 (by decide +kernel) (by decide +kernel)
theorem mc_X4_steadyTicks : Cond.code yX4_steadyTicks cX4_steadyTicks 4 (some .int) ∈ tkAll := tk_at 552 (by decide +kernel) (by decide +kernel)
theorem ml_X4_44 : Cond.methodLink RX4 44 yX4_drift ∈ tkAll := tk_at 553 (by decide +kernel) (by decide +kernel)
theorem ml_X4_48 : Cond.methodLinkNest RX4 48 yX5_ticksWhile RX5 ∈ tkAll := tk_at 554 (by decide +kernel) (by decide +kernel)
theorem ml_X1_93 : Cond.methodLink RX1 93 yX2_repeat ∈ tkAll := tk_at 555 (by decide +kernel) (by decide +kernel)
theorem mv_yX2_repeat : Cond.instanceMethod yX2_repeat ∈ tkAll := tk_at 556 (by decide +kernel) (by decide +kernel)
theorem ms_yX2_repeat : Cond.selects (MethodName.cls yX2_repeat) yX2_repeat yX2_repeat ∈ tkAll := tk_at 557 (by decide +kernel) (by decide +kernel)
theorem mc_X2_repeat : Cond.code yX2_repeat cX2_repeat 4 none ∈ tkAll := tk_at 558 (by decide +kernel) (by decide +kernel)
theorem ml_X1_97 : Cond.methodLink RX1 97 yX4_repeat ∈ tkAll := tk_at 559 (by decide +kernel) (by decide +kernel)
theorem mv_yX4_repeat : Cond.instanceMethod yX4_repeat ∈ tkAll := tk_at 560 (by decide +kernel) (by decide +kernel)
theorem ms_yX4_repeat : Cond.selects (MethodName.cls yX4_repeat) yX4_repeat yX4_repeat ∈ tkAll := tk_at 561 (by decide +kernel) (by decide +kernel)
theorem mc_X4_repeat : Cond.code yX4_repeat cX4_repeat 6 none ∈ tkAll := tk_at 562 (by decide +kernel) (by decide +kernel)
theorem ml_X4_52 : Cond.constantLong RX4 52 (2) ∈ tkAll := tk_at 563 (by decide +kernel) (by decide +kernel)
theorem ml_L_118 : Cond.methodLink RL 118 yL_runUntil ∈ tkAll := tk_at 564 (by decide +kernel) (by decide +kernel)
theorem mt_yL_runUntil : Cond.static yL_runUntil ∈ tkAll := tk_at 565 (by decide +kernel) (by decide +kernel)
theorem mc_L_runUntil : Cond.codeWith yL_runUntil cL_runUntil 7 (some .int) [(0, 14, 17, 20), (0, 14, 21, 13)] ∈ tkAll := tk_at 566 (by decide +kernel) (by decide +kernel)
theorem ml_L_40 : Cond.methodLink RL 40 yX5_runUntil ∈ tkAll := tk_at 567 (by decide +kernel) (by decide +kernel)
theorem mv_yX5_runUntil : Cond.instanceMethod yX5_runUntil ∈ tkAll := tk_at 568 (by decide +kernel) (by decide +kernel)
theorem ms_yX5_runUntil : Cond.selects (MethodName.cls yX5_runUntil) yX5_runUntil yX5_runUntil ∈ tkAll := tk_at 569 (by decide +kernel) (by decide +kernel)
theorem mc_X5_runUntil : Cond.code yX5_runUntil cX5_runUntil 5 (some .int) ∈ tkAll := tk_at 570 (by decide +kernel) (by decide +kernel)
theorem ml_X5_128 : Cond.methodLink RX5 128 yX1_advanceUntil ∈ tkAll := tk_at 571 (by decide +kernel) (by decide +kernel)
theorem mv_yX1_advanceUntil : Cond.instanceMethod yX1_advanceUntil ∈ tkAll := tk_at 572 (by decide +kernel) (by decide +kernel)
theorem ms_yX1_advanceUntil : Cond.selects (MethodName.cls yX1_advanceUntil) yX1_advanceUntil yX1_advanceUntil ∈ tkAll := tk_at 573 (by decide +kernel) (by decide +kernel)
theorem mc_X1_advanceUntil : Cond.code yX1_advanceUntil cX1_advanceUntil 6 (some .int) ∈ tkAll := tk_at 574 (by decide +kernel) (by decide +kernel)
theorem ml_X1_62 : Cond.methodLink RX1 62 yX4_hasReached ∈ tkAll := tk_at 575 (by decide +kernel) (by decide +kernel)
theorem mv_yX4_hasReached : Cond.instanceMethod yX4_hasReached ∈ tkAll := tk_at 576 (by decide +kernel) (by decide +kernel)
theorem ms_yX4_hasReached : Cond.selects (MethodName.cls yX4_hasReached) yX4_hasReached yX4_hasReached ∈ tkAll := tk_at 577 (by decide +kernel) (by decide +kernel)
theorem mc_X4_hasReached : Cond.code yX4_hasReached cX4_hasReached 4 (some .boolean) ∈ tkAll := tk_at 578 (by decide +kernel) (by decide +kernel)
theorem ml_X1_66 : Cond.methodLink RX1 66 yX4_ticksShortOf ∈ tkAll := tk_at 579 (by decide +kernel) (by decide +kernel)
theorem mv_yX4_ticksShortOf : Cond.instanceMethod yX4_ticksShortOf ∈ tkAll := tk_at 580 (by decide +kernel) (by decide +kernel)
theorem ms_yX4_ticksShortOf : Cond.selects (MethodName.cls yX4_ticksShortOf) yX4_ticksShortOf yX4_ticksShortOf ∈ tkAll := tk_at 581 (by decide +kernel) (by decide +kernel)
theorem mc_X4_ticksShortOf : Cond.code yX4_ticksShortOf cX4_ticksShortOf 9 (some .int) ∈ tkAll := tk_at 582 (by decide +kernel) (by decide +kernel)
theorem ml_L_122 : Cond.methodLink RL 122 yL_nextChange ∈ tkAll := tk_at 583 (by decide +kernel) (by decide +kernel)
theorem mt_yL_nextChange : Cond.static yL_nextChange ∈ tkAll := tk_at 584 (by decide +kernel) (by decide +kernel)
theorem mc_L_nextChange : Cond.codeWith yL_nextChange cL_nextChange 4 (some .int) [(0, 9, 12, 13)] ∈ tkAll := tk_at 585 (by decide +kernel) (by decide +kernel)
theorem ml_L_44 : Cond.methodLink RL 44 yX5_nextChange ∈ tkAll := tk_at 586 (by decide +kernel) (by decide +kernel)
theorem mv_yX5_nextChange : Cond.instanceMethod yX5_nextChange ∈ tkAll := tk_at 587 (by decide +kernel) (by decide +kernel)
theorem ms_yX5_nextChange : Cond.selects (MethodName.cls yX5_nextChange) yX5_nextChange yX5_nextChange ∈ tkAll := tk_at 588 (by decide +kernel) (by decide +kernel)
theorem mc_X5_nextChange : Cond.code yX5_nextChange cX5_nextChange 2 (some .int) ∈ tkAll := tk_at 589 (by decide +kernel) (by decide +kernel)
theorem ml_X5_132 : Cond.methodLink RX5 132 yX1_copyFrom ∈ tkAll := tk_at 590 (by decide +kernel) (by decide +kernel)
theorem mv_yX1_copyFrom : Cond.instanceMethod yX1_copyFrom ∈ tkAll := tk_at 591 (by decide +kernel) (by decide +kernel)
theorem ms_yX1_copyFrom : Cond.selects (MethodName.cls yX1_copyFrom) yX1_copyFrom yX1_copyFrom ∈ tkAll := tk_at 592 (by decide +kernel) (by decide +kernel)
theorem mc_X1_copyFrom : Cond.code yX1_copyFrom cX1_copyFrom 2 none ∈ tkAll := tk_at 593 (by decide +kernel) (by decide +kernel)
theorem ml_X1_37 : Cond.methodLink RX1 37 yX4_copyFrom ∈ tkAll := tk_at 594 (by decide +kernel) (by decide +kernel)
theorem mv_yX4_copyFrom : Cond.instanceMethod yX4_copyFrom ∈ tkAll := tk_at 595 (by decide +kernel) (by decide +kernel)
theorem ms_yX4_copyFrom : Cond.selects (MethodName.cls yX4_copyFrom) yX4_copyFrom yX4_copyFrom ∈ tkAll := tk_at 596 (by decide +kernel) (by decide +kernel)
theorem mc_X4_copyFrom : Cond.code yX4_copyFrom cX4_copyFrom 2 none ∈ tkAll := tk_at 597 (by decide +kernel) (by decide +kernel)
theorem ml_X1_41 : Cond.methodLink RX1 41 yX3_copyFrom ∈ tkAll := tk_at 598 (by decide +kernel) (by decide +kernel)
theorem mv_yX3_copyFrom : Cond.instanceMethod yX3_copyFrom ∈ tkAll := tk_at 599 (by decide +kernel) (by decide +kernel)
theorem ms_yX3_copyFrom : Cond.selects (MethodName.cls yX3_copyFrom) yX3_copyFrom yX3_copyFrom ∈ tkAll := tk_at 600 (by decide +kernel) (by decide +kernel)
theorem mc_X3_copyFrom : Cond.code yX3_copyFrom cX3_copyFrom 2 none ∈ tkAll := tk_at 601 (by decide +kernel) (by decide +kernel)
theorem ml_X3_29 : Cond.methodLink RX3 29 arraycopyName ∈ tkAll := tk_at 602 (by decide +kernel) (by decide +kernel)
theorem ml_X1_44 : Cond.methodLink RX1 44 yX2_copyFrom ∈ tkAll := tk_at 603 (by decide +kernel) (by decide +kernel)
theorem mv_yX2_copyFrom : Cond.instanceMethod yX2_copyFrom ∈ tkAll := tk_at 604 (by decide +kernel) (by decide +kernel)
theorem ms_yX2_copyFrom : Cond.selects (MethodName.cls yX2_copyFrom) yX2_copyFrom yX2_copyFrom ∈ tkAll := tk_at 605 (by decide +kernel) (by decide +kernel)
theorem mc_X2_copyFrom : Cond.code yX2_copyFrom cX2_copyFrom 2 none ∈ tkAll := tk_at 606 (by decide +kernel) (by decide +kernel)
theorem ml_X2_54 : Cond.methodLink RX2 54 arraycopyName ∈ tkAll := tk_at 607 (by decide +kernel) (by decide +kernel)
theorem ml_X1_47 : Cond.methodLink RX1 47 yX0_copyFrom ∈ tkAll := tk_at 608 (by decide +kernel) (by decide +kernel)
theorem mv_yX0_copyFrom : Cond.instanceMethod yX0_copyFrom ∈ tkAll := tk_at 609 (by decide +kernel) (by decide +kernel)
theorem ms_yX0_copyFrom : Cond.selects (MethodName.cls yX0_copyFrom) yX0_copyFrom yX0_copyFrom ∈ tkAll := tk_at 610 (by decide +kernel) (by decide +kernel)
theorem mc_X0_copyFrom : Cond.code yX0_copyFrom cX0_copyFrom 2 none ∈ tkAll := tk_at 611 (by decide +kernel) (by decide +kernel)
theorem ml_X0_35 : Cond.methodLink RX0 35 arraycopyName ∈ tkAll := tk_at 612 (by decide +kernel) (by decide +kernel)
theorem ml_X5_136 : Cond.methodLink RX5 136 yX1_advanceToChange ∈ tkAll := tk_at 613 (by decide +kernel) (by decide +kernel)
theorem mv_yX1_advanceToChange : Cond.instanceMethod yX1_advanceToChange ∈ tkAll := tk_at 614 (by decide +kernel) (by decide +kernel)
theorem ms_yX1_advanceToChange : Cond.selects (MethodName.cls yX1_advanceToChange) yX1_advanceToChange yX1_advanceToChange ∈ tkAll := tk_at 615 (by decide +kernel) (by decide +kernel)
theorem mc_X1_advanceToChange : Cond.code yX1_advanceToChange cX1_advanceToChange 3 (some .int) ∈ tkAll := tk_at 616 (by decide +kernel) (by decide +kernel)
theorem ml_L_130 : Cond.methodLink RL 130 yL_level ∈ tkAll := tk_at 617 (by decide +kernel) (by decide +kernel)
theorem mt_yL_level : Cond.static yL_level ∈ tkAll := tk_at 618 (by decide +kernel) (by decide +kernel)
theorem mc_L_level : Cond.codeWith yL_level cL_level 4 (some .int) [(0, 9, 12, 20)] ∈ tkAll := tk_at 619 (by decide +kernel) (by decide +kernel)
theorem ml_L_47 : Cond.methodLink RL 47 yX5_level ∈ tkAll := tk_at 620 (by decide +kernel) (by decide +kernel)
theorem mv_yX5_level : Cond.instanceMethod yX5_level ∈ tkAll := tk_at 621 (by decide +kernel) (by decide +kernel)
theorem ms_yX5_level : Cond.selects (MethodName.cls yX5_level) yX5_level yX5_level ∈ tkAll := tk_at 622 (by decide +kernel) (by decide +kernel)
theorem mc_X5_level : Cond.code yX5_level cX5_level 2 (some .int) ∈ tkAll := tk_at 623 (by decide +kernel) (by decide +kernel)
theorem ml_L_133 : Cond.methodLink RL 133 yL_levelSum ∈ tkAll := tk_at 624 (by decide +kernel) (by decide +kernel)
theorem mt_yL_levelSum : Cond.static yL_levelSum ∈ tkAll := tk_at 625 (by decide +kernel) (by decide +kernel)
theorem mc_L_levelSum : Cond.codeWith yL_levelSum cL_levelSum 4 (some .int) [(0, 8, 11, 20)] ∈ tkAll := tk_at 626 (by decide +kernel) (by decide +kernel)
theorem ml_L_50 : Cond.methodLink RL 50 yX5_levelSum ∈ tkAll := tk_at 627 (by decide +kernel) (by decide +kernel)
theorem mv_yX5_levelSum : Cond.instanceMethod yX5_levelSum ∈ tkAll := tk_at 628 (by decide +kernel) (by decide +kernel)
theorem ms_yX5_levelSum : Cond.selects (MethodName.cls yX5_levelSum) yX5_levelSum yX5_levelSum ∈ tkAll := tk_at 629 (by decide +kernel) (by decide +kernel)
theorem mc_X5_levelSum : Cond.code yX5_levelSum cX5_levelSum 2 (some .long) ∈ tkAll := tk_at 630 (by decide +kernel) (by decide +kernel)
theorem ml_L_136 : Cond.methodLink RL 136 yL_meanLevel ∈ tkAll := tk_at 631 (by decide +kernel) (by decide +kernel)
theorem mt_yL_meanLevel : Cond.static yL_meanLevel ∈ tkAll := tk_at 632 (by decide +kernel) (by decide +kernel)
theorem mc_L_meanLevel : Cond.codeWith yL_meanLevel cL_meanLevel 4 (some .int) [(0, 8, 11, 20)] ∈ tkAll := tk_at 633 (by decide +kernel) (by decide +kernel)
theorem ml_L_54 : Cond.methodLink RL 54 yX5_meanLevel ∈ tkAll := tk_at 634 (by decide +kernel) (by decide +kernel)
theorem mv_yX5_meanLevel : Cond.instanceMethod yX5_meanLevel ∈ tkAll := tk_at 635 (by decide +kernel) (by decide +kernel)
theorem ms_yX5_meanLevel : Cond.selects (MethodName.cls yX5_meanLevel) yX5_meanLevel yX5_meanLevel ∈ tkAll := tk_at 636 (by decide +kernel) (by decide +kernel)
theorem mc_X5_meanLevel : Cond.code yX5_meanLevel cX5_meanLevel 2 (some .double) ∈ tkAll := tk_at 637 (by decide +kernel) (by decide +kernel)
theorem ml_L_140 : Cond.methodLink RL 140 yL_isOn ∈ tkAll := tk_at 638 (by decide +kernel) (by decide +kernel)
theorem mt_yL_isOn : Cond.static yL_isOn ∈ tkAll := tk_at 639 (by decide +kernel) (by decide +kernel)
theorem mc_L_isOn : Cond.codeWith yL_isOn cL_isOn 4 (some .int) [(0, 16, 19, 20)] ∈ tkAll := tk_at 640 (by decide +kernel) (by decide +kernel)
theorem ml_L_58 : Cond.methodLink RL 58 yX5_isOn ∈ tkAll := tk_at 641 (by decide +kernel) (by decide +kernel)
theorem mv_yX5_isOn : Cond.instanceMethod yX5_isOn ∈ tkAll := tk_at 642 (by decide +kernel) (by decide +kernel)
theorem ms_yX5_isOn : Cond.selects (MethodName.cls yX5_isOn) yX5_isOn yX5_isOn ∈ tkAll := tk_at 643 (by decide +kernel) (by decide +kernel)
theorem mc_X5_isOn : Cond.code yX5_isOn cX5_isOn 2 (some .boolean) ∈ tkAll := tk_at 644 (by decide +kernel) (by decide +kernel)
theorem ml_L_143 : Cond.methodLink RL 143 yL_total ∈ tkAll := tk_at 645 (by decide +kernel) (by decide +kernel)
theorem mt_yL_total : Cond.static yL_total ∈ tkAll := tk_at 646 (by decide +kernel) (by decide +kernel)
theorem mc_L_total : Cond.codeWith yL_total cL_total 4 (some .int) [(0, 8, 11, 20)] ∈ tkAll := tk_at 647 (by decide +kernel) (by decide +kernel)
theorem ml_L_62 : Cond.methodLink RL 62 yX5_total ∈ tkAll := tk_at 648 (by decide +kernel) (by decide +kernel)
theorem mv_yX5_total : Cond.instanceMethod yX5_total ∈ tkAll := tk_at 649 (by decide +kernel) (by decide +kernel)
theorem ms_yX5_total : Cond.selects (MethodName.cls yX5_total) yX5_total yX5_total ∈ tkAll := tk_at 650 (by decide +kernel) (by decide +kernel)
theorem mc_X5_total : Cond.code yX5_total cX5_total 2 (some .long) ∈ tkAll := tk_at 651 (by decide +kernel) (by decide +kernel)
theorem ml_L_146 : Cond.methodLink RL 146 yL_energy ∈ tkAll := tk_at 652 (by decide +kernel) (by decide +kernel)
theorem mt_yL_energy : Cond.static yL_energy ∈ tkAll := tk_at 653 (by decide +kernel) (by decide +kernel)
theorem mc_L_energy : Cond.codeWith yL_energy cL_energy 4 (some .int) [(0, 8, 11, 20)] ∈ tkAll := tk_at 654 (by decide +kernel) (by decide +kernel)
theorem ml_L_65 : Cond.methodLink RL 65 yX5_energy ∈ tkAll := tk_at 655 (by decide +kernel) (by decide +kernel)
theorem mv_yX5_energy : Cond.instanceMethod yX5_energy ∈ tkAll := tk_at 656 (by decide +kernel) (by decide +kernel)
theorem ms_yX5_energy : Cond.selects (MethodName.cls yX5_energy) yX5_energy yX5_energy ∈ tkAll := tk_at 657 (by decide +kernel) (by decide +kernel)
theorem mc_X5_energy : Cond.code yX5_energy cX5_energy 2 (some .long) ∈ tkAll := tk_at 658 (by decide +kernel) (by decide +kernel)
theorem ml_L_149 : Cond.methodLink RL 149 yL_shortTicks ∈ tkAll := tk_at 659 (by decide +kernel) (by decide +kernel)
theorem mt_yL_shortTicks : Cond.static yL_shortTicks ∈ tkAll := tk_at 660 (by decide +kernel) (by decide +kernel)
theorem mc_L_shortTicks : Cond.codeWith yL_shortTicks cL_shortTicks 4 (some .int) [(0, 8, 11, 20)] ∈ tkAll := tk_at 661 (by decide +kernel) (by decide +kernel)
theorem ml_L_68 : Cond.methodLink RL 68 yX5_shortTicks ∈ tkAll := tk_at 662 (by decide +kernel) (by decide +kernel)
theorem mv_yX5_shortTicks : Cond.instanceMethod yX5_shortTicks ∈ tkAll := tk_at 663 (by decide +kernel) (by decide +kernel)
theorem ms_yX5_shortTicks : Cond.selects (MethodName.cls yX5_shortTicks) yX5_shortTicks yX5_shortTicks ∈ tkAll := tk_at 664 (by decide +kernel) (by decide +kernel)
theorem mc_X5_shortTicks : Cond.code yX5_shortTicks cX5_shortTicks 2 (some .long) ∈ tkAll := tk_at 665 (by decide +kernel) (by decide +kernel)
theorem ml_L_160 : Cond.methodLink RL 160 yL_changeTime ∈ tkAll := tk_at 666 (by decide +kernel) (by decide +kernel)
theorem mt_yL_changeTime : Cond.static yL_changeTime ∈ tkAll := tk_at 667 (by decide +kernel) (by decide +kernel)
theorem mc_L_changeTime : Cond.codeWith yL_changeTime cL_changeTime 4 (some .int) [(0, 8, 11, 20)] ∈ tkAll := tk_at 668 (by decide +kernel) (by decide +kernel)
theorem ml_L_71 : Cond.methodLink RL 71 yX5_changeTime ∈ tkAll := tk_at 669 (by decide +kernel) (by decide +kernel)
theorem mv_yX5_changeTime : Cond.instanceMethod yX5_changeTime ∈ tkAll := tk_at 670 (by decide +kernel) (by decide +kernel)
theorem ms_yX5_changeTime : Cond.selects (MethodName.cls yX5_changeTime) yX5_changeTime yX5_changeTime ∈ tkAll := tk_at 671 (by decide +kernel) (by decide +kernel)
theorem mc_X5_changeTime : Cond.code yX5_changeTime cX5_changeTime 2 (some .long) ∈ tkAll := tk_at 672 (by decide +kernel) (by decide +kernel)
theorem ml_X5_175 : Cond.methodLink RX5 175 yX5_needLogged ∈ tkAll := tk_at 673 (by decide +kernel) (by decide +kernel)
theorem mv_yX5_needLogged : Cond.instanceMethod yX5_needLogged ∈ tkAll := tk_at 675 (by decide +kernel) (by decide +kernel)
theorem mc_X5_needLogged : Cond.code yX5_needLogged cX5_needLogged 2 none ∈ tkAll := tk_at 676 (by decide +kernel) (by decide +kernel)
theorem ml_X5_212 : Cond.methodLink RX5 212 yX0_kept ∈ tkAll := tk_at 677 (by decide +kernel) (by decide +kernel)
theorem mv_yX0_kept : Cond.instanceMethod yX0_kept ∈ tkAll := tk_at 678 (by decide +kernel) (by decide +kernel)
theorem ms_yX0_kept : Cond.selects (MethodName.cls yX0_kept) yX0_kept yX0_kept ∈ tkAll := tk_at 679 (by decide +kernel) (by decide +kernel)
theorem mc_X0_kept : Cond.code yX0_kept cX0_kept 1 (some .int) ∈ tkAll := tk_at 680 (by decide +kernel) (by decide +kernel)
theorem ml_X0_25 : Cond.methodLink RX0 25 yJ9_min_f86c9 ∈ tkAll := tk_at 681 (by decide +kernel) (by decide +kernel)
theorem ml_X5_181 : Cond.methodLink RX5 181 yX0_slotOf ∈ tkAll := tk_at 683 (by decide +kernel) (by decide +kernel)
theorem mv_yX0_slotOf : Cond.instanceMethod yX0_slotOf ∈ tkAll := tk_at 684 (by decide +kernel) (by decide +kernel)
theorem ms_yX0_slotOf : Cond.selects (MethodName.cls yX0_slotOf) yX0_slotOf yX0_slotOf ∈ tkAll := tk_at 685 (by decide +kernel) (by decide +kernel)
theorem mc_X0_slotOf : Cond.code yX0_slotOf cX0_slotOf 2 (some .int) ∈ tkAll := tk_at 686 (by decide +kernel) (by decide +kernel)
theorem ml_X0_31 : Cond.methodLink RX0 31 yX0_kept ∈ tkAll := tk_at 687 (by decide +kernel) (by decide +kernel)
theorem ml_L_163 : Cond.methodLink RL 163 yL_changeSwitch ∈ tkAll := tk_at 688 (by decide +kernel) (by decide +kernel)
theorem mt_yL_changeSwitch : Cond.static yL_changeSwitch ∈ tkAll := tk_at 689 (by decide +kernel) (by decide +kernel)
theorem mc_L_changeSwitch : Cond.codeWith yL_changeSwitch cL_changeSwitch 4 (some .int) [(0, 9, 12, 20)] ∈ tkAll := tk_at 690 (by decide +kernel) (by decide +kernel)
theorem ml_L_74 : Cond.methodLink RL 74 yX5_changeSwitch ∈ tkAll := tk_at 691 (by decide +kernel) (by decide +kernel)
theorem mv_yX5_changeSwitch : Cond.instanceMethod yX5_changeSwitch ∈ tkAll := tk_at 692 (by decide +kernel) (by decide +kernel)
theorem ms_yX5_changeSwitch : Cond.selects (MethodName.cls yX5_changeSwitch) yX5_changeSwitch yX5_changeSwitch ∈ tkAll := tk_at 693 (by decide +kernel) (by decide +kernel)
theorem mc_X5_changeSwitch : Cond.code yX5_changeSwitch cX5_changeSwitch 2 (some .int) ∈ tkAll := tk_at 694 (by decide +kernel) (by decide +kernel)
theorem ml_L_166 : Cond.methodLink RL 166 yL_save ∈ tkAll := tk_at 695 (by decide +kernel) (by decide +kernel)
theorem mt_yL_save : Cond.static yL_save ∈ tkAll := tk_at 696 (by decide +kernel) (by decide +kernel)
theorem mc_L_save : Cond.codeWith yL_save cL_save 3 (some .int) [(0, 8, 11, 15)] ∈ tkAll := tk_at 697 (by decide +kernel) (by decide +kernel)
theorem ml_L_77 : Cond.methodLink RL 77 yX5_save ∈ tkAll := tk_at 698 (by decide +kernel) (by decide +kernel)
theorem mv_yX5_save : Cond.instanceMethod yX5_save ∈ tkAll := tk_at 699 (by decide +kernel) (by decide +kernel)
theorem ms_yX5_save : Cond.selects (MethodName.cls yX5_save) yX5_save yX5_save ∈ tkAll := tk_at 700 (by decide +kernel) (by decide +kernel)
theorem mc_X5_save : Cond.code yX5_save cX5_save 2 (some .int) ∈ tkAll := tk_at 701 (by decide +kernel) (by decide +kernel)
theorem ml_L_170 : Cond.methodLink RL 170 yL_restore ∈ tkAll := tk_at 703 (by decide +kernel) (by decide +kernel)
theorem mt_yL_restore : Cond.static yL_restore ∈ tkAll := tk_at 704 (by decide +kernel) (by decide +kernel)
theorem mc_L_restore : Cond.codeWith yL_restore cL_restore 3 (some .int) [(0, 8, 11, 15)] ∈ tkAll := tk_at 705 (by decide +kernel) (by decide +kernel)
theorem ml_L_81 : Cond.methodLink RL 81 yX5_restore ∈ tkAll := tk_at 706 (by decide +kernel) (by decide +kernel)
theorem mv_yX5_restore : Cond.instanceMethod yX5_restore ∈ tkAll := tk_at 707 (by decide +kernel) (by decide +kernel)
theorem ms_yX5_restore : Cond.selects (MethodName.cls yX5_restore) yX5_restore yX5_restore ∈ tkAll := tk_at 708 (by decide +kernel) (by decide +kernel)
theorem mc_X5_restore : Cond.code yX5_restore cX5_restore 2 (some .int) ∈ tkAll := tk_at 709 (by decide +kernel) (by decide +kernel)
theorem ml_L_85 : Cond.classLink RL 85 RX6 ∈ tkAll := tk_at 711 (by decide +kernel) (by decide +kernel)
theorem mn_X6 : Cond.instantiable RX6 29 ∈ tkAll := tk_at 712 (by decide +kernel) (by decide +kernel)
theorem ml_L_87 : Cond.methodLink RL 87 yX6_init ∈ tkAll := tk_at 713 (by decide +kernel) (by decide +kernel)
theorem mv_yX6_init : Cond.instanceMethod yX6_init ∈ tkAll := tk_at 714 (by decide +kernel) (by decide +kernel)
theorem mc_X6_init : Cond.code yX6_init cX6_init 1 none ∈ tkAll := tk_at 715 (by decide +kernel) (by decide +kernel)
theorem ml_X6_3 : Cond.methodLink RX6 3 objectInit ∈ tkAll := tk_at 716 (by decide +kernel) (by decide +kernel)
theorem ml_X6_72 : Cond.fieldLink RX6 72 "TankPlantModel" "thrown" "I" ∈ tkAll := tk_at 717 (by decide +kernel) (by decide +kernel)
theorem ml_X6_76 : Cond.fieldLink RX6 76 "TankPlantModel" "tanks" "I" ∈ tkAll := tk_at 718 (by decide +kernel) (by decide +kernel)
theorem ml_X6_9 : Cond.fieldLink RX6 9 "TankPlantModel" "capacities" "[I" ∈ tkAll := tk_at 719 (by decide +kernel) (by decide +kernel)
theorem ml_X6_79 : Cond.fieldLink RX6 79 "TankPlantModel" "switches" "I" ∈ tkAll := tk_at 720 (by decide +kernel) (by decide +kernel)
theorem ml_X6_13 : Cond.fieldLink RX6 13 "TankPlantModel" "watched" "[I" ∈ tkAll := tk_at 721 (by decide +kernel) (by decide +kernel)
theorem ml_X6_16 : Cond.fieldLink RX6 16 "TankPlantModel" "lows" "[I" ∈ tkAll := tk_at 722 (by decide +kernel) (by decide +kernel)
theorem ml_X6_19 : Cond.fieldLink RX6 19 "TankPlantModel" "highs" "[I" ∈ tkAll := tk_at 723 (by decide +kernel) (by decide +kernel)
theorem ml_X6_82 : Cond.fieldLink RX6 82 "TankPlantModel" "pumps" "I" ∈ tkAll := tk_at 724 (by decide +kernel) (by decide +kernel)
theorem ml_X6_22 : Cond.fieldLink RX6 22 "TankPlantModel" "froms" "[I" ∈ tkAll := tk_at 725 (by decide +kernel) (by decide +kernel)
theorem ml_X6_25 : Cond.fieldLink RX6 25 "TankPlantModel" "tos" "[I" ∈ tkAll := tk_at 726 (by decide +kernel) (by decide +kernel)
theorem ml_X6_28 : Cond.fieldLink RX6 28 "TankPlantModel" "lifts" "[I" ∈ tkAll := tk_at 727 (by decide +kernel) (by decide +kernel)
theorem ml_X6_31 : Cond.fieldLink RX6 31 "TankPlantModel" "controls" "[I" ∈ tkAll := tk_at 728 (by decide +kernel) (by decide +kernel)
theorem ml_X6_34 : Cond.fieldLink RX6 34 "TankPlantModel" "areInverted" "[Z" ∈ tkAll := tk_at 729 (by decide +kernel) (by decide +kernel)
theorem ml_X6_38 : Cond.fieldLink RX6 38 "TankPlantModel" "levels" "[I" ∈ tkAll := tk_at 730 (by decide +kernel) (by decide +kernel)
theorem ml_X6_41 : Cond.fieldLink RX6 41 "TankPlantModel" "leaks" "[I" ∈ tkAll := tk_at 731 (by decide +kernel) (by decide +kernel)
theorem ml_X6_44 : Cond.fieldLink RX6 44 "TankPlantModel" "sums" "[J" ∈ tkAll := tk_at 732 (by decide +kernel) (by decide +kernel)
theorem ml_X6_48 : Cond.fieldLink RX6 48 "TankPlantModel" "areOn" "[Z" ∈ tkAll := tk_at 733 (by decide +kernel) (by decide +kernel)
theorem ml_X6_51 : Cond.fieldLink RX6 51 "TankPlantModel" "rates" "[I" ∈ tkAll := tk_at 734 (by decide +kernel) (by decide +kernel)
theorem ml_X6_54 : Cond.fieldLink RX6 54 "TankPlantModel" "totals" "[J" ∈ tkAll := tk_at 735 (by decide +kernel) (by decide +kernel)
theorem ml_X6_57 : Cond.fieldLink RX6 57 "TankPlantModel" "energies" "[J" ∈ tkAll := tk_at 736 (by decide +kernel) (by decide +kernel)
theorem ml_X6_60 : Cond.fieldLink RX6 60 "TankPlantModel" "shorts" "[J" ∈ tkAll := tk_at 737 (by decide +kernel) (by decide +kernel)
theorem ml_X6_104 : Cond.fieldLink RX6 104 "TankPlantModel" "time" "J" ∈ tkAll := tk_at 738 (by decide +kernel) (by decide +kernel)
theorem ml_X6_108 : Cond.fieldLink RX6 108 "TankPlantModel" "changes" "J" ∈ tkAll := tk_at 739 (by decide +kernel) (by decide +kernel)
theorem ml_X6_101 : Cond.fieldLink RX6 101 "TankPlantModel" "logged" "I" ∈ tkAll := tk_at 740 (by decide +kernel) (by decide +kernel)
theorem ml_X6_63 : Cond.fieldLink RX6 63 "TankPlantModel" "logTimes" "[J" ∈ tkAll := tk_at 741 (by decide +kernel) (by decide +kernel)
theorem ml_X6_66 : Cond.fieldLink RX6 66 "TankPlantModel" "logSwitches" "[I" ∈ tkAll := tk_at 742 (by decide +kernel) (by decide +kernel)
theorem ml_X6_151 : Cond.fieldLink RX6 151 "TankPlantModel" "depots" "I" ∈ tkAll := tk_at 743 (by decide +kernel) (by decide +kernel)
theorem ml_X6_69 : Cond.fieldLink RX6 69 "TankPlantModel" "stored" "[J" ∈ tkAll := tk_at 744 (by decide +kernel) (by decide +kernel)
theorem ml_X6_140 : Cond.fieldLink RX6 140 "TankPlantModel" "at" "I" ∈ tkAll := tk_at 745 (by decide +kernel) (by decide +kernel)
theorem ml_L_94 : Cond.methodLink RL 94 yX6_thrown ∈ tkAll := tk_at 805 (by decide +kernel) (by decide +kernel)
theorem mv_yX6_thrown : Cond.instanceMethod yX6_thrown ∈ tkAll := tk_at 806 (by decide +kernel) (by decide +kernel)
theorem ms_yX6_thrown : Cond.selects (MethodName.cls yX6_thrown) yX6_thrown yX6_thrown ∈ tkAll := tk_at 807 (by decide +kernel) (by decide +kernel)
theorem mc_X6_thrown : Cond.code yX6_thrown cX6_thrown 1 (some .int) ∈ tkAll := tk_at 808 (by decide +kernel) (by decide +kernel)
theorem ml_L_93 : Cond.methodLink RL 93 yX6_addTank ∈ tkAll := tk_at 809 (by decide +kernel) (by decide +kernel)
theorem mv_yX6_addTank : Cond.instanceMethod yX6_addTank ∈ tkAll := tk_at 810 (by decide +kernel) (by decide +kernel)
theorem ms_yX6_addTank : Cond.selects (MethodName.cls yX6_addTank) yX6_addTank yX6_addTank ∈ tkAll := tk_at 811 (by decide +kernel) (by decide +kernel)
theorem mc_X6_addTank : Cond.code yX6_addTank cX6_addTank 4 (some .int) ∈ tkAll := tk_at 812 (by decide +kernel) (by decide +kernel)
theorem ml_X6_85 : Cond.constant RX6 85 (1000000000) ∈ tkAll := tk_at 813 (by decide +kernel) (by decide +kernel)
theorem ml_X6_86 : Cond.constant RX6 86 (1000000) ∈ tkAll := tk_at 814 (by decide +kernel) (by decide +kernel)
theorem ml_X6_87 : Cond.methodLink RX6 87 yX6_fail ∈ tkAll := tk_at 815 (by decide +kernel) (by decide +kernel)
theorem mv_yX6_fail : Cond.instanceMethod yX6_fail ∈ tkAll := tk_at 817 (by decide +kernel) (by decide +kernel)
theorem mc_X6_fail : Cond.code yX6_fail cX6_fail 2 (some .int) ∈ tkAll := tk_at 818 (by decide +kernel) (by decide +kernel)
theorem ml_L_99 : Cond.methodLink RL 99 yX6_addSwitch ∈ tkAll := tk_at 819 (by decide +kernel) (by decide +kernel)
theorem mv_yX6_addSwitch : Cond.instanceMethod yX6_addSwitch ∈ tkAll := tk_at 820 (by decide +kernel) (by decide +kernel)
theorem ms_yX6_addSwitch : Cond.selects (MethodName.cls yX6_addSwitch) yX6_addSwitch yX6_addSwitch ∈ tkAll := tk_at 821 (by decide +kernel) (by decide +kernel)
theorem mc_X6_addSwitch : Cond.code yX6_addSwitch cX6_addSwitch 4 (some .int) ∈ tkAll := tk_at 822 (by decide +kernel) (by decide +kernel)
theorem ml_X6_91 : Cond.methodLink RX6 91 yX6_isTank ∈ tkAll := tk_at 823 (by decide +kernel) (by decide +kernel)
theorem mv_yX6_isTank : Cond.instanceMethod yX6_isTank ∈ tkAll := tk_at 825 (by decide +kernel) (by decide +kernel)
theorem mc_X6_isTank : Cond.code yX6_isTank cX6_isTank 2 (some .boolean) ∈ tkAll := tk_at 826 (by decide +kernel) (by decide +kernel)
theorem ml_L_103 : Cond.methodLink RL 103 yX6_addPump ∈ tkAll := tk_at 827 (by decide +kernel) (by decide +kernel)
theorem mv_yX6_addPump : Cond.instanceMethod yX6_addPump ∈ tkAll := tk_at 828 (by decide +kernel) (by decide +kernel)
theorem ms_yX6_addPump : Cond.selects (MethodName.cls yX6_addPump) yX6_addPump yX6_addPump ∈ tkAll := tk_at 829 (by decide +kernel) (by decide +kernel)
theorem mc_X6_addPump : Cond.code yX6_addPump cX6_addPump 7 (some .int) ∈ tkAll := tk_at 830 (by decide +kernel) (by decide +kernel)
theorem ml_X6_95 : Cond.methodLink RX6 95 yX6_isSwitch ∈ tkAll := tk_at 831 (by decide +kernel) (by decide +kernel)
theorem mv_yX6_isSwitch : Cond.instanceMethod yX6_isSwitch ∈ tkAll := tk_at 833 (by decide +kernel) (by decide +kernel)
theorem mc_X6_isSwitch : Cond.code yX6_isSwitch cX6_isSwitch 2 (some .boolean) ∈ tkAll := tk_at 834 (by decide +kernel) (by decide +kernel)
theorem ml_L_107 : Cond.methodLink RL 107 yX6_setLevel ∈ tkAll := tk_at 835 (by decide +kernel) (by decide +kernel)
theorem mv_yX6_setLevel : Cond.instanceMethod yX6_setLevel ∈ tkAll := tk_at 836 (by decide +kernel) (by decide +kernel)
theorem ms_yX6_setLevel : Cond.selects (MethodName.cls yX6_setLevel) yX6_setLevel yX6_setLevel ∈ tkAll := tk_at 837 (by decide +kernel) (by decide +kernel)
theorem mc_X6_setLevel : Cond.code yX6_setLevel cX6_setLevel 4 (some .int) ∈ tkAll := tk_at 838 (by decide +kernel) (by decide +kernel)
theorem ml_L_110 : Cond.methodLink RL 110 yX6_setLeak ∈ tkAll := tk_at 839 (by decide +kernel) (by decide +kernel)
theorem mv_yX6_setLeak : Cond.instanceMethod yX6_setLeak ∈ tkAll := tk_at 840 (by decide +kernel) (by decide +kernel)
theorem ms_yX6_setLeak : Cond.selects (MethodName.cls yX6_setLeak) yX6_setLeak yX6_setLeak ∈ tkAll := tk_at 841 (by decide +kernel) (by decide +kernel)
theorem mc_X6_setLeak : Cond.code yX6_setLeak cX6_setLeak 4 (some .int) ∈ tkAll := tk_at 842 (by decide +kernel) (by decide +kernel)
theorem ml_L_113 : Cond.methodLink RL 113 yX6_setRate ∈ tkAll := tk_at 843 (by decide +kernel) (by decide +kernel)
theorem mv_yX6_setRate : Cond.instanceMethod yX6_setRate ∈ tkAll := tk_at 844 (by decide +kernel) (by decide +kernel)
theorem ms_yX6_setRate : Cond.selects (MethodName.cls yX6_setRate) yX6_setRate yX6_setRate ∈ tkAll := tk_at 845 (by decide +kernel) (by decide +kernel)
theorem mc_X6_setRate : Cond.code yX6_setRate cX6_setRate 4 (some .int) ∈ tkAll := tk_at 846 (by decide +kernel) (by decide +kernel)
theorem ml_X6_98 : Cond.methodLink RX6 98 yX6_isPump ∈ tkAll := tk_at 847 (by decide +kernel) (by decide +kernel)
theorem mv_yX6_isPump : Cond.instanceMethod yX6_isPump ∈ tkAll := tk_at 849 (by decide +kernel) (by decide +kernel)
theorem mc_X6_isPump : Cond.code yX6_isPump cX6_isPump 2 (some .boolean) ∈ tkAll := tk_at 850 (by decide +kernel) (by decide +kernel)
theorem ml_L_117 : Cond.methodLink RL 117 yX6_run ∈ tkAll := tk_at 851 (by decide +kernel) (by decide +kernel)
theorem mv_yX6_run : Cond.instanceMethod yX6_run ∈ tkAll := tk_at 852 (by decide +kernel) (by decide +kernel)
theorem ms_yX6_run : Cond.selects (MethodName.cls yX6_run) yX6_run yX6_run ∈ tkAll := tk_at 853 (by decide +kernel) (by decide +kernel)
theorem mc_X6_run : Cond.code yX6_run cX6_run 4 (some .int) ∈ tkAll := tk_at 854 (by decide +kernel) (by decide +kernel)
theorem ml_X6_128 : Cond.methodLink RX6 128 yX6_tick ∈ tkAll := tk_at 855 (by decide +kernel) (by decide +kernel)
theorem mv_yX6_tick : Cond.instanceMethod yX6_tick ∈ tkAll := tk_at 857 (by decide +kernel) (by decide +kernel)
theorem mc_X6_tick : Cond.code yX6_tick cX6_tick 3 (some .int) ∈ tkAll := tk_at 858 (by decide +kernel) (by decide +kernel)
theorem ml_X6_121 : Cond.methodLink RX6 121 yX6_turn ∈ tkAll := tk_at 859 (by decide +kernel) (by decide +kernel)
theorem mv_yX6_turn : Cond.instanceMethod yX6_turn ∈ tkAll := tk_at 861 (by decide +kernel) (by decide +kernel)
theorem mc_X6_turn : Cond.code yX6_turn cX6_turn 5 (some .int) ∈ tkAll := tk_at 862 (by decide +kernel) (by decide +kernel)
theorem ml_X6_111 : Cond.methodLink RX6 111 yX6_log ∈ tkAll := tk_at 863 (by decide +kernel) (by decide +kernel)
theorem mv_yX6_log : Cond.instanceMethod yX6_log ∈ tkAll := tk_at 865 (by decide +kernel) (by decide +kernel)
theorem mc_X6_log : Cond.code yX6_log cX6_log 3 none ∈ tkAll := tk_at 866 (by decide +kernel) (by decide +kernel)
theorem ml_X6_125 : Cond.methodLink RX6 125 yX6_pump ∈ tkAll := tk_at 867 (by decide +kernel) (by decide +kernel)
theorem mv_yX6_pump : Cond.instanceMethod yX6_pump ∈ tkAll := tk_at 869 (by decide +kernel) (by decide +kernel)
theorem mc_X6_pump : Cond.code yX6_pump cX6_pump 3 none ∈ tkAll := tk_at 870 (by decide +kernel) (by decide +kernel)
theorem ml_X6_115 : Cond.methodLink RX6 115 yJ9_min_7cf53 ∈ tkAll := tk_at 871 (by decide +kernel) (by decide +kernel)
theorem ml_L_121 : Cond.methodLink RL 121 yX6_runUntil ∈ tkAll := tk_at 872 (by decide +kernel) (by decide +kernel)
theorem mv_yX6_runUntil : Cond.instanceMethod yX6_runUntil ∈ tkAll := tk_at 873 (by decide +kernel) (by decide +kernel)
theorem ms_yX6_runUntil : Cond.selects (MethodName.cls yX6_runUntil) yX6_runUntil yX6_runUntil ∈ tkAll := tk_at 874 (by decide +kernel) (by decide +kernel)
theorem mc_X6_runUntil : Cond.code yX6_runUntil cX6_runUntil 6 (some .int) ∈ tkAll := tk_at 875 (by decide +kernel) (by decide +kernel)
theorem ml_L_124 : Cond.methodLink RL 124 yX6_nextChange ∈ tkAll := tk_at 876 (by decide +kernel) (by decide +kernel)
theorem mv_yX6_nextChange : Cond.instanceMethod yX6_nextChange ∈ tkAll := tk_at 877 (by decide +kernel) (by decide +kernel)
theorem ms_yX6_nextChange : Cond.selects (MethodName.cls yX6_nextChange) yX6_nextChange yX6_nextChange ∈ tkAll := tk_at 878 (by decide +kernel) (by decide +kernel)
theorem mc_X6_nextChange : Cond.code yX6_nextChange cX6_nextChange 4 (some .int) ∈ tkAll := tk_at 879 (by decide +kernel) (by decide +kernel)
theorem ml_X6_131 : Cond.methodLink RX6 131 yX6_write ∈ tkAll := tk_at 880 (by decide +kernel) (by decide +kernel)
theorem mv_yX6_write : Cond.instanceMethod yX6_write ∈ tkAll := tk_at 882 (by decide +kernel) (by decide +kernel)
theorem mc_X6_write : Cond.code yX6_write cX6_write 3 none ∈ tkAll := tk_at 883 (by decide +kernel) (by decide +kernel)
theorem ml_X6_143 : Cond.methodLink RX6 143 yX6_put ∈ tkAll := tk_at 884 (by decide +kernel) (by decide +kernel)
theorem mv_yX6_put : Cond.instanceMethod yX6_put ∈ tkAll := tk_at 886 (by decide +kernel) (by decide +kernel)
theorem mc_X6_put : Cond.code yX6_put cX6_put 3 none ∈ tkAll := tk_at 887 (by decide +kernel) (by decide +kernel)
theorem ml_X6_134 : Cond.methodLink RX6 134 yX6_read ∈ tkAll := tk_at 888 (by decide +kernel) (by decide +kernel)
theorem mv_yX6_read : Cond.instanceMethod yX6_read ∈ tkAll := tk_at 890 (by decide +kernel) (by decide +kernel)
theorem mc_X6_read : Cond.code yX6_read cX6_read 3 none ∈ tkAll := tk_at 891 (by decide +kernel) (by decide +kernel)
theorem ml_X6_147 : Cond.methodLink RX6 147 yX6_take ∈ tkAll := tk_at 892 (by decide +kernel) (by decide +kernel)
theorem mv_yX6_take : Cond.instanceMethod yX6_take ∈ tkAll := tk_at 894 (by decide +kernel) (by decide +kernel)
theorem mc_X6_take : Cond.code yX6_take cX6_take 1 (some .long) ∈ tkAll := tk_at 895 (by decide +kernel) (by decide +kernel)
theorem ml_L_129 : Cond.methodLink RL 129 yX6_time ∈ tkAll := tk_at 896 (by decide +kernel) (by decide +kernel)
theorem mv_yX6_time : Cond.instanceMethod yX6_time ∈ tkAll := tk_at 897 (by decide +kernel) (by decide +kernel)
theorem ms_yX6_time : Cond.selects (MethodName.cls yX6_time) yX6_time yX6_time ∈ tkAll := tk_at 898 (by decide +kernel) (by decide +kernel)
theorem mc_X6_time : Cond.code yX6_time cX6_time 1 (some .long) ∈ tkAll := tk_at 899 (by decide +kernel) (by decide +kernel)
theorem ml_L_132 : Cond.methodLink RL 132 yX6_level ∈ tkAll := tk_at 900 (by decide +kernel) (by decide +kernel)
theorem mv_yX6_level : Cond.instanceMethod yX6_level ∈ tkAll := tk_at 901 (by decide +kernel) (by decide +kernel)
theorem ms_yX6_level : Cond.selects (MethodName.cls yX6_level) yX6_level yX6_level ∈ tkAll := tk_at 902 (by decide +kernel) (by decide +kernel)
theorem mc_X6_level : Cond.code yX6_level cX6_level 2 (some .int) ∈ tkAll := tk_at 903 (by decide +kernel) (by decide +kernel)
theorem ml_L_135 : Cond.methodLink RL 135 yX6_levelSum ∈ tkAll := tk_at 904 (by decide +kernel) (by decide +kernel)
theorem mv_yX6_levelSum : Cond.instanceMethod yX6_levelSum ∈ tkAll := tk_at 905 (by decide +kernel) (by decide +kernel)
theorem ms_yX6_levelSum : Cond.selects (MethodName.cls yX6_levelSum) yX6_levelSum yX6_levelSum ∈ tkAll := tk_at 906 (by decide +kernel) (by decide +kernel)
theorem mc_X6_levelSum : Cond.code yX6_levelSum cX6_levelSum 2 (some .long) ∈ tkAll := tk_at 907 (by decide +kernel) (by decide +kernel)
theorem ml_L_139 : Cond.methodLink RL 139 yX6_meanLevel ∈ tkAll := tk_at 908 (by decide +kernel) (by decide +kernel)
theorem mv_yX6_meanLevel : Cond.instanceMethod yX6_meanLevel ∈ tkAll := tk_at 909 (by decide +kernel) (by decide +kernel)
theorem ms_yX6_meanLevel : Cond.selects (MethodName.cls yX6_meanLevel) yX6_meanLevel yX6_meanLevel ∈ tkAll := tk_at 910 (by decide +kernel) (by decide +kernel)
theorem mc_X6_meanLevel : Cond.code yX6_meanLevel cX6_meanLevel 2 (some .double) ∈ tkAll := tk_at 911 (by decide +kernel) (by decide +kernel)
theorem ml_L_142 : Cond.methodLink RL 142 yX6_isOn ∈ tkAll := tk_at 912 (by decide +kernel) (by decide +kernel)
theorem mv_yX6_isOn : Cond.instanceMethod yX6_isOn ∈ tkAll := tk_at 913 (by decide +kernel) (by decide +kernel)
theorem ms_yX6_isOn : Cond.selects (MethodName.cls yX6_isOn) yX6_isOn yX6_isOn ∈ tkAll := tk_at 914 (by decide +kernel) (by decide +kernel)
theorem mc_X6_isOn : Cond.code yX6_isOn cX6_isOn 2 (some .boolean) ∈ tkAll := tk_at 915 (by decide +kernel) (by decide +kernel)
theorem ml_L_145 : Cond.methodLink RL 145 yX6_total ∈ tkAll := tk_at 916 (by decide +kernel) (by decide +kernel)
theorem mv_yX6_total : Cond.instanceMethod yX6_total ∈ tkAll := tk_at 917 (by decide +kernel) (by decide +kernel)
theorem ms_yX6_total : Cond.selects (MethodName.cls yX6_total) yX6_total yX6_total ∈ tkAll := tk_at 918 (by decide +kernel) (by decide +kernel)
theorem mc_X6_total : Cond.code yX6_total cX6_total 2 (some .long) ∈ tkAll := tk_at 919 (by decide +kernel) (by decide +kernel)
theorem ml_L_148 : Cond.methodLink RL 148 yX6_energy ∈ tkAll := tk_at 920 (by decide +kernel) (by decide +kernel)
theorem mv_yX6_energy : Cond.instanceMethod yX6_energy ∈ tkAll := tk_at 921 (by decide +kernel) (by decide +kernel)
theorem ms_yX6_energy : Cond.selects (MethodName.cls yX6_energy) yX6_energy yX6_energy ∈ tkAll := tk_at 922 (by decide +kernel) (by decide +kernel)
theorem mc_X6_energy : Cond.code yX6_energy cX6_energy 2 (some .long) ∈ tkAll := tk_at 923 (by decide +kernel) (by decide +kernel)
theorem ml_L_151 : Cond.methodLink RL 151 yX6_shortTicks ∈ tkAll := tk_at 924 (by decide +kernel) (by decide +kernel)
theorem mv_yX6_shortTicks : Cond.instanceMethod yX6_shortTicks ∈ tkAll := tk_at 925 (by decide +kernel) (by decide +kernel)
theorem ms_yX6_shortTicks : Cond.selects (MethodName.cls yX6_shortTicks) yX6_shortTicks yX6_shortTicks ∈ tkAll := tk_at 926 (by decide +kernel) (by decide +kernel)
theorem mc_X6_shortTicks : Cond.code yX6_shortTicks cX6_shortTicks 2 (some .long) ∈ tkAll := tk_at 927 (by decide +kernel) (by decide +kernel)
theorem ml_L_155 : Cond.methodLink RL 155 yX6_balance ∈ tkAll := tk_at 928 (by decide +kernel) (by decide +kernel)
theorem mv_yX6_balance : Cond.instanceMethod yX6_balance ∈ tkAll := tk_at 929 (by decide +kernel) (by decide +kernel)
theorem ms_yX6_balance : Cond.selects (MethodName.cls yX6_balance) yX6_balance yX6_balance ∈ tkAll := tk_at 930 (by decide +kernel) (by decide +kernel)
theorem mc_X6_balance : Cond.code yX6_balance cX6_balance 4 (some .long) ∈ tkAll := tk_at 931 (by decide +kernel) (by decide +kernel)
theorem ml_L_159 : Cond.methodLink RL 159 yX6_changeCount ∈ tkAll := tk_at 932 (by decide +kernel) (by decide +kernel)
theorem mv_yX6_changeCount : Cond.instanceMethod yX6_changeCount ∈ tkAll := tk_at 933 (by decide +kernel) (by decide +kernel)
theorem ms_yX6_changeCount : Cond.selects (MethodName.cls yX6_changeCount) yX6_changeCount yX6_changeCount ∈ tkAll := tk_at 934 (by decide +kernel) (by decide +kernel)
theorem mc_X6_changeCount : Cond.code yX6_changeCount cX6_changeCount 1 (some .long) ∈ tkAll := tk_at 935 (by decide +kernel) (by decide +kernel)
theorem ml_L_162 : Cond.methodLink RL 162 yX6_changeTime ∈ tkAll := tk_at 936 (by decide +kernel) (by decide +kernel)
theorem mv_yX6_changeTime : Cond.instanceMethod yX6_changeTime ∈ tkAll := tk_at 937 (by decide +kernel) (by decide +kernel)
theorem ms_yX6_changeTime : Cond.selects (MethodName.cls yX6_changeTime) yX6_changeTime yX6_changeTime ∈ tkAll := tk_at 938 (by decide +kernel) (by decide +kernel)
theorem mc_X6_changeTime : Cond.code yX6_changeTime cX6_changeTime 2 (some .long) ∈ tkAll := tk_at 939 (by decide +kernel) (by decide +kernel)
theorem ml_X6_137 : Cond.methodLink RX6 137 yX6_isLogged ∈ tkAll := tk_at 940 (by decide +kernel) (by decide +kernel)
theorem mv_yX6_isLogged : Cond.instanceMethod yX6_isLogged ∈ tkAll := tk_at 942 (by decide +kernel) (by decide +kernel)
theorem mc_X6_isLogged : Cond.code yX6_isLogged cX6_isLogged 2 (some .boolean) ∈ tkAll := tk_at 943 (by decide +kernel) (by decide +kernel)
theorem ml_L_165 : Cond.methodLink RL 165 yX6_changeSwitch ∈ tkAll := tk_at 944 (by decide +kernel) (by decide +kernel)
theorem mv_yX6_changeSwitch : Cond.instanceMethod yX6_changeSwitch ∈ tkAll := tk_at 945 (by decide +kernel) (by decide +kernel)
theorem ms_yX6_changeSwitch : Cond.selects (MethodName.cls yX6_changeSwitch) yX6_changeSwitch yX6_changeSwitch ∈ tkAll := tk_at 946 (by decide +kernel) (by decide +kernel)
theorem mc_X6_changeSwitch : Cond.code yX6_changeSwitch cX6_changeSwitch 2 (some .int) ∈ tkAll := tk_at 947 (by decide +kernel) (by decide +kernel)
theorem ml_L_169 : Cond.methodLink RL 169 yX6_save ∈ tkAll := tk_at 948 (by decide +kernel) (by decide +kernel)
theorem mv_yX6_save : Cond.instanceMethod yX6_save ∈ tkAll := tk_at 949 (by decide +kernel) (by decide +kernel)
theorem ms_yX6_save : Cond.selects (MethodName.cls yX6_save) yX6_save yX6_save ∈ tkAll := tk_at 950 (by decide +kernel) (by decide +kernel)
theorem mc_X6_save : Cond.code yX6_save cX6_save 1 (some .int) ∈ tkAll := tk_at 951 (by decide +kernel) (by decide +kernel)
theorem ml_L_172 : Cond.methodLink RL 172 yX6_restore ∈ tkAll := tk_at 952 (by decide +kernel) (by decide +kernel)
theorem mv_yX6_restore : Cond.instanceMethod yX6_restore ∈ tkAll := tk_at 953 (by decide +kernel) (by decide +kernel)
theorem ms_yX6_restore : Cond.selects (MethodName.cls yX6_restore) yX6_restore yX6_restore ∈ tkAll := tk_at 954 (by decide +kernel) (by decide +kernel)
theorem mc_X6_restore : Cond.code yX6_restore cX6_restore 1 (some .int) ∈ tkAll := tk_at 955 (by decide +kernel) (by decide +kernel)
theorem ml_L_176 : Cond.methodLink RL 176 yX6_digest ∈ tkAll := tk_at 956 (by decide +kernel) (by decide +kernel)
theorem mv_yX6_digest : Cond.instanceMethod yX6_digest ∈ tkAll := tk_at 957 (by decide +kernel) (by decide +kernel)
theorem ms_yX6_digest : Cond.selects (MethodName.cls yX6_digest) yX6_digest yX6_digest ∈ tkAll := tk_at 958 (by decide +kernel) (by decide +kernel)
theorem mc_X6_digest : Cond.code yX6_digest cX6_digest 4 (some .long) ∈ tkAll := tk_at 959 (by decide +kernel) (by decide +kernel)
theorem ml_X6_154 : Cond.constantLong RX6 154 (2077) ∈ tkAll := tk_at 960 (by decide +kernel) (by decide +kernel)
theorem ml_X6_156 : Cond.constantLong RX6 156 (31) ∈ tkAll := tk_at 961 (by decide +kernel) (by decide +kernel)
theorem ma_double : Cond.arrayClass .double ∈ tkAll := tk_at 962 (by decide +kernel) (by decide +kernel)
theorem mm_J9_min_7cf53 : tkMth yJ9_min_7cf53 cJ9_min_7cf53 2 (some .int) 2 := ⟨mc_J9_min_7cf53, mi_J9, by decide, by decide +kernel⟩
theorem mm_J9_min_f86c9 : tkMth yJ9_min_f86c9 cJ9_min_f86c9 4 (some .long) 2 := ⟨mc_J9_min_f86c9, mi_J9, by decide, by decide +kernel⟩
theorem mm_L_addPump : tkMthH yL_addPump cL_addPump 9 (some .int) [(0, 18, 21, 20), (0, 18, 25, 13), (0, 18, 29, 15)] 8 := ⟨mc_L_addPump, mi_L, by decide, by decide +kernel⟩
theorem mm_L_addSwitch : tkMthH yL_addSwitch cL_addSwitch 6 (some .int) [(0, 12, 15, 20), (0, 12, 19, 13), (0, 12, 23, 15)] 5 := ⟨mc_L_addSwitch, mi_L, by decide, by decide +kernel⟩
theorem mm_L_addTank : tkMthH yL_addTank cL_addTank 6 (some .int) [(0, 12, 15, 13), (0, 12, 19, 15)] 5 := ⟨mc_L_addTank, mi_L, by decide, by decide +kernel⟩
theorem mm_L_changeSwitch : tkMthH yL_changeSwitch cL_changeSwitch 4 (some .int) [(0, 9, 12, 20)] 3 := ⟨mc_L_changeSwitch, mi_L, by decide, by decide +kernel⟩
theorem mm_L_changeTime : tkMthH yL_changeTime cL_changeTime 4 (some .int) [(0, 8, 11, 20)] 3 := ⟨mc_L_changeTime, mi_L, by decide, by decide +kernel⟩
theorem mm_L_energy : tkMthH yL_energy cL_energy 4 (some .int) [(0, 8, 11, 20)] 3 := ⟨mc_L_energy, mi_L, by decide, by decide +kernel⟩
theorem mm_L_isOn : tkMthH yL_isOn cL_isOn 4 (some .int) [(0, 16, 19, 20)] 3 := ⟨mc_L_isOn, mi_L, by decide, by decide +kernel⟩
theorem mm_L_level : tkMthH yL_level cL_level 4 (some .int) [(0, 9, 12, 20)] 3 := ⟨mc_L_level, mi_L, by decide, by decide +kernel⟩
theorem mm_L_levelSum : tkMthH yL_levelSum cL_levelSum 4 (some .int) [(0, 8, 11, 20)] 3 := ⟨mc_L_levelSum, mi_L, by decide, by decide +kernel⟩
theorem mm_L_meanLevel : tkMthH yL_meanLevel cL_meanLevel 4 (some .int) [(0, 8, 11, 20)] 3 := ⟨mc_L_meanLevel, mi_L, by decide, by decide +kernel⟩
theorem mm_L_nextChange : tkMthH yL_nextChange cL_nextChange 4 (some .int) [(0, 9, 12, 13)] 3 := ⟨mc_L_nextChange, mi_L, by decide, by decide +kernel⟩
theorem mm_L_restore : tkMthH yL_restore cL_restore 3 (some .int) [(0, 8, 11, 15)] 2 := ⟨mc_L_restore, mi_L, by decide, by decide +kernel⟩
theorem mm_L_run : tkMthH yL_run cL_run 4 (some .int) [(0, 9, 12, 13)] 3 := ⟨mc_L_run, mi_L, by decide, by decide +kernel⟩
theorem mm_L_runUntil : tkMthH yL_runUntil cL_runUntil 7 (some .int) [(0, 14, 17, 20), (0, 14, 21, 13)] 6 := ⟨mc_L_runUntil, mi_L, by decide, by decide +kernel⟩
theorem mm_L_save : tkMthH yL_save cL_save 3 (some .int) [(0, 8, 11, 15)] 2 := ⟨mc_L_save, mi_L, by decide, by decide +kernel⟩
theorem mm_L_setLeak : tkMthH yL_setLeak cL_setLeak 5 (some .int) [(0, 10, 13, 20), (0, 10, 17, 13)] 4 := ⟨mc_L_setLeak, mi_L, by decide, by decide +kernel⟩
theorem mm_L_setLevel : tkMthH yL_setLevel cL_setLevel 5 (some .int) [(0, 10, 13, 20), (0, 10, 17, 13)] 4 := ⟨mc_L_setLevel, mi_L, by decide, by decide +kernel⟩
theorem mm_L_setRate : tkMthH yL_setRate cL_setRate 5 (some .int) [(0, 10, 13, 20), (0, 10, 17, 13)] 4 := ⟨mc_L_setRate, mi_L, by decide, by decide +kernel⟩
theorem mm_L_shortTicks : tkMthH yL_shortTicks cL_shortTicks 4 (some .int) [(0, 8, 11, 20)] 3 := ⟨mc_L_shortTicks, mi_L, by decide, by decide +kernel⟩
theorem mm_L_total : tkMthH yL_total cL_total 4 (some .int) [(0, 8, 11, 20)] 3 := ⟨mc_L_total, mi_L, by decide, by decide +kernel⟩
theorem mm_X0_copyFrom : tkMth yX0_copyFrom cX0_copyFrom 2 none 1 := ⟨mc_X0_copyFrom, mi_X0, by decide, by decide +kernel⟩
theorem mm_X0_init : tkMth yX0_init cX0_init 1 none 0 := ⟨mc_X0_init, mi_X0, by decide, by decide +kernel⟩
theorem mm_X0_kept : tkMth yX0_kept cX0_kept 1 (some .int) 0 := ⟨mc_X0_kept, mi_X0, by decide, by decide +kernel⟩
theorem mm_X0_note : tkMth yX0_note cX0_note 5 none 2 := ⟨mc_X0_note, mi_X0, by decide, by decide +kernel⟩
theorem mm_X0_slotOf : tkMth yX0_slotOf cX0_slotOf 2 (some .int) 1 := ⟨mc_X0_slotOf, mi_X0, by decide, by decide +kernel⟩
theorem mm_X1_advance : tkMth yX1_advance cX1_advance 4 (some .int) 1 := ⟨mc_X1_advance, mi_X1, by decide, by decide +kernel⟩
theorem mm_X1_advanceToChange : tkMth yX1_advanceToChange cX1_advanceToChange 3 (some .int) 1 := ⟨mc_X1_advanceToChange, mi_X1, by decide, by decide +kernel⟩
theorem mm_X1_advanceUntil : tkMth yX1_advanceUntil cX1_advanceUntil 6 (some .int) 4 := ⟨mc_X1_advanceUntil, mi_X1, by decide, by decide +kernel⟩
theorem mm_X1_copyFrom : tkMth yX1_copyFrom cX1_copyFrom 2 none 1 := ⟨mc_X1_copyFrom, mi_X1, by decide, by decide +kernel⟩
theorem mm_X1_init : tkMth yX1_init cX1_init 1 none 0 := ⟨mc_X1_init, mi_X1, by decide, by decide +kernel⟩
theorem mm_X1_repeatLast : tkMth yX1_repeatLast cX1_repeatLast 3 (some .int) 1 := ⟨mc_X1_repeatLast, mi_X1, by decide, by decide +kernel⟩
theorem mm_X1_tick : tkMth yX1_tick cX1_tick 2 (some .int) 0 := ⟨mc_X1_tick, mi_X1, by decide, by decide +kernel⟩
theorem mm_X2_append : tkMth yX2_append cX2_append 8 (some .int) 6 := ⟨mc_X2_append, mi_X2, by decide, by decide +kernel⟩
theorem mm_X2_cameIn : tkMth yX2_cameIn cX2_cameIn 4 (some .long) 0 := ⟨mc_X2_cameIn, mi_X2, by decide, by decide +kernel⟩
theorem mm_X2_copyFrom : tkMth yX2_copyFrom cX2_copyFrom 2 none 1 := ⟨mc_X2_copyFrom, mi_X2, by decide, by decide +kernel⟩
theorem mm_X2_enter : tkMth yX2_enter cX2_enter 5 none 2 := ⟨mc_X2_enter, mi_X2, by decide, by decide +kernel⟩
theorem mm_X2_init : tkMth yX2_init cX2_init 1 none 0 := ⟨mc_X2_init, mi_X2, by decide, by decide +kernel⟩
theorem mm_X2_isActive : tkMth yX2_isActive cX2_isActive 4 (some .boolean) 2 := ⟨mc_X2_isActive, mi_X2, by decide, by decide +kernel⟩
theorem mm_X2_mixedInto : tkMth yX2_mixedInto cX2_mixedInto 6 (some .long) 1 := ⟨mc_X2_mixedInto, mi_X2, by decide, by decide +kernel⟩
theorem mm_X2_move : tkMth yX2_move cX2_move 6 none 2 := ⟨mc_X2_move, mi_X2, by decide, by decide +kernel⟩
theorem mm_X2_moveAll : tkMth yX2_moveAll cX2_moveAll 4 none 2 := ⟨mc_X2_moveAll, mi_X2, by decide, by decide +kernel⟩
theorem mm_X2_repeat : tkMth yX2_repeat cX2_repeat 4 none 2 := ⟨mc_X2_repeat, mi_X2, by decide, by decide +kernel⟩
theorem mm_X2_steadyTicks : tkMth yX2_steadyTicks cX2_steadyTicks 6 (some .int) 3 := ⟨mc_X2_steadyTicks, mi_X2, by decide, by decide +kernel⟩
theorem mm_X2_steadyTicksOf : tkMth yX2_steadyTicksOf cX2_steadyTicksOf 7 (some .int) 3 := ⟨mc_X2_steadyTicksOf, mi_X2, by decide, by decide +kernel⟩
theorem mm_X2_wentOut : tkMth yX2_wentOut cX2_wentOut 4 (some .long) 0 := ⟨mc_X2_wentOut, mi_X2, by decide, by decide +kernel⟩
theorem mm_X3_append : tkMth yX3_append cX3_append 5 (some .int) 3 := ⟨mc_X3_append, mi_X3, by decide, by decide +kernel⟩
theorem mm_X3_copyFrom : tkMth yX3_copyFrom cX3_copyFrom 2 none 1 := ⟨mc_X3_copyFrom, mi_X3, by decide, by decide +kernel⟩
theorem mm_X3_follow : tkMth yX3_follow cX3_follow 9 (some .int) 3 := ⟨mc_X3_follow, mi_X3, by decide, by decide +kernel⟩
theorem mm_X3_init : tkMth yX3_init cX3_init 1 none 0 := ⟨mc_X3_init, mi_X3, by decide, by decide +kernel⟩
theorem mm_X3_mixedInto : tkMth yX3_mixedInto cX3_mixedInto 6 (some .long) 1 := ⟨mc_X3_mixedInto, mi_X3, by decide, by decide +kernel⟩
theorem mm_X3_steadyTicks : tkMth yX3_steadyTicks cX3_steadyTicks 7 (some .int) 2 := ⟨mc_X3_steadyTicks, mi_X3, by decide, by decide +kernel⟩
theorem mm_X4_append : tkMth yX4_append cX4_append 5 (some .int) 3 := ⟨mc_X4_append, mi_X4, by decide, by decide +kernel⟩
theorem mm_X4_copyFrom : tkMth yX4_copyFrom cX4_copyFrom 2 none 1 := ⟨mc_X4_copyFrom, mi_X4, by decide, by decide +kernel⟩
theorem mm_X4_drift : tkMth yX4_drift cX4_drift 2 (some .int) 1 := ⟨mc_X4_drift, mi_X4, by decide, by decide +kernel⟩
theorem mm_X4_hasReached : tkMth yX4_hasReached cX4_hasReached 4 (some .boolean) 3 := ⟨mc_X4_hasReached, mi_X4, by decide, by decide +kernel⟩
theorem mm_X4_init : tkMth yX4_init cX4_init 1 none 0 := ⟨mc_X4_init, mi_X4, by decide, by decide +kernel⟩
theorem mm_X4_leakAndSum : tkMth yX4_leakAndSum cX4_leakAndSum 2 none 0 := ⟨mc_X4_leakAndSum, mi_X4, by decide, by decide +kernel⟩
theorem mm_X4_mixedInto : tkMth yX4_mixedInto cX4_mixedInto 6 (some .long) 1 := ⟨mc_X4_mixedInto, mi_X4, by decide, by decide +kernel⟩
theorem mm_X4_noteLevels : tkMth yX4_noteLevels cX4_noteLevels 1 none 0 := ⟨mc_X4_noteLevels, mi_X4, by decide, by decide +kernel⟩
theorem mm_X4_repeat : tkMth yX4_repeat cX4_repeat 6 none 1 := ⟨mc_X4_repeat, mi_X4, by decide, by decide +kernel⟩
theorem mm_X4_steadyTicks : tkMth yX4_steadyTicks cX4_steadyTicks 4 (some .int) 1 := ⟨mc_X4_steadyTicks, mi_X4, by decide, by decide +kernel⟩
theorem mm_X4_ticksShortOf : tkMth yX4_ticksShortOf cX4_ticksShortOf 9 (some .int) 4 := ⟨mc_X4_ticksShortOf, mi_X4, by decide, by decide +kernel⟩
theorem mm_X5_addPump : tkMth yX5_addPump cX5_addPump 7 (some .int) 6 := ⟨mc_X5_addPump, mi_X5, by decide, by decide +kernel⟩
theorem mm_X5_addSwitch : tkMth yX5_addSwitch cX5_addSwitch 4 (some .int) 3 := ⟨mc_X5_addSwitch, mi_X5, by decide, by decide +kernel⟩
theorem mm_X5_addTank : tkMth yX5_addTank cX5_addTank 4 (some .int) 3 := ⟨mc_X5_addTank, mi_X5, by decide, by decide +kernel⟩
theorem mm_X5_balance : tkMth yX5_balance cX5_balance 1 (some .long) 0 := ⟨mc_X5_balance, mi_X5, by decide, by decide +kernel⟩
theorem mm_X5_changeCount : tkMth yX5_changeCount cX5_changeCount 1 (some .long) 0 := ⟨mc_X5_changeCount, mi_X5, by decide, by decide +kernel⟩
theorem mm_X5_changeSwitch : tkMth yX5_changeSwitch cX5_changeSwitch 2 (some .int) 1 := ⟨mc_X5_changeSwitch, mi_X5, by decide, by decide +kernel⟩
theorem mm_X5_changeTime : tkMth yX5_changeTime cX5_changeTime 2 (some .long) 1 := ⟨mc_X5_changeTime, mi_X5, by decide, by decide +kernel⟩
theorem mm_X5_digest : tkMth yX5_digest cX5_digest 3 (some .long) 0 := ⟨mc_X5_digest, mi_X5, by decide, by decide +kernel⟩
theorem mm_X5_energy : tkMth yX5_energy cX5_energy 2 (some .long) 1 := ⟨mc_X5_energy, mi_X5, by decide, by decide +kernel⟩
theorem mm_X5_init : tkMth yX5_init cX5_init 1 none 0 := ⟨mc_X5_init, mi_X5, by decide, by decide +kernel⟩
theorem mm_X5_isOn : tkMth yX5_isOn cX5_isOn 2 (some .boolean) 1 := ⟨mc_X5_isOn, mi_X5, by decide, by decide +kernel⟩
theorem mm_X5_isWithin : tkMth yX5_isWithin cX5_isWithin 3 (some .boolean) 3 := ⟨mc_X5_isWithin, mi_X5, by decide, by decide +kernel⟩
theorem mm_X5_level : tkMth yX5_level cX5_level 2 (some .int) 1 := ⟨mc_X5_level, mi_X5, by decide, by decide +kernel⟩
theorem mm_X5_levelSum : tkMth yX5_levelSum cX5_levelSum 2 (some .long) 1 := ⟨mc_X5_levelSum, mi_X5, by decide, by decide +kernel⟩
theorem mm_X5_meanLevel : tkMth yX5_meanLevel cX5_meanLevel 2 (some .double) 1 := ⟨mc_X5_meanLevel, mi_X5, by decide, by decide +kernel⟩
theorem mm_X5_mix : tkMth yX5_mix cX5_mix 4 (some .long) 2 := ⟨mc_X5_mix, mi_X5, by decide, by decide +kernel⟩
theorem mm_X5_needAmount : tkMth yX5_needAmount cX5_needAmount 2 none 2 := ⟨mc_X5_needAmount, mi_X5, by decide, by decide +kernel⟩
theorem mm_X5_needLeak : tkMth yX5_needLeak cX5_needLeak 1 none 1 := ⟨mc_X5_needLeak, mi_X5, by decide, by decide +kernel⟩
theorem mm_X5_needLogged : tkMth yX5_needLogged cX5_needLogged 2 none 1 := ⟨mc_X5_needLogged, mi_X5, by decide, by decide +kernel⟩
theorem mm_X5_needPump : tkMth yX5_needPump cX5_needPump 2 none 1 := ⟨mc_X5_needPump, mi_X5, by decide, by decide +kernel⟩
theorem mm_X5_needRate : tkMth yX5_needRate cX5_needRate 1 none 1 := ⟨mc_X5_needRate, mi_X5, by decide, by decide +kernel⟩
theorem mm_X5_needSwitch : tkMth yX5_needSwitch cX5_needSwitch 2 none 1 := ⟨mc_X5_needSwitch, mi_X5, by decide, by decide +kernel⟩
theorem mm_X5_needTank : tkMth yX5_needTank cX5_needTank 2 none 1 := ⟨mc_X5_needTank, mi_X5, by decide, by decide +kernel⟩
theorem mm_X5_needTankOrOutside : tkMth yX5_needTankOrOutside cX5_needTankOrOutside 2 none 1 := ⟨mc_X5_needTankOrOutside, mi_X5, by decide, by decide +kernel⟩
theorem mm_X5_needTicks : tkMth yX5_needTicks cX5_needTicks 2 none 2 := ⟨mc_X5_needTicks, mi_X5, by decide, by decide +kernel⟩
theorem mm_X5_nextChange : tkMth yX5_nextChange cX5_nextChange 2 (some .int) 1 := ⟨mc_X5_nextChange, mi_X5, by decide, by decide +kernel⟩
theorem mm_X5_restore : tkMth yX5_restore cX5_restore 2 (some .int) 0 := ⟨mc_X5_restore, mi_X5, by decide, by decide +kernel⟩
theorem mm_X5_run : tkMth yX5_run cX5_run 2 (some .int) 1 := ⟨mc_X5_run, mi_X5, by decide, by decide +kernel⟩
theorem mm_X5_runUntil : tkMth yX5_runUntil cX5_runUntil 5 (some .int) 4 := ⟨mc_X5_runUntil, mi_X5, by decide, by decide +kernel⟩
theorem mm_X5_save : tkMth yX5_save cX5_save 2 (some .int) 0 := ⟨mc_X5_save, mi_X5, by decide, by decide +kernel⟩
theorem mm_X5_setLeak : tkMth yX5_setLeak cX5_setLeak 4 (some .int) 2 := ⟨mc_X5_setLeak, mi_X5, by decide, by decide +kernel⟩
theorem mm_X5_setLevel : tkMth yX5_setLevel cX5_setLevel 4 (some .int) 2 := ⟨mc_X5_setLevel, mi_X5, by decide, by decide +kernel⟩
theorem mm_X5_setRate : tkMth yX5_setRate cX5_setRate 4 (some .int) 2 := ⟨mc_X5_setRate, mi_X5, by decide, by decide +kernel⟩
theorem mm_X5_shortTicks : tkMth yX5_shortTicks cX5_shortTicks 2 (some .long) 1 := ⟨mc_X5_shortTicks, mi_X5, by decide, by decide +kernel⟩
theorem mm_X5_ticksWhile : tkMth yX5_ticksWhile cX5_ticksWhile 5 (some .int) 3 := ⟨mc_X5_ticksWhile, mi_X5, by decide, by decide +kernel⟩
theorem mm_X5_time : tkMth yX5_time cX5_time 1 (some .long) 0 := ⟨mc_X5_time, mi_X5, by decide, by decide +kernel⟩
theorem mm_X5_total : tkMth yX5_total cX5_total 2 (some .long) 1 := ⟨mc_X5_total, mi_X5, by decide, by decide +kernel⟩
theorem mm_X6_addPump : tkMth yX6_addPump cX6_addPump 7 (some .int) 6 := ⟨mc_X6_addPump, mi_X6, by decide, by decide +kernel⟩
theorem mm_X6_addSwitch : tkMth yX6_addSwitch cX6_addSwitch 4 (some .int) 3 := ⟨mc_X6_addSwitch, mi_X6, by decide, by decide +kernel⟩
theorem mm_X6_addTank : tkMth yX6_addTank cX6_addTank 4 (some .int) 3 := ⟨mc_X6_addTank, mi_X6, by decide, by decide +kernel⟩
theorem mm_X6_balance : tkMth yX6_balance cX6_balance 4 (some .long) 0 := ⟨mc_X6_balance, mi_X6, by decide, by decide +kernel⟩
theorem mm_X6_changeCount : tkMth yX6_changeCount cX6_changeCount 1 (some .long) 0 := ⟨mc_X6_changeCount, mi_X6, by decide, by decide +kernel⟩
theorem mm_X6_changeSwitch : tkMth yX6_changeSwitch cX6_changeSwitch 2 (some .int) 1 := ⟨mc_X6_changeSwitch, mi_X6, by decide, by decide +kernel⟩
theorem mm_X6_changeTime : tkMth yX6_changeTime cX6_changeTime 2 (some .long) 1 := ⟨mc_X6_changeTime, mi_X6, by decide, by decide +kernel⟩
theorem mm_X6_digest : tkMth yX6_digest cX6_digest 4 (some .long) 0 := ⟨mc_X6_digest, mi_X6, by decide, by decide +kernel⟩
theorem mm_X6_energy : tkMth yX6_energy cX6_energy 2 (some .long) 1 := ⟨mc_X6_energy, mi_X6, by decide, by decide +kernel⟩
theorem mm_X6_fail : tkMth yX6_fail cX6_fail 2 (some .int) 1 := ⟨mc_X6_fail, mi_X6, by decide, by decide +kernel⟩
theorem mm_X6_init : tkMth yX6_init cX6_init 1 none 0 := ⟨mc_X6_init, mi_X6, by decide, by decide +kernel⟩
theorem mm_X6_isLogged : tkMth yX6_isLogged cX6_isLogged 2 (some .boolean) 1 := ⟨mc_X6_isLogged, mi_X6, by decide, by decide +kernel⟩
theorem mm_X6_isOn : tkMth yX6_isOn cX6_isOn 2 (some .boolean) 1 := ⟨mc_X6_isOn, mi_X6, by decide, by decide +kernel⟩
theorem mm_X6_isPump : tkMth yX6_isPump cX6_isPump 2 (some .boolean) 1 := ⟨mc_X6_isPump, mi_X6, by decide, by decide +kernel⟩
theorem mm_X6_isSwitch : tkMth yX6_isSwitch cX6_isSwitch 2 (some .boolean) 1 := ⟨mc_X6_isSwitch, mi_X6, by decide, by decide +kernel⟩
theorem mm_X6_isTank : tkMth yX6_isTank cX6_isTank 2 (some .boolean) 1 := ⟨mc_X6_isTank, mi_X6, by decide, by decide +kernel⟩
theorem mm_X6_level : tkMth yX6_level cX6_level 2 (some .int) 1 := ⟨mc_X6_level, mi_X6, by decide, by decide +kernel⟩
theorem mm_X6_levelSum : tkMth yX6_levelSum cX6_levelSum 2 (some .long) 1 := ⟨mc_X6_levelSum, mi_X6, by decide, by decide +kernel⟩
theorem mm_X6_log : tkMth yX6_log cX6_log 3 none 1 := ⟨mc_X6_log, mi_X6, by decide, by decide +kernel⟩
theorem mm_X6_meanLevel : tkMth yX6_meanLevel cX6_meanLevel 2 (some .double) 1 := ⟨mc_X6_meanLevel, mi_X6, by decide, by decide +kernel⟩
theorem mm_X6_nextChange : tkMth yX6_nextChange cX6_nextChange 4 (some .int) 1 := ⟨mc_X6_nextChange, mi_X6, by decide, by decide +kernel⟩
theorem mm_X6_pump : tkMth yX6_pump cX6_pump 3 none 1 := ⟨mc_X6_pump, mi_X6, by decide, by decide +kernel⟩
theorem mm_X6_put : tkMth yX6_put cX6_put 3 none 1 := ⟨mc_X6_put, mi_X6, by decide, by decide +kernel⟩
theorem mm_X6_read : tkMth yX6_read cX6_read 3 none 1 := ⟨mc_X6_read, mi_X6, by decide, by decide +kernel⟩
theorem mm_X6_restore : tkMth yX6_restore cX6_restore 1 (some .int) 0 := ⟨mc_X6_restore, mi_X6, by decide, by decide +kernel⟩
theorem mm_X6_run : tkMth yX6_run cX6_run 4 (some .int) 1 := ⟨mc_X6_run, mi_X6, by decide, by decide +kernel⟩
theorem mm_X6_runUntil : tkMth yX6_runUntil cX6_runUntil 6 (some .int) 4 := ⟨mc_X6_runUntil, mi_X6, by decide, by decide +kernel⟩
theorem mm_X6_save : tkMth yX6_save cX6_save 1 (some .int) 0 := ⟨mc_X6_save, mi_X6, by decide, by decide +kernel⟩
theorem mm_X6_setLeak : tkMth yX6_setLeak cX6_setLeak 4 (some .int) 2 := ⟨mc_X6_setLeak, mi_X6, by decide, by decide +kernel⟩
theorem mm_X6_setLevel : tkMth yX6_setLevel cX6_setLevel 4 (some .int) 2 := ⟨mc_X6_setLevel, mi_X6, by decide, by decide +kernel⟩
theorem mm_X6_setRate : tkMth yX6_setRate cX6_setRate 4 (some .int) 2 := ⟨mc_X6_setRate, mi_X6, by decide, by decide +kernel⟩
theorem mm_X6_shortTicks : tkMth yX6_shortTicks cX6_shortTicks 2 (some .long) 1 := ⟨mc_X6_shortTicks, mi_X6, by decide, by decide +kernel⟩
theorem mm_X6_take : tkMth yX6_take cX6_take 1 (some .long) 0 := ⟨mc_X6_take, mi_X6, by decide, by decide +kernel⟩
theorem mm_X6_thrown : tkMth yX6_thrown cX6_thrown 1 (some .int) 0 := ⟨mc_X6_thrown, mi_X6, by decide, by decide +kernel⟩
theorem mm_X6_tick : tkMth yX6_tick cX6_tick 3 (some .int) 0 := ⟨mc_X6_tick, mi_X6, by decide, by decide +kernel⟩
theorem mm_X6_time : tkMth yX6_time cX6_time 1 (some .long) 0 := ⟨mc_X6_time, mi_X6, by decide, by decide +kernel⟩
theorem mm_X6_total : tkMth yX6_total cX6_total 2 (some .long) 1 := ⟨mc_X6_total, mi_X6, by decide, by decide +kernel⟩
theorem mm_X6_turn : tkMth yX6_turn cX6_turn 5 (some .int) 0 := ⟨mc_X6_turn, mi_X6, by decide, by decide +kernel⟩
theorem mm_X6_write : tkMth yX6_write cX6_write 3 none 1 := ⟨mc_X6_write, mi_X6, by decide, by decide +kernel⟩
theorem mx_iae : ∀ w ∈ vx_atS RX5 36 "java/lang/IllegalArgumentException" ["java/lang/RuntimeException", "java/lang/Exception"], w ∈ tkAll := by decide +kernel
theorem mg_iae : ∀ w ∈ Cond.classLink RX5 32 "java/lang/IllegalArgumentException" :: Cond.initialized "java/lang/IllegalArgumentException" :: vx_atS RX5 36 "java/lang/IllegalArgumentException" ["java/lang/RuntimeException", "java/lang/Exception"], vx_ot w = true := by decide +kernel
theorem mx_ise : ∀ w ∈ vx_atS RX5 60 "java/lang/IllegalStateException" ["java/lang/RuntimeException", "java/lang/Exception"], w ∈ tkAll := by decide +kernel
theorem mg_ise : ∀ w ∈ Cond.classLink RX5 56 "java/lang/IllegalStateException" :: Cond.initialized "java/lang/IllegalStateException" :: vx_atS RX5 60 "java/lang/IllegalStateException" ["java/lang/RuntimeException", "java/lang/Exception"], vx_ot w = true := by decide +kernel
theorem mx_iobe : ∀ w ∈ vx_atS RX5 207 "java/lang/IndexOutOfBoundsException" ["java/lang/RuntimeException", "java/lang/Exception"], w ∈ tkAll := by decide +kernel
theorem mg_iobe : ∀ w ∈ Cond.classLink RX5 203 "java/lang/IndexOutOfBoundsException" :: Cond.initialized "java/lang/IndexOutOfBoundsException" :: vx_atS RX5 207 "java/lang/IndexOutOfBoundsException" ["java/lang/RuntimeException", "java/lang/Exception"], vx_ot w = true := by decide +kernel
end
section
section TKREG
/-- a block of N cells from p on, the rest elsewhere -/
def reg {α : Type} (p N : Nat) (f v : Nat → Nat → α) : Nat → Nat → α := fun a => if p ≤ a ∧ a < p + N then f (a - p) else v a
theorem reg_at {α : Type} {p N k : Nat} {f v : Nat → Nat → α} (hk : k < N) : reg p N f v (p + k) = f k := by
  rw [reg, if_pos ⟨Nat.le_add_right _ _, by omega⟩, Nat.add_sub_cancel_left]
theorem reg_off {α : Type} {p N a : Nat} {f v : Nat → Nat → α} (h : a < p ∨ p + N ≤ a) : reg p N f v a = v a := by
  rw [reg, if_neg (by omega)]
theorem tk2_reg {α : Type} {p N k i : Nat} {x : α} {f v : Nat → Nat → α} (hk : k < N) : tk2 (reg p N f v) (p + k) i x = reg p N (tk2 f k i x) v := by
  funext a j
  simp only [tk2, reg]
  by_cases h : p ≤ a ∧ a < p + N
  · rw [if_pos h, if_pos h]
    by_cases e : a = p + k
    · subst e
      simp [tk2]
    · have e2 : ¬ a - p = k := by omega
      simp [tk2, e, e2]
  · rw [if_neg h, if_neg h]
    have e : ¬ a = p + k := by omega
    simp [e]
theorem tk1_reg {α : Type} {p N k : Nat} {x : Nat → α} {f v : Nat → Nat → α} (hk : k < N) : tk1 (reg p N f v) (p + k) x = reg p N (tk1 f k x) v := by
  funext a
  simp only [tk1, reg]
  by_cases h : p ≤ a ∧ a < p + N
  · rw [if_pos h, if_pos h]
    by_cases e : a = p + k
    · subst e
      simp [tk1]
    · have e2 : ¬ a - p = k := by omega
      simp [tk1, e, e2]
  · rw [if_neg h, if_neg h]
    have e : ¬ a = p + k := by omega
    simp [e]
theorem reg_eta {α : Type} (p N : Nat) (v : Nat → Nat → α) : reg p N (fun k => v (p + k)) v = v := by
  funext a
  simp only [reg]
  by_cases h : p ≤ a ∧ a < p + N
  · rw [if_pos h, show p + (a - p) = a by omega]
  · rw [if_neg h]
theorem reg_reg {α : Type} (p N : Nat) (f g v : Nat → Nat → α) : reg p N f (reg p N g v) = reg p N f v := by
  funext a
  simp only [reg]
  by_cases h : p ≤ a ∧ a < p + N
  · rw [if_pos h, if_pos h]
  · rw [if_neg h, if_neg h, if_neg h]
theorem reg_congr {α : Type} {p N : Nat} {f g v : Nat → Nat → α} (h : ∀ k, k < N → f k = g k) : reg p N f v = reg p N g v := by
  funext a
  simp only [reg]
  by_cases q : p ≤ a ∧ a < p + N
  · rw [if_pos q, if_pos q, h _ (by omega)]
  · rw [if_neg q, if_neg q]
/-- the shapes and the inner references of a block -/
def tkReg (N : Nat) (T : Nat → Nat × Nat) (F : Nat → Nat → Option Nat) (σ : tkM) (p : Nat) : Prop := (∀ k, k < N → σ.2.1 (p + k) = T k) ∧ ∀ k j o, k < N → F k j = some o → σ.2.2 (p + k) j = some (p + o)
/-- a plant: itself, tanks (1..6), switches (7..11), pumps (12..24), log (25..27) -/
def pT (k : Nat) : Nat × Nat := match k with
  | 0 => (1, 0) | 1 => (4, 0) | 2 => (10, 8) | 3 => (10, 8) | 4 => (10, 8) | 5 => (11, 8) | 6 => (10, 8)
  | 7 => (3, 0) | 8 => (10, 10) | 9 => (10, 10) | 10 => (10, 10) | 11 => (12, 10)
  | 12 => (2, 0) | 13 => (10, 16) | 14 => (10, 16) | 15 => (10, 16) | 16 => (10, 16) | 17 => (10, 16) | 18 => (12, 16) | 19 => (11, 16) | 20 => (11, 16) | 21 => (11, 16) | 22 => (10, 16) | 23 => (10, 16) | 24 => (10, 16)
  | 25 => (0, 0) | 26 => (11, 30) | 27 => (10, 30) | _ => (99, 0)
def pF (k j : Nat) : Option Nat := match k with
  | 0 => (match j with | 0 => some 1 | 1 => some 7 | 2 => some 12 | 3 => some 25 | _ => none)
  | 1 => (match j with | 1 => some 2 | 2 => some 3 | 3 => some 4 | 4 => some 5 | 5 => some 6 | _ => none)
  | 7 => (match j with | 1 => some 8 | 2 => some 9 | 3 => some 10 | 4 => some 11 | _ => none)
  | 12 => (match j with | 1 => some 13 | 2 => some 14 | 3 => some 15 | 4 => some 16 | 5 => some 17 | 6 => some 18 | 7 => some 19 | 8 => some 20 | 9 => some 21 | 10 => some 22 | 11 => some 23 | 12 => some 24 | _ => none)
  | 25 => (match j with | 1 => some 26 | 2 => some 27 | _ => none)
  | _ => none
/-- the reference: itself, then its twenty rows -/
def mT (k : Nat) : Nat × Nat := match k with
  | 0 => (6, 0) | 1 => (10, 8) | 2 => (10, 10) | 3 => (10, 10) | 4 => (10, 10) | 5 => (10, 16) | 6 => (10, 16) | 7 => (10, 16) | 8 => (10, 16) | 9 => (12, 16) | 10 => (10, 8) | 11 => (10, 8) | 12 => (11, 8) | 13 => (12, 10) | 14 => (10, 16) | 15 => (11, 16) | 16 => (11, 16) | 17 => (11, 16) | 18 => (11, 30) | 19 => (10, 30) | 20 => (11, 820) | _ => (99, 0)
def mF (k j : Nat) : Option Nat := match k with
  | 0 => (match j with | 2 => some 1 | 4 => some 2 | 5 => some 3 | 6 => some 4 | 8 => some 5 | 9 => some 6 | 10 => some 7 | 11 => some 8 | 12 => some 9 | 13 => some 10 | 14 => some 11 | 15 => some 12 | 16 => some 13 | 17 => some 14 | 18 => some 15 | 19 => some 16 | 20 => some 17 | 24 => some 18 | 25 => some 19 | 27 => some 20 | _ => none)
  | _ => none
/-! array rules for indices that are small naturals -/
variable {X : tkX} {Q : State → Prop} {cc : ByteArray} {own nm : String} {nL d MC MS cs ss pc : Nat} {ret : Option FieldType} {hh : List (Nat × Nat × Nat × Nat)} {lv : List (Option Value)} {stk : List Value} {σ : tkM} {I : tkI} {L : tkL}
theorem g_ia (C : tkC X cc own nm nL ret hh d MC MS) {a n j : Nat} {i : Int32} {f : Nat → Int32} (hd : decode cc pc = .ok (.iaload, 1)) (hS : σ.2.1 a = (10, n)) (hI : I a = f) (hi : i = nI j) (hj : j < n) (hn : n < 2 ^ 31) (kk : tkG X Q cs ss (pc + 1) lv (.int (f j) :: stk) σ I L) : tkG X Q cs ss pc lv (.int i :: .ref a :: stk) σ I L := by
  subst hi
  exact g_iald C hd hS hI (vp_in_nI hj hn) (by rw [nI_clamp (by omega)]; exact kk)
theorem g_la (C : tkC X cc own nm nL ret hh d MC MS) {a n j : Nat} {i : Int32} {f : Nat → Int64} (hd : decode cc pc = .ok (.laload, 1)) (hS : σ.2.1 a = (11, n)) (hI : L a = f) (hi : i = nI j) (hj : j < n) (hn : n < 2 ^ 31) (kk : tkG X Q cs ss (pc + 1) lv (.long (f j) :: stk) σ I L) : tkG X Q cs ss pc lv (.int i :: .ref a :: stk) σ I L := by
  subst hi
  exact g_lald C hd hS hI (vp_in_nI hj hn) (by rw [nI_clamp (by omega)]; exact kk)
theorem g_za (C : tkC X cc own nm nL ret hh d MC MS) {a n j : Nat} {i : Int32} {f : Nat → Int32} (hd : decode cc pc = .ok (.baload, 1)) (hS : σ.2.1 a = (12, n)) (hI : I a = f) (hi : i = nI j) (hj : j < n) (hn : n < 2 ^ 31) (kk : (f j = 0 ∨ f j = 1) → tkG X Q cs ss (pc + 1) lv (.int (f j) :: stk) σ I L) : tkG X Q cs ss pc lv (.int i :: .ref a :: stk) σ I L := by
  subst hi
  exact g_zald C hd hS hI (vp_in_nI hj hn) (by rw [nI_clamp (by omega)]; exact kk)
theorem g_da (C : tkC X cc own nm nL ret hh d MC MS) {a n j : Nat} {i : Int32} {f : Nat → Int64} (hd : decode cc pc = .ok (.daload, 1)) (hS : σ.2.1 a = (13, n)) (hI : L a = f) (hi : i = nI j) (hj : j < n) (hn : n < 2 ^ 31) (kk : tkG X Q cs ss (pc + 1) lv (.double (f j).toUInt64 :: stk) σ I L) : tkG X Q cs ss pc lv (.int i :: .ref a :: stk) σ I L := by
  subst hi
  exact g_dald C hd hS hI (vp_in_nI hj hn) (by rw [nI_clamp (by omega)]; exact kk)
theorem g_is (C : tkC X cc own nm nL ret hh d MC MS) {a n j : Nat} {i x : Int32} {I1 : tkI} (hd : decode cc pc = .ok (.iastore, 1)) (hS : σ.2.1 a = (10, n)) (hI : tk2 I a j x = I1) (hi : i = nI j) (hj : j < n) (hn : n < 2 ^ 31) (kk : tkG X Q cs ss (pc + 1) lv stk σ I1 L) : tkG X Q cs ss pc lv (.int x :: .int i :: .ref a :: stk) σ I L := by
  subst hi
  exact g_iast C hd hS (by rw [nI_clamp (by omega)]; exact hI) (vp_in_nI hj hn) kk
theorem g_zs (C : tkC X cc own nm nL ret hh d MC MS) {a n j : Nat} {i x : Int32} {I1 : tkI} (hd : decode cc pc = .ok (.bastore, 1)) (hS : σ.2.1 a = (12, n)) (hI : tk2 I a j x = I1) (hi : i = nI j) (hj : j < n) (hn : n < 2 ^ 31) (h01 : x = 0 ∨ x = 1) (kk : tkG X Q cs ss (pc + 1) lv stk σ I1 L) : tkG X Q cs ss pc lv (.int x :: .int i :: .ref a :: stk) σ I L := by
  subst hi
  exact g_zast C hd hS (by rw [nI_clamp (by omega)]; exact hI) (vp_in_nI hj hn) h01 kk
theorem g_ls (C : tkC X cc own nm nL ret hh d MC MS) {a n j : Nat} {i : Int32} {x : Int64} {L1 : tkL} (hd : decode cc pc = .ok (.lastore, 1)) (hS : σ.2.1 a = (11, n)) (hI : tk2 L a j x = L1) (hi : i = nI j) (hj : j < n) (hn : n < 2 ^ 31) (kk : tkG X Q cs ss (pc + 1) lv stk σ I L1) : tkG X Q cs ss pc lv (.long x :: .int i :: .ref a :: stk) σ I L := by
  subst hi
  exact g_last C hd hS (by rw [nI_clamp (by omega)]; exact hI) (vp_in_nI hj hn) kk
theorem g_ds (C : tkC X cc own nm nL ret hh d MC MS) {a n j : Nat} {i : Int32} {x : UInt64} {L1 : tkL} (hd : decode cc pc = .ok (.dastore, 1)) (hS : σ.2.1 a = (13, n)) (hI : tk2 L a j x.toInt64 = L1) (hi : i = nI j) (hj : j < n) (hn : n < 2 ^ 31) (kk : tkG X Q cs ss (pc + 1) lv stk σ I L1) : tkG X Q cs ss pc lv (.double x :: .int i :: .ref a :: stk) σ I L := by
  subst hi
  exact g_dast C hd hS (by rw [nI_clamp (by omega)]; exact hI) (vp_in_nI hj hn) kk
variable {rest : List Value} {σ' : tkM} {I' : tkI} {L' : tkL}
theorem tk_retv {v : Value} (k : tkG X Q cs ss pc lv (v :: rest) σ' I' L') : ∀ (v' : Option Value) (n : Nat), (Sum.inl (some v) : tkOut) = .inl v' → σ'.1 ≤ n → (false = false → n = σ'.1) → tkG X Q cs ss pc lv (v'.toList ++ rest) (n, σ'.2) I' L' := by
  intro v' n h1 _ h3
  cases h1
  cases h3 rfl
  exact k
theorem tk_retn (k : tkG X Q cs ss pc lv rest σ' I' L') : ∀ (v' : Option Value) (n : Nat), (Sum.inl none : tkOut) = .inl v' → σ'.1 ≤ n → (false = false → n = σ'.1) → tkG X Q cs ss pc lv (v'.toList ++ rest) (n, σ'.2) I' L' := by
  intro v' n h1 _ h3
  cases h1
  cases h3 rfl
  exact k
theorem tk_nothr {v : Option Value} : ∀ (E : String) (n : Nat), (Sum.inl v : tkOut) = .inr E → σ'.1 ≤ n → tkT X Q cs ss pc lv rest (n, σ'.2) I' L' E := by
  intro E n h1
  cases h1
theorem tk_noret {E : String} : ∀ (v' : Option Value) (n : Nat), (Sum.inr E : tkOut) = .inl v' → σ'.1 ≤ n → (false = false → n = σ'.1) → tkG X Q cs ss pc lv (v'.toList ++ rest) (n, σ'.2) I' L' := by
  intro v' n h1
  cases h1
theorem tk_thr {E : String} (k : ∀ n, σ'.1 ≤ n → tkT X Q cs ss pc lv rest (n, σ'.2) I' L' E) : ∀ (E' : String) (n : Nat), (Sum.inr E : tkOut) = .inr E' → σ'.1 ≤ n → tkT X Q cs ss pc lv rest (n, σ'.2) I' L' E' := by
  intro E' n h1 h2
  cases h1
  exact k n h2
end TKREG
end
section
section TKSPEC
/-- n rounds of f, with 0, 1 .. n - 1 -/
def itr {α : Type} (f : Nat → α → α) : Nat → α → α
  | 0, a => a
  | n + 1, a => f n (itr f n a)
theorem itr_inv {α : Type} {f : Nat → α → α} {P : α → Prop} {n : Nat} (hs : ∀ i a, i < n → P a → P (f i a)) : ∀ {k : Nat} {a : α}, k ≤ n → P a → P (itr f k a)
  | 0, a, _, h => h
  | k + 1, a, hk, h => hs k _ hk (itr_inv hs (Nat.le_of_succ_le hk) h)
def jmin (x y : Int32) : Int32 := if y < x then y else x
def jminL (x y : Int64) : Int64 := if y < x then y else x
theorem itr_stop {α : Type} {f : Nat → α → α} {P : α → Prop} (hs : ∀ i a, P a → f i a = a) {i : Nat} {a : α} (h : P (itr f i a)) : ∀ k, itr f (i + k) a = itr f i a
  | 0 => rfl
  | k + 1 => by
    have e := itr_stop hs h k
    show f (i + k) (itr f (i + k) a) = itr f i a
    rw [e]
    exact hs _ _ h
theorem tk_negz {b : Int64} (h : b < 0) : ¬ -b = 0 := Int64.neg_ne_zero.mpr (fun z => by rw [z] at h; exact absurd h (by decide))
/-- a margin's ticks -/
def jtw (spare slope : Int64) (limit : Int32) : Int32 := if 0 ≤ spare then (if slope < 0 then (jminL limit.toInt64 (spare / -slope)).toInt32 else limit) else 0
def jwith (x a b : Int32) : Int32 := if x < a then 0 else if b < x then 0 else 1
def jreach (lvl mark b : Int32) : Int32 := if b = 0 then (if lvl < mark then 0 else 1) else (if mark < lvl then 0 else 1)
def jmix (d x : Int64) : Int64 := d * 31 + x
def lgSlot (x : Int64) : Nat := x.toInt.toNat % 30
theorem lgSlot_lN {c : Nat} (h : c < 2 ^ 63) : lgSlot (lN c) = c % 30 := by
  rw [lgSlot, pk_lT h]
  rfl
/-! the tanks' steps, on plant-local memory -/
def sLeak (i : Nat) (q : tkI × tkL) : tkI × tkL :=
  let I1 := tk2 q.1 3 i (q.1 3 i - jmin (q.1 4 i) (q.1 3 i))
  (I1, tk2 q.2 5 i (q.2 5 i + (I1 3 i).toInt64))
def sTst (I : tkI) (i : Nat) (st : Int32) : Int32 := if 0 < st then jtw (I 3 i).toInt64 (I 3 i - I 6 i).toInt64 st else st
def sRep (t : Int32) (i : Nat) (q : tkI × tkL) : tkI × tkL :=
  (tk2 q.1 3 i (q.1 3 i + (q.1 3 i - q.1 6 i) * t),
   tk2 q.2 5 i (q.2 5 i + ((q.1 3 i).toInt64 * t.toInt64 + (q.1 3 i - q.1 6 i).toInt64 * (t.toInt64 * (t + 1).toInt64 / 2))))
def sTmix (I : tkI) (i : Nat) (d : Int64) : Int64 := jmix (jmix d (I 3 i).toInt64) (I 4 i).toInt64
def sBef (I : tkI) : tkI := tk1 I 6 (va_cpy (I 3) (I 6) 0 0 8)
/-! the log -/
def sNote (now : Int64) (i : Int32) (q : tkI × tkL) : tkI × tkL := (tk2 q.1 27 (lgSlot (q.2 25 0)) i, tk2 (tk2 q.2 26 (lgSlot (q.2 25 0)) now) 25 0 (q.2 25 0 + 1))
/-! the switches -/
def sDue (I : tkI) (i : Nat) : Int32 := if I 11 i = 0 then (if I 9 i < I 3 (I 8 i).toNatClampNeg then 0 else 1) else (if I 10 i ≤ I 3 (I 8 i).toNatClampNeg then 0 else 1)
def sFol (now : Int64) (i : Nat) (q : (tkI × tkL) × Int32) : (tkI × tkL) × Int32 :=
  if sDue q.1.1 i = q.1.1 11 i then q else (sNote now (nI i) (tk2 q.1.1 11 i (sDue q.1.1 i), q.1.2), q.2 + 1)
def sSst (I : tkI) (i : Nat) (st : Int32) : Int32 :=
  let t := (I 8 i).toNatClampNeg
  let lv := I 6 t
  let dr := I 3 t - I 6 t
  if 0 < st then (if I 11 i = 0 then jtw (lv - I 9 i - 1).toInt64 dr.toInt64 st else jtw (I 10 i - 1 - lv).toInt64 (-dr).toInt64 st) else st
def sSmix (I : tkI) (i : Nat) (d : Int64) : Int64 := jmix d (if I 11 i = 0 then 0 else 1)
/-- the switches' rows are in order: each watches a tank -/
def wSw (I : tkI) (ns : Nat) : Prop := I 7 0 = nI ns ∧ ns ≤ 10 ∧ ∀ i, i < ns → ∃ t, t < 8 ∧ I 8 i = nI t
def wTk (I : tkI) (nt : Nat) : Prop := I 1 0 = nI nt ∧ nt ≤ 8
/-- the pumps' rows are in order -/
def wPu (I : tkI) (np : Nat) : Prop := I 12 0 = nI np ∧ np ≤ 16 ∧ ∀ i, i < np → (I 13 i = -1 ∨ ∃ t, t < 8 ∧ I 13 i = nI t) ∧ (I 14 i = -1 ∨ ∃ t, t < 8 ∧ I 14 i = nI t) ∧ (I 17 i = -1 ∨ ∃ t, t < 10 ∧ I 17 i = nI t)
end TKSPEC
section TKCPY
variable {X : tkX} {Q : State → Prop} {cc : ByteArray} {own nm : String} {nL d MC MS cs ss pc : Nat} {ret : Option FieldType} {hh : List (Nat × Nat × Nat × Nat)} {lv : List (Option Value)} {stk : List Value} {σ : tkM} {I : tkI} {L : tkL}
theorem cp_reg {α : Type} {p N k n : Nat} {f v : Nat → Nat → α} {g : Nat → α} {a0 : Nat} (hk : k < N) (h : reg p N f v a0 = g) : tk1 (reg p N f v) (p + k) (va_cpy (reg p N f v a0) (reg p N f v (p + k)) 0 0 n) = reg p N (tk1 f k (va_cpy g (f k) 0 0 n)) v := by
  rw [h, reg_at hk, tk1_reg hk]
theorem g_cp_i (C : tkC X cc own nm nL ret hh d MC MS) {idx a a0 ns nd N : Nat} {n : Int32} {I1 : tkI} (hd : decode cc pc = .ok (.invokestatic idx, 3)) (hw1 : Cond.methodLink own idx arraycopyName ∈ tkAll)
    (hs0 : σ.2.1 a0 = (10, ns)) (hs1 : σ.2.1 a = (10, nd)) (hn : n = nI N) (hI : tk1 I a (va_cpy (I a0) (I a) 0 0 N) = I1) (h4 : N ≤ ns) (h5 : N ≤ nd) (hN : N < 2 ^ 31)
    (hd2 : 2 ≤ d) (hstk : (stk.map fun v => v.category).sum ≤ 8) (kk : tkG X Q cs ss (pc + 3) lv stk σ I1 L) : tkG X Q cs ss pc lv (.int n :: .int 0 :: .ref a :: .int 0 :: .ref a0 :: stk) σ I L := by
  subst hn
  have e0 : (0 : Int32).toNatClampNeg = 0 := by decide
  exact g_copy_i C hd hw1 mw_arraycopyName mt_arraycopyName mi_J10 hs0 hs1 (by rw [e0, nI_clamp hN]; exact hI) (by decide) (by decide) (nI_pos hN) (by rw [e0, nI_clamp hN]; omega) (by rw [e0, nI_clamp hN]; omega) hd2 hstk kk
theorem g_cp_z (C : tkC X cc own nm nL ret hh d MC MS) {idx a a0 ns nd N : Nat} {n : Int32} {I1 : tkI} (hd : decode cc pc = .ok (.invokestatic idx, 3)) (hw1 : Cond.methodLink own idx arraycopyName ∈ tkAll)
    (hs0 : σ.2.1 a0 = (12, ns)) (hs1 : σ.2.1 a = (12, nd)) (hn : n = nI N) (hI : tk1 I a (va_cpy (I a0) (I a) 0 0 N) = I1) (h4 : N ≤ ns) (h5 : N ≤ nd) (hN : N < 2 ^ 31)
    (hd2 : 2 ≤ d) (hstk : (stk.map fun v => v.category).sum ≤ 8) (kk : tkG X Q cs ss (pc + 3) lv stk σ I1 L) : tkG X Q cs ss pc lv (.int n :: .int 0 :: .ref a :: .int 0 :: .ref a0 :: stk) σ I L := by
  subst hn
  have e0 : (0 : Int32).toNatClampNeg = 0 := by decide
  exact g_copy_z C hd hw1 mw_arraycopyName mt_arraycopyName mi_J10 hs0 hs1 (by rw [e0, nI_clamp hN]; exact hI) (by decide) (by decide) (nI_pos hN) (by rw [e0, nI_clamp hN]; omega) (by rw [e0, nI_clamp hN]; omega) hd2 hstk kk
theorem g_cp_l (C : tkC X cc own nm nL ret hh d MC MS) {idx a a0 ns nd N : Nat} {n : Int32} {L1 : tkL} (hd : decode cc pc = .ok (.invokestatic idx, 3)) (hw1 : Cond.methodLink own idx arraycopyName ∈ tkAll)
    (hs0 : σ.2.1 a0 = (11, ns)) (hs1 : σ.2.1 a = (11, nd)) (hn : n = nI N) (hI : tk1 L a (va_cpy (L a0) (L a) 0 0 N) = L1) (h4 : N ≤ ns) (h5 : N ≤ nd) (hN : N < 2 ^ 31)
    (hd2 : 2 ≤ d) (hstk : (stk.map fun v => v.category).sum ≤ 8) (kk : tkG X Q cs ss (pc + 3) lv stk σ I L1) : tkG X Q cs ss pc lv (.int n :: .int 0 :: .ref a :: .int 0 :: .ref a0 :: stk) σ I L := by
  subst hn
  have e0 : (0 : Int32).toNatClampNeg = 0 := by decide
  exact g_copy_l C hd hw1 mw_arraycopyName mt_arraycopyName mi_J10 hs0 hs1 (by rw [e0, nI_clamp hN]; exact hI) (by decide) (by decide) (nI_pos hN) (by rw [e0, nI_clamp hN]; omega) (by rw [e0, nI_clamp hN]; omega) hd2 hstk kk
end TKCPY
section TKMIN
variable {X : tkX} {Q : State → Prop} {cc : ByteArray} {own nm : String} {nL d MC MS cs ss pc : Nat} {ret : Option FieldType} {hh : List (Nat × Nat × Nat × Nat)} {lv : List (Option Value)} {stk : List Value} {σ : tkM} {I : tkI} {L : tkL}
theorem mz_min : Cond.code Lib.Math.min.name Lib.Math.min.code 2 (some .int) ∈ tkAll := tk_at 511 (by decide +kernel) (by decide +kernel)
theorem mz_minL : Cond.code Lib.MathLoose.min_long.x Lib.MathLoose.min_long.code 4 (some .long) ∈ tkAll := tk_at 538 (by decide +kernel) (by decide +kernel)
theorem g_min (C : tkC X cc own nm nL ret hh d MC MS) {idx : Nat} {x y : Int32} (hd : decode cc pc = .ok (.invokestatic idx, 3)) (hw : Cond.methodLink own idx yJ9_min_7cf53 ∈ tkAll) (h1 : 1 ≤ d) (h2 : cs ≤ MC) (h3 : ss ≤ MS) (hst : (stk.map fun v => v.category).sum ≤ 8) (k : tkG X Q cs ss (pc + 3) lv (.int (jmin x y) :: stk) σ I L) : tkG X Q cs ss pc lv (.int y :: .int x :: stk) σ I L := by
  obtain ⟨p, l, e, R, s, m, args, below, meth, c, base, D⟩ := X
  obtain ⟨hx, hb, hml, hown, hts, hK, hE, hlocks, hr, hnm, hhh, hfr, hlo, hRc, hRs, hst9⟩ := C
  intro H locs ls hSS hR hl
  exact va_mmin hx hb (by exact hl.1.symm) hown (hts _ hw) (hts _ mt_yJ9_min_7cf53) (hts _ mi_J9) (hts _ mz_min) (by omega) (by omega) (by rw [hRc]; exact h2) (by rw [hRs]; exact h3) hd (k H locs ls hSS hR hl)
theorem g_minL (C : tkC X cc own nm nL ret hh d MC MS) {idx : Nat} {x y : Int64} (hd : decode cc pc = .ok (.invokestatic idx, 3)) (hw : Cond.methodLink own idx yJ9_min_f86c9 ∈ tkAll) (h1 : 1 ≤ d) (h2 : cs ≤ MC) (h3 : ss ≤ MS) (hst : (stk.map fun v => v.category).sum ≤ 8) (k : tkG X Q cs ss (pc + 3) lv (.long (jminL x y) :: stk) σ I L) : tkG X Q cs ss pc lv (.long y :: .long x :: stk) σ I L := by
  obtain ⟨p, l, e, R, s, m, args, below, meth, c, base, D⟩ := X
  obtain ⟨hx, hb, hml, hown, hts, hK, hE, hlocks, hr, hnm, hhh, hfr, hlo, hRc, hRs, hst9⟩ := C
  intro H locs ls hSS hR hl
  exact va_mmin_long hx hb (by exact hl.1.symm) hown (hts _ hw) (hts _ mt_yJ9_min_f86c9) (hts _ mi_J9) (hts _ mz_minL) (by omega) (by omega) (by rw [hRc]; exact h2) (by rw [hRs]; exact h3) hd (k H locs ls hSS hR hl)
end TKMIN
end
section
section TKTANKS
variable {σ : tkM} {p : Nat} {I0 v : tkI} {L0 w : tkL}
/-! the static helpers of TankPlant -/
theorem c_X5_isWithin {I : tkI} {L : tkL} (x a b : Int32) : tkCon false (.code yX5_isWithin cX5_isWithin 3 (some .boolean)) yX5_isWithin 1 [.int x, .int a, .int b] σ I L 0 0 (.inl (some (.int (jwith x a b)))) σ I L := by
  refine tkCon.of (by decide) (Nat.le_of_ble_eq_true rfl) (fun X C => ?_)
  refine g_iload_n C (i := 0) dX5_isWithin_0 rfl rfl ?_
  refine g_iload_n C (i := 1) dX5_isWithin_1 rfl rfl ?_
  refine g_icmp_lt C 14 dX5_isWithin_2 (by decide) (fun h2 => ?_) (fun h2 => ?_)
  · refine g_iconst C (0) dX5_isWithin_14 rfl ?_
    exact g_zreturn C dX5_isWithin_15 ⟨Nat.le_refl _, Nat.le_refl _⟩ (Or.inl rfl) (tkEnd.rf (by simp [jwith, h2]) rfl rfl)
  · refine g_iload_n C (i := 0) dX5_isWithin_5 rfl rfl ?_
    refine g_iload_n C (i := 2) dX5_isWithin_6 rfl rfl ?_
    refine g_icmp_gt C 14 dX5_isWithin_7 (by decide) (fun h7 => ?_) (fun h7 => ?_)
    · refine g_iconst C (0) dX5_isWithin_14 rfl ?_
      exact g_zreturn C dX5_isWithin_15 ⟨Nat.le_refl _, Nat.le_refl _⟩ (Or.inl rfl) (tkEnd.rf (by simp [jwith, h2, h7]) rfl rfl)
    · refine g_iconst C (1) dX5_isWithin_10 rfl ?_
      refine g_goto C 15 dX5_isWithin_11 (by decide) ?_
      exact g_zreturn C dX5_isWithin_15 ⟨Nat.le_refl _, Nat.le_refl _⟩ (Or.inr rfl) (tkEnd.rf (by simp [jwith, h2, h7]) rfl rfl)
theorem c_X5_mix {I : tkI} {L : tkL} (a b : Int64) : tkCon false (.code yX5_mix cX5_mix 4 (some .long)) yX5_mix 1 [.long a, .long b] σ I L 0 0 (.inl (some (.long (jmix a b)))) σ I L := by
  refine tkCon.of (by decide) (Nat.le_of_ble_eq_true rfl) (fun X C => ?_)
  refine g_lload_n C (i := 0) dX5_mix_0 rfl rfl ?_
  refine g_ldc2 C (31) dX5_mix_1 ml_X5_227 ?_
  refine g_lmul C dX5_mix_4 ?_
  refine g_lload_n C (i := 2) dX5_mix_5 rfl rfl ?_
  refine g_ladd C dX5_mix_6 ?_
  exact g_lreturn C dX5_mix_7 ⟨Nat.le_of_ble_eq_true rfl, Nat.le_of_ble_eq_true rfl⟩ (tkEnd.rf rfl rfl rfl)
theorem c_X5_ticksWhile {I : tkI} {L : tkL} (a b : Int64) (m : Int32) : tkCon false (.code yX5_ticksWhile cX5_ticksWhile 5 (some .int)) yX5_ticksWhile 2 [.long a, .long b, .int m] σ I L 0 0 (.inl (some (.int (jtw a b m)))) σ I L := by
  refine tkCon.of (by decide) (Nat.le_of_ble_eq_true rfl) (fun X C => ?_)
  refine g_lload_n C (i := 0) dX5_ticksWhile_0 rfl rfl ?_
  refine g_lconst C 0 dX5_ticksWhile_1 rfl ?_
  refine g_lcmp C dX5_ticksWhile_2 ?_
  refine g_if_ge C 8 dX5_ticksWhile_3 (by decide) (fun h3 => ?_) (fun h3 => ?_)
  · rw [lg_cmp_ge] at h3
    refine g_lload_n C (i := 2) dX5_ticksWhile_8 rfl rfl ?_
    refine g_lconst C 0 dX5_ticksWhile_9 rfl ?_
    refine g_lcmp C dX5_ticksWhile_10 ?_
    refine g_if_lt C 17 dX5_ticksWhile_11 (by decide) (fun h11 => ?_) (fun h11 => ?_)
    · rw [lg_cmp_lt] at h11
      refine g_iload C (i := 4) dX5_ticksWhile_17 rfl ?_
      refine g_i2l C dX5_ticksWhile_19 ?_
      refine g_lload_n C (i := 0) dX5_ticksWhile_20 rfl rfl ?_
      refine g_lload_n C (i := 2) dX5_ticksWhile_21 rfl rfl ?_
      refine g_lneg C dX5_ticksWhile_22 ?_
      refine g_ldiv C dX5_ticksWhile_23 (tk_negz h11) ?_
      refine g_minL C dX5_ticksWhile_24 ml_X5_229 (by decide) (Nat.le_of_ble_eq_true rfl) (Nat.le_of_ble_eq_true rfl) (Nat.le_of_ble_eq_true rfl) ?_
      refine g_l2i C dX5_ticksWhile_27 ?_
      exact g_ireturn C dX5_ticksWhile_28 ⟨Nat.le_of_ble_eq_true rfl, Nat.le_of_ble_eq_true rfl⟩ (tkEnd.rf (by simp [jtw, h3, h11]) rfl rfl)
    · rw [lg_cmp_lt] at h11
      refine g_iload C (i := 4) dX5_ticksWhile_14 rfl ?_
      exact g_ireturn C dX5_ticksWhile_16 ⟨Nat.le_of_ble_eq_true rfl, Nat.le_of_ble_eq_true rfl⟩ (tkEnd.rf (by simp [jtw, h3, h11]) rfl rfl)
  · rw [lg_cmp_ge] at h3
    refine g_iconst C (0) dX5_ticksWhile_6 rfl ?_
    exact g_ireturn C dX5_ticksWhile_7 ⟨Nat.le_of_ble_eq_true rfl, Nat.le_of_ble_eq_true rfl⟩ (tkEnd.rf (by simp [jtw, h3]) rfl rfl)
/-! Tanks -/
/-- Tanks.append -/
theorem c_X4_append (hP : tkReg 28 pT pF σ p) {n : Nat} (hn : n < 8) (hc : I0 1 0 = nI n) (x1 x2 x3 : Int32) :
    tkCon false (.code yX4_append cX4_append 5 (some .int)) yX4_append 1 [.ref (p + 1), .int x1, .int x2, .int x3] σ (reg p 28 I0 v) (reg p 28 L0 w) 0 0 (.inl (some (.int (nI n)))) σ
      (reg p 28 (tk2 (tk2 (tk2 (tk2 I0 2 n x1) 3 n x2) 4 n x3) 1 0 (nI n + 1)) v) (reg p 28 (tk2 L0 5 n 0) w) := by
  refine tkCon.of (by decide) (Nat.le_of_ble_eq_true rfl) (fun X C => ?_)
  refine g_aload_n C (i := 0) dX4_append_0 rfl rfl ?_
  refine g_getI C 4 0 (RX4, TX4, 6) dX4_append_1 (hP.1 1 (by decide)) (reg_at (k := 1) (by decide)) ml_X4_28 rfl (by decide) (Or.inl rfl) ?_
  rw [hc]
  refine g_istore C (i := 4) dX4_append_4 (by decide) ?_
  refine g_aload_n C (i := 0) dX4_append_6 rfl rfl ?_
  refine g_getR C 4 1 (RX4, TX4, 6) dX4_append_7 (hP.1 1 (by decide)) (hP.2 1 1 2 (by decide) rfl) ml_X4_9 rfl (by decide) rfl ?_
  refine g_iload C (i := 4) dX4_append_10 rfl ?_
  refine g_iload_n C (i := 1) dX4_append_12 rfl rfl ?_
  refine g_is C dX4_append_13 (hP.1 2 (by decide)) (tk2_reg (k := 2) (by decide)) rfl (by omega) (by decide) ?_
  refine g_aload_n C (i := 0) dX4_append_14 rfl rfl ?_
  refine g_getR C 4 2 (RX4, TX4, 6) dX4_append_15 (hP.1 1 (by decide)) (hP.2 1 2 3 (by decide) rfl) ml_X4_15 rfl (by decide) rfl ?_
  refine g_iload C (i := 4) dX4_append_18 rfl ?_
  refine g_iload_n C (i := 2) dX4_append_20 rfl rfl ?_
  refine g_is C dX4_append_21 (hP.1 3 (by decide)) (tk2_reg (k := 3) (by decide)) rfl (by omega) (by decide) ?_
  refine g_aload_n C (i := 0) dX4_append_22 rfl rfl ?_
  refine g_getR C 4 3 (RX4, TX4, 6) dX4_append_23 (hP.1 1 (by decide)) (hP.2 1 3 4 (by decide) rfl) ml_X4_18 rfl (by decide) rfl ?_
  refine g_iload C (i := 4) dX4_append_26 rfl ?_
  refine g_iload_n C (i := 3) dX4_append_28 rfl rfl ?_
  refine g_is C dX4_append_29 (hP.1 4 (by decide)) (tk2_reg (k := 4) (by decide)) rfl (by omega) (by decide) ?_
  refine g_aload_n C (i := 0) dX4_append_30 rfl rfl ?_
  refine g_getR C 4 4 (RX4, TX4, 6) dX4_append_31 (hP.1 1 (by decide)) (hP.2 1 4 5 (by decide) rfl) ml_X4_21 rfl (by decide) rfl ?_
  refine g_iload C (i := 4) dX4_append_34 rfl ?_
  refine g_lconst C 0 dX4_append_36 rfl ?_
  refine g_ls C dX4_append_37 (hP.1 5 (by decide)) (tk2_reg (k := 5) (by decide)) rfl (by omega) (by decide) ?_
  refine g_aload_n C (i := 0) dX4_append_38 rfl rfl ?_
  refine g_dup C dX4_append_39 rfl ?_
  refine g_getI C 4 0 (RX4, TX4, 6) dX4_append_40 (hP.1 1 (by decide)) (reg_at (k := 1) (by decide)) ml_X4_28 rfl (by decide) (Or.inl rfl) ?_
  rw [show tk2 (tk2 (tk2 I0 2 n x1) 3 n x2) 4 n x3 1 0 = nI n by simp [tk2, hc]]
  refine g_iconst C (1) dX4_append_43 rfl ?_
  refine g_iadd C dX4_append_44 ?_
  refine g_putI C 4 0 (RX4, TX4, 6) dX4_append_45 (hP.1 1 (by decide)) (tk2_reg (k := 1) (by decide)) ml_X4_28 rfl (by decide) rfl rfl ?_
  refine g_iload C (i := 4) dX4_append_48 rfl ?_
  exact g_ireturn C dX4_append_50 ⟨Nat.le_of_ble_eq_true rfl, Nat.le_of_ble_eq_true rfl⟩ (tkEnd.rf rfl rfl rfl)
/-- Tanks.drift -/
theorem c_X4_drift (hP : tkReg 28 pT pF σ p) {j : Nat} (hj : j < 8) :
    tkCon false (.code yX4_drift cX4_drift 2 (some .int)) yX4_drift 1 [.ref (p + 1), .int (nI j)] σ (reg p 28 I0 v) (reg p 28 L0 w) 0 0 (.inl (some (.int (I0 3 j - I0 6 j)))) σ (reg p 28 I0 v) (reg p 28 L0 w) := by
  refine tkCon.of (by decide) (Nat.le_of_ble_eq_true rfl) (fun X C => ?_)
  refine g_aload_n C (i := 0) dX4_drift_0 rfl rfl ?_
  refine g_getR C 4 2 (RX4, TX4, 6) dX4_drift_1 (hP.1 1 (by decide)) (hP.2 1 2 3 (by decide) rfl) ml_X4_15 rfl (by decide) rfl ?_
  refine g_iload_n C (i := 1) dX4_drift_4 rfl rfl ?_
  refine g_ia C dX4_drift_5 (hP.1 3 (by decide)) (reg_at (k := 3) (by decide)) rfl (by omega) (by decide) ?_
  refine g_aload_n C (i := 0) dX4_drift_6 rfl rfl ?_
  refine g_getR C 4 5 (RX4, TX4, 6) dX4_drift_7 (hP.1 1 (by decide)) (hP.2 1 5 6 (by decide) rfl) ml_X4_25 rfl (by decide) rfl ?_
  refine g_iload_n C (i := 1) dX4_drift_10 rfl rfl ?_
  refine g_ia C dX4_drift_11 (hP.1 6 (by decide)) (reg_at (k := 6) (by decide)) rfl (by omega) (by decide) ?_
  refine g_isub C dX4_drift_12 ?_
  exact g_ireturn C dX4_drift_13 ⟨Nat.le_of_ble_eq_true rfl, Nat.le_of_ble_eq_true rfl⟩ (tkEnd.rf rfl rfl rfl)
theorem c_X4_noteLevels (hP : tkReg 28 pT pF σ p) :
    tkCon false (.code yX4_noteLevels cX4_noteLevels 1 none) yX4_noteLevels 2 [.ref (p + 1)] σ (reg p 28 I0 v) (reg p 28 L0 w) 0 0 (.inl none) σ (reg p 28 (sBef I0) v) (reg p 28 L0 w) := by
  refine tkCon.of (by decide) (Nat.le_of_ble_eq_true rfl) (fun X C => ?_)
  refine g_aload_n C (i := 0) dX4_noteLevels_0 rfl rfl ?_
  refine g_getR C 4 2 (RX4, TX4, 6) dX4_noteLevels_1 (hP.1 1 (by decide)) (hP.2 1 2 3 (by decide) rfl) ml_X4_15 rfl (by decide) rfl ?_
  refine g_iconst C (0) dX4_noteLevels_4 rfl ?_
  refine g_aload_n C (i := 0) dX4_noteLevels_5 rfl rfl ?_
  refine g_getR C 4 5 (RX4, TX4, 6) dX4_noteLevels_6 (hP.1 1 (by decide)) (hP.2 1 5 6 (by decide) rfl) ml_X4_25 rfl (by decide) rfl ?_
  refine g_iconst C (0) dX4_noteLevels_9 rfl ?_
  refine g_bipush C (8) dX4_noteLevels_10 rfl ?_
  refine g_cp_i C dX4_noteLevels_12 ml_X4_32 (hP.1 3 (by decide)) (hP.1 6 (by decide)) rfl (cp_reg (k := 6) (by decide) (reg_at (by decide))) (by decide) (by decide) (by decide) (by decide) (Nat.le_of_ble_eq_true rfl) ?_
  exact g_return C dX4_noteLevels_15 ⟨Nat.le_of_ble_eq_true rfl, Nat.le_of_ble_eq_true rfl⟩ (tkEnd.rf rfl rfl rfl)
theorem c_X4_hasReached (hP : tkReg 28 pT pF σ p) {j : Nat} (hj : j < 8) (mark b : Int32) :
    tkCon false (.code yX4_hasReached cX4_hasReached 4 (some .boolean)) yX4_hasReached 1 [.ref (p + 1), .int (nI j), .int mark, .int b] σ (reg p 28 I0 v) (reg p 28 L0 w) 0 0 (.inl (some (.int (jreach (I0 3 j) mark b)))) σ (reg p 28 I0 v) (reg p 28 L0 w) := by
  refine tkCon.of (by decide) (Nat.le_of_ble_eq_true rfl) (fun X C => ?_)
  refine g_iload_n C (i := 3) dX4_hasReached_0 rfl rfl ?_
  refine g_if_eq C 22 dX4_hasReached_1 (by decide) (fun h1 => ?_) (fun h1 => ?_)
  · refine g_aload_n C (i := 0) dX4_hasReached_22 rfl rfl ?_
    refine g_getR C 4 2 (RX4, TX4, 6) dX4_hasReached_23 (hP.1 1 (by decide)) (hP.2 1 2 3 (by decide) rfl) ml_X4_15 rfl (by decide) rfl ?_
    refine g_iload_n C (i := 1) dX4_hasReached_26 rfl rfl ?_
    refine g_ia C dX4_hasReached_27 (hP.1 3 (by decide)) (reg_at (k := 3) (by decide)) rfl (by omega) (by decide) ?_
    refine g_iload_n C (i := 2) dX4_hasReached_28 rfl rfl ?_
    refine g_icmp_lt C 36 dX4_hasReached_29 (by decide) (fun h29 => ?_) (fun h29 => ?_)
    · refine g_iconst C (0) dX4_hasReached_36 rfl ?_
      exact g_zreturn C dX4_hasReached_37 ⟨Nat.le_of_ble_eq_true rfl, Nat.le_of_ble_eq_true rfl⟩ (by first | assumption | exact Or.inl rfl | exact Or.inr rfl) (tkEnd.rf (by simp [jreach, h1, h29]) rfl rfl)
    · refine g_iconst C (1) dX4_hasReached_32 rfl ?_
      refine g_goto C 37 dX4_hasReached_33 (by decide) ?_
      exact g_zreturn C dX4_hasReached_37 ⟨Nat.le_of_ble_eq_true rfl, Nat.le_of_ble_eq_true rfl⟩ (by first | assumption | exact Or.inl rfl | exact Or.inr rfl) (tkEnd.rf (by simp [jreach, h1, h29]) rfl rfl)
  · refine g_aload_n C (i := 0) dX4_hasReached_4 rfl rfl ?_
    refine g_getR C 4 2 (RX4, TX4, 6) dX4_hasReached_5 (hP.1 1 (by decide)) (hP.2 1 2 3 (by decide) rfl) ml_X4_15 rfl (by decide) rfl ?_
    refine g_iload_n C (i := 1) dX4_hasReached_8 rfl rfl ?_
    refine g_ia C dX4_hasReached_9 (hP.1 3 (by decide)) (reg_at (k := 3) (by decide)) rfl (by omega) (by decide) ?_
    refine g_iload_n C (i := 2) dX4_hasReached_10 rfl rfl ?_
    refine g_icmp_gt C 18 dX4_hasReached_11 (by decide) (fun h11 => ?_) (fun h11 => ?_)
    · refine g_iconst C (0) dX4_hasReached_18 rfl ?_
      refine g_goto C 37 dX4_hasReached_19 (by decide) ?_
      exact g_zreturn C dX4_hasReached_37 ⟨Nat.le_of_ble_eq_true rfl, Nat.le_of_ble_eq_true rfl⟩ (by first | assumption | exact Or.inl rfl | exact Or.inr rfl) (tkEnd.rf (by simp [jreach, h1, h11]) rfl rfl)
    · refine g_iconst C (1) dX4_hasReached_14 rfl ?_
      refine g_goto C 37 dX4_hasReached_15 (by decide) ?_
      exact g_zreturn C dX4_hasReached_37 ⟨Nat.le_of_ble_eq_true rfl, Nat.le_of_ble_eq_true rfl⟩ (by first | assumption | exact Or.inl rfl | exact Or.inr rfl) (tkEnd.rf (by simp [jreach, h1, h11]) rfl rfl)
theorem c_X4_ticksShortOf (hP : tkReg 28 pT pF σ p) {j : Nat} (hj : j < 8) (mark b lim : Int32) :
    tkCon false (.code yX4_ticksShortOf cX4_ticksShortOf 9 (some .int)) yX4_ticksShortOf 3 [.ref (p + 1), .int (nI j), .int mark, .int b, .int lim] σ (reg p 28 I0 v) (reg p 28 L0 w) 0 0
      (.inl (some (.int (if b = 0 then jtw (mark.toInt64 - (I0 3 j).toInt64 - 1) (-(I0 3 j - I0 6 j)).toInt64 lim else jtw ((I0 3 j).toInt64 - mark.toInt64 - 1) (I0 3 j - I0 6 j).toInt64 lim)))) σ (reg p 28 I0 v) (reg p 28 L0 w) := by
  refine tkCon.of (by decide) (Nat.le_of_ble_eq_true rfl) (fun X C => ?_)
  refine g_iload_n C (i := 3) dX4_ticksShortOf_0 rfl rfl ?_
  refine g_if_eq C 17 dX4_ticksShortOf_1 (by decide) (fun h1 => ?_) (fun h1 => ?_)
  · refine g_iload_n C (i := 2) dX4_ticksShortOf_17 rfl rfl ?_
    refine g_i2l C dX4_ticksShortOf_18 ?_
    refine g_aload_n C (i := 0) dX4_ticksShortOf_19 rfl rfl ?_
    refine g_getR C 4 2 (RX4, TX4, 6) dX4_ticksShortOf_20 (hP.1 1 (by decide)) (hP.2 1 2 3 (by decide) rfl) ml_X4_15 rfl (by decide) rfl ?_
    refine g_iload_n C (i := 1) dX4_ticksShortOf_23 rfl rfl ?_
    refine g_ia C dX4_ticksShortOf_24 (hP.1 3 (by decide)) (reg_at (k := 3) (by decide)) rfl (by omega) (by decide) ?_
    refine g_i2l C dX4_ticksShortOf_25 ?_
    refine g_lsub C dX4_ticksShortOf_26 ?_
    refine g_lstore C (i := 5) dX4_ticksShortOf_27 (by decide) ?_
    refine g_iload_n C (i := 3) dX4_ticksShortOf_29 rfl rfl ?_
    refine g_if_eq C 42 dX4_ticksShortOf_30 (by decide) (fun h30 => ?_) (fun h30 => ?_)
    · refine g_aload_n C (i := 0) dX4_ticksShortOf_42 rfl rfl ?_
      refine g_iload_n C (i := 1) dX4_ticksShortOf_43 rfl rfl ?_
      refine g_callV C (q := (RX4, TX4, 6)) (rest := _) dX4_ticksShortOf_44 mm_X4_drift ml_X4_44 mv_yX4_drift ms_yX4_drift (c_X4_drift hP hj) rfl (hP.1 1 (by decide)) rfl rfl ⟨by decide, Nat.le_of_ble_eq_true rfl, Nat.le_of_ble_eq_true rfl, Nat.le_of_ble_eq_true rfl⟩ (tk_retv ?_) tk_nothr
      refine g_ineg C dX4_ticksShortOf_47 ?_
      refine g_i2l C dX4_ticksShortOf_48 ?_
      refine g_lstore C (i := 7) dX4_ticksShortOf_49 (by decide) ?_
      refine g_lload C (i := 5) dX4_ticksShortOf_51 rfl ?_
      refine g_lconst C 1 dX4_ticksShortOf_53 rfl ?_
      refine g_lsub C dX4_ticksShortOf_54 ?_
      refine g_lload C (i := 7) dX4_ticksShortOf_55 rfl ?_
      refine g_iload C (i := 4) dX4_ticksShortOf_57 rfl ?_
      refine g_callSN C dX4_ticksShortOf_59 mm_X5_ticksWhile ml_X4_48 mt_yX5_ticksWhile (c_X5_ticksWhile _ _ _) rfl ⟨by decide, Nat.le_of_ble_eq_true rfl, Nat.le_of_ble_eq_true rfl, Nat.le_of_ble_eq_true rfl⟩ (tk_retv ?_) tk_nothr
      exact g_ireturn C dX4_ticksShortOf_62 ⟨Nat.le_of_ble_eq_true rfl, Nat.le_of_ble_eq_true rfl⟩ (tkEnd.rf (by simp [h1]) rfl rfl)
    · exact absurd h1 h30
  · refine g_aload_n C (i := 0) dX4_ticksShortOf_4 rfl rfl ?_
    refine g_getR C 4 2 (RX4, TX4, 6) dX4_ticksShortOf_5 (hP.1 1 (by decide)) (hP.2 1 2 3 (by decide) rfl) ml_X4_15 rfl (by decide) rfl ?_
    refine g_iload_n C (i := 1) dX4_ticksShortOf_8 rfl rfl ?_
    refine g_ia C dX4_ticksShortOf_9 (hP.1 3 (by decide)) (reg_at (k := 3) (by decide)) rfl (by omega) (by decide) ?_
    refine g_i2l C dX4_ticksShortOf_10 ?_
    refine g_iload_n C (i := 2) dX4_ticksShortOf_11 rfl rfl ?_
    refine g_i2l C dX4_ticksShortOf_12 ?_
    refine g_lsub C dX4_ticksShortOf_13 ?_
    refine g_goto C 27 dX4_ticksShortOf_14 (by decide) ?_
    refine g_lstore C (i := 5) dX4_ticksShortOf_27 (by decide) ?_
    refine g_iload_n C (i := 3) dX4_ticksShortOf_29 rfl rfl ?_
    refine g_if_eq C 42 dX4_ticksShortOf_30 (by decide) (fun h30 => ?_) (fun h30 => ?_)
    · exact absurd h30 h1
    · refine g_aload_n C (i := 0) dX4_ticksShortOf_33 rfl rfl ?_
      refine g_iload_n C (i := 1) dX4_ticksShortOf_34 rfl rfl ?_
      refine g_callV C (q := (RX4, TX4, 6)) (rest := _) dX4_ticksShortOf_35 mm_X4_drift ml_X4_44 mv_yX4_drift ms_yX4_drift (c_X4_drift hP hj) rfl (hP.1 1 (by decide)) rfl rfl ⟨by decide, Nat.le_of_ble_eq_true rfl, Nat.le_of_ble_eq_true rfl, Nat.le_of_ble_eq_true rfl⟩ (tk_retv ?_) tk_nothr
      refine g_i2l C dX4_ticksShortOf_38 ?_
      refine g_goto C 49 dX4_ticksShortOf_39 (by decide) ?_
      refine g_lstore C (i := 7) dX4_ticksShortOf_49 (by decide) ?_
      refine g_lload C (i := 5) dX4_ticksShortOf_51 rfl ?_
      refine g_lconst C 1 dX4_ticksShortOf_53 rfl ?_
      refine g_lsub C dX4_ticksShortOf_54 ?_
      refine g_lload C (i := 7) dX4_ticksShortOf_55 rfl ?_
      refine g_iload C (i := 4) dX4_ticksShortOf_57 rfl ?_
      refine g_callSN C dX4_ticksShortOf_59 mm_X5_ticksWhile ml_X4_48 mt_yX5_ticksWhile (c_X5_ticksWhile _ _ _) rfl ⟨by decide, Nat.le_of_ble_eq_true rfl, Nat.le_of_ble_eq_true rfl, Nat.le_of_ble_eq_true rfl⟩ (tk_retv ?_) tk_nothr
      exact g_ireturn C dX4_ticksShortOf_62 ⟨Nat.le_of_ble_eq_true rfl, Nat.le_of_ble_eq_true rfl⟩ (tkEnd.rf (by simp [h1]) rfl rfl)
theorem c_X4_leakAndSum (hP : tkReg 28 pT pF σ p) {n : Nat} (hW : wTk I0 n) :
    tkCon false (.code yX4_leakAndSum cX4_leakAndSum 2 none) yX4_leakAndSum 2 [.ref (p + 1)] σ (reg p 28 I0 v) (reg p 28 L0 w) 0 0 (.inl none) σ (reg p 28 (itr sLeak n (I0, L0)).1 v) (reg p 28 (itr sLeak n (I0, L0)).2 w) := by
  obtain ⟨hc, hn⟩ := hW
  refine tkCon.of (by decide) (Nat.le_of_ble_eq_true rfl) (fun X C => ?_)
  have hcc : ∀ i, i ≤ n → (itr sLeak i (I0, L0)).1 1 0 = nI n := fun i hi => itr_inv (P := fun q : tkI × tkL => q.1 1 0 = nI n) (n := n) (fun k a _ h => by simp [sLeak, tk2, h]) hi hc
  refine g_iconst C (0) dX4_leakAndSum_0 rfl ?_
  refine g_istore_n C (i := 1) dX4_leakAndSum_1 rfl (by decide) ?_
  have key : ∀ k i, k + i = n → tkG X (tkQ false X 0 0 (.inl none) σ (reg p 28 (itr sLeak n (I0, L0)).1 v) (reg p 28 (itr sLeak n (I0, L0)).2 w)) 0 0 2 [some (.ref (p + 1)), some (.int (nI i))] [] σ (reg p 28 (itr sLeak i (I0, L0)).1 v) (reg p 28 (itr sLeak i (I0, L0)).2 w) := by
    intro k
    induction k with
    | zero =>
      intro i hi
      have e : i = n := by omega
      subst e
      refine g_iload_n C (i := 1) dX4_leakAndSum_2 rfl rfl ?_
      refine g_aload_n C (i := 0) dX4_leakAndSum_3 rfl rfl ?_
      refine g_getI C 4 0 (RX4, TX4, 6) dX4_leakAndSum_4 (hP.1 1 (by decide)) (reg_at (k := 1) (by decide)) ml_X4_28 rfl (by decide) (Or.inl rfl) ?_
      rw [hcc i (Nat.le_refl _)]
      refine g_icmp_ge C 56 dX4_leakAndSum_7 (by decide) (fun h7 => ?_) (fun h7 => ?_)
      · exact g_return C dX4_leakAndSum_56 ⟨Nat.le_of_ble_eq_true rfl, Nat.le_of_ble_eq_true rfl⟩ (tkEnd.rf rfl rfl rfl)
      · exact absurd (Int32.le_refl _) h7
    | succ k ih =>
      intro i hi
      have hlt : i < n := by omega
      refine g_iload_n C (i := 1) dX4_leakAndSum_2 rfl rfl ?_
      refine g_aload_n C (i := 0) dX4_leakAndSum_3 rfl rfl ?_
      refine g_getI C 4 0 (RX4, TX4, 6) dX4_leakAndSum_4 (hP.1 1 (by decide)) (reg_at (k := 1) (by decide)) ml_X4_28 rfl (by decide) (Or.inl rfl) ?_
      rw [hcc i (by omega)]
      refine g_icmp_ge C 56 dX4_leakAndSum_7 (by decide) (fun h7 => ?_) (fun h7 => ?_)
      · exact absurd h7 (nI_ge hlt (by omega))
      · refine g_aload_n C (i := 0) dX4_leakAndSum_10 rfl rfl ?_
        refine g_getR C 4 2 (RX4, TX4, 6) dX4_leakAndSum_11 (hP.1 1 (by decide)) (hP.2 1 2 3 (by decide) rfl) ml_X4_15 rfl (by decide) rfl ?_
        refine g_iload_n C (i := 1) dX4_leakAndSum_14 rfl rfl ?_
        refine g_dup2 C dX4_leakAndSum_15 rfl rfl ?_
        refine g_ia C dX4_leakAndSum_16 (hP.1 3 (by decide)) (reg_at (k := 3) (by decide)) rfl (by omega) (by decide) ?_
        refine g_aload_n C (i := 0) dX4_leakAndSum_17 rfl rfl ?_
        refine g_getR C 4 3 (RX4, TX4, 6) dX4_leakAndSum_18 (hP.1 1 (by decide)) (hP.2 1 3 4 (by decide) rfl) ml_X4_18 rfl (by decide) rfl ?_
        refine g_iload_n C (i := 1) dX4_leakAndSum_21 rfl rfl ?_
        refine g_ia C dX4_leakAndSum_22 (hP.1 4 (by decide)) (reg_at (k := 4) (by decide)) rfl (by omega) (by decide) ?_
        refine g_aload_n C (i := 0) dX4_leakAndSum_23 rfl rfl ?_
        refine g_getR C 4 2 (RX4, TX4, 6) dX4_leakAndSum_24 (hP.1 1 (by decide)) (hP.2 1 2 3 (by decide) rfl) ml_X4_15 rfl (by decide) rfl ?_
        refine g_iload_n C (i := 1) dX4_leakAndSum_27 rfl rfl ?_
        refine g_ia C dX4_leakAndSum_28 (hP.1 3 (by decide)) (reg_at (k := 3) (by decide)) rfl (by omega) (by decide) ?_
        refine g_min C dX4_leakAndSum_29 ml_X4_38 (by decide) (Nat.le_of_ble_eq_true rfl) (Nat.le_of_ble_eq_true rfl) (Nat.le_of_ble_eq_true rfl) ?_
        refine g_isub C dX4_leakAndSum_32 ?_
        refine g_is C dX4_leakAndSum_33 (hP.1 3 (by decide)) (tk2_reg (k := 3) (by decide)) rfl (by omega) (by decide) ?_
        refine g_aload_n C (i := 0) dX4_leakAndSum_34 rfl rfl ?_
        refine g_getR C 4 4 (RX4, TX4, 6) dX4_leakAndSum_35 (hP.1 1 (by decide)) (hP.2 1 4 5 (by decide) rfl) ml_X4_21 rfl (by decide) rfl ?_
        refine g_iload_n C (i := 1) dX4_leakAndSum_38 rfl rfl ?_
        refine g_dup2 C dX4_leakAndSum_39 rfl rfl ?_
        refine g_la C dX4_leakAndSum_40 (hP.1 5 (by decide)) (reg_at (k := 5) (by decide)) rfl (by omega) (by decide) ?_
        refine g_aload_n C (i := 0) dX4_leakAndSum_41 rfl rfl ?_
        refine g_getR C 4 2 (RX4, TX4, 6) dX4_leakAndSum_42 (hP.1 1 (by decide)) (hP.2 1 2 3 (by decide) rfl) ml_X4_15 rfl (by decide) rfl ?_
        refine g_iload_n C (i := 1) dX4_leakAndSum_45 rfl rfl ?_
        refine g_ia C dX4_leakAndSum_46 (hP.1 3 (by decide)) (reg_at (k := 3) (by decide)) rfl (by omega) (by decide) ?_
        refine g_i2l C dX4_leakAndSum_47 ?_
        refine g_ladd C dX4_leakAndSum_48 ?_
        refine g_ls C dX4_leakAndSum_49 (hP.1 5 (by decide)) (tk2_reg (k := 5) (by decide)) rfl (by omega) (by decide) ?_
        refine g_iinc C (i := 1) (nI (i + 1)) dX4_leakAndSum_50 rfl (nI_1 i) (by decide) ?_
        refine g_goto C 2 dX4_leakAndSum_53 (by decide) ?_
        exact ih (i + 1) (by omega)
  exact key n 0 (by omega)
theorem c_X4_steadyTicks (hP : tkReg 28 pT pF σ p) {n : Nat} (hW : wTk I0 n) (lim : Int32) :
    tkCon false (.code yX4_steadyTicks cX4_steadyTicks 4 (some .int)) yX4_steadyTicks 3 [.ref (p + 1), .int lim] σ (reg p 28 I0 v) (reg p 28 L0 w) 0 0 (.inl (some (.int (itr (sTst I0) n lim)))) σ (reg p 28 I0 v) (reg p 28 L0 w) := by
  obtain ⟨hc, hn⟩ := hW
  refine tkCon.of (by decide) (Nat.le_of_ble_eq_true rfl) (fun X C => ?_)
  refine g_iload_n C (i := 1) dX4_steadyTicks_0 rfl rfl ?_
  refine g_istore_n C (i := 2) dX4_steadyTicks_1 rfl (by decide) ?_
  refine g_iconst C (0) dX4_steadyTicks_2 rfl ?_
  refine g_istore_n C (i := 3) dX4_steadyTicks_3 rfl (by decide) ?_
  have key : ∀ k i, k + i = n → tkG X (tkQ false X 0 0 (.inl (some (.int (itr (sTst I0) n lim)))) σ (reg p 28 I0 v) (reg p 28 L0 w)) 0 0 4 [some (.ref (p + 1)), some (.int lim), some (.int (itr (sTst I0) i lim)), some (.int (nI i))] [] σ (reg p 28 I0 v) (reg p 28 L0 w) := by
    intro k
    induction k with
    | zero =>
      intro i hi
      have e : i = n := by omega
      subst e
      refine g_iload_n C (i := 3) dX4_steadyTicks_4 rfl rfl ?_
      refine g_aload_n C (i := 0) dX4_steadyTicks_5 rfl rfl ?_
      refine g_getI C 4 0 (RX4, TX4, 6) dX4_steadyTicks_6 (hP.1 1 (by decide)) (reg_at (k := 1) (by decide)) ml_X4_28 rfl (by decide) (Or.inl rfl) ?_
      rw [hc]
      refine g_icmp_ge C 40 dX4_steadyTicks_9 (by decide) (fun h9 => ?_) (fun h9 => ?_)
      · refine g_iload_n C (i := 2) dX4_steadyTicks_40 rfl rfl ?_
        exact g_ireturn C dX4_steadyTicks_41 ⟨Nat.le_of_ble_eq_true rfl, Nat.le_of_ble_eq_true rfl⟩ (tkEnd.rf rfl rfl rfl)
      · exact absurd (Int32.le_refl _) h9
    | succ k ih =>
      intro i hi
      have hlt : i < n := by omega
      refine g_iload_n C (i := 3) dX4_steadyTicks_4 rfl rfl ?_
      refine g_aload_n C (i := 0) dX4_steadyTicks_5 rfl rfl ?_
      refine g_getI C 4 0 (RX4, TX4, 6) dX4_steadyTicks_6 (hP.1 1 (by decide)) (reg_at (k := 1) (by decide)) ml_X4_28 rfl (by decide) (Or.inl rfl) ?_
      rw [hc]
      refine g_icmp_ge C 40 dX4_steadyTicks_9 (by decide) (fun h9 => ?_) (fun h9 => ?_)
      · exact absurd h9 (nI_ge hlt (by omega))
      · refine g_iload_n C (i := 2) dX4_steadyTicks_12 rfl rfl ?_
        refine g_if_le C 40 dX4_steadyTicks_13 (by decide) (fun h13 => ?_) (fun h13 => ?_)
        · have e := itr_stop (f := sTst I0) (P := fun s => s ≤ 0) (fun i a h => by simp [sTst, Int32.not_lt.mpr h]) h13 (k + 1)
          rw [show i + (k + 1) = n by omega] at e
          rw [e]
          refine g_iload_n C (i := 2) dX4_steadyTicks_40 rfl rfl ?_
          exact g_ireturn C dX4_steadyTicks_41 ⟨Nat.le_of_ble_eq_true rfl, Nat.le_of_ble_eq_true rfl⟩ (tkEnd.rf rfl rfl rfl)
        · have e : itr (sTst I0) (i + 1) lim = jtw (I0 3 i).toInt64 (I0 3 i - I0 6 i).toInt64 (itr (sTst I0) i lim) := by
            show sTst I0 i (itr (sTst I0) i lim) = _
            rw [sTst, if_pos (Int32.not_le.mp h13)]
          refine g_aload_n C (i := 0) dX4_steadyTicks_16 rfl rfl ?_
          refine g_getR C 4 2 (RX4, TX4, 6) dX4_steadyTicks_17 (hP.1 1 (by decide)) (hP.2 1 2 3 (by decide) rfl) ml_X4_15 rfl (by decide) rfl ?_
          refine g_iload_n C (i := 3) dX4_steadyTicks_20 rfl rfl ?_
          refine g_ia C dX4_steadyTicks_21 (hP.1 3 (by decide)) (reg_at (k := 3) (by decide)) rfl (by omega) (by decide) ?_
          refine g_i2l C dX4_steadyTicks_22 ?_
          refine g_aload_n C (i := 0) dX4_steadyTicks_23 rfl rfl ?_
          refine g_iload_n C (i := 3) dX4_steadyTicks_24 rfl rfl ?_
          refine g_callV C (q := (RX4, TX4, 6)) (rest := _) dX4_steadyTicks_25 mm_X4_drift ml_X4_44 mv_yX4_drift ms_yX4_drift (c_X4_drift hP (by omega)) rfl (hP.1 1 (by decide)) rfl rfl ⟨by decide, Nat.le_of_ble_eq_true rfl, Nat.le_of_ble_eq_true rfl, Nat.le_of_ble_eq_true rfl⟩ (tk_retv ?_) tk_nothr
          refine g_i2l C dX4_steadyTicks_28 ?_
          refine g_iload_n C (i := 2) dX4_steadyTicks_29 rfl rfl ?_
          refine g_callSN C dX4_steadyTicks_30 mm_X5_ticksWhile ml_X4_48 mt_yX5_ticksWhile (c_X5_ticksWhile _ _ _) rfl ⟨by decide, Nat.le_of_ble_eq_true rfl, Nat.le_of_ble_eq_true rfl, Nat.le_of_ble_eq_true rfl⟩ (tk_retv ?_) tk_nothr
          refine g_istore_n C (i := 2) dX4_steadyTicks_33 rfl (by decide) ?_
          refine g_iinc C (i := 3) (nI (i + 1)) dX4_steadyTicks_34 rfl (nI_1 i) (by decide) ?_
          refine g_goto C 4 dX4_steadyTicks_37 (by decide) ?_
          rw [← e]
          exact ih (i + 1) (by omega)
  exact key n 0 (by omega)
theorem c_X4_repeat (hP : tkReg 28 pT pF σ p) {n : Nat} (hW : wTk I0 n) (t : Int32) :
    tkCon false (.code yX4_repeat cX4_repeat 6 none) yX4_repeat 2 [.ref (p + 1), .int t] σ (reg p 28 I0 v) (reg p 28 L0 w) 0 0 (.inl none) σ (reg p 28 (itr (sRep t) n (I0, L0)).1 v) (reg p 28 (itr (sRep t) n (I0, L0)).2 w) := by
  obtain ⟨hc, hn⟩ := hW
  refine tkCon.of (by decide) (Nat.le_of_ble_eq_true rfl) (fun X C => ?_)
  have hcc : ∀ i, i ≤ n → (itr (sRep t) i (I0, L0)).1 1 0 = nI n := fun i hi => itr_inv (P := fun q : tkI × tkL => q.1 1 0 = nI n) (n := n) (fun k a _ h => by simp [sRep, tk2, h]) hi hc
  refine g_iload_n C (i := 1) dX4_repeat_0 rfl rfl ?_
  refine g_i2l C dX4_repeat_1 ?_
  refine g_iload_n C (i := 1) dX4_repeat_2 rfl rfl ?_
  refine g_iconst C (1) dX4_repeat_3 rfl ?_
  refine g_iadd C dX4_repeat_4 ?_
  refine g_i2l C dX4_repeat_5 ?_
  refine g_lmul C dX4_repeat_6 ?_
  refine g_ldc2 C (2) dX4_repeat_7 ml_X4_52 ?_
  refine g_ldiv C dX4_repeat_10 (by decide) ?_
  refine g_lstore_n C (i := 2) dX4_repeat_11 rfl (by decide) ?_
  refine g_iconst C (0) dX4_repeat_12 rfl ?_
  refine g_istore C (i := 4) dX4_repeat_13 (by decide) ?_
  have key : ∀ k i lv5, k + i = n → tkG X (tkQ false X 0 0 (.inl none) σ (reg p 28 (itr (sRep t) n (I0, L0)).1 v) (reg p 28 (itr (sRep t) n (I0, L0)).2 w)) 0 0 15 [some (.ref (p + 1)), some (.int t), some (.long (t.toInt64 * (t + 1).toInt64 / 2)), none, some (.int (nI i)), lv5] [] σ (reg p 28 (itr (sRep t) i (I0, L0)).1 v) (reg p 28 (itr (sRep t) i (I0, L0)).2 w) := by
    intro k
    induction k with
    | zero =>
      intro i lv5 hi
      have e : i = n := by omega
      subst e
      refine g_iload C (i := 4) dX4_repeat_15 rfl ?_
      refine g_aload_n C (i := 0) dX4_repeat_17 rfl rfl ?_
      refine g_getI C 4 0 (RX4, TX4, 6) dX4_repeat_18 (hP.1 1 (by decide)) (reg_at (k := 1) (by decide)) ml_X4_28 rfl (by decide) (Or.inl rfl) ?_
      rw [hcc i (Nat.le_refl _)]
      refine g_icmp_ge C 79 dX4_repeat_21 (by decide) (fun h21 => ?_) (fun h21 => ?_)
      · exact g_return C dX4_repeat_79 ⟨Nat.le_of_ble_eq_true rfl, Nat.le_of_ble_eq_true rfl⟩ (tkEnd.rf rfl rfl rfl)
      · exact absurd (Int32.le_refl _) h21
    | succ k ih =>
      intro i lv5 hi
      have hlt : i < n := by omega
      refine g_iload C (i := 4) dX4_repeat_15 rfl ?_
      refine g_aload_n C (i := 0) dX4_repeat_17 rfl rfl ?_
      refine g_getI C 4 0 (RX4, TX4, 6) dX4_repeat_18 (hP.1 1 (by decide)) (reg_at (k := 1) (by decide)) ml_X4_28 rfl (by decide) (Or.inl rfl) ?_
      rw [hcc i (by omega)]
      refine g_icmp_ge C 79 dX4_repeat_21 (by decide) (fun h21 => ?_) (fun h21 => ?_)
      · exact absurd h21 (nI_ge hlt (by omega))
      · refine g_aload_n C (i := 0) dX4_repeat_24 rfl rfl ?_
        refine g_iload C (i := 4) dX4_repeat_25 rfl ?_
        refine g_callV C (q := (RX4, TX4, 6)) (rest := _) dX4_repeat_27 mm_X4_drift ml_X4_44 mv_yX4_drift ms_yX4_drift (c_X4_drift hP (by omega)) rfl (hP.1 1 (by decide)) rfl rfl ⟨by decide, Nat.le_of_ble_eq_true rfl, Nat.le_of_ble_eq_true rfl, Nat.le_of_ble_eq_true rfl⟩ (tk_retv ?_) tk_nothr
        refine g_istore C (i := 5) dX4_repeat_30 (by decide) ?_
        refine g_aload_n C (i := 0) dX4_repeat_32 rfl rfl ?_
        refine g_getR C 4 4 (RX4, TX4, 6) dX4_repeat_33 (hP.1 1 (by decide)) (hP.2 1 4 5 (by decide) rfl) ml_X4_21 rfl (by decide) rfl ?_
        refine g_iload C (i := 4) dX4_repeat_36 rfl ?_
        refine g_dup2 C dX4_repeat_38 rfl rfl ?_
        refine g_la C dX4_repeat_39 (hP.1 5 (by decide)) (reg_at (k := 5) (by decide)) rfl (by omega) (by decide) ?_
        refine g_aload_n C (i := 0) dX4_repeat_40 rfl rfl ?_
        refine g_getR C 4 2 (RX4, TX4, 6) dX4_repeat_41 (hP.1 1 (by decide)) (hP.2 1 2 3 (by decide) rfl) ml_X4_15 rfl (by decide) rfl ?_
        refine g_iload C (i := 4) dX4_repeat_44 rfl ?_
        refine g_ia C dX4_repeat_46 (hP.1 3 (by decide)) (reg_at (k := 3) (by decide)) rfl (by omega) (by decide) ?_
        refine g_i2l C dX4_repeat_47 ?_
        refine g_iload_n C (i := 1) dX4_repeat_48 rfl rfl ?_
        refine g_i2l C dX4_repeat_49 ?_
        refine g_lmul C dX4_repeat_50 ?_
        refine g_iload C (i := 5) dX4_repeat_51 rfl ?_
        refine g_i2l C dX4_repeat_53 ?_
        refine g_lload_n C (i := 2) dX4_repeat_54 rfl rfl ?_
        refine g_lmul C dX4_repeat_55 ?_
        refine g_ladd C dX4_repeat_56 ?_
        refine g_ladd C dX4_repeat_57 ?_
        refine g_ls C dX4_repeat_58 (hP.1 5 (by decide)) (tk2_reg (k := 5) (by decide)) rfl (by omega) (by decide) ?_
        refine g_aload_n C (i := 0) dX4_repeat_59 rfl rfl ?_
        refine g_getR C 4 2 (RX4, TX4, 6) dX4_repeat_60 (hP.1 1 (by decide)) (hP.2 1 2 3 (by decide) rfl) ml_X4_15 rfl (by decide) rfl ?_
        refine g_iload C (i := 4) dX4_repeat_63 rfl ?_
        refine g_dup2 C dX4_repeat_65 rfl rfl ?_
        refine g_ia C dX4_repeat_66 (hP.1 3 (by decide)) (reg_at (k := 3) (by decide)) rfl (by omega) (by decide) ?_
        refine g_iload C (i := 5) dX4_repeat_67 rfl ?_
        refine g_iload_n C (i := 1) dX4_repeat_69 rfl rfl ?_
        refine g_imul C dX4_repeat_70 ?_
        refine g_iadd C dX4_repeat_71 ?_
        refine g_is C dX4_repeat_72 (hP.1 3 (by decide)) (tk2_reg (k := 3) (by decide)) rfl (by omega) (by decide) ?_
        refine g_iinc C (i := 4) (nI (i + 1)) dX4_repeat_73 rfl (nI_1 i) (by decide) ?_
        refine g_goto C 15 dX4_repeat_76 (by decide) ?_
        exact ih (i + 1) _ (by omega)
  exact key n 0 _ (by omega)
theorem c_X4_mixedInto (hP : tkReg 28 pT pF σ p) {n : Nat} (hW : wTk I0 n) (d0 : Int64) :
    tkCon false (.code yX4_mixedInto cX4_mixedInto 6 (some .long)) yX4_mixedInto 2 [.ref (p + 1), .long d0] σ (reg p 28 I0 v) (reg p 28 L0 w) 0 0 (.inl (some (.long (itr (sTmix I0) n d0)))) σ (reg p 28 I0 v) (reg p 28 L0 w) := by
  obtain ⟨hc, hn⟩ := hW
  refine tkCon.of (by decide) (Nat.le_of_ble_eq_true rfl) (fun X C => ?_)
  refine g_lload_n C (i := 1) dX4_mixedInto_0 rfl rfl ?_
  refine g_lstore_n C (i := 3) dX4_mixedInto_1 rfl (by decide) ?_
  refine g_iconst C (0) dX4_mixedInto_2 rfl ?_
  refine g_istore C (i := 5) dX4_mixedInto_3 (by decide) ?_
  have key : ∀ k i, k + i = n → tkG X (tkQ false X 0 0 (.inl (some (.long (itr (sTmix I0) n d0)))) σ (reg p 28 I0 v) (reg p 28 L0 w)) 0 0 5 [some (.ref (p + 1)), some (.long d0), none, some (.long (itr (sTmix I0) i d0)), none, some (.int (nI i))] [] σ (reg p 28 I0 v) (reg p 28 L0 w) := by
    intro k
    induction k with
    | zero =>
      intro i hi
      have e : i = n := by omega
      subst e
      refine g_iload C (i := 5) dX4_mixedInto_5 rfl ?_
      refine g_aload_n C (i := 0) dX4_mixedInto_7 rfl rfl ?_
      refine g_getI C 4 0 (RX4, TX4, 6) dX4_mixedInto_8 (hP.1 1 (by decide)) (reg_at (k := 1) (by decide)) ml_X4_28 rfl (by decide) (Or.inl rfl) ?_
      rw [hc]
      refine g_icmp_ge C 44 dX4_mixedInto_11 (by decide) (fun h11 => ?_) (fun h11 => ?_)
      · refine g_lload_n C (i := 3) dX4_mixedInto_44 rfl rfl ?_
        exact g_lreturn C dX4_mixedInto_45 ⟨Nat.le_of_ble_eq_true rfl, Nat.le_of_ble_eq_true rfl⟩ (tkEnd.rf rfl rfl rfl)
      · exact absurd (Int32.le_refl _) h11
    | succ k ih =>
      intro i hi
      have hlt : i < n := by omega
      refine g_iload C (i := 5) dX4_mixedInto_5 rfl ?_
      refine g_aload_n C (i := 0) dX4_mixedInto_7 rfl rfl ?_
      refine g_getI C 4 0 (RX4, TX4, 6) dX4_mixedInto_8 (hP.1 1 (by decide)) (reg_at (k := 1) (by decide)) ml_X4_28 rfl (by decide) (Or.inl rfl) ?_
      rw [hc]
      refine g_icmp_ge C 44 dX4_mixedInto_11 (by decide) (fun h11 => ?_) (fun h11 => ?_)
      · exact absurd h11 (nI_ge hlt (by omega))
      · refine g_lload_n C (i := 3) dX4_mixedInto_14 rfl rfl ?_
        refine g_aload_n C (i := 0) dX4_mixedInto_15 rfl rfl ?_
        refine g_getR C 4 2 (RX4, TX4, 6) dX4_mixedInto_16 (hP.1 1 (by decide)) (hP.2 1 2 3 (by decide) rfl) ml_X4_15 rfl (by decide) rfl ?_
        refine g_iload C (i := 5) dX4_mixedInto_19 rfl ?_
        refine g_ia C dX4_mixedInto_21 (hP.1 3 (by decide)) (reg_at (k := 3) (by decide)) rfl (by omega) (by decide) ?_
        refine g_i2l C dX4_mixedInto_22 ?_
        refine g_callSN C dX4_mixedInto_23 mm_X5_mix ml_X4_54 mt_yX5_mix (c_X5_mix _ _) rfl ⟨by decide, Nat.le_of_ble_eq_true rfl, Nat.le_of_ble_eq_true rfl, Nat.le_of_ble_eq_true rfl⟩ (tk_retv ?_) tk_nothr
        refine g_aload_n C (i := 0) dX4_mixedInto_26 rfl rfl ?_
        refine g_getR C 4 3 (RX4, TX4, 6) dX4_mixedInto_27 (hP.1 1 (by decide)) (hP.2 1 3 4 (by decide) rfl) ml_X4_18 rfl (by decide) rfl ?_
        refine g_iload C (i := 5) dX4_mixedInto_30 rfl ?_
        refine g_ia C dX4_mixedInto_32 (hP.1 4 (by decide)) (reg_at (k := 4) (by decide)) rfl (by omega) (by decide) ?_
        refine g_i2l C dX4_mixedInto_33 ?_
        refine g_callSN C dX4_mixedInto_34 mm_X5_mix ml_X4_54 mt_yX5_mix (c_X5_mix _ _) rfl ⟨by decide, Nat.le_of_ble_eq_true rfl, Nat.le_of_ble_eq_true rfl, Nat.le_of_ble_eq_true rfl⟩ (tk_retv ?_) tk_nothr
        refine g_lstore_n C (i := 3) dX4_mixedInto_37 rfl (by decide) ?_
        refine g_iinc C (i := 5) (nI (i + 1)) dX4_mixedInto_38 rfl (nI_1 i) (by decide) ?_
        refine g_goto C 5 dX4_mixedInto_41 (by decide) ?_
        exact ih (i + 1) (by omega)
  exact key n 0 (by omega)
end TKTANKS
end
section
section TKSWITCHES
theorem itr_ind {α : Type} {f : Nat → α → α} {P : Nat → α → Prop} {n : Nat} (hs : ∀ i a, i < n → P i a → P (i + 1) (f i a)) : ∀ {k : Nat} {a : α}, k ≤ n → P 0 a → P k (itr f k a)
  | 0, a, _, h => h
  | k + 1, a, hk, h => hs k _ hk (itr_ind hs (Nat.le_of_succ_le hk) h)
theorem sDue_01 (I : tkI) (i : Nat) : sDue I i = 0 ∨ sDue I i = 1 := by
  unfold sDue
  split <;> split <;> first | exact Or.inl rfl | exact Or.inr rfl
variable {σ : tkM} {p : Nat} {I0 v : tkI} {L0 w : tkL}
/-! the log -/
theorem c_X0_note (hP : tkReg 28 pT pF σ p) {c : Nat} (hc : L0 25 0 = lN c) (hlt : c < 2 ^ 62) (now : Int64) (x : Int32) :
    tkCon false (.code yX0_note cX0_note 5 none) yX0_note 1 [.ref (p + 25), .long now, .int x] σ (reg p 28 I0 v) (reg p 28 L0 w) 0 0 (.inl none) σ (reg p 28 (sNote now x (I0, L0)).1 v) (reg p 28 (sNote now x (I0, L0)).2 w) := by
  have e30 : (30 : Int64) = lN 30 := rfl
  have es : lgSlot (L0 25 0) = c % 30 := by rw [hc]; exact lgSlot_lN (by omega)
  have hm : c % 30 < 30 := Nat.mod_lt _ (by decide)
  unfold sNote
  dsimp only
  rw [es]
  refine tkCon.of (by decide) (Nat.le_of_ble_eq_true rfl) (fun X C => ?_)
  refine g_aload_n C (i := 0) dX0_note_0 rfl rfl ?_
  refine g_getL C 0 0 (RX0, TX0, 3) dX0_note_1 (hP.1 25 (by decide)) (reg_at (k := 25) (by decide)) ml_X0_19 rfl (by decide) rfl ?_
  refine g_ldc2 C (30) dX0_note_4 ml_X0_23 ?_
  refine g_lrem C dX0_note_7 (by decide) ?_
  rw [hc, e30, pk_lRem (by omega) (by decide) (by decide)]
  refine g_l2i C dX0_note_8 ?_
  rw [lN_i]
  refine g_istore C (i := 4) dX0_note_9 (by decide) ?_
  refine g_aload_n C (i := 0) dX0_note_11 rfl rfl ?_
  refine g_getR C 0 1 (RX0, TX0, 3) dX0_note_12 (hP.1 25 (by decide)) (hP.2 25 1 26 (by decide) rfl) ml_X0_9 rfl (by decide) rfl ?_
  refine g_iload C (i := 4) dX0_note_15 rfl ?_
  refine g_lload_n C (i := 1) dX0_note_17 rfl rfl ?_
  refine g_ls C dX0_note_18 (hP.1 26 (by decide)) (tk2_reg (k := 26) (by decide)) rfl (by omega) (by decide) ?_
  refine g_aload_n C (i := 0) dX0_note_19 rfl rfl ?_
  refine g_getR C 0 2 (RX0, TX0, 3) dX0_note_20 (hP.1 25 (by decide)) (hP.2 25 2 27 (by decide) rfl) ml_X0_15 rfl (by decide) rfl ?_
  refine g_iload C (i := 4) dX0_note_23 rfl ?_
  refine g_iload_n C (i := 3) dX0_note_25 rfl rfl ?_
  refine g_is C dX0_note_26 (hP.1 27 (by decide)) (tk2_reg (k := 27) (by decide)) rfl (by omega) (by decide) ?_
  refine g_aload_n C (i := 0) dX0_note_27 rfl rfl ?_
  refine g_dup C dX0_note_28 rfl ?_
  refine g_getL C 0 0 (RX0, TX0, 3) dX0_note_29 (hP.1 25 (by decide)) (reg_at (k := 25) (by decide)) ml_X0_19 rfl (by decide) rfl ?_
  refine g_lconst C 1 dX0_note_32 rfl ?_
  refine g_ladd C dX0_note_33 ?_
  refine g_putL C 0 0 (RX0, TX0, 3) dX0_note_34 (hP.1 25 (by decide)) (tk2_reg (k := 25) (by decide)) ml_X0_19 rfl (by decide) rfl rfl ?_
  exact g_return C dX0_note_37 ⟨Nat.le_of_ble_eq_true rfl, Nat.le_of_ble_eq_true rfl⟩ (tkEnd.rf rfl rfl (by rw [show tk2 L0 26 (c % 30) now 25 0 = lN c by simp [tk2, hc]]))
theorem c_X0_kept (hP : tkReg 28 pT pF σ p) {c : Nat} (hc : L0 25 0 = lN c) (hlt : c < 2 ^ 62) :
    tkCon false (.code yX0_kept cX0_kept 1 (some .int)) yX0_kept 2 [.ref (p + 25)] σ (reg p 28 I0 v) (reg p 28 L0 w) 0 0 (.inl (some (.int (nI (min c 30))))) σ (reg p 28 I0 v) (reg p 28 L0 w) := by
  have e30 : (30 : Int64) = lN 30 := rfl
  have em : jminL (lN c) (lN 30) = lN (min c 30) := by
    unfold jminL
    by_cases h : 30 < c
    · rw [if_pos ((pk_lLT (by decide) (by omega)).mpr h), Nat.min_eq_right (by omega)]
    · rw [if_neg (fun z => h ((pk_lLT (by decide) (by omega)).mp z)), Nat.min_eq_left (by omega)]
  refine tkCon.of (by decide) (Nat.le_of_ble_eq_true rfl) (fun X C => ?_)
  refine g_aload_n C (i := 0) dX0_kept_0 rfl rfl ?_
  refine g_getL C 0 0 (RX0, TX0, 3) dX0_kept_1 (hP.1 25 (by decide)) (reg_at (k := 25) (by decide)) ml_X0_19 rfl (by decide) rfl ?_
  refine g_ldc2 C (30) dX0_kept_4 ml_X0_23 ?_
  refine g_minL C dX0_kept_7 ml_X0_25 (by decide) (Nat.le_of_ble_eq_true rfl) (Nat.le_of_ble_eq_true rfl) (Nat.le_of_ble_eq_true rfl) ?_
  rw [hc, e30, em]
  refine g_l2i C dX0_kept_10 ?_
  rw [lN_i]
  exact g_ireturn C dX0_kept_11 ⟨Nat.le_of_ble_eq_true rfl, Nat.le_of_ble_eq_true rfl⟩ (tkEnd.rf rfl rfl rfl)
theorem c_X0_slotOf (hP : tkReg 28 pT pF σ p) {c j : Nat} (hc : L0 25 0 = lN c) (hlt : c < 2 ^ 62) (hj : j < min c 30) :
    tkCon false (.code yX0_slotOf cX0_slotOf 2 (some .int)) yX0_slotOf 3 [.ref (p + 25), .int (nI j)] σ (reg p 28 I0 v) (reg p 28 L0 w) 0 0 (.inl (some (.int (nI ((c - min c 30 + j) % 30))))) σ (reg p 28 I0 v) (reg p 28 L0 w) := by
  have e30 : (30 : Int64) = lN 30 := rfl
  have hm : min c 30 ≤ 30 := Nat.min_le_right _ _
  have hm2 : min c 30 ≤ c := Nat.min_le_left _ _
  refine tkCon.of (by decide) (Nat.le_of_ble_eq_true rfl) (fun X C => ?_)
  refine g_aload_n C (i := 0) dX0_slotOf_0 rfl rfl ?_
  refine g_getL C 0 0 (RX0, TX0, 3) dX0_slotOf_1 (hP.1 25 (by decide)) (reg_at (k := 25) (by decide)) ml_X0_19 rfl (by decide) rfl ?_
  refine g_aload_n C (i := 0) dX0_slotOf_4 rfl rfl ?_
  refine g_callV C (q := (RX0, TX0, 3)) (rest := _) dX0_slotOf_5 mm_X0_kept ml_X0_31 mv_yX0_kept ms_yX0_kept (c_X0_kept hP hc hlt) rfl (hP.1 25 (by decide)) rfl rfl ⟨by decide, Nat.le_of_ble_eq_true rfl, Nat.le_of_ble_eq_true rfl, Nat.le_of_ble_eq_true rfl⟩ (tk_retv ?_) tk_nothr
  refine g_i2l C dX0_slotOf_8 ?_
  refine g_lsub C dX0_slotOf_9 ?_
  refine g_iload_n C (i := 1) dX0_slotOf_10 rfl rfl ?_
  refine g_i2l C dX0_slotOf_11 ?_
  refine g_ladd C dX0_slotOf_12 ?_
  refine g_ldc2 C (30) dX0_slotOf_13 ml_X0_23 ?_
  refine g_lrem C dX0_slotOf_16 (by decide) ?_
  rw [hc, nI_l (by omega), nI_l (by omega), lN_sub hm2, lN_add, e30, pk_lRem (by omega) (by decide) (by decide)]
  refine g_l2i C dX0_slotOf_17 ?_
  rw [lN_i]
  exact g_ireturn C dX0_slotOf_18 ⟨Nat.le_of_ble_eq_true rfl, Nat.le_of_ble_eq_true rfl⟩ (tkEnd.rf rfl rfl rfl)
/-! Switches -/
theorem c_X3_append (hP : tkReg 28 pT pF σ p) {n : Nat} (hn : n < 10) (hc : I0 7 0 = nI n) (x1 x2 x3 : Int32) :
    tkCon false (.code yX3_append cX3_append 5 (some .int)) yX3_append 1 [.ref (p + 7), .int x1, .int x2, .int x3] σ (reg p 28 I0 v) (reg p 28 L0 w) 0 0 (.inl (some (.int (nI n)))) σ
      (reg p 28 (tk2 (tk2 (tk2 (tk2 (tk2 I0 8 n x1) 9 n x2) 10 n x3) 11 n 0) 7 0 (nI n + 1)) v) (reg p 28 L0 w) := by
  refine tkCon.of (by decide) (Nat.le_of_ble_eq_true rfl) (fun X C => ?_)
  refine g_aload_n C (i := 0) dX3_append_0 rfl rfl ?_
  refine g_getI C 3 0 (RX3, TX3, 5) dX3_append_1 (hP.1 7 (by decide)) (reg_at (k := 7) (by decide)) ml_X3_25 rfl (by decide) (Or.inl rfl) ?_
  rw [hc]
  refine g_istore C (i := 4) dX3_append_4 (by decide) ?_
  refine g_aload_n C (i := 0) dX3_append_6 rfl rfl ?_
  refine g_getR C 3 1 (RX3, TX3, 5) dX3_append_7 (hP.1 7 (by decide)) (hP.2 7 1 8 (by decide) rfl) ml_X3_9 rfl (by decide) rfl ?_
  refine g_iload C (i := 4) dX3_append_10 rfl ?_
  refine g_iload_n C (i := 1) dX3_append_12 rfl rfl ?_
  refine g_is C dX3_append_13 (hP.1 8 (by decide)) (tk2_reg (k := 8) (by decide)) rfl (by omega) (by decide) ?_
  refine g_aload_n C (i := 0) dX3_append_14 rfl rfl ?_
  refine g_getR C 3 2 (RX3, TX3, 5) dX3_append_15 (hP.1 7 (by decide)) (hP.2 7 2 9 (by decide) rfl) ml_X3_15 rfl (by decide) rfl ?_
  refine g_iload C (i := 4) dX3_append_18 rfl ?_
  refine g_iload_n C (i := 2) dX3_append_20 rfl rfl ?_
  refine g_is C dX3_append_21 (hP.1 9 (by decide)) (tk2_reg (k := 9) (by decide)) rfl (by omega) (by decide) ?_
  refine g_aload_n C (i := 0) dX3_append_22 rfl rfl ?_
  refine g_getR C 3 3 (RX3, TX3, 5) dX3_append_23 (hP.1 7 (by decide)) (hP.2 7 3 10 (by decide) rfl) ml_X3_18 rfl (by decide) rfl ?_
  refine g_iload C (i := 4) dX3_append_26 rfl ?_
  refine g_iload_n C (i := 3) dX3_append_28 rfl rfl ?_
  refine g_is C dX3_append_29 (hP.1 10 (by decide)) (tk2_reg (k := 10) (by decide)) rfl (by omega) (by decide) ?_
  refine g_aload_n C (i := 0) dX3_append_30 rfl rfl ?_
  refine g_getR C 3 4 (RX3, TX3, 5) dX3_append_31 (hP.1 7 (by decide)) (hP.2 7 4 11 (by decide) rfl) ml_X3_21 rfl (by decide) rfl ?_
  refine g_iload C (i := 4) dX3_append_34 rfl ?_
  refine g_iconst C (0) dX3_append_36 rfl ?_
  refine g_zs C dX3_append_37 (hP.1 11 (by decide)) (tk2_reg (k := 11) (by decide)) rfl (by omega) (by decide) (by first | assumption | exact Or.inl rfl | exact Or.inr rfl) ?_
  refine g_aload_n C (i := 0) dX3_append_38 rfl rfl ?_
  refine g_dup C dX3_append_39 rfl ?_
  refine g_getI C 3 0 (RX3, TX3, 5) dX3_append_40 (hP.1 7 (by decide)) (reg_at (k := 7) (by decide)) ml_X3_25 rfl (by decide) (Or.inl rfl) ?_
  rw [show tk2 (tk2 (tk2 (tk2 I0 8 n x1) 9 n x2) 10 n x3) 11 n 0 7 0 = nI n by simp [tk2, hc]]
  refine g_iconst C (1) dX3_append_43 rfl ?_
  refine g_iadd C dX3_append_44 ?_
  refine g_putI C 3 0 (RX3, TX3, 5) dX3_append_45 (hP.1 7 (by decide)) (tk2_reg (k := 7) (by decide)) ml_X3_25 rfl (by decide) rfl rfl ?_
  refine g_iload C (i := 4) dX3_append_48 rfl ?_
  exact g_ireturn C dX3_append_50 ⟨Nat.le_of_ble_eq_true rfl, Nat.le_of_ble_eq_true rfl⟩ (tkEnd.rf rfl rfl rfl)
def pFol (I0 : tkI) (ns c i : Nat) (q : (tkI × tkL) × Int32) : Prop := q.1.1 7 0 = nI ns ∧ (∀ k, q.1.1 8 k = I0 8 k) ∧ ∃ c', c' ≤ c + i ∧ q.1.2 25 0 = lN c'
theorem sFol_inv {I0 : tkI} {L0 : tkL} {ns c : Nat} (hW : wSw I0 ns) (hc : L0 25 0 = lN c) (now : Int64) {i : Nat} (hi : i ≤ ns) : pFol I0 ns c i (itr (sFol now) i ((I0, L0), 0)) := by
  refine itr_ind (P := pFol I0 ns c) (n := ns) ?_ hi ⟨hW.1, fun _ => rfl, c, by omega, hc⟩
  intro k q _ h
  obtain ⟨h1, h2, c', h3, h4⟩ := h
  unfold sFol
  split
  · exact ⟨h1, h2, c', by omega, h4⟩
  · refine ⟨by simp [sNote, tk2, h1], fun k => by simp [sNote, tk2, h2], c' + 1, by omega, ?_⟩
    simp [sNote, tk2, h4, lN_1]
theorem c_X3_follow (hP : tkReg 28 pT pF σ p) {ns c : Nat} (hW : wSw I0 ns) (hc : L0 25 0 = lN c) (hlt : c + 10 < 2 ^ 62) (now : Int64) :
    tkCon false (.code yX3_follow cX3_follow 9 (some .int)) yX3_follow 2 [.ref (p + 7), .ref (p + 1), .ref (p + 25), .long now] σ (reg p 28 I0 v) (reg p 28 L0 w) 0 0
      (.inl (some (.int (itr (sFol now) ns ((I0, L0), 0)).2))) σ (reg p 28 (itr (sFol now) ns ((I0, L0), 0)).1.1 v) (reg p 28 (itr (sFol now) ns ((I0, L0), 0)).1.2 w) := by
  obtain ⟨s, hs⟩ : ∃ s, s = fun i => itr (sFol now) i ((I0, L0), 0) := ⟨_, rfl⟩
  have inv : ∀ i, i ≤ ns → (s i).1.1 7 0 = nI ns ∧ (∀ k, (s i).1.1 8 k = I0 8 k) ∧ ∃ c', c' ≤ c + i ∧ (s i).1.2 25 0 = lN c' := fun i hi => by rw [hs]; exact sFol_inv hW hc now hi
  have hsucc : ∀ i, s (i + 1) = sFol now i (s i) := fun i => by rw [hs]; rfl
  have h0 : s 0 = ((I0, L0), 0) := by rw [hs]; rfl
  rw [show itr (sFol now) ns ((I0, L0), 0) = s ns by rw [hs]]
  obtain ⟨hw1, hw2, hw3⟩ := hW
  refine tkCon.of (by decide) (Nat.le_of_ble_eq_true rfl) (fun X C => ?_)
  refine g_iconst C (0) dX3_follow_0 rfl ?_
  refine g_istore C (i := 5) dX3_follow_1 (by decide) ?_
  refine g_iconst C (0) dX3_follow_3 rfl ?_
  refine g_istore C (i := 6) dX3_follow_4 (by decide) ?_
  have key : ∀ k i lv7 lv8, k + i = ns → tkG X (tkQ false X 0 0 (.inl (some (.int (s ns).2))) σ (reg p 28 (s ns).1.1 v) (reg p 28 (s ns).1.2 w)) 0 0 6 [some (.ref (p + 7)), some (.ref (p + 1)), some (.ref (p + 25)), some (.long now), none, some (.int (s i).2), some (.int (nI i)), lv7, lv8] [] σ (reg p 28 (s i).1.1 v) (reg p 28 (s i).1.2 w) := by
    intro k
    induction k with
    | zero =>
      intro i lv7 lv8 hi
      have e : i = ns := by omega
      subst e
      refine g_iload C (i := 6) dX3_follow_6 rfl ?_
      refine g_aload_n C (i := 0) dX3_follow_8 rfl rfl ?_
      refine g_getI C 3 0 (RX3, TX3, 5) dX3_follow_9 (hP.1 7 (by decide)) (reg_at (k := 7) (by decide)) ml_X3_25 rfl (by decide) (Or.inl rfl) ?_
      rw [(inv i (Nat.le_refl _)).1]
      refine g_icmp_ge C 115 dX3_follow_12 (by decide) (fun h12 => ?_) (fun h12 => ?_)
      · refine g_iload C (i := 5) dX3_follow_115 rfl ?_
        exact g_ireturn C dX3_follow_117 ⟨Nat.le_of_ble_eq_true rfl, Nat.le_of_ble_eq_true rfl⟩ (tkEnd.rf rfl rfl rfl)
      · exact absurd (Int32.le_refl _) h12
    | succ k ih =>
      intro i lv7 lv8 hi
      have hlt : i < ns := by omega
      have ih1 := fun a b => ih (i + 1) a b (by omega)
      rw [hsucc] at ih1
      obtain ⟨g1, g2, c', g3, g4⟩ := inv i (by omega)
      obtain ⟨t, ht, et⟩ := hw3 i hlt
      rw [← g2] at et
      generalize s i = q at *
      obtain ⟨⟨I1, L1⟩, n1⟩ := q
      dsimp only at *
      have etc : (I1 8 i).toNatClampNeg = t := by rw [et]; exact nI_clamp (by omega)
      have J : ∀ (x7 : Int32) lv8, tkG X (tkQ false X 0 0 (.inl (some (.int (s ns).2))) σ (reg p 28 (s ns).1.1 v) (reg p 28 (s ns).1.2 w)) 0 0 76 [some (.ref (p + 7)), some (.ref (p + 1)), some (.ref (p + 25)), some (.long now), none, some (.int n1), some (.int (nI i)), some (.int x7), lv8] [.int (sDue I1 i)] σ (reg p 28 I1 v) (reg p 28 L1 w) := by
        intro x7 lv8
        refine g_istore C (i := 8) dX3_follow_76 (by decide) ?_
        refine g_iload C (i := 8) dX3_follow_78 rfl ?_
        refine g_aload_n C (i := 0) dX3_follow_80 rfl rfl ?_
        refine g_getR C 3 4 (RX3, TX3, 5) dX3_follow_81 (hP.1 7 (by decide)) (hP.2 7 4 11 (by decide) rfl) ml_X3_21 rfl (by decide) rfl ?_
        refine g_iload C (i := 6) dX3_follow_84 rfl ?_
        refine g_za C dX3_follow_86 (hP.1 11 (by decide)) (reg_at (k := 11) (by decide)) rfl (by omega) (by decide) (fun _ => ?_)
        refine g_icmp_eq C 109 dX3_follow_87 (by decide) (fun h87 => ?_) (fun h87 => ?_)
        · refine g_iinc C (i := 6) (nI (i + 1)) dX3_follow_109 rfl (nI_1 i) (by decide) ?_
          refine g_goto C 6 dX3_follow_112 (by decide) ?_
          rw [sFol, if_pos h87] at ih1
          exact ih1 _ _
        · refine g_aload_n C (i := 0) dX3_follow_90 rfl rfl ?_
          refine g_getR C 3 4 (RX3, TX3, 5) dX3_follow_91 (hP.1 7 (by decide)) (hP.2 7 4 11 (by decide) rfl) ml_X3_21 rfl (by decide) rfl ?_
          refine g_iload C (i := 6) dX3_follow_94 rfl ?_
          refine g_iload C (i := 8) dX3_follow_96 rfl ?_
          refine g_zs C dX3_follow_98 (hP.1 11 (by decide)) (tk2_reg (k := 11) (by decide)) rfl (by omega) (by decide) (sDue_01 I1 i) ?_
          refine g_aload_n C (i := 2) dX3_follow_99 rfl rfl ?_
          refine g_lload_n C (i := 3) dX3_follow_100 rfl rfl ?_
          refine g_iload C (i := 6) dX3_follow_101 rfl ?_
          refine g_callV C (q := (RX0, TX0, 3)) (rest := _) dX3_follow_103 mm_X0_note ml_X3_40 mv_yX0_note ms_yX0_note (c_X0_note hP g4 (by omega) now (nI i)) rfl (hP.1 25 (by decide)) rfl rfl ⟨by decide, Nat.le_of_ble_eq_true rfl, Nat.le_of_ble_eq_true rfl, Nat.le_of_ble_eq_true rfl⟩ (tk_retn ?_) tk_nothr
          refine g_iinc C (i := 5) (n1 + 1) dX3_follow_106 rfl rfl (by decide) ?_
          refine g_iinc C (i := 6) (nI (i + 1)) dX3_follow_109 rfl (nI_1 i) (by decide) ?_
          refine g_goto C 6 dX3_follow_112 (by decide) ?_
          rw [sFol, if_neg h87] at ih1
          exact ih1 _ _
      refine g_iload C (i := 6) dX3_follow_6 rfl ?_
      refine g_aload_n C (i := 0) dX3_follow_8 rfl rfl ?_
      refine g_getI C 3 0 (RX3, TX3, 5) dX3_follow_9 (hP.1 7 (by decide)) (reg_at (k := 7) (by decide)) ml_X3_25 rfl (by decide) (Or.inl rfl) ?_
      rw [g1]
      refine g_icmp_ge C 115 dX3_follow_12 (by decide) (fun h12 => ?_) (fun h12 => ?_)
      · exact absurd h12 (nI_ge hlt (by omega))
      · refine g_aload_n C (i := 1) dX3_follow_15 rfl rfl ?_
        refine g_getR C 4 2 (RX4, TX4, 6) dX3_follow_16 (hP.1 1 (by decide)) (hP.2 1 2 3 (by decide) rfl) ml_X3_35 rfl (by decide) rfl ?_
        refine g_aload_n C (i := 0) dX3_follow_19 rfl rfl ?_
        refine g_getR C 3 1 (RX3, TX3, 5) dX3_follow_20 (hP.1 7 (by decide)) (hP.2 7 1 8 (by decide) rfl) ml_X3_9 rfl (by decide) rfl ?_
        refine g_iload C (i := 6) dX3_follow_23 rfl ?_
        refine g_ia C dX3_follow_25 (hP.1 8 (by decide)) (reg_at (k := 8) (by decide)) rfl (by omega) (by decide) ?_
        refine g_ia C dX3_follow_26 (hP.1 3 (by decide)) (reg_at (k := 3) (by decide)) et (by omega) (by decide) ?_
        refine g_istore C (i := 7) dX3_follow_27 (by decide) ?_
        refine g_aload_n C (i := 0) dX3_follow_29 rfl rfl ?_
        refine g_getR C 3 4 (RX3, TX3, 5) dX3_follow_30 (hP.1 7 (by decide)) (hP.2 7 4 11 (by decide) rfl) ml_X3_21 rfl (by decide) rfl ?_
        refine g_iload C (i := 6) dX3_follow_33 rfl ?_
        refine g_za C dX3_follow_35 (hP.1 11 (by decide)) (reg_at (k := 11) (by decide)) rfl (by omega) (by decide) (fun _ => ?_)
        refine g_if_eq C 59 dX3_follow_36 (by decide) (fun h36 => ?_) (fun h36 => ?_)
        · refine g_iload C (i := 7) dX3_follow_59 rfl ?_
          refine g_aload_n C (i := 0) dX3_follow_61 rfl rfl ?_
          refine g_getR C 3 2 (RX3, TX3, 5) dX3_follow_62 (hP.1 7 (by decide)) (hP.2 7 2 9 (by decide) rfl) ml_X3_15 rfl (by decide) rfl ?_
          refine g_iload C (i := 6) dX3_follow_65 rfl ?_
          refine g_ia C dX3_follow_67 (hP.1 9 (by decide)) (reg_at (k := 9) (by decide)) rfl (by omega) (by decide) ?_
          refine g_icmp_gt C 75 dX3_follow_68 (by decide) (fun h68 => ?_) (fun h68 => ?_)
          · refine g_iconst C (0) dX3_follow_75 rfl ?_
            rw [show (0 : Int32) = sDue I1 i by simp [sDue, h36, etc, h68]]
            exact J _ _
          · refine g_iconst C (1) dX3_follow_71 rfl ?_
            refine g_goto C 76 dX3_follow_72 (by decide) ?_
            rw [show (1 : Int32) = sDue I1 i by simp [sDue, h36, etc, h68]]
            exact J _ _
        · refine g_iload C (i := 7) dX3_follow_39 rfl ?_
          refine g_aload_n C (i := 0) dX3_follow_41 rfl rfl ?_
          refine g_getR C 3 3 (RX3, TX3, 5) dX3_follow_42 (hP.1 7 (by decide)) (hP.2 7 3 10 (by decide) rfl) ml_X3_18 rfl (by decide) rfl ?_
          refine g_iload C (i := 6) dX3_follow_45 rfl ?_
          refine g_ia C dX3_follow_47 (hP.1 10 (by decide)) (reg_at (k := 10) (by decide)) rfl (by omega) (by decide) ?_
          refine g_icmp_ge C 55 dX3_follow_48 (by decide) (fun h48 => ?_) (fun h48 => ?_)
          · refine g_iconst C (0) dX3_follow_55 rfl ?_
            refine g_goto C 76 dX3_follow_56 (by decide) ?_
            rw [show (0 : Int32) = sDue I1 i by simp [sDue, h36, etc, h48]]
            exact J _ _
          · refine g_iconst C (1) dX3_follow_51 rfl ?_
            refine g_goto C 76 dX3_follow_52 (by decide) ?_
            rw [show (1 : Int32) = sDue I1 i by simp [sDue, h36, etc, h48]]
            exact J _ _
  have k0 := key ns 0 none none (by omega)
  rw [h0] at k0
  exact k0
theorem c_X3_steadyTicks (hP : tkReg 28 pT pF σ p) {ns : Nat} (hW : wSw I0 ns) (lim : Int32) :
    tkCon false (.code yX3_steadyTicks cX3_steadyTicks 7 (some .int)) yX3_steadyTicks 3 [.ref (p + 7), .ref (p + 1), .int lim] σ (reg p 28 I0 v) (reg p 28 L0 w) 0 0 (.inl (some (.int (itr (sSst I0) ns lim)))) σ (reg p 28 I0 v) (reg p 28 L0 w) := by
  obtain ⟨hw1, hw2, hw3⟩ := hW
  refine tkCon.of (by decide) (Nat.le_of_ble_eq_true rfl) (fun X C => ?_)
  refine g_iload_n C (i := 2) dX3_steadyTicks_0 rfl rfl ?_
  refine g_istore_n C (i := 3) dX3_steadyTicks_1 rfl (by decide) ?_
  refine g_iconst C (0) dX3_steadyTicks_2 rfl ?_
  refine g_istore C (i := 4) dX3_steadyTicks_3 (by decide) ?_
  have key : ∀ k i lv5 lv6, k + i = ns → tkG X (tkQ false X 0 0 (.inl (some (.int (itr (sSst I0) ns lim)))) σ (reg p 28 I0 v) (reg p 28 L0 w)) 0 0 5 [some (.ref (p + 7)), some (.ref (p + 1)), some (.int lim), some (.int (itr (sSst I0) i lim)), some (.int (nI i)), lv5, lv6] [] σ (reg p 28 I0 v) (reg p 28 L0 w) := by
    intro k
    induction k with
    | zero =>
      intro i lv5 lv6 hi
      have e : i = ns := by omega
      subst e
      refine g_iload C (i := 4) dX3_steadyTicks_5 rfl ?_
      refine g_aload_n C (i := 0) dX3_steadyTicks_7 rfl rfl ?_
      refine g_getI C 3 0 (RX3, TX3, 5) dX3_steadyTicks_8 (hP.1 7 (by decide)) (reg_at (k := 7) (by decide)) ml_X3_25 rfl (by decide) (Or.inl rfl) ?_
      rw [hw1]
      refine g_icmp_ge C 106 dX3_steadyTicks_11 (by decide) (fun h11 => ?_) (fun h11 => ?_)
      · refine g_iload_n C (i := 3) dX3_steadyTicks_106 rfl rfl ?_
        exact g_ireturn C dX3_steadyTicks_107 ⟨Nat.le_of_ble_eq_true rfl, Nat.le_of_ble_eq_true rfl⟩ (tkEnd.rf rfl rfl rfl)
      · exact absurd (Int32.le_refl _) h11
    | succ k ih =>
      intro i lv5 lv6 hi
      have hlt : i < ns := by omega
      obtain ⟨t, ht, et⟩ := hw3 i hlt
      have etc : (I0 8 i).toNatClampNeg = t := by rw [et]; exact nI_clamp (by omega)
      have ih1 := fun a b => ih (i + 1) a b (by omega)
      rw [show itr (sSst I0) (i + 1) lim = sSst I0 i (itr (sSst I0) i lim) from rfl] at ih1
      refine g_iload C (i := 4) dX3_steadyTicks_5 rfl ?_
      refine g_aload_n C (i := 0) dX3_steadyTicks_7 rfl rfl ?_
      refine g_getI C 3 0 (RX3, TX3, 5) dX3_steadyTicks_8 (hP.1 7 (by decide)) (reg_at (k := 7) (by decide)) ml_X3_25 rfl (by decide) (Or.inl rfl) ?_
      rw [hw1]
      refine g_icmp_ge C 106 dX3_steadyTicks_11 (by decide) (fun h11 => ?_) (fun h11 => ?_)
      · exact absurd h11 (nI_ge hlt (by omega))
      · refine g_iload_n C (i := 3) dX3_steadyTicks_14 rfl rfl ?_
        refine g_if_le C 106 dX3_steadyTicks_15 (by decide) (fun h15 => ?_) (fun h15 => ?_)
        · have e := itr_stop (f := sSst I0) (P := fun s => s ≤ 0) (fun i a h => by simp [sSst, Int32.not_lt.mpr h]) h15 (k + 1)
          rw [show i + (k + 1) = ns by omega] at e
          rw [e]
          refine g_iload_n C (i := 3) dX3_steadyTicks_106 rfl rfl ?_
          exact g_ireturn C dX3_steadyTicks_107 ⟨Nat.le_of_ble_eq_true rfl, Nat.le_of_ble_eq_true rfl⟩ (tkEnd.rf rfl rfl rfl)
        · have h15' := Int32.not_le.mp h15
          refine g_aload_n C (i := 1) dX3_steadyTicks_18 rfl rfl ?_
          refine g_getR C 4 5 (RX4, TX4, 6) dX3_steadyTicks_19 (hP.1 1 (by decide)) (hP.2 1 5 6 (by decide) rfl) ml_X3_46 rfl (by decide) rfl ?_
          refine g_aload_n C (i := 0) dX3_steadyTicks_22 rfl rfl ?_
          refine g_getR C 3 1 (RX3, TX3, 5) dX3_steadyTicks_23 (hP.1 7 (by decide)) (hP.2 7 1 8 (by decide) rfl) ml_X3_9 rfl (by decide) rfl ?_
          refine g_iload C (i := 4) dX3_steadyTicks_26 rfl ?_
          refine g_ia C dX3_steadyTicks_28 (hP.1 8 (by decide)) (reg_at (k := 8) (by decide)) rfl (by omega) (by decide) ?_
          refine g_ia C dX3_steadyTicks_29 (hP.1 6 (by decide)) (reg_at (k := 6) (by decide)) et (by omega) (by decide) ?_
          refine g_istore C (i := 5) dX3_steadyTicks_30 (by decide) ?_
          refine g_aload_n C (i := 1) dX3_steadyTicks_32 rfl rfl ?_
          refine g_aload_n C (i := 0) dX3_steadyTicks_33 rfl rfl ?_
          refine g_getR C 3 1 (RX3, TX3, 5) dX3_steadyTicks_34 (hP.1 7 (by decide)) (hP.2 7 1 8 (by decide) rfl) ml_X3_9 rfl (by decide) rfl ?_
          refine g_iload C (i := 4) dX3_steadyTicks_37 rfl ?_
          refine g_ia C dX3_steadyTicks_39 (hP.1 8 (by decide)) (reg_at (k := 8) (by decide)) rfl (by omega) (by decide) ?_
          rw [et]
          refine g_callV C (q := (RX4, TX4, 6)) (rest := _) dX3_steadyTicks_40 mm_X4_drift ml_X3_49 mv_yX4_drift ms_yX4_drift (c_X4_drift (j := t) hP ht) rfl (hP.1 1 (by decide)) rfl rfl ⟨by decide, Nat.le_of_ble_eq_true rfl, Nat.le_of_ble_eq_true rfl, Nat.le_of_ble_eq_true rfl⟩ (tk_retv ?_) tk_nothr
          refine g_istore C (i := 6) dX3_steadyTicks_43 (by decide) ?_
          refine g_aload_n C (i := 0) dX3_steadyTicks_45 rfl rfl ?_
          refine g_getR C 3 4 (RX3, TX3, 5) dX3_steadyTicks_46 (hP.1 7 (by decide)) (hP.2 7 4 11 (by decide) rfl) ml_X3_21 rfl (by decide) rfl ?_
          refine g_iload C (i := 4) dX3_steadyTicks_49 rfl ?_
          refine g_za C dX3_steadyTicks_51 (hP.1 11 (by decide)) (reg_at (k := 11) (by decide)) rfl (by omega) (by decide) (fun _ => ?_)
          refine g_if_eq C 79 dX3_steadyTicks_52 (by decide) (fun h52 => ?_) (fun h52 => ?_)
          · refine g_iload C (i := 5) dX3_steadyTicks_79 rfl ?_
            refine g_aload_n C (i := 0) dX3_steadyTicks_81 rfl rfl ?_
            refine g_getR C 3 2 (RX3, TX3, 5) dX3_steadyTicks_82 (hP.1 7 (by decide)) (hP.2 7 2 9 (by decide) rfl) ml_X3_15 rfl (by decide) rfl ?_
            refine g_iload C (i := 4) dX3_steadyTicks_85 rfl ?_
            refine g_ia C dX3_steadyTicks_87 (hP.1 9 (by decide)) (reg_at (k := 9) (by decide)) rfl (by omega) (by decide) ?_
            refine g_isub C dX3_steadyTicks_88 ?_
            refine g_iconst C (1) dX3_steadyTicks_89 rfl ?_
            refine g_isub C dX3_steadyTicks_90 ?_
            refine g_i2l C dX3_steadyTicks_91 ?_
            refine g_iload C (i := 6) dX3_steadyTicks_92 rfl ?_
            refine g_i2l C dX3_steadyTicks_94 ?_
            refine g_iload_n C (i := 3) dX3_steadyTicks_95 rfl rfl ?_
            refine g_callSN C dX3_steadyTicks_96 mm_X5_ticksWhile ml_X3_53 mt_yX5_ticksWhile (c_X5_ticksWhile _ _ _) rfl ⟨by decide, Nat.le_of_ble_eq_true rfl, Nat.le_of_ble_eq_true rfl, Nat.le_of_ble_eq_true rfl⟩ (tk_retv ?_) tk_nothr
            refine g_istore_n C (i := 3) dX3_steadyTicks_99 rfl (by decide) ?_
            refine g_iinc C (i := 4) (nI (i + 1)) dX3_steadyTicks_100 rfl (nI_1 i) (by decide) ?_
            refine g_goto C 5 dX3_steadyTicks_103 (by decide) ?_
            rw [show sSst I0 i (itr (sSst I0) i lim) = jtw (I0 6 t - I0 9 i - 1).toInt64 (I0 3 t - I0 6 t).toInt64 (itr (sSst I0) i lim) by simp only [sSst, if_pos h15', if_pos h52, etc]] at ih1
            exact ih1 _ _
          · refine g_aload_n C (i := 0) dX3_steadyTicks_55 rfl rfl ?_
            refine g_getR C 3 3 (RX3, TX3, 5) dX3_steadyTicks_56 (hP.1 7 (by decide)) (hP.2 7 3 10 (by decide) rfl) ml_X3_18 rfl (by decide) rfl ?_
            refine g_iload C (i := 4) dX3_steadyTicks_59 rfl ?_
            refine g_ia C dX3_steadyTicks_61 (hP.1 10 (by decide)) (reg_at (k := 10) (by decide)) rfl (by omega) (by decide) ?_
            refine g_iconst C (1) dX3_steadyTicks_62 rfl ?_
            refine g_isub C dX3_steadyTicks_63 ?_
            refine g_iload C (i := 5) dX3_steadyTicks_64 rfl ?_
            refine g_isub C dX3_steadyTicks_66 ?_
            refine g_i2l C dX3_steadyTicks_67 ?_
            refine g_iload C (i := 6) dX3_steadyTicks_68 rfl ?_
            refine g_ineg C dX3_steadyTicks_70 ?_
            refine g_i2l C dX3_steadyTicks_71 ?_
            refine g_iload_n C (i := 3) dX3_steadyTicks_72 rfl rfl ?_
            refine g_callSN C dX3_steadyTicks_73 mm_X5_ticksWhile ml_X3_53 mt_yX5_ticksWhile (c_X5_ticksWhile _ _ _) rfl ⟨by decide, Nat.le_of_ble_eq_true rfl, Nat.le_of_ble_eq_true rfl, Nat.le_of_ble_eq_true rfl⟩ (tk_retv ?_) tk_nothr
            refine g_goto C 99 dX3_steadyTicks_76 (by decide) ?_
            refine g_istore_n C (i := 3) dX3_steadyTicks_99 rfl (by decide) ?_
            refine g_iinc C (i := 4) (nI (i + 1)) dX3_steadyTicks_100 rfl (nI_1 i) (by decide) ?_
            refine g_goto C 5 dX3_steadyTicks_103 (by decide) ?_
            rw [show sSst I0 i (itr (sSst I0) i lim) = jtw (I0 10 i - 1 - I0 6 t).toInt64 (-(I0 3 t - I0 6 t)).toInt64 (itr (sSst I0) i lim) by simp only [sSst, if_pos h15', if_neg h52, etc]] at ih1
            exact ih1 _ _
  exact key ns 0 none none (by omega)
theorem c_X3_mixedInto (hP : tkReg 28 pT pF σ p) {ns : Nat} (hW : wSw I0 ns) (d0 : Int64) :
    tkCon false (.code yX3_mixedInto cX3_mixedInto 6 (some .long)) yX3_mixedInto 2 [.ref (p + 7), .long d0] σ (reg p 28 I0 v) (reg p 28 L0 w) 0 0 (.inl (some (.long (itr (sSmix I0) ns d0)))) σ (reg p 28 I0 v) (reg p 28 L0 w) := by
  obtain ⟨hw1, hw2, hw3⟩ := hW
  refine tkCon.of (by decide) (Nat.le_of_ble_eq_true rfl) (fun X C => ?_)
  refine g_lload_n C (i := 1) dX3_mixedInto_0 rfl rfl ?_
  refine g_lstore_n C (i := 3) dX3_mixedInto_1 rfl (by decide) ?_
  refine g_iconst C (0) dX3_mixedInto_2 rfl ?_
  refine g_istore C (i := 5) dX3_mixedInto_3 (by decide) ?_
  have key : ∀ k i, k + i = ns → tkG X (tkQ false X 0 0 (.inl (some (.long (itr (sSmix I0) ns d0)))) σ (reg p 28 I0 v) (reg p 28 L0 w)) 0 0 5 [some (.ref (p + 7)), some (.long d0), none, some (.long (itr (sSmix I0) i d0)), none, some (.int (nI i))] [] σ (reg p 28 I0 v) (reg p 28 L0 w) := by
    intro k
    induction k with
    | zero =>
      intro i hi
      have e : i = ns := by omega
      subst e
      refine g_iload C (i := 5) dX3_mixedInto_5 rfl ?_
      refine g_aload_n C (i := 0) dX3_mixedInto_7 rfl rfl ?_
      refine g_getI C 3 0 (RX3, TX3, 5) dX3_mixedInto_8 (hP.1 7 (by decide)) (reg_at (k := 7) (by decide)) ml_X3_25 rfl (by decide) (Or.inl rfl) ?_
      rw [hw1]
      refine g_icmp_ge C 40 dX3_mixedInto_11 (by decide) (fun h11 => ?_) (fun h11 => ?_)
      · refine g_lload_n C (i := 3) dX3_mixedInto_40 rfl rfl ?_
        exact g_lreturn C dX3_mixedInto_41 ⟨Nat.le_of_ble_eq_true rfl, Nat.le_of_ble_eq_true rfl⟩ (tkEnd.rf rfl rfl rfl)
      · exact absurd (Int32.le_refl _) h11
    | succ k ih =>
      intro i hi
      have hlt : i < ns := by omega
      have ih1 := ih (i + 1) (by omega)
      rw [show itr (sSmix I0) (i + 1) d0 = sSmix I0 i (itr (sSmix I0) i d0) from rfl] at ih1
      refine g_iload C (i := 5) dX3_mixedInto_5 rfl ?_
      refine g_aload_n C (i := 0) dX3_mixedInto_7 rfl rfl ?_
      refine g_getI C 3 0 (RX3, TX3, 5) dX3_mixedInto_8 (hP.1 7 (by decide)) (reg_at (k := 7) (by decide)) ml_X3_25 rfl (by decide) (Or.inl rfl) ?_
      rw [hw1]
      refine g_icmp_ge C 40 dX3_mixedInto_11 (by decide) (fun h11 => ?_) (fun h11 => ?_)
      · exact absurd h11 (nI_ge hlt (by omega))
      · refine g_lload_n C (i := 3) dX3_mixedInto_14 rfl rfl ?_
        refine g_aload_n C (i := 0) dX3_mixedInto_15 rfl rfl ?_
        refine g_getR C 3 4 (RX3, TX3, 5) dX3_mixedInto_16 (hP.1 7 (by decide)) (hP.2 7 4 11 (by decide) rfl) ml_X3_21 rfl (by decide) rfl ?_
        refine g_iload C (i := 5) dX3_mixedInto_19 rfl ?_
        refine g_za C dX3_mixedInto_21 (hP.1 11 (by decide)) (reg_at (k := 11) (by decide)) rfl (by omega) (by decide) (fun _ => ?_)
        refine g_if_eq C 29 dX3_mixedInto_22 (by decide) (fun h22 => ?_) (fun h22 => ?_)
        · rw [sSmix, if_pos h22] at ih1
          refine g_lconst C 0 dX3_mixedInto_29 rfl ?_
          refine g_callSN C dX3_mixedInto_30 mm_X5_mix ml_X3_57 mt_yX5_mix (c_X5_mix _ _) rfl ⟨by decide, Nat.le_of_ble_eq_true rfl, Nat.le_of_ble_eq_true rfl, Nat.le_of_ble_eq_true rfl⟩ (tk_retv ?_) tk_nothr
          refine g_lstore_n C (i := 3) dX3_mixedInto_33 rfl (by decide) ?_
          refine g_iinc C (i := 5) (nI (i + 1)) dX3_mixedInto_34 rfl (nI_1 i) (by decide) ?_
          refine g_goto C 5 dX3_mixedInto_37 (by decide) ?_
          exact ih1
        · rw [sSmix, if_neg h22] at ih1
          refine g_lconst C 1 dX3_mixedInto_25 rfl ?_
          refine g_goto C 30 dX3_mixedInto_26 (by decide) ?_
          refine g_callSN C dX3_mixedInto_30 mm_X5_mix ml_X3_57 mt_yX5_mix (c_X5_mix _ _) rfl ⟨by decide, Nat.le_of_ble_eq_true rfl, Nat.le_of_ble_eq_true rfl, Nat.le_of_ble_eq_true rfl⟩ (tk_retv ?_) tk_nothr
          refine g_lstore_n C (i := 3) dX3_mixedInto_33 rfl (by decide) ?_
          refine g_iinc C (i := 5) (nI (i + 1)) dX3_mixedInto_34 rfl (nI_1 i) (by decide) ?_
          refine g_goto C 5 dX3_mixedInto_37 (by decide) ?_
          exact ih1
  exact key ns 0 (by omega)
end TKSWITCHES
end
section
section TKPUMPS
variable {σ : tkM} {p : Nat} {I0 v : tkI} {L0 w : tkL}
/-! the pumps' steps -/
def sAct (I : tkI) (i : Nat) : Int32 := if I 17 i = -1 then 1 else if I 11 (I 17 i).toNatClampNeg = I 18 i then 0 else 1
def sMove (i : Nat) (I : tkI) : tkI :=
  let s := (I 13 i).toNatClampNeg
  let t := (I 14 i).toNatClampNeg
  let m1 := if I 13 i = -1 then I 15 i else jmin (I 15 i) (I 3 s)
  let m2 := if I 14 i = -1 then m1 else jmin m1 (I 2 t - I 3 t)
  let I1 := if I 13 i = -1 then I else tk2 (tk2 I 3 s (I 3 s - m2)) 23 i (tk2 I 3 s (I 3 s - m2) 3 s)
  let I2 := if I 14 i = -1 then I1 else tk2 (tk2 I1 3 t (I1 3 t + m2)) 24 i (tk2 I1 3 t (I1 3 t + m2) 2 t - tk2 I1 3 t (I1 3 t + m2) 3 t)
  tk2 I2 22 i m2
def sEnter (t : Int32) (i : Nat) (I : tkI) (L : tkL) : tkL :=
  let mv := (I 22 i).toInt64 * t.toInt64
  let L1 := tk2 L 19 i (L 19 i + mv)
  let L2 := tk2 L1 20 i (L1 20 i + mv * (I 16 i).toInt64)
  if I 15 i ≤ I 22 i then L2 else tk2 L2 21 i (L2 21 i + t.toInt64)
def sMv (i : Nat) (q : tkI × tkL) : tkI × tkL := if sAct q.1 i = 0 then q else (sMove i q.1, sEnter 1 i (sMove i q.1) q.2)
def sPrep (I : tkI) (t : Int32) (i : Nat) (L : tkL) : tkL := if sAct I i = 0 then L else sEnter t i I L
def sHeld (h left dr : Int32) : Int32 := if h = 0 then (if left = 0 then (if dr = 0 then 1 else 0) else 0) else 1
def sOf1 (I : tkI) (i : Nat) (lim : Int32) : Int32 × Int32 :=
  let s := (I 13 i).toNatClampNeg
  let h0 : Int32 := if I 22 i = I 15 i then 1 else 0
  if I 13 i = -1 then (lim, h0) else (jtw (I 23 i).toInt64 (I 3 s - I 6 s).toInt64 lim, sHeld h0 (I 23 i) (I 3 s - I 6 s))
def sOf2 (I : tkI) (i : Nat) (q : Int32 × Int32) : Int32 × Int32 :=
  let t := (I 14 i).toNatClampNeg
  if I 14 i = -1 then q else (jtw (I 24 i).toInt64 (-(I 3 t - I 6 t)).toInt64 q.1, sHeld q.2 (I 24 i) (I 3 t - I 6 t))
def sOf (I : tkI) (i : Nat) (lim : Int32) : Int32 := if (sOf2 I i (sOf1 I i lim)).2 = 0 then 0 else (sOf2 I i (sOf1 I i lim)).1
def sPst (I : tkI) (i : Nat) (st : Int32) : Int32 := if 0 < st then (if sAct I i = 0 then st else sOf I i st) else st
def sIn (I : tkI) (L : tkL) (i : Nat) (d : Int64) : Int64 := d + (if I 13 i = -1 then L 19 i else 0)
def sGo (I : tkI) (L : tkL) (i : Nat) (d : Int64) : Int64 := d + (if I 14 i = -1 then L 19 i else 0)
def sPmix (I : tkI) (L : tkL) (i : Nat) (d : Int64) : Int64 := jmix (jmix (jmix (jmix d (I 15 i).toInt64) (L 19 i)) (L 20 i)) (L 21 i)
theorem sAct_01 (I : tkI) (i : Nat) : sAct I i = 0 ∨ sAct I i = 1 := by
  unfold sAct
  split
  · exact Or.inr rfl
  · split
    · exact Or.inl rfl
    · exact Or.inr rfl
theorem sAct_ne {I : tkI} {i : Nat} (h : ¬ sAct I i = 0) : sAct I i = 1 := (sAct_01 I i).resolve_left h
theorem c_X2_append (hP : tkReg 28 pT pF σ p) {n : Nat} (hn : n < 16) (hc : I0 12 0 = nI n) (x1 x2 x3 x4 x5 x6 : Int32) (h6 : x6 = 0 ∨ x6 = 1) :
    tkCon false (.code yX2_append cX2_append 8 (some .int)) yX2_append 1 [.ref (p + 12), .int x1, .int x2, .int x3, .int x4, .int x5, .int x6] σ (reg p 28 I0 v) (reg p 28 L0 w) 0 0 (.inl (some (.int (nI n)))) σ
      (reg p 28 (tk2 (tk2 (tk2 (tk2 (tk2 (tk2 (tk2 I0 13 n x1) 14 n x2) 15 n x3) 16 n x4) 17 n x5) 18 n x6) 12 0 (nI n + 1)) v) (reg p 28 (tk2 (tk2 (tk2 L0 19 n 0) 20 n 0) 21 n 0) w) := by
  refine tkCon.of (by decide) (Nat.le_of_ble_eq_true rfl) (fun X C => ?_)
  refine g_aload_n C (i := 0) dX2_append_0 rfl rfl ?_
  refine g_getI C 2 0 (RX2, TX2, 13) dX2_append_1 (hP.1 12 (by decide)) (reg_at (k := 12) (by decide)) ml_X2_50 rfl (by decide) (Or.inl rfl) ?_
  rw [hc]
  refine g_istore C (i := 7) dX2_append_4 (by decide) ?_
  refine g_aload_n C (i := 0) dX2_append_6 rfl rfl ?_
  refine g_getR C 2 1 (RX2, TX2, 13) dX2_append_7 (hP.1 12 (by decide)) (hP.2 12 1 13 (by decide) rfl) ml_X2_9 rfl (by decide) rfl ?_
  refine g_iload C (i := 7) dX2_append_10 rfl ?_
  refine g_iload_n C (i := 1) dX2_append_12 rfl rfl ?_
  refine g_is C dX2_append_13 (hP.1 13 (by decide)) (tk2_reg (k := 13) (by decide)) rfl (by omega) (by decide) ?_
  refine g_aload_n C (i := 0) dX2_append_14 rfl rfl ?_
  refine g_getR C 2 2 (RX2, TX2, 13) dX2_append_15 (hP.1 12 (by decide)) (hP.2 12 2 14 (by decide) rfl) ml_X2_15 rfl (by decide) rfl ?_
  refine g_iload C (i := 7) dX2_append_18 rfl ?_
  refine g_iload_n C (i := 2) dX2_append_20 rfl rfl ?_
  refine g_is C dX2_append_21 (hP.1 14 (by decide)) (tk2_reg (k := 14) (by decide)) rfl (by omega) (by decide) ?_
  refine g_aload_n C (i := 0) dX2_append_22 rfl rfl ?_
  refine g_getR C 2 3 (RX2, TX2, 13) dX2_append_23 (hP.1 12 (by decide)) (hP.2 12 3 15 (by decide) rfl) ml_X2_18 rfl (by decide) rfl ?_
  refine g_iload C (i := 7) dX2_append_26 rfl ?_
  refine g_iload_n C (i := 3) dX2_append_28 rfl rfl ?_
  refine g_is C dX2_append_29 (hP.1 15 (by decide)) (tk2_reg (k := 15) (by decide)) rfl (by omega) (by decide) ?_
  refine g_aload_n C (i := 0) dX2_append_30 rfl rfl ?_
  refine g_getR C 2 4 (RX2, TX2, 13) dX2_append_31 (hP.1 12 (by decide)) (hP.2 12 4 16 (by decide) rfl) ml_X2_21 rfl (by decide) rfl ?_
  refine g_iload C (i := 7) dX2_append_34 rfl ?_
  refine g_iload C (i := 4) dX2_append_36 rfl ?_
  refine g_is C dX2_append_38 (hP.1 16 (by decide)) (tk2_reg (k := 16) (by decide)) rfl (by omega) (by decide) ?_
  refine g_aload_n C (i := 0) dX2_append_39 rfl rfl ?_
  refine g_getR C 2 5 (RX2, TX2, 13) dX2_append_40 (hP.1 12 (by decide)) (hP.2 12 5 17 (by decide) rfl) ml_X2_24 rfl (by decide) rfl ?_
  refine g_iload C (i := 7) dX2_append_43 rfl ?_
  refine g_iload C (i := 5) dX2_append_45 rfl ?_
  refine g_is C dX2_append_47 (hP.1 17 (by decide)) (tk2_reg (k := 17) (by decide)) rfl (by omega) (by decide) ?_
  refine g_aload_n C (i := 0) dX2_append_48 rfl rfl ?_
  refine g_getR C 2 6 (RX2, TX2, 13) dX2_append_49 (hP.1 12 (by decide)) (hP.2 12 6 18 (by decide) rfl) ml_X2_27 rfl (by decide) rfl ?_
  refine g_iload C (i := 7) dX2_append_52 rfl ?_
  refine g_iload C (i := 6) dX2_append_54 rfl ?_
  refine g_zs C dX2_append_56 (hP.1 18 (by decide)) (tk2_reg (k := 18) (by decide)) rfl (by omega) (by decide) h6 ?_
  refine g_aload_n C (i := 0) dX2_append_57 rfl rfl ?_
  refine g_getR C 2 7 (RX2, TX2, 13) dX2_append_58 (hP.1 12 (by decide)) (hP.2 12 7 19 (by decide) rfl) ml_X2_31 rfl (by decide) rfl ?_
  refine g_iload C (i := 7) dX2_append_61 rfl ?_
  refine g_lconst C 0 dX2_append_63 rfl ?_
  refine g_ls C dX2_append_64 (hP.1 19 (by decide)) (tk2_reg (k := 19) (by decide)) rfl (by omega) (by decide) ?_
  refine g_aload_n C (i := 0) dX2_append_65 rfl rfl ?_
  refine g_getR C 2 8 (RX2, TX2, 13) dX2_append_66 (hP.1 12 (by decide)) (hP.2 12 8 20 (by decide) rfl) ml_X2_35 rfl (by decide) rfl ?_
  refine g_iload C (i := 7) dX2_append_69 rfl ?_
  refine g_lconst C 0 dX2_append_71 rfl ?_
  refine g_ls C dX2_append_72 (hP.1 20 (by decide)) (tk2_reg (k := 20) (by decide)) rfl (by omega) (by decide) ?_
  refine g_aload_n C (i := 0) dX2_append_73 rfl rfl ?_
  refine g_getR C 2 9 (RX2, TX2, 13) dX2_append_74 (hP.1 12 (by decide)) (hP.2 12 9 21 (by decide) rfl) ml_X2_38 rfl (by decide) rfl ?_
  refine g_iload C (i := 7) dX2_append_77 rfl ?_
  refine g_lconst C 0 dX2_append_79 rfl ?_
  refine g_ls C dX2_append_80 (hP.1 21 (by decide)) (tk2_reg (k := 21) (by decide)) rfl (by omega) (by decide) ?_
  refine g_aload_n C (i := 0) dX2_append_81 rfl rfl ?_
  refine g_dup C dX2_append_82 rfl ?_
  refine g_getI C 2 0 (RX2, TX2, 13) dX2_append_83 (hP.1 12 (by decide)) (reg_at (k := 12) (by decide)) ml_X2_50 rfl (by decide) (Or.inl rfl) ?_
  rw [show tk2 (tk2 (tk2 (tk2 (tk2 (tk2 I0 13 n x1) 14 n x2) 15 n x3) 16 n x4) 17 n x5) 18 n x6 12 0 = nI n by simp [tk2, hc]]
  refine g_iconst C (1) dX2_append_86 rfl ?_
  refine g_iadd C dX2_append_87 ?_
  refine g_putI C 2 0 (RX2, TX2, 13) dX2_append_88 (hP.1 12 (by decide)) (tk2_reg (k := 12) (by decide)) ml_X2_50 rfl (by decide) rfl rfl ?_
  refine g_iload C (i := 7) dX2_append_91 rfl ?_
  exact g_ireturn C dX2_append_93 ⟨Nat.le_of_ble_eq_true rfl, Nat.le_of_ble_eq_true rfl⟩ (tkEnd.rf rfl rfl rfl)
theorem c_X2_isActive (hP : tkReg 28 pT pF σ p) {np j : Nat} (hW : wPu I0 np) (hj : j < np) :
    tkCon false (.code yX2_isActive cX2_isActive 4 (some .boolean)) yX2_isActive 1 [.ref (p + 12), .int (nI j), .ref (p + 7)] σ (reg p 28 I0 v) (reg p 28 L0 w) 0 0 (.inl (some (.int (sAct I0 j)))) σ (reg p 28 I0 v) (reg p 28 L0 w) := by
  obtain ⟨hw1, hw2, hw3⟩ := hW
  have hc3 := (hw3 j hj).2.2
  refine tkCon.of (by decide) (Nat.le_of_ble_eq_true rfl) (fun X C => ?_)
  refine g_aload_n C (i := 0) dX2_isActive_0 rfl rfl ?_
  refine g_getR C 2 5 (RX2, TX2, 13) dX2_isActive_1 (hP.1 12 (by decide)) (hP.2 12 5 17 (by decide) rfl) ml_X2_24 rfl (by decide) rfl ?_
  refine g_iload_n C (i := 1) dX2_isActive_4 rfl rfl ?_
  refine g_ia C dX2_isActive_5 (hP.1 17 (by decide)) (reg_at (k := 17) (by decide)) rfl (by omega) (by decide) ?_
  refine g_istore_n C (i := 3) dX2_isActive_6 rfl (by decide) ?_
  refine g_iload_n C (i := 3) dX2_isActive_7 rfl rfl ?_
  refine g_iconst C (-1) dX2_isActive_8 rfl ?_
  refine g_icmp_eq C 27 dX2_isActive_9 (by decide) (fun h9 => ?_) (fun h9 => ?_)
  · refine g_iconst C (1) dX2_isActive_27 rfl ?_
    refine g_goto C 32 dX2_isActive_28 (by decide) ?_
    exact g_zreturn C dX2_isActive_32 ⟨Nat.le_of_ble_eq_true rfl, Nat.le_of_ble_eq_true rfl⟩ (by first | assumption | exact Or.inl rfl | exact Or.inr rfl) (tkEnd.rf (by simp [sAct, h9]) rfl rfl)
  · obtain ⟨t, ht, et⟩ := hc3.resolve_left h9
    have etc : (I0 17 j).toNatClampNeg = t := by rw [et]; exact nI_clamp (by omega)
    refine g_aload_n C (i := 2) dX2_isActive_12 rfl rfl ?_
    refine g_getR C 3 4 (RX3, TX3, 5) dX2_isActive_13 (hP.1 7 (by decide)) (hP.2 7 4 11 (by decide) rfl) ml_X2_60 rfl (by decide) rfl ?_
    refine g_iload_n C (i := 3) dX2_isActive_16 rfl rfl ?_
    refine g_za C dX2_isActive_17 (hP.1 11 (by decide)) (reg_at (k := 11) (by decide)) et (by omega) (by decide) (fun _ => ?_)
    refine g_aload_n C (i := 0) dX2_isActive_18 rfl rfl ?_
    refine g_getR C 2 6 (RX2, TX2, 13) dX2_isActive_19 (hP.1 12 (by decide)) (hP.2 12 6 18 (by decide) rfl) ml_X2_27 rfl (by decide) rfl ?_
    refine g_iload_n C (i := 1) dX2_isActive_22 rfl rfl ?_
    refine g_za C dX2_isActive_23 (hP.1 18 (by decide)) (reg_at (k := 18) (by decide)) rfl (by omega) (by decide) (fun _ => ?_)
    refine g_icmp_eq C 31 dX2_isActive_24 (by decide) (fun h24 => ?_) (fun h24 => ?_)
    · refine g_iconst C (0) dX2_isActive_31 rfl ?_
      exact g_zreturn C dX2_isActive_32 ⟨Nat.le_of_ble_eq_true rfl, Nat.le_of_ble_eq_true rfl⟩ (by first | assumption | exact Or.inl rfl | exact Or.inr rfl) (tkEnd.rf (by simp [sAct, h9, etc, h24]) rfl rfl)
    · refine g_iconst C (1) dX2_isActive_27 rfl ?_
      refine g_goto C 32 dX2_isActive_28 (by decide) ?_
      exact g_zreturn C dX2_isActive_32 ⟨Nat.le_of_ble_eq_true rfl, Nat.le_of_ble_eq_true rfl⟩ (by first | assumption | exact Or.inl rfl | exact Or.inr rfl) (tkEnd.rf (by simp [sAct, h9, etc, h24]) rfl rfl)
theorem c_X2_move (hP : tkReg 28 pT pF σ p) {np j : Nat} (hW : wPu I0 np) (hj : j < np) :
    tkCon false (.code yX2_move cX2_move 6 none) yX2_move 2 [.ref (p + 12), .int (nI j), .ref (p + 1)] σ (reg p 28 I0 v) (reg p 28 L0 w) 0 0 (.inl none) σ (reg p 28 (sMove j I0) v) (reg p 28 L0 w) := by
  obtain ⟨hw1, hw2, hw3⟩ := hW
  obtain ⟨hf, ht, -⟩ := hw3 j hj
  obtain ⟨m1, em1⟩ : ∃ m1, m1 = if I0 13 j = -1 then I0 15 j else jmin (I0 15 j) (I0 3 (I0 13 j).toNatClampNeg) := ⟨_, rfl⟩
  obtain ⟨m2, em2⟩ : ∃ m2, m2 = if I0 14 j = -1 then m1 else jmin m1 (I0 2 (I0 14 j).toNatClampNeg - I0 3 (I0 14 j).toNatClampNeg) := ⟨_, rfl⟩
  obtain ⟨I1, eI1⟩ : ∃ I1, I1 = if I0 13 j = -1 then I0 else tk2 (tk2 I0 3 (I0 13 j).toNatClampNeg (I0 3 (I0 13 j).toNatClampNeg - m2)) 23 j (tk2 I0 3 (I0 13 j).toNatClampNeg (I0 3 (I0 13 j).toNatClampNeg - m2) 3 (I0 13 j).toNatClampNeg) := ⟨_, rfl⟩
  obtain ⟨I2, eI2⟩ : ∃ I2, I2 = if I0 14 j = -1 then I1 else tk2 (tk2 I1 3 (I0 14 j).toNatClampNeg (I1 3 (I0 14 j).toNatClampNeg + m2)) 24 j (tk2 I1 3 (I0 14 j).toNatClampNeg (I1 3 (I0 14 j).toNatClampNeg + m2) 2 (I0 14 j).toNatClampNeg - tk2 I1 3 (I0 14 j).toNatClampNeg (I1 3 (I0 14 j).toNatClampNeg + m2) 3 (I0 14 j).toNatClampNeg) := ⟨_, rfl⟩
  have eF : sMove j I0 = tk2 I2 22 j m2 := by rw [eI2, eI1, em2, em1]; rfl
  rw [eF]
  refine tkCon.of (by decide) (Nat.le_of_ble_eq_true rfl) (fun X C => ?_)
  have J136 : tkG X (tkQ false X 0 0 (.inl none) σ (reg p 28 (tk2 I2 22 j m2) v) (reg p 28 L0 w)) 0 0 136 [some (.ref (p + 12)), some (.int (nI j)), some (.ref (p + 1)), some (.int (I0 13 j)), some (.int (I0 14 j)), some (.int m2)] [] σ (reg p 28 I2 v) (reg p 28 L0 w) := by
    clear eI1 eI2 em1 em2 eF
    refine g_aload_n C (i := 0) dX2_move_136 rfl rfl ?_
    refine g_getR C 2 10 (RX2, TX2, 13) dX2_move_137 (hP.1 12 (by decide)) (hP.2 12 10 22 (by decide) rfl) ml_X2_41 rfl (by decide) rfl ?_
    refine g_iload_n C (i := 1) dX2_move_140 rfl rfl ?_
    refine g_iload C (i := 5) dX2_move_141 rfl ?_
    refine g_is C dX2_move_143 (hP.1 22 (by decide)) (tk2_reg (k := 22) (by decide)) rfl (by omega) (by decide) ?_
    exact g_return C dX2_move_144 ⟨Nat.le_of_ble_eq_true rfl, Nat.le_of_ble_eq_true rfl⟩ (tkEnd.rf rfl rfl rfl)
  have J97 : tkG X (tkQ false X 0 0 (.inl none) σ (reg p 28 (tk2 I2 22 j m2) v) (reg p 28 L0 w)) 0 0 97 [some (.ref (p + 12)), some (.int (nI j)), some (.ref (p + 1)), some (.int (I0 13 j)), some (.int (I0 14 j)), some (.int m2)] [] σ (reg p 28 I1 v) (reg p 28 L0 w) := by
    clear eI1 em1 em2 eF
    refine g_iload C (i := 4) dX2_move_97 rfl ?_
    refine g_iconst C (-1) dX2_move_99 rfl ?_
    refine g_icmp_eq C 136 dX2_move_100 (by decide) (fun h100 => ?_) (fun h100 => ?_)
    · rw [if_pos h100] at eI2
      rw [eI2] at J136
      rw [eI2]
      skip
      exact J136
    · obtain ⟨t, ht, et⟩ := ht.resolve_left h100
      have etc : (I0 14 j).toNatClampNeg = t := by rw [et]; exact nI_clamp (by omega)
      rw [if_neg h100, etc] at eI2
      rw [eI2] at J136
      rw [eI2]
      refine g_aload_n C (i := 2) dX2_move_103 rfl rfl ?_
      refine g_getR C 4 2 (RX4, TX4, 6) dX2_move_104 (hP.1 1 (by decide)) (hP.2 1 2 3 (by decide) rfl) ml_X2_77 rfl (by decide) rfl ?_
      refine g_iload C (i := 4) dX2_move_107 rfl ?_
      refine g_dup2 C dX2_move_109 rfl rfl ?_
      refine g_ia C dX2_move_110 (hP.1 3 (by decide)) (reg_at (k := 3) (by decide)) et (by omega) (by decide) ?_
      refine g_iload C (i := 5) dX2_move_111 rfl ?_
      refine g_iadd C dX2_move_113 ?_
      refine g_is C dX2_move_114 (hP.1 3 (by decide)) (tk2_reg (k := 3) (by decide)) et (by omega) (by decide) ?_
      refine g_aload_n C (i := 0) dX2_move_115 rfl rfl ?_
      refine g_getR C 2 12 (RX2, TX2, 13) dX2_move_116 (hP.1 12 (by decide)) (hP.2 12 12 24 (by decide) rfl) ml_X2_47 rfl (by decide) rfl ?_
      refine g_iload_n C (i := 1) dX2_move_119 rfl rfl ?_
      refine g_aload_n C (i := 2) dX2_move_120 rfl rfl ?_
      refine g_getR C 4 1 (RX4, TX4, 6) dX2_move_121 (hP.1 1 (by decide)) (hP.2 1 1 2 (by decide) rfl) ml_X2_88 rfl (by decide) rfl ?_
      refine g_iload C (i := 4) dX2_move_124 rfl ?_
      refine g_ia C dX2_move_126 (hP.1 2 (by decide)) (reg_at (k := 2) (by decide)) et (by omega) (by decide) ?_
      refine g_aload_n C (i := 2) dX2_move_127 rfl rfl ?_
      refine g_getR C 4 2 (RX4, TX4, 6) dX2_move_128 (hP.1 1 (by decide)) (hP.2 1 2 3 (by decide) rfl) ml_X2_77 rfl (by decide) rfl ?_
      refine g_iload C (i := 4) dX2_move_131 rfl ?_
      refine g_ia C dX2_move_133 (hP.1 3 (by decide)) (reg_at (k := 3) (by decide)) et (by omega) (by decide) ?_
      refine g_isub C dX2_move_134 ?_
      refine g_is C dX2_move_135 (hP.1 24 (by decide)) (tk2_reg (k := 24) (by decide)) rfl (by omega) (by decide) ?_
      exact J136
  have J69 : tkG X (tkQ false X 0 0 (.inl none) σ (reg p 28 (tk2 I2 22 j m2) v) (reg p 28 L0 w)) 0 0 69 [some (.ref (p + 12)), some (.int (nI j)), some (.ref (p + 1)), some (.int (I0 13 j)), some (.int (I0 14 j)), some (.int m2)] [] σ (reg p 28 I0 v) (reg p 28 L0 w) := by
    clear J136 eI2 em1 em2 eF
    refine g_iload_n C (i := 3) dX2_move_69 rfl rfl ?_
    refine g_iconst C (-1) dX2_move_70 rfl ?_
    refine g_icmp_eq C 97 dX2_move_71 (by decide) (fun h71 => ?_) (fun h71 => ?_)
    · rw [if_pos h71] at eI1
      rw [eI1] at J97
      skip
      exact J97
    · obtain ⟨s, hs, es⟩ := hf.resolve_left h71
      have esc : (I0 13 j).toNatClampNeg = s := by rw [es]; exact nI_clamp (by omega)
      rw [if_neg h71, esc] at eI1
      rw [eI1] at J97
      refine g_aload_n C (i := 2) dX2_move_74 rfl rfl ?_
      refine g_getR C 4 2 (RX4, TX4, 6) dX2_move_75 (hP.1 1 (by decide)) (hP.2 1 2 3 (by decide) rfl) ml_X2_77 rfl (by decide) rfl ?_
      refine g_iload_n C (i := 3) dX2_move_78 rfl rfl ?_
      refine g_dup2 C dX2_move_79 rfl rfl ?_
      refine g_ia C dX2_move_80 (hP.1 3 (by decide)) (reg_at (k := 3) (by decide)) es (by omega) (by decide) ?_
      refine g_iload C (i := 5) dX2_move_81 rfl ?_
      refine g_isub C dX2_move_83 ?_
      refine g_is C dX2_move_84 (hP.1 3 (by decide)) (tk2_reg (k := 3) (by decide)) es (by omega) (by decide) ?_
      refine g_aload_n C (i := 0) dX2_move_85 rfl rfl ?_
      refine g_getR C 2 11 (RX2, TX2, 13) dX2_move_86 (hP.1 12 (by decide)) (hP.2 12 11 23 (by decide) rfl) ml_X2_44 rfl (by decide) rfl ?_
      refine g_iload_n C (i := 1) dX2_move_89 rfl rfl ?_
      refine g_aload_n C (i := 2) dX2_move_90 rfl rfl ?_
      refine g_getR C 4 2 (RX4, TX4, 6) dX2_move_91 (hP.1 1 (by decide)) (hP.2 1 2 3 (by decide) rfl) ml_X2_77 rfl (by decide) rfl ?_
      refine g_iload_n C (i := 3) dX2_move_94 rfl rfl ?_
      refine g_ia C dX2_move_95 (hP.1 3 (by decide)) (reg_at (k := 3) (by decide)) es (by omega) (by decide) ?_
      refine g_is C dX2_move_96 (hP.1 23 (by decide)) (tk2_reg (k := 23) (by decide)) rfl (by omega) (by decide) ?_
      exact J97
  clear J136 J97 eI1 eI2 eF
  have J41 : tkG X (tkQ false X 0 0 (.inl none) σ (reg p 28 (tk2 I2 22 j m2) v) (reg p 28 L0 w)) 0 0 41 [some (.ref (p + 12)), some (.int (nI j)), some (.ref (p + 1)), some (.int (I0 13 j)), some (.int (I0 14 j)), some (.int m1)] [] σ (reg p 28 I0 v) (reg p 28 L0 w) := by
    clear em1
    refine g_iload C (i := 4) dX2_move_41 rfl ?_
    refine g_iconst C (-1) dX2_move_43 rfl ?_
    refine g_icmp_eq C 69 dX2_move_44 (by decide) (fun h44 => ?_) (fun h44 => ?_)
    · rw [if_pos h44] at em2
      rw [em2] at J69
      rw [em2]
      skip
      exact J69
    · obtain ⟨t, ht, et⟩ := ht.resolve_left h44
      have etc : (I0 14 j).toNatClampNeg = t := by rw [et]; exact nI_clamp (by omega)
      rw [if_neg h44, etc] at em2
      rw [em2] at J69
      rw [em2]
      refine g_iload C (i := 5) dX2_move_47 rfl ?_
      refine g_aload_n C (i := 2) dX2_move_49 rfl rfl ?_
      refine g_getR C 4 1 (RX4, TX4, 6) dX2_move_50 (hP.1 1 (by decide)) (hP.2 1 1 2 (by decide) rfl) ml_X2_88 rfl (by decide) rfl ?_
      refine g_iload C (i := 4) dX2_move_53 rfl ?_
      refine g_ia C dX2_move_55 (hP.1 2 (by decide)) (reg_at (k := 2) (by decide)) et (by omega) (by decide) ?_
      refine g_aload_n C (i := 2) dX2_move_56 rfl rfl ?_
      refine g_getR C 4 2 (RX4, TX4, 6) dX2_move_57 (hP.1 1 (by decide)) (hP.2 1 2 3 (by decide) rfl) ml_X2_77 rfl (by decide) rfl ?_
      refine g_iload C (i := 4) dX2_move_60 rfl ?_
      refine g_ia C dX2_move_62 (hP.1 3 (by decide)) (reg_at (k := 3) (by decide)) et (by omega) (by decide) ?_
      refine g_isub C dX2_move_63 ?_
      refine g_min C dX2_move_64 ml_X2_82 (by decide) (Nat.le_of_ble_eq_true rfl) (Nat.le_of_ble_eq_true rfl) (Nat.le_of_ble_eq_true rfl) ?_
      refine g_istore C (i := 5) dX2_move_67 (by decide) ?_
      exact J69
  clear J69 em2
  refine g_aload_n C (i := 0) dX2_move_0 rfl rfl ?_
  refine g_getR C 2 1 (RX2, TX2, 13) dX2_move_1 (hP.1 12 (by decide)) (hP.2 12 1 13 (by decide) rfl) ml_X2_9 rfl (by decide) rfl ?_
  refine g_iload_n C (i := 1) dX2_move_4 rfl rfl ?_
  refine g_ia C dX2_move_5 (hP.1 13 (by decide)) (reg_at (k := 13) (by decide)) rfl (by omega) (by decide) ?_
  refine g_istore_n C (i := 3) dX2_move_6 rfl (by decide) ?_
  refine g_aload_n C (i := 0) dX2_move_7 rfl rfl ?_
  refine g_getR C 2 2 (RX2, TX2, 13) dX2_move_8 (hP.1 12 (by decide)) (hP.2 12 2 14 (by decide) rfl) ml_X2_15 rfl (by decide) rfl ?_
  refine g_iload_n C (i := 1) dX2_move_11 rfl rfl ?_
  refine g_ia C dX2_move_12 (hP.1 14 (by decide)) (reg_at (k := 14) (by decide)) rfl (by omega) (by decide) ?_
  refine g_istore C (i := 4) dX2_move_13 (by decide) ?_
  refine g_aload_n C (i := 0) dX2_move_15 rfl rfl ?_
  refine g_getR C 2 3 (RX2, TX2, 13) dX2_move_16 (hP.1 12 (by decide)) (hP.2 12 3 15 (by decide) rfl) ml_X2_18 rfl (by decide) rfl ?_
  refine g_iload_n C (i := 1) dX2_move_19 rfl rfl ?_
  refine g_ia C dX2_move_20 (hP.1 15 (by decide)) (reg_at (k := 15) (by decide)) rfl (by omega) (by decide) ?_
  refine g_istore C (i := 5) dX2_move_21 (by decide) ?_
  refine g_iload_n C (i := 3) dX2_move_23 rfl rfl ?_
  refine g_iconst C (-1) dX2_move_24 rfl ?_
  refine g_icmp_eq C 41 dX2_move_25 (by decide) (fun h25 => ?_) (fun h25 => ?_)
  · rw [if_pos h25] at em1
    rw [em1] at J41
    skip
    exact J41
  · obtain ⟨s, hs, es⟩ := hf.resolve_left h25
    have esc : (I0 13 j).toNatClampNeg = s := by rw [es]; exact nI_clamp (by omega)
    rw [if_neg h25, esc] at em1
    rw [em1] at J41
    refine g_iload C (i := 5) dX2_move_28 rfl ?_
    refine g_aload_n C (i := 2) dX2_move_30 rfl rfl ?_
    refine g_getR C 4 2 (RX4, TX4, 6) dX2_move_31 (hP.1 1 (by decide)) (hP.2 1 2 3 (by decide) rfl) ml_X2_77 rfl (by decide) rfl ?_
    refine g_iload_n C (i := 3) dX2_move_34 rfl rfl ?_
    refine g_ia C dX2_move_35 (hP.1 3 (by decide)) (reg_at (k := 3) (by decide)) es (by omega) (by decide) ?_
    refine g_min C dX2_move_36 ml_X2_82 (by decide) (Nat.le_of_ble_eq_true rfl) (Nat.le_of_ble_eq_true rfl) (Nat.le_of_ble_eq_true rfl) ?_
    refine g_istore C (i := 5) dX2_move_39 (by decide) ?_
    exact J41
theorem c_X2_enter (hP : tkReg 28 pT pF σ p) {j : Nat} (hj : j < 16) (t : Int32) :
    tkCon false (.code yX2_enter cX2_enter 5 none) yX2_enter 1 [.ref (p + 12), .int (nI j), .int t] σ (reg p 28 I0 v) (reg p 28 L0 w) 0 0 (.inl none) σ (reg p 28 I0 v) (reg p 28 (sEnter t j I0 L0) w) := by
  refine tkCon.of (by decide) (Nat.le_of_ble_eq_true rfl) (fun X C => ?_)
  refine g_aload_n C (i := 0) dX2_enter_0 rfl rfl ?_
  refine g_getR C 2 10 (RX2, TX2, 13) dX2_enter_1 (hP.1 12 (by decide)) (hP.2 12 10 22 (by decide) rfl) ml_X2_41 rfl (by decide) rfl ?_
  refine g_iload_n C (i := 1) dX2_enter_4 rfl rfl ?_
  refine g_ia C dX2_enter_5 (hP.1 22 (by decide)) (reg_at (k := 22) (by decide)) rfl (by omega) (by decide) ?_
  refine g_i2l C dX2_enter_6 ?_
  refine g_iload_n C (i := 2) dX2_enter_7 rfl rfl ?_
  refine g_i2l C dX2_enter_8 ?_
  refine g_lmul C dX2_enter_9 ?_
  refine g_lstore_n C (i := 3) dX2_enter_10 rfl (by decide) ?_
  refine g_aload_n C (i := 0) dX2_enter_11 rfl rfl ?_
  refine g_getR C 2 7 (RX2, TX2, 13) dX2_enter_12 (hP.1 12 (by decide)) (hP.2 12 7 19 (by decide) rfl) ml_X2_31 rfl (by decide) rfl ?_
  refine g_iload_n C (i := 1) dX2_enter_15 rfl rfl ?_
  refine g_dup2 C dX2_enter_16 rfl rfl ?_
  refine g_la C dX2_enter_17 (hP.1 19 (by decide)) (reg_at (k := 19) (by decide)) rfl (by omega) (by decide) ?_
  refine g_lload_n C (i := 3) dX2_enter_18 rfl rfl ?_
  refine g_ladd C dX2_enter_19 ?_
  refine g_ls C dX2_enter_20 (hP.1 19 (by decide)) (tk2_reg (k := 19) (by decide)) rfl (by omega) (by decide) ?_
  refine g_aload_n C (i := 0) dX2_enter_21 rfl rfl ?_
  refine g_getR C 2 8 (RX2, TX2, 13) dX2_enter_22 (hP.1 12 (by decide)) (hP.2 12 8 20 (by decide) rfl) ml_X2_35 rfl (by decide) rfl ?_
  refine g_iload_n C (i := 1) dX2_enter_25 rfl rfl ?_
  refine g_dup2 C dX2_enter_26 rfl rfl ?_
  refine g_la C dX2_enter_27 (hP.1 20 (by decide)) (reg_at (k := 20) (by decide)) rfl (by omega) (by decide) ?_
  refine g_lload_n C (i := 3) dX2_enter_28 rfl rfl ?_
  refine g_aload_n C (i := 0) dX2_enter_29 rfl rfl ?_
  refine g_getR C 2 4 (RX2, TX2, 13) dX2_enter_30 (hP.1 12 (by decide)) (hP.2 12 4 16 (by decide) rfl) ml_X2_21 rfl (by decide) rfl ?_
  refine g_iload_n C (i := 1) dX2_enter_33 rfl rfl ?_
  refine g_ia C dX2_enter_34 (hP.1 16 (by decide)) (reg_at (k := 16) (by decide)) rfl (by omega) (by decide) ?_
  refine g_i2l C dX2_enter_35 ?_
  refine g_lmul C dX2_enter_36 ?_
  refine g_ladd C dX2_enter_37 ?_
  refine g_ls C dX2_enter_38 (hP.1 20 (by decide)) (tk2_reg (k := 20) (by decide)) rfl (by omega) (by decide) ?_
  refine g_aload_n C (i := 0) dX2_enter_39 rfl rfl ?_
  refine g_getR C 2 10 (RX2, TX2, 13) dX2_enter_40 (hP.1 12 (by decide)) (hP.2 12 10 22 (by decide) rfl) ml_X2_41 rfl (by decide) rfl ?_
  refine g_iload_n C (i := 1) dX2_enter_43 rfl rfl ?_
  refine g_ia C dX2_enter_44 (hP.1 22 (by decide)) (reg_at (k := 22) (by decide)) rfl (by omega) (by decide) ?_
  refine g_aload_n C (i := 0) dX2_enter_45 rfl rfl ?_
  refine g_getR C 2 3 (RX2, TX2, 13) dX2_enter_46 (hP.1 12 (by decide)) (hP.2 12 3 15 (by decide) rfl) ml_X2_18 rfl (by decide) rfl ?_
  refine g_iload_n C (i := 1) dX2_enter_49 rfl rfl ?_
  refine g_ia C dX2_enter_50 (hP.1 15 (by decide)) (reg_at (k := 15) (by decide)) rfl (by omega) (by decide) ?_
  refine g_icmp_ge C 65 dX2_enter_51 (by decide) (fun h51 => ?_) (fun h51 => ?_)
  · exact g_return C dX2_enter_65 ⟨Nat.le_of_ble_eq_true rfl, Nat.le_of_ble_eq_true rfl⟩ (tkEnd.rf rfl rfl (by simp only [sEnter, h51, if_true]))
  · refine g_aload_n C (i := 0) dX2_enter_54 rfl rfl ?_
    refine g_getR C 2 9 (RX2, TX2, 13) dX2_enter_55 (hP.1 12 (by decide)) (hP.2 12 9 21 (by decide) rfl) ml_X2_38 rfl (by decide) rfl ?_
    refine g_iload_n C (i := 1) dX2_enter_58 rfl rfl ?_
    refine g_dup2 C dX2_enter_59 rfl rfl ?_
    refine g_la C dX2_enter_60 (hP.1 21 (by decide)) (reg_at (k := 21) (by decide)) rfl (by omega) (by decide) ?_
    refine g_iload_n C (i := 2) dX2_enter_61 rfl rfl ?_
    refine g_i2l C dX2_enter_62 ?_
    refine g_ladd C dX2_enter_63 ?_
    refine g_ls C dX2_enter_64 (hP.1 21 (by decide)) (tk2_reg (k := 21) (by decide)) rfl (by omega) (by decide) ?_
    exact g_return C dX2_enter_65 ⟨Nat.le_of_ble_eq_true rfl, Nat.le_of_ble_eq_true rfl⟩ (tkEnd.rf rfl rfl (by simp only [sEnter, h51, if_false]))
/-- what the moves leave as it was -/
def pMv (I0 : tkI) (q : tkI × tkL) : Prop := ∀ k, k ≠ 3 → k ≠ 22 → k ≠ 23 → k ≠ 24 → q.1 k = I0 k
theorem sMove_keep (i : Nat) (I : tkI) {k : Nat} (h3 : k ≠ 3) (h22 : k ≠ 22) (h23 : k ≠ 23) (h24 : k ≠ 24) : sMove i I k = I k := by
  funext j
  unfold sMove
  split <;> split <;> simp [tk2, h3, h22, h23, h24]
theorem sMv_keep {I0 : tkI} {i : Nat} {q : tkI × tkL} (h : pMv I0 q) : pMv I0 (sMv i q) := by
  unfold sMv
  split
  · exact h
  · intro k h3 h22 h23 h24
    show sMove i q.1 k = I0 k
    rw [sMove_keep i q.1 h3 h22 h23 h24]
    exact h k h3 h22 h23 h24
theorem wPu.keep {I0 I1 : tkI} {np : Nat} (h : wPu I0 np) (h12 : I1 12 = I0 12) (h13 : I1 13 = I0 13) (h14 : I1 14 = I0 14) (h17 : I1 17 = I0 17) : wPu I1 np := by
  obtain ⟨a, b, c⟩ := h
  exact ⟨by rw [h12]; exact a, b, fun i hi => by rw [h13, h14, h17]; exact c i hi⟩
theorem c_X2_moveAll (hP : tkReg 28 pT pF σ p) {np : Nat} (hW : wPu I0 np) :
    tkCon false (.code yX2_moveAll cX2_moveAll 4 none) yX2_moveAll 3 [.ref (p + 12), .ref (p + 1), .ref (p + 7)] σ (reg p 28 I0 v) (reg p 28 L0 w) 0 0 (.inl none) σ (reg p 28 (itr sMv np (I0, L0)).1 v) (reg p 28 (itr sMv np (I0, L0)).2 w) := by
  obtain ⟨s, hs⟩ : ∃ s, s = fun i => itr sMv i (I0, L0) := ⟨_, rfl⟩
  have inv : ∀ i, pMv I0 (s i) := fun i => by rw [hs]; exact itr_inv (P := pMv I0) (n := i) (fun k a _ h => sMv_keep h) (Nat.le_refl _) (fun k _ _ _ _ => rfl)
  have hsucc : ∀ i, s (i + 1) = sMv i (s i) := fun i => by rw [hs]; rfl
  have h0 : s 0 = (I0, L0) := by rw [hs]; rfl
  rw [show itr sMv np (I0, L0) = s np by rw [hs]]
  have hWi : ∀ i, wPu (s i).1 np := fun i => hW.keep (inv i 12 (by decide) (by decide) (by decide) (by decide)) (inv i 13 (by decide) (by decide) (by decide) (by decide)) (inv i 14 (by decide) (by decide) (by decide) (by decide)) (inv i 17 (by decide) (by decide) (by decide) (by decide))
  refine tkCon.of (by decide) (Nat.le_of_ble_eq_true rfl) (fun X C => ?_)
  refine g_iconst C (0) dX2_moveAll_0 rfl ?_
  refine g_istore_n C (i := 3) dX2_moveAll_1 rfl (by decide) ?_
  have key : ∀ k i, k + i = np → tkG X (tkQ false X 0 0 (.inl none) σ (reg p 28 (s np).1 v) (reg p 28 (s np).2 w)) 0 0 2 [some (.ref (p + 12)), some (.ref (p + 1)), some (.ref (p + 7)), some (.int (nI i))] [] σ (reg p 28 (s i).1 v) (reg p 28 (s i).2 w) := by
    intro k
    induction k with
    | zero =>
      intro i hi
      have e : i = np := by omega
      subst e
      refine g_iload_n C (i := 3) dX2_moveAll_2 rfl rfl ?_
      refine g_aload_n C (i := 0) dX2_moveAll_3 rfl rfl ?_
      refine g_getI C 2 0 (RX2, TX2, 13) dX2_moveAll_4 (hP.1 12 (by decide)) (reg_at (k := 12) (by decide)) ml_X2_50 rfl (by decide) (Or.inl rfl) ?_
      rw [(hWi i).1]
      refine g_icmp_ge C 37 dX2_moveAll_7 (by decide) (fun h7 => ?_) (fun h7 => ?_)
      · exact g_return C dX2_moveAll_37 ⟨Nat.le_of_ble_eq_true rfl, Nat.le_of_ble_eq_true rfl⟩ (tkEnd.rf rfl rfl rfl)
      · exact absurd (Int32.le_refl _) h7
    | succ k ih =>
      intro i hi
      have hlt : i < np := by omega
      have ih1 := ih (i + 1) (by omega)
      rw [hsucc] at ih1
      have hWq := hWi i
      generalize s i = q at *
      obtain ⟨I1, L1⟩ := q
      dsimp only at *
      have h16 : np ≤ 16 := hWq.2.1
      refine g_iload_n C (i := 3) dX2_moveAll_2 rfl rfl ?_
      refine g_aload_n C (i := 0) dX2_moveAll_3 rfl rfl ?_
      refine g_getI C 2 0 (RX2, TX2, 13) dX2_moveAll_4 (hP.1 12 (by decide)) (reg_at (k := 12) (by decide)) ml_X2_50 rfl (by decide) (Or.inl rfl) ?_
      rw [hWq.1]
      refine g_icmp_ge C 37 dX2_moveAll_7 (by decide) (fun h7 => ?_) (fun h7 => ?_)
      · exact absurd h7 (nI_ge hlt (by omega))
      · refine g_aload_n C (i := 0) dX2_moveAll_10 rfl rfl ?_
        refine g_iload_n C (i := 3) dX2_moveAll_11 rfl rfl ?_
        refine g_aload_n C (i := 2) dX2_moveAll_12 rfl rfl ?_
        refine g_callV C (q := (RX2, TX2, 13)) (rest := _) dX2_moveAll_13 mm_X2_isActive ml_X2_65 mv_yX2_isActive ms_yX2_isActive (c_X2_isActive hP hWq hlt) rfl (hP.1 12 (by decide)) rfl rfl ⟨by decide, Nat.le_of_ble_eq_true rfl, Nat.le_of_ble_eq_true rfl, Nat.le_of_ble_eq_true rfl⟩ (tk_retv ?_) tk_nothr
        refine g_if_eq C 31 dX2_moveAll_16 (by decide) (fun h16' => ?_) (fun h16' => ?_)
        · refine g_iinc C (i := 3) (nI (i + 1)) dX2_moveAll_31 rfl (nI_1 i) (by decide) ?_
          refine g_goto C 2 dX2_moveAll_34 (by decide) ?_
          rw [sMv, if_pos h16'] at ih1
          exact ih1
        · refine g_aload_n C (i := 0) dX2_moveAll_19 rfl rfl ?_
          refine g_iload_n C (i := 3) dX2_moveAll_20 rfl rfl ?_
          refine g_aload_n C (i := 1) dX2_moveAll_21 rfl rfl ?_
          refine g_callV C (q := (RX2, TX2, 13)) (rest := _) dX2_moveAll_22 mm_X2_move ml_X2_69 mv_yX2_move ms_yX2_move (c_X2_move hP hWq hlt) rfl (hP.1 12 (by decide)) rfl rfl ⟨by decide, Nat.le_of_ble_eq_true rfl, Nat.le_of_ble_eq_true rfl, Nat.le_of_ble_eq_true rfl⟩ (tk_retn ?_) tk_nothr
          refine g_aload_n C (i := 0) dX2_moveAll_25 rfl rfl ?_
          refine g_iload_n C (i := 3) dX2_moveAll_26 rfl rfl ?_
          refine g_iconst C (1) dX2_moveAll_27 rfl ?_
          refine g_callV C (q := (RX2, TX2, 13)) (rest := _) dX2_moveAll_28 mm_X2_enter ml_X2_73 mv_yX2_enter ms_yX2_enter (c_X2_enter hP (by omega) 1) rfl (hP.1 12 (by decide)) rfl rfl ⟨by decide, Nat.le_of_ble_eq_true rfl, Nat.le_of_ble_eq_true rfl, Nat.le_of_ble_eq_true rfl⟩ (tk_retn ?_) tk_nothr
          refine g_iinc C (i := 3) (nI (i + 1)) dX2_moveAll_31 rfl (nI_1 i) (by decide) ?_
          refine g_goto C 2 dX2_moveAll_34 (by decide) ?_
          rw [sMv, if_neg h16'] at ih1
          exact ih1
  have k0 := key np 0 (by omega)
  rw [h0] at k0
  exact k0
theorem sPrep_eq (I : tkI) (t : Int32) (i : Nat) (L : tkL) : sPrep I t i L = if sAct I i = 0 then L else sEnter t i I L := rfl
theorem c_X2_repeat (hP : tkReg 28 pT pF σ p) {np : Nat} (hW : wPu I0 np) (t : Int32) :
    tkCon false (.code yX2_repeat cX2_repeat 4 none) yX2_repeat 2 [.ref (p + 12), .ref (p + 7), .int t] σ (reg p 28 I0 v) (reg p 28 L0 w) 0 0 (.inl none) σ (reg p 28 I0 v) (reg p 28 (itr (sPrep I0 t) np L0) w) := by
  have h16 : np ≤ 16 := hW.2.1
  refine tkCon.of (by decide) (Nat.le_of_ble_eq_true rfl) (fun X C => ?_)
  refine g_iconst C (0) dX2_repeat_0 rfl ?_
  refine g_istore_n C (i := 3) dX2_repeat_1 rfl (by decide) ?_
  have key : ∀ k i, k + i = np → tkG X (tkQ false X 0 0 (.inl none) σ (reg p 28 I0 v) (reg p 28 (itr (sPrep I0 t) np L0) w)) 0 0 2 [some (.ref (p + 12)), some (.ref (p + 7)), some (.int t), some (.int (nI i))] [] σ (reg p 28 I0 v) (reg p 28 (itr (sPrep I0 t) i L0) w) := by
    intro k
    induction k with
    | zero =>
      intro i hi
      have e : i = np := by omega
      subst e
      refine g_iload_n C (i := 3) dX2_repeat_2 rfl rfl ?_
      refine g_aload_n C (i := 0) dX2_repeat_3 rfl rfl ?_
      refine g_getI C 2 0 (RX2, TX2, 13) dX2_repeat_4 (hP.1 12 (by decide)) (reg_at (k := 12) (by decide)) ml_X2_50 rfl (by decide) (Or.inl rfl) ?_
      rw [hW.1]
      refine g_icmp_ge C 31 dX2_repeat_7 (by decide) (fun h7 => ?_) (fun h7 => ?_)
      · exact g_return C dX2_repeat_31 ⟨Nat.le_of_ble_eq_true rfl, Nat.le_of_ble_eq_true rfl⟩ (tkEnd.rf rfl rfl rfl)
      · exact absurd (Int32.le_refl _) h7
    | succ k ih =>
      intro i hi
      have hlt : i < np := by omega
      have ih1 := ih (i + 1) (by omega)
      rw [show itr (sPrep I0 t) (i + 1) L0 = sPrep I0 t i (itr (sPrep I0 t) i L0) from rfl, sPrep_eq] at ih1
      refine g_iload_n C (i := 3) dX2_repeat_2 rfl rfl ?_
      refine g_aload_n C (i := 0) dX2_repeat_3 rfl rfl ?_
      refine g_getI C 2 0 (RX2, TX2, 13) dX2_repeat_4 (hP.1 12 (by decide)) (reg_at (k := 12) (by decide)) ml_X2_50 rfl (by decide) (Or.inl rfl) ?_
      rw [hW.1]
      refine g_icmp_ge C 31 dX2_repeat_7 (by decide) (fun h7 => ?_) (fun h7 => ?_)
      · exact absurd h7 (nI_ge hlt (by omega))
      · refine g_aload_n C (i := 0) dX2_repeat_10 rfl rfl ?_
        refine g_iload_n C (i := 3) dX2_repeat_11 rfl rfl ?_
        refine g_aload_n C (i := 1) dX2_repeat_12 rfl rfl ?_
        refine g_callV C (q := (RX2, TX2, 13)) (rest := _) dX2_repeat_13 mm_X2_isActive ml_X2_65 mv_yX2_isActive ms_yX2_isActive (c_X2_isActive hP hW hlt) rfl (hP.1 12 (by decide)) rfl rfl ⟨by decide, Nat.le_of_ble_eq_true rfl, Nat.le_of_ble_eq_true rfl, Nat.le_of_ble_eq_true rfl⟩ (tk_retv ?_) tk_nothr
        refine g_if_eq C 25 dX2_repeat_16 (by decide) (fun h16' => ?_) (fun h16' => ?_)
        · refine g_iinc C (i := 3) (nI (i + 1)) dX2_repeat_25 rfl (nI_1 i) (by decide) ?_
          refine g_goto C 2 dX2_repeat_28 (by decide) ?_
          rw [if_pos h16'] at ih1
          exact ih1
        · refine g_aload_n C (i := 0) dX2_repeat_19 rfl rfl ?_
          refine g_iload_n C (i := 3) dX2_repeat_20 rfl rfl ?_
          refine g_iload_n C (i := 2) dX2_repeat_21 rfl rfl ?_
          refine g_callV C (q := (RX2, TX2, 13)) (rest := _) dX2_repeat_22 mm_X2_enter ml_X2_73 mv_yX2_enter ms_yX2_enter (c_X2_enter hP (by omega) t) rfl (hP.1 12 (by decide)) rfl rfl ⟨by decide, Nat.le_of_ble_eq_true rfl, Nat.le_of_ble_eq_true rfl, Nat.le_of_ble_eq_true rfl⟩ (tk_retn ?_) tk_nothr
          refine g_iinc C (i := 3) (nI (i + 1)) dX2_repeat_25 rfl (nI_1 i) (by decide) ?_
          refine g_goto C 2 dX2_repeat_28 (by decide) ?_
          rw [if_neg h16'] at ih1
          exact ih1
  exact key np 0 (by omega)
theorem c_X2_steadyTicksOf (hP : tkReg 28 pT pF σ p) {np j : Nat} (hW : wPu I0 np) (hj : j < np) (lim : Int32) :
    tkCon false (.code yX2_steadyTicksOf cX2_steadyTicksOf 7 (some .int)) yX2_steadyTicksOf 3 [.ref (p + 12), .int (nI j), .ref (p + 1), .int lim] σ (reg p 28 I0 v) (reg p 28 L0 w) 0 0 (.inl (some (.int (sOf I0 j lim)))) σ (reg p 28 I0 v) (reg p 28 L0 w) := by
  obtain ⟨hw1, hw2, hw3⟩ := hW
  obtain ⟨hf, ht, -⟩ := hw3 j hj
  refine tkCon.of (by decide) (Nat.le_of_ble_eq_true rfl) (fun X C => ?_)
  have J156 : ∀ lv6, tkG X (tkQ false X 0 0 (.inl (some (.int (sOf I0 j lim)))) σ (reg p 28 I0 v) (reg p 28 L0 w)) 0 0 156 [some (.ref (p + 12)), some (.int (nI j)), some (.ref (p + 1)), some (.int lim), some (.int (sOf2 I0 j (sOf1 I0 j lim)).1), some (.int (sOf2 I0 j (sOf1 I0 j lim)).2), lv6] [] σ (reg p 28 I0 v) (reg p 28 L0 w) := by
    intro lv6
    refine g_iload C (i := 5) dX2_steadyTicksOf_156 rfl ?_
    refine g_if_eq C 166 dX2_steadyTicksOf_158 (by decide) (fun h158 => ?_) (fun h158 => ?_)
    · refine g_iconst C (0) dX2_steadyTicksOf_166 rfl ?_
      exact g_ireturn C dX2_steadyTicksOf_167 ⟨Nat.le_of_ble_eq_true rfl, Nat.le_of_ble_eq_true rfl⟩ (tkEnd.rf (by simp only [sOf, h158, if_true]) rfl rfl)
    · refine g_iload C (i := 4) dX2_steadyTicksOf_161 rfl ?_
      refine g_goto C 167 dX2_steadyTicksOf_163 (by decide) ?_
      exact g_ireturn C dX2_steadyTicksOf_167 ⟨Nat.le_of_ble_eq_true rfl, Nat.le_of_ble_eq_true rfl⟩ (tkEnd.rf (by simp only [sOf, h158, if_false]) rfl rfl)
  have J90 : ∀ lv6, tkG X (tkQ false X 0 0 (.inl (some (.int (sOf I0 j lim)))) σ (reg p 28 I0 v) (reg p 28 L0 w)) 0 0 90 [some (.ref (p + 12)), some (.int (nI j)), some (.ref (p + 1)), some (.int lim), some (.int (sOf1 I0 j lim).1), some (.int (sOf1 I0 j lim).2), lv6] [] σ (reg p 28 I0 v) (reg p 28 L0 w) := by
    intro lv6
    generalize sOf1 I0 j lim = q at J156 ⊢
    obtain ⟨st, hd⟩ := q
    dsimp only at *
    refine g_aload_n C (i := 0) dX2_steadyTicksOf_90 rfl rfl ?_
    refine g_getR C 2 2 (RX2, TX2, 13) dX2_steadyTicksOf_91 (hP.1 12 (by decide)) (hP.2 12 2 14 (by decide) rfl) ml_X2_15 rfl (by decide) rfl ?_
    refine g_iload_n C (i := 1) dX2_steadyTicksOf_94 rfl rfl ?_
    refine g_ia C dX2_steadyTicksOf_95 (hP.1 14 (by decide)) (reg_at (k := 14) (by decide)) rfl (by omega) (by decide) ?_
    refine g_iconst C (-1) dX2_steadyTicksOf_96 rfl ?_
    refine g_icmp_eq C 156 dX2_steadyTicksOf_97 (by decide) (fun h97 => ?_) (fun h97 => ?_)
    · rw [show sOf2 I0 j (st, hd) = (st, hd) by simp only [sOf2, h97, if_true]] at J156
      skip
      exact J156 _
    · obtain ⟨t, ht, et⟩ := ht.resolve_left h97
      have etc : (I0 14 j).toNatClampNeg = t := by rw [et]; exact nI_clamp (by omega)
      have e2 : sOf2 I0 j (st, hd) = (jtw (I0 24 j).toInt64 (-(I0 3 t - I0 6 t)).toInt64 st, sHeld hd (I0 24 j) (I0 3 t - I0 6 t)) := by simp only [sOf2, h97, if_false, etc]
      rw [e2] at J156
      refine g_aload_n C (i := 2) dX2_steadyTicksOf_100 rfl rfl ?_
      refine g_aload_n C (i := 0) dX2_steadyTicksOf_101 rfl rfl ?_
      refine g_getR C 2 2 (RX2, TX2, 13) dX2_steadyTicksOf_102 (hP.1 12 (by decide)) (hP.2 12 2 14 (by decide) rfl) ml_X2_15 rfl (by decide) rfl ?_
      refine g_iload_n C (i := 1) dX2_steadyTicksOf_105 rfl rfl ?_
      refine g_ia C dX2_steadyTicksOf_106 (hP.1 14 (by decide)) (reg_at (k := 14) (by decide)) rfl (by omega) (by decide) ?_
      rw [et]
      refine g_callV C (q := (RX4, TX4, 6)) (rest := _) dX2_steadyTicksOf_107 mm_X4_drift ml_X2_95 mv_yX4_drift ms_yX4_drift (c_X4_drift (j := t) hP ht) rfl (hP.1 1 (by decide)) rfl rfl ⟨by decide, Nat.le_of_ble_eq_true rfl, Nat.le_of_ble_eq_true rfl, Nat.le_of_ble_eq_true rfl⟩ (tk_retv ?_) tk_nothr
      refine g_istore C (i := 6) dX2_steadyTicksOf_110 (by decide) ?_
      refine g_aload_n C (i := 0) dX2_steadyTicksOf_112 rfl rfl ?_
      refine g_getR C 2 12 (RX2, TX2, 13) dX2_steadyTicksOf_113 (hP.1 12 (by decide)) (hP.2 12 12 24 (by decide) rfl) ml_X2_47 rfl (by decide) rfl ?_
      refine g_iload_n C (i := 1) dX2_steadyTicksOf_116 rfl rfl ?_
      refine g_ia C dX2_steadyTicksOf_117 (hP.1 24 (by decide)) (reg_at (k := 24) (by decide)) rfl (by omega) (by decide) ?_
      refine g_i2l C dX2_steadyTicksOf_118 ?_
      refine g_iload C (i := 6) dX2_steadyTicksOf_119 rfl ?_
      refine g_ineg C dX2_steadyTicksOf_121 ?_
      refine g_i2l C dX2_steadyTicksOf_122 ?_
      refine g_iload C (i := 4) dX2_steadyTicksOf_123 rfl ?_
      refine g_callSN C dX2_steadyTicksOf_125 mm_X5_ticksWhile ml_X2_99 mt_yX5_ticksWhile (c_X5_ticksWhile _ _ _) rfl ⟨by decide, Nat.le_of_ble_eq_true rfl, Nat.le_of_ble_eq_true rfl, Nat.le_of_ble_eq_true rfl⟩ (tk_retv ?_) tk_nothr
      refine g_istore C (i := 4) dX2_steadyTicksOf_128 (by decide) ?_
      refine g_iload C (i := 5) dX2_steadyTicksOf_130 rfl ?_
      refine g_if_ne C 149 dX2_steadyTicksOf_132 (by decide) (fun h132 => ?_) (fun h132 => ?_)
      · rw [show sHeld hd (I0 24 j) (I0 3 t - I0 6 t) = 1 by simp only [sHeld, h132, if_false]] at J156
        refine g_iconst C (1) dX2_steadyTicksOf_149 rfl ?_
        refine g_goto C 154 dX2_steadyTicksOf_150 (by decide) ?_
        refine g_istore C (i := 5) dX2_steadyTicksOf_154 (by decide) ?_
        exact J156 _
      · refine g_aload_n C (i := 0) dX2_steadyTicksOf_135 rfl rfl ?_
        refine g_getR C 2 12 (RX2, TX2, 13) dX2_steadyTicksOf_136 (hP.1 12 (by decide)) (hP.2 12 12 24 (by decide) rfl) ml_X2_47 rfl (by decide) rfl ?_
        refine g_iload_n C (i := 1) dX2_steadyTicksOf_139 rfl rfl ?_
        refine g_ia C dX2_steadyTicksOf_140 (hP.1 24 (by decide)) (reg_at (k := 24) (by decide)) rfl (by omega) (by decide) ?_
        refine g_if_ne C 153 dX2_steadyTicksOf_141 (by decide) (fun h141 => ?_) (fun h141 => ?_)
        · rw [show sHeld hd (I0 24 j) (I0 3 t - I0 6 t) = 0 by simp only [sHeld, h132, h141, if_true, if_false]] at J156
          refine g_iconst C (0) dX2_steadyTicksOf_153 rfl ?_
          refine g_istore C (i := 5) dX2_steadyTicksOf_154 (by decide) ?_
          exact J156 _
        · refine g_iload C (i := 6) dX2_steadyTicksOf_144 rfl ?_
          refine g_if_ne C 153 dX2_steadyTicksOf_146 (by decide) (fun h146 => ?_) (fun h146 => ?_)
          · rw [show sHeld hd (I0 24 j) (I0 3 t - I0 6 t) = 0 by simp only [sHeld, h132, h141, h146, if_true, if_false]] at J156
            refine g_iconst C (0) dX2_steadyTicksOf_153 rfl ?_
            refine g_istore C (i := 5) dX2_steadyTicksOf_154 (by decide) ?_
            exact J156 _
          · rw [show sHeld hd (I0 24 j) (I0 3 t - I0 6 t) = 1 by simp only [sHeld, h132, h141, h146, if_true]] at J156
            refine g_iconst C (1) dX2_steadyTicksOf_149 rfl ?_
            refine g_goto C 154 dX2_steadyTicksOf_150 (by decide) ?_
            refine g_istore C (i := 5) dX2_steadyTicksOf_154 (by decide) ?_
            exact J156 _
  have J23 : ∀ lv5 lv6, tkG X (tkQ false X 0 0 (.inl (some (.int (sOf I0 j lim)))) σ (reg p 28 I0 v) (reg p 28 L0 w)) 0 0 23 [some (.ref (p + 12)), some (.int (nI j)), some (.ref (p + 1)), some (.int lim), some (.int lim), lv5, lv6] [.int (if I0 22 j = I0 15 j then 1 else 0)] σ (reg p 28 I0 v) (reg p 28 L0 w) := by
    intro lv5 lv6
    obtain ⟨hd, ehd⟩ : ∃ hd : Int32, hd = if I0 22 j = I0 15 j then 1 else 0 := ⟨_, rfl⟩
    rw [← ehd]
    refine g_istore C (i := 5) dX2_steadyTicksOf_23 (by decide) ?_
    refine g_aload_n C (i := 0) dX2_steadyTicksOf_25 rfl rfl ?_
    refine g_getR C 2 1 (RX2, TX2, 13) dX2_steadyTicksOf_26 (hP.1 12 (by decide)) (hP.2 12 1 13 (by decide) rfl) ml_X2_9 rfl (by decide) rfl ?_
    refine g_iload_n C (i := 1) dX2_steadyTicksOf_29 rfl rfl ?_
    refine g_ia C dX2_steadyTicksOf_30 (hP.1 13 (by decide)) (reg_at (k := 13) (by decide)) rfl (by omega) (by decide) ?_
    refine g_iconst C (-1) dX2_steadyTicksOf_31 rfl ?_
    refine g_icmp_eq C 90 dX2_steadyTicksOf_32 (by decide) (fun h32 => ?_) (fun h32 => ?_)
    · rw [show sOf1 I0 j lim = (lim, hd) by simp only [sOf1, h32, if_true, ← ehd]] at J90
      skip
      exact J90 _
    · obtain ⟨s, hs, es⟩ := hf.resolve_left h32
      have esc : (I0 13 j).toNatClampNeg = s := by rw [es]; exact nI_clamp (by omega)
      have e2 : sOf1 I0 j lim = (jtw (I0 23 j).toInt64 (I0 3 s - I0 6 s).toInt64 lim, sHeld hd (I0 23 j) (I0 3 s - I0 6 s)) := by simp only [sOf1, h32, if_false, esc, ← ehd]
      rw [e2] at J90
      refine g_aload_n C (i := 2) dX2_steadyTicksOf_35 rfl rfl ?_
      refine g_aload_n C (i := 0) dX2_steadyTicksOf_36 rfl rfl ?_
      refine g_getR C 2 1 (RX2, TX2, 13) dX2_steadyTicksOf_37 (hP.1 12 (by decide)) (hP.2 12 1 13 (by decide) rfl) ml_X2_9 rfl (by decide) rfl ?_
      refine g_iload_n C (i := 1) dX2_steadyTicksOf_40 rfl rfl ?_
      refine g_ia C dX2_steadyTicksOf_41 (hP.1 13 (by decide)) (reg_at (k := 13) (by decide)) rfl (by omega) (by decide) ?_
      rw [es]
      refine g_callV C (q := (RX4, TX4, 6)) (rest := _) dX2_steadyTicksOf_42 mm_X4_drift ml_X2_95 mv_yX4_drift ms_yX4_drift (c_X4_drift (j := s) hP hs) rfl (hP.1 1 (by decide)) rfl rfl ⟨by decide, Nat.le_of_ble_eq_true rfl, Nat.le_of_ble_eq_true rfl, Nat.le_of_ble_eq_true rfl⟩ (tk_retv ?_) tk_nothr
      refine g_istore C (i := 6) dX2_steadyTicksOf_45 (by decide) ?_
      refine g_aload_n C (i := 0) dX2_steadyTicksOf_47 rfl rfl ?_
      refine g_getR C 2 11 (RX2, TX2, 13) dX2_steadyTicksOf_48 (hP.1 12 (by decide)) (hP.2 12 11 23 (by decide) rfl) ml_X2_44 rfl (by decide) rfl ?_
      refine g_iload_n C (i := 1) dX2_steadyTicksOf_51 rfl rfl ?_
      refine g_ia C dX2_steadyTicksOf_52 (hP.1 23 (by decide)) (reg_at (k := 23) (by decide)) rfl (by omega) (by decide) ?_
      refine g_i2l C dX2_steadyTicksOf_53 ?_
      refine g_iload C (i := 6) dX2_steadyTicksOf_54 rfl ?_
      refine g_i2l C dX2_steadyTicksOf_56 ?_
      refine g_iload C (i := 4) dX2_steadyTicksOf_57 rfl ?_
      refine g_callSN C dX2_steadyTicksOf_59 mm_X5_ticksWhile ml_X2_99 mt_yX5_ticksWhile (c_X5_ticksWhile _ _ _) rfl ⟨by decide, Nat.le_of_ble_eq_true rfl, Nat.le_of_ble_eq_true rfl, Nat.le_of_ble_eq_true rfl⟩ (tk_retv ?_) tk_nothr
      refine g_istore C (i := 4) dX2_steadyTicksOf_62 (by decide) ?_
      refine g_iload C (i := 5) dX2_steadyTicksOf_64 rfl ?_
      refine g_if_ne C 83 dX2_steadyTicksOf_66 (by decide) (fun h66 => ?_) (fun h66 => ?_)
      · rw [show sHeld hd (I0 23 j) (I0 3 s - I0 6 s) = 1 by simp only [sHeld, h66, if_false]] at J90
        refine g_iconst C (1) dX2_steadyTicksOf_83 rfl ?_
        refine g_goto C 88 dX2_steadyTicksOf_84 (by decide) ?_
        refine g_istore C (i := 5) dX2_steadyTicksOf_88 (by decide) ?_
        exact J90 _
      · refine g_aload_n C (i := 0) dX2_steadyTicksOf_69 rfl rfl ?_
        refine g_getR C 2 11 (RX2, TX2, 13) dX2_steadyTicksOf_70 (hP.1 12 (by decide)) (hP.2 12 11 23 (by decide) rfl) ml_X2_44 rfl (by decide) rfl ?_
        refine g_iload_n C (i := 1) dX2_steadyTicksOf_73 rfl rfl ?_
        refine g_ia C dX2_steadyTicksOf_74 (hP.1 23 (by decide)) (reg_at (k := 23) (by decide)) rfl (by omega) (by decide) ?_
        refine g_if_ne C 87 dX2_steadyTicksOf_75 (by decide) (fun h75 => ?_) (fun h75 => ?_)
        · rw [show sHeld hd (I0 23 j) (I0 3 s - I0 6 s) = 0 by simp only [sHeld, h66, h75, if_true, if_false]] at J90
          refine g_iconst C (0) dX2_steadyTicksOf_87 rfl ?_
          refine g_istore C (i := 5) dX2_steadyTicksOf_88 (by decide) ?_
          exact J90 _
        · refine g_iload C (i := 6) dX2_steadyTicksOf_78 rfl ?_
          refine g_if_ne C 87 dX2_steadyTicksOf_80 (by decide) (fun h80 => ?_) (fun h80 => ?_)
          · rw [show sHeld hd (I0 23 j) (I0 3 s - I0 6 s) = 0 by simp only [sHeld, h66, h75, h80, if_true, if_false]] at J90
            refine g_iconst C (0) dX2_steadyTicksOf_87 rfl ?_
            refine g_istore C (i := 5) dX2_steadyTicksOf_88 (by decide) ?_
            exact J90 _
          · rw [show sHeld hd (I0 23 j) (I0 3 s - I0 6 s) = 1 by simp only [sHeld, h66, h75, h80, if_true]] at J90
            refine g_iconst C (1) dX2_steadyTicksOf_83 rfl ?_
            refine g_goto C 88 dX2_steadyTicksOf_84 (by decide) ?_
            refine g_istore C (i := 5) dX2_steadyTicksOf_88 (by decide) ?_
            exact J90 _
  refine g_iload_n C (i := 3) dX2_steadyTicksOf_0 rfl rfl ?_
  refine g_istore C (i := 4) dX2_steadyTicksOf_1 (by decide) ?_
  refine g_aload_n C (i := 0) dX2_steadyTicksOf_3 rfl rfl ?_
  refine g_getR C 2 10 (RX2, TX2, 13) dX2_steadyTicksOf_4 (hP.1 12 (by decide)) (hP.2 12 10 22 (by decide) rfl) ml_X2_41 rfl (by decide) rfl ?_
  refine g_iload_n C (i := 1) dX2_steadyTicksOf_7 rfl rfl ?_
  refine g_ia C dX2_steadyTicksOf_8 (hP.1 22 (by decide)) (reg_at (k := 22) (by decide)) rfl (by omega) (by decide) ?_
  refine g_aload_n C (i := 0) dX2_steadyTicksOf_9 rfl rfl ?_
  refine g_getR C 2 3 (RX2, TX2, 13) dX2_steadyTicksOf_10 (hP.1 12 (by decide)) (hP.2 12 3 15 (by decide) rfl) ml_X2_18 rfl (by decide) rfl ?_
  refine g_iload_n C (i := 1) dX2_steadyTicksOf_13 rfl rfl ?_
  refine g_ia C dX2_steadyTicksOf_14 (hP.1 15 (by decide)) (reg_at (k := 15) (by decide)) rfl (by omega) (by decide) ?_
  refine g_icmp_ne C 22 dX2_steadyTicksOf_15 (by decide) (fun h15 => ?_) (fun h15 => ?_)
  · rw [if_neg h15] at J23
    refine g_iconst C (0) dX2_steadyTicksOf_22 rfl ?_
    exact J23 _ _
  · rw [if_pos h15] at J23
    refine g_iconst C (1) dX2_steadyTicksOf_18 rfl ?_
    refine g_goto C 23 dX2_steadyTicksOf_19 (by decide) ?_
    exact J23 _ _
theorem c_X2_steadyTicks (hP : tkReg 28 pT pF σ p) {np : Nat} (hW : wPu I0 np) (lim : Int32) :
    tkCon false (.code yX2_steadyTicks cX2_steadyTicks 6 (some .int)) yX2_steadyTicks 4 [.ref (p + 12), .ref (p + 1), .ref (p + 7), .int lim] σ (reg p 28 I0 v) (reg p 28 L0 w) 0 0 (.inl (some (.int (itr (sPst I0) np lim)))) σ (reg p 28 I0 v) (reg p 28 L0 w) := by
  have h16 : np ≤ 16 := hW.2.1
  refine tkCon.of (by decide) (Nat.le_of_ble_eq_true rfl) (fun X C => ?_)
  refine g_iload_n C (i := 3) dX2_steadyTicks_0 rfl rfl ?_
  refine g_istore C (i := 4) dX2_steadyTicks_1 (by decide) ?_
  refine g_iconst C (0) dX2_steadyTicks_3 rfl ?_
  refine g_istore C (i := 5) dX2_steadyTicks_4 (by decide) ?_
  have key : ∀ k i, k + i = np → tkG X (tkQ false X 0 0 (.inl (some (.int (itr (sPst I0) np lim)))) σ (reg p 28 I0 v) (reg p 28 L0 w)) 0 0 6 [some (.ref (p + 12)), some (.ref (p + 1)), some (.ref (p + 7)), some (.int lim), some (.int (itr (sPst I0) i lim)), some (.int (nI i))] [] σ (reg p 28 I0 v) (reg p 28 L0 w) := by
    intro k
    induction k with
    | zero =>
      intro i hi
      have e : i = np := by omega
      subst e
      refine g_iload C (i := 5) dX2_steadyTicks_6 rfl ?_
      refine g_aload_n C (i := 0) dX2_steadyTicks_8 rfl rfl ?_
      refine g_getI C 2 0 (RX2, TX2, 13) dX2_steadyTicks_9 (hP.1 12 (by decide)) (reg_at (k := 12) (by decide)) ml_X2_50 rfl (by decide) (Or.inl rfl) ?_
      rw [hW.1]
      refine g_icmp_ge C 47 dX2_steadyTicks_12 (by decide) (fun h12 => ?_) (fun h12 => ?_)
      · refine g_iload C (i := 4) dX2_steadyTicks_47 rfl ?_
        exact g_ireturn C dX2_steadyTicks_49 ⟨Nat.le_of_ble_eq_true rfl, Nat.le_of_ble_eq_true rfl⟩ (tkEnd.rf rfl rfl rfl)
      · exact absurd (Int32.le_refl _) h12
    | succ k ih =>
      intro i hi
      have hlt : i < np := by omega
      have ih1 := ih (i + 1) (by omega)
      rw [show itr (sPst I0) (i + 1) lim = sPst I0 i (itr (sPst I0) i lim) from rfl] at ih1
      refine g_iload C (i := 5) dX2_steadyTicks_6 rfl ?_
      refine g_aload_n C (i := 0) dX2_steadyTicks_8 rfl rfl ?_
      refine g_getI C 2 0 (RX2, TX2, 13) dX2_steadyTicks_9 (hP.1 12 (by decide)) (reg_at (k := 12) (by decide)) ml_X2_50 rfl (by decide) (Or.inl rfl) ?_
      rw [hW.1]
      refine g_icmp_ge C 47 dX2_steadyTicks_12 (by decide) (fun h12 => ?_) (fun h12 => ?_)
      · exact absurd h12 (nI_ge hlt (by omega))
      · refine g_iload C (i := 4) dX2_steadyTicks_15 rfl ?_
        refine g_if_le C 47 dX2_steadyTicks_17 (by decide) (fun h17 => ?_) (fun h17 => ?_)
        · have e := itr_stop (f := sPst I0) (P := fun s => s ≤ 0) (fun i a h => by simp [sPst, Int32.not_lt.mpr h]) h17 (k + 1)
          rw [show i + (k + 1) = np by omega] at e
          rw [e]
          refine g_iload C (i := 4) dX2_steadyTicks_47 rfl ?_
          exact g_ireturn C dX2_steadyTicks_49 ⟨Nat.le_of_ble_eq_true rfl, Nat.le_of_ble_eq_true rfl⟩ (tkEnd.rf rfl rfl rfl)
        · have h17' := Int32.not_le.mp h17
          refine g_aload_n C (i := 0) dX2_steadyTicks_20 rfl rfl ?_
          refine g_iload C (i := 5) dX2_steadyTicks_21 rfl ?_
          refine g_aload_n C (i := 2) dX2_steadyTicks_23 rfl rfl ?_
          refine g_callV C (q := (RX2, TX2, 13)) (rest := _) dX2_steadyTicks_24 mm_X2_isActive ml_X2_65 mv_yX2_isActive ms_yX2_isActive (c_X2_isActive hP hW hlt) rfl (hP.1 12 (by decide)) rfl rfl ⟨by decide, Nat.le_of_ble_eq_true rfl, Nat.le_of_ble_eq_true rfl, Nat.le_of_ble_eq_true rfl⟩ (tk_retv ?_) tk_nothr
          refine g_if_eq C 41 dX2_steadyTicks_27 (by decide) (fun h27 => ?_) (fun h27 => ?_)
          · rw [show sPst I0 i (itr (sPst I0) i lim) = itr (sPst I0) i lim by simp only [sPst, if_pos h17', if_pos h27]] at ih1
            refine g_iinc C (i := 5) (nI (i + 1)) dX2_steadyTicks_41 rfl (nI_1 i) (by decide) ?_
            refine g_goto C 6 dX2_steadyTicks_44 (by decide) ?_
            exact ih1
          · rw [show sPst I0 i (itr (sPst I0) i lim) = sOf I0 i (itr (sPst I0) i lim) by simp only [sPst, if_pos h17', if_neg h27]] at ih1
            refine g_aload_n C (i := 0) dX2_steadyTicks_30 rfl rfl ?_
            refine g_iload C (i := 5) dX2_steadyTicks_31 rfl ?_
            refine g_aload_n C (i := 1) dX2_steadyTicks_33 rfl rfl ?_
            refine g_iload C (i := 4) dX2_steadyTicks_34 rfl ?_
            refine g_callV C (q := (RX2, TX2, 13)) (rest := _) dX2_steadyTicks_36 mm_X2_steadyTicksOf ml_X2_91 mv_yX2_steadyTicksOf ms_yX2_steadyTicksOf (c_X2_steadyTicksOf hP hW hlt _) rfl (hP.1 12 (by decide)) rfl rfl ⟨by decide, Nat.le_of_ble_eq_true rfl, Nat.le_of_ble_eq_true rfl, Nat.le_of_ble_eq_true rfl⟩ (tk_retv ?_) tk_nothr
            refine g_istore C (i := 4) dX2_steadyTicks_39 (by decide) ?_
            refine g_iinc C (i := 5) (nI (i + 1)) dX2_steadyTicks_41 rfl (nI_1 i) (by decide) ?_
            refine g_goto C 6 dX2_steadyTicks_44 (by decide) ?_
            exact ih1
  exact key np 0 (by omega)
theorem c_X2_cameIn (hP : tkReg 28 pT pF σ p) {np : Nat} (hW : wPu I0 np) :
    tkCon false (.code yX2_cameIn cX2_cameIn 4 (some .long)) yX2_cameIn 1 [.ref (p + 12)] σ (reg p 28 I0 v) (reg p 28 L0 w) 0 0 (.inl (some (.long (itr (sIn I0 L0) np 0)))) σ (reg p 28 I0 v) (reg p 28 L0 w) := by
  have h16 : np ≤ 16 := hW.2.1
  refine tkCon.of (by decide) (Nat.le_of_ble_eq_true rfl) (fun X C => ?_)
  refine g_lconst C 0 dX2_cameIn_0 rfl ?_
  refine g_lstore_n C (i := 1) dX2_cameIn_1 rfl (by decide) ?_
  refine g_iconst C (0) dX2_cameIn_2 rfl ?_
  refine g_istore_n C (i := 3) dX2_cameIn_3 rfl (by decide) ?_
  have key : ∀ k i, k + i = np → tkG X (tkQ false X 0 0 (.inl (some (.long (itr (sIn I0 L0) np 0)))) σ (reg p 28 I0 v) (reg p 28 L0 w)) 0 0 4 [some (.ref (p + 12)), some (.long (itr (sIn I0 L0) i 0)), none, some (.int (nI i))] [] σ (reg p 28 I0 v) (reg p 28 L0 w) := by
    intro k
    induction k with
    | zero =>
      intro i hi
      have e : i = np := by omega
      subst e
      refine g_iload_n C (i := 3) dX2_cameIn_4 rfl rfl ?_
      refine g_aload_n C (i := 0) dX2_cameIn_5 rfl rfl ?_
      refine g_getI C 2 0 (RX2, TX2, 13) dX2_cameIn_6 (hP.1 12 (by decide)) (reg_at (k := 12) (by decide)) ml_X2_50 rfl (by decide) (Or.inl rfl) ?_
      rw [hW.1]
      refine g_icmp_ge C 41 dX2_cameIn_9 (by decide) (fun h9 => ?_) (fun h9 => ?_)
      · refine g_lload_n C (i := 1) dX2_cameIn_41 rfl rfl ?_
        exact g_lreturn C dX2_cameIn_42 ⟨Nat.le_of_ble_eq_true rfl, Nat.le_of_ble_eq_true rfl⟩ (tkEnd.rf rfl rfl rfl)
      · exact absurd (Int32.le_refl _) h9
    | succ k ih =>
      intro i hi
      have hlt : i < np := by omega
      have ih1 := ih (i + 1) (by omega)
      rw [show itr (sIn I0 L0) (i + 1) 0 = itr (sIn I0 L0) i 0 + (if I0 13 i = -1 then L0 19 i else 0) from rfl] at ih1
      refine g_iload_n C (i := 3) dX2_cameIn_4 rfl rfl ?_
      refine g_aload_n C (i := 0) dX2_cameIn_5 rfl rfl ?_
      refine g_getI C 2 0 (RX2, TX2, 13) dX2_cameIn_6 (hP.1 12 (by decide)) (reg_at (k := 12) (by decide)) ml_X2_50 rfl (by decide) (Or.inl rfl) ?_
      rw [hW.1]
      refine g_icmp_ge C 41 dX2_cameIn_9 (by decide) (fun h9 => ?_) (fun h9 => ?_)
      · exact absurd h9 (nI_ge hlt (by omega))
      · refine g_lload_n C (i := 1) dX2_cameIn_12 rfl rfl ?_
        refine g_aload_n C (i := 0) dX2_cameIn_13 rfl rfl ?_
        refine g_getR C 2 1 (RX2, TX2, 13) dX2_cameIn_14 (hP.1 12 (by decide)) (hP.2 12 1 13 (by decide) rfl) ml_X2_9 rfl (by decide) rfl ?_
        refine g_iload_n C (i := 3) dX2_cameIn_17 rfl rfl ?_
        refine g_ia C dX2_cameIn_18 (hP.1 13 (by decide)) (reg_at (k := 13) (by decide)) rfl (by omega) (by decide) ?_
        refine g_iconst C (-1) dX2_cameIn_19 rfl ?_
        refine g_icmp_ne C 32 dX2_cameIn_20 (by decide) (fun h20 => ?_) (fun h20 => ?_)
        · rw [if_neg h20] at ih1
          refine g_lconst C 0 dX2_cameIn_32 rfl ?_
          refine g_ladd C dX2_cameIn_33 ?_
          refine g_lstore_n C (i := 1) dX2_cameIn_34 rfl (by decide) ?_
          refine g_iinc C (i := 3) (nI (i + 1)) dX2_cameIn_35 rfl (nI_1 i) (by decide) ?_
          refine g_goto C 4 dX2_cameIn_38 (by decide) ?_
          exact ih1
        · rw [if_pos h20] at ih1
          refine g_aload_n C (i := 0) dX2_cameIn_23 rfl rfl ?_
          refine g_getR C 2 7 (RX2, TX2, 13) dX2_cameIn_24 (hP.1 12 (by decide)) (hP.2 12 7 19 (by decide) rfl) ml_X2_31 rfl (by decide) rfl ?_
          refine g_iload_n C (i := 3) dX2_cameIn_27 rfl rfl ?_
          refine g_la C dX2_cameIn_28 (hP.1 19 (by decide)) (reg_at (k := 19) (by decide)) rfl (by omega) (by decide) ?_
          refine g_goto C 33 dX2_cameIn_29 (by decide) ?_
          refine g_ladd C dX2_cameIn_33 ?_
          refine g_lstore_n C (i := 1) dX2_cameIn_34 rfl (by decide) ?_
          refine g_iinc C (i := 3) (nI (i + 1)) dX2_cameIn_35 rfl (nI_1 i) (by decide) ?_
          refine g_goto C 4 dX2_cameIn_38 (by decide) ?_
          exact ih1
  exact key np 0 (by omega)
theorem c_X2_wentOut (hP : tkReg 28 pT pF σ p) {np : Nat} (hW : wPu I0 np) :
    tkCon false (.code yX2_wentOut cX2_wentOut 4 (some .long)) yX2_wentOut 1 [.ref (p + 12)] σ (reg p 28 I0 v) (reg p 28 L0 w) 0 0 (.inl (some (.long (itr (sGo I0 L0) np 0)))) σ (reg p 28 I0 v) (reg p 28 L0 w) := by
  have h16 : np ≤ 16 := hW.2.1
  refine tkCon.of (by decide) (Nat.le_of_ble_eq_true rfl) (fun X C => ?_)
  refine g_lconst C 0 dX2_wentOut_0 rfl ?_
  refine g_lstore_n C (i := 1) dX2_wentOut_1 rfl (by decide) ?_
  refine g_iconst C (0) dX2_wentOut_2 rfl ?_
  refine g_istore_n C (i := 3) dX2_wentOut_3 rfl (by decide) ?_
  have key : ∀ k i, k + i = np → tkG X (tkQ false X 0 0 (.inl (some (.long (itr (sGo I0 L0) np 0)))) σ (reg p 28 I0 v) (reg p 28 L0 w)) 0 0 4 [some (.ref (p + 12)), some (.long (itr (sGo I0 L0) i 0)), none, some (.int (nI i))] [] σ (reg p 28 I0 v) (reg p 28 L0 w) := by
    intro k
    induction k with
    | zero =>
      intro i hi
      have e : i = np := by omega
      subst e
      refine g_iload_n C (i := 3) dX2_wentOut_4 rfl rfl ?_
      refine g_aload_n C (i := 0) dX2_wentOut_5 rfl rfl ?_
      refine g_getI C 2 0 (RX2, TX2, 13) dX2_wentOut_6 (hP.1 12 (by decide)) (reg_at (k := 12) (by decide)) ml_X2_50 rfl (by decide) (Or.inl rfl) ?_
      rw [hW.1]
      refine g_icmp_ge C 41 dX2_wentOut_9 (by decide) (fun h9 => ?_) (fun h9 => ?_)
      · refine g_lload_n C (i := 1) dX2_wentOut_41 rfl rfl ?_
        exact g_lreturn C dX2_wentOut_42 ⟨Nat.le_of_ble_eq_true rfl, Nat.le_of_ble_eq_true rfl⟩ (tkEnd.rf rfl rfl rfl)
      · exact absurd (Int32.le_refl _) h9
    | succ k ih =>
      intro i hi
      have hlt : i < np := by omega
      have ih1 := ih (i + 1) (by omega)
      rw [show itr (sGo I0 L0) (i + 1) 0 = itr (sGo I0 L0) i 0 + (if I0 14 i = -1 then L0 19 i else 0) from rfl] at ih1
      refine g_iload_n C (i := 3) dX2_wentOut_4 rfl rfl ?_
      refine g_aload_n C (i := 0) dX2_wentOut_5 rfl rfl ?_
      refine g_getI C 2 0 (RX2, TX2, 13) dX2_wentOut_6 (hP.1 12 (by decide)) (reg_at (k := 12) (by decide)) ml_X2_50 rfl (by decide) (Or.inl rfl) ?_
      rw [hW.1]
      refine g_icmp_ge C 41 dX2_wentOut_9 (by decide) (fun h9 => ?_) (fun h9 => ?_)
      · exact absurd h9 (nI_ge hlt (by omega))
      · refine g_lload_n C (i := 1) dX2_wentOut_12 rfl rfl ?_
        refine g_aload_n C (i := 0) dX2_wentOut_13 rfl rfl ?_
        refine g_getR C 2 2 (RX2, TX2, 13) dX2_wentOut_14 (hP.1 12 (by decide)) (hP.2 12 2 14 (by decide) rfl) ml_X2_15 rfl (by decide) rfl ?_
        refine g_iload_n C (i := 3) dX2_wentOut_17 rfl rfl ?_
        refine g_ia C dX2_wentOut_18 (hP.1 14 (by decide)) (reg_at (k := 14) (by decide)) rfl (by omega) (by decide) ?_
        refine g_iconst C (-1) dX2_wentOut_19 rfl ?_
        refine g_icmp_ne C 32 dX2_wentOut_20 (by decide) (fun h20 => ?_) (fun h20 => ?_)
        · rw [if_neg h20] at ih1
          refine g_lconst C 0 dX2_wentOut_32 rfl ?_
          refine g_ladd C dX2_wentOut_33 ?_
          refine g_lstore_n C (i := 1) dX2_wentOut_34 rfl (by decide) ?_
          refine g_iinc C (i := 3) (nI (i + 1)) dX2_wentOut_35 rfl (nI_1 i) (by decide) ?_
          refine g_goto C 4 dX2_wentOut_38 (by decide) ?_
          exact ih1
        · rw [if_pos h20] at ih1
          refine g_aload_n C (i := 0) dX2_wentOut_23 rfl rfl ?_
          refine g_getR C 2 7 (RX2, TX2, 13) dX2_wentOut_24 (hP.1 12 (by decide)) (hP.2 12 7 19 (by decide) rfl) ml_X2_31 rfl (by decide) rfl ?_
          refine g_iload_n C (i := 3) dX2_wentOut_27 rfl rfl ?_
          refine g_la C dX2_wentOut_28 (hP.1 19 (by decide)) (reg_at (k := 19) (by decide)) rfl (by omega) (by decide) ?_
          refine g_goto C 33 dX2_wentOut_29 (by decide) ?_
          refine g_ladd C dX2_wentOut_33 ?_
          refine g_lstore_n C (i := 1) dX2_wentOut_34 rfl (by decide) ?_
          refine g_iinc C (i := 3) (nI (i + 1)) dX2_wentOut_35 rfl (nI_1 i) (by decide) ?_
          refine g_goto C 4 dX2_wentOut_38 (by decide) ?_
          exact ih1
  exact key np 0 (by omega)
theorem c_X2_mixedInto (hP : tkReg 28 pT pF σ p) {np : Nat} (hW : wPu I0 np) (d0 : Int64) :
    tkCon false (.code yX2_mixedInto cX2_mixedInto 6 (some .long)) yX2_mixedInto 2 [.ref (p + 12), .long d0] σ (reg p 28 I0 v) (reg p 28 L0 w) 0 0 (.inl (some (.long (itr (sPmix I0 L0) np d0)))) σ (reg p 28 I0 v) (reg p 28 L0 w) := by
  have h16 : np ≤ 16 := hW.2.1
  refine tkCon.of (by decide) (Nat.le_of_ble_eq_true rfl) (fun X C => ?_)
  refine g_lload_n C (i := 1) dX2_mixedInto_0 rfl rfl ?_
  refine g_lstore_n C (i := 3) dX2_mixedInto_1 rfl (by decide) ?_
  refine g_iconst C (0) dX2_mixedInto_2 rfl ?_
  refine g_istore C (i := 5) dX2_mixedInto_3 (by decide) ?_
  have key : ∀ k i, k + i = np → tkG X (tkQ false X 0 0 (.inl (some (.long (itr (sPmix I0 L0) np d0)))) σ (reg p 28 I0 v) (reg p 28 L0 w)) 0 0 5 [some (.ref (p + 12)), some (.long d0), none, some (.long (itr (sPmix I0 L0) i d0)), none, some (.int (nI i))] [] σ (reg p 28 I0 v) (reg p 28 L0 w) := by
    intro k
    induction k with
    | zero =>
      intro i hi
      have e : i = np := by omega
      subst e
      refine g_iload C (i := 5) dX2_mixedInto_5 rfl ?_
      refine g_aload_n C (i := 0) dX2_mixedInto_7 rfl rfl ?_
      refine g_getI C 2 0 (RX2, TX2, 13) dX2_mixedInto_8 (hP.1 12 (by decide)) (reg_at (k := 12) (by decide)) ml_X2_50 rfl (by decide) (Or.inl rfl) ?_
      rw [hW.1]
      refine g_icmp_ge C 65 dX2_mixedInto_11 (by decide) (fun h11 => ?_) (fun h11 => ?_)
      · refine g_lload_n C (i := 3) dX2_mixedInto_65 rfl rfl ?_
        exact g_lreturn C dX2_mixedInto_66 ⟨Nat.le_of_ble_eq_true rfl, Nat.le_of_ble_eq_true rfl⟩ (tkEnd.rf rfl rfl rfl)
      · exact absurd (Int32.le_refl _) h11
    | succ k ih =>
      intro i hi
      have hlt : i < np := by omega
      refine g_iload C (i := 5) dX2_mixedInto_5 rfl ?_
      refine g_aload_n C (i := 0) dX2_mixedInto_7 rfl rfl ?_
      refine g_getI C 2 0 (RX2, TX2, 13) dX2_mixedInto_8 (hP.1 12 (by decide)) (reg_at (k := 12) (by decide)) ml_X2_50 rfl (by decide) (Or.inl rfl) ?_
      rw [hW.1]
      refine g_icmp_ge C 65 dX2_mixedInto_11 (by decide) (fun h11 => ?_) (fun h11 => ?_)
      · exact absurd h11 (nI_ge hlt (by omega))
      · refine g_lload_n C (i := 3) dX2_mixedInto_14 rfl rfl ?_
        refine g_aload_n C (i := 0) dX2_mixedInto_15 rfl rfl ?_
        refine g_getR C 2 3 (RX2, TX2, 13) dX2_mixedInto_16 (hP.1 12 (by decide)) (hP.2 12 3 15 (by decide) rfl) ml_X2_18 rfl (by decide) rfl ?_
        refine g_iload C (i := 5) dX2_mixedInto_19 rfl ?_
        refine g_ia C dX2_mixedInto_21 (hP.1 15 (by decide)) (reg_at (k := 15) (by decide)) rfl (by omega) (by decide) ?_
        refine g_i2l C dX2_mixedInto_22 ?_
        refine g_callSN C dX2_mixedInto_23 mm_X5_mix ml_X2_103 mt_yX5_mix (c_X5_mix _ _) rfl ⟨by decide, Nat.le_of_ble_eq_true rfl, Nat.le_of_ble_eq_true rfl, Nat.le_of_ble_eq_true rfl⟩ (tk_retv ?_) tk_nothr
        refine g_aload_n C (i := 0) dX2_mixedInto_26 rfl rfl ?_
        refine g_getR C 2 7 (RX2, TX2, 13) dX2_mixedInto_27 (hP.1 12 (by decide)) (hP.2 12 7 19 (by decide) rfl) ml_X2_31 rfl (by decide) rfl ?_
        refine g_iload C (i := 5) dX2_mixedInto_30 rfl ?_
        refine g_la C dX2_mixedInto_32 (hP.1 19 (by decide)) (reg_at (k := 19) (by decide)) rfl (by omega) (by decide) ?_
        refine g_callSN C dX2_mixedInto_33 mm_X5_mix ml_X2_103 mt_yX5_mix (c_X5_mix _ _) rfl ⟨by decide, Nat.le_of_ble_eq_true rfl, Nat.le_of_ble_eq_true rfl, Nat.le_of_ble_eq_true rfl⟩ (tk_retv ?_) tk_nothr
        refine g_lstore_n C (i := 3) dX2_mixedInto_36 rfl (by decide) ?_
        refine g_lload_n C (i := 3) dX2_mixedInto_37 rfl rfl ?_
        refine g_aload_n C (i := 0) dX2_mixedInto_38 rfl rfl ?_
        refine g_getR C 2 8 (RX2, TX2, 13) dX2_mixedInto_39 (hP.1 12 (by decide)) (hP.2 12 8 20 (by decide) rfl) ml_X2_35 rfl (by decide) rfl ?_
        refine g_iload C (i := 5) dX2_mixedInto_42 rfl ?_
        refine g_la C dX2_mixedInto_44 (hP.1 20 (by decide)) (reg_at (k := 20) (by decide)) rfl (by omega) (by decide) ?_
        refine g_callSN C dX2_mixedInto_45 mm_X5_mix ml_X2_103 mt_yX5_mix (c_X5_mix _ _) rfl ⟨by decide, Nat.le_of_ble_eq_true rfl, Nat.le_of_ble_eq_true rfl, Nat.le_of_ble_eq_true rfl⟩ (tk_retv ?_) tk_nothr
        refine g_aload_n C (i := 0) dX2_mixedInto_48 rfl rfl ?_
        refine g_getR C 2 9 (RX2, TX2, 13) dX2_mixedInto_49 (hP.1 12 (by decide)) (hP.2 12 9 21 (by decide) rfl) ml_X2_38 rfl (by decide) rfl ?_
        refine g_iload C (i := 5) dX2_mixedInto_52 rfl ?_
        refine g_la C dX2_mixedInto_54 (hP.1 21 (by decide)) (reg_at (k := 21) (by decide)) rfl (by omega) (by decide) ?_
        refine g_callSN C dX2_mixedInto_55 mm_X5_mix ml_X2_103 mt_yX5_mix (c_X5_mix _ _) rfl ⟨by decide, Nat.le_of_ble_eq_true rfl, Nat.le_of_ble_eq_true rfl, Nat.le_of_ble_eq_true rfl⟩ (tk_retv ?_) tk_nothr
        refine g_lstore_n C (i := 3) dX2_mixedInto_58 rfl (by decide) ?_
        refine g_iinc C (i := 5) (nI (i + 1)) dX2_mixedInto_59 rfl (nI_1 i) (by decide) ?_
        refine g_goto C 5 dX2_mixedInto_62 (by decide) ?_
        exact ih (i + 1) (by omega)
  exact key np 0 (by omega)
end TKPUMPS
end

-- ===== PART A: goes FIRST, ahead of the names: the tables' words, and 'selects' of the private methods out of them =====
/-- a private method of a class that the tables say can be made, by its rows of tables_1 -/
def lw_okq (q : MethodName × Nat) : Prop := (q.1.cls ≠ "java/lang/invoke/MethodHandle" ∧ q.1.cls ≠ "java/lang/invoke/VarHandle") ∧ Cond.instantiable q.1.cls q.2 ∈ tables_1 ∧ Cond.privateMethod q.1 ∈ tables_1 ∧ Cond.instanceMethod q.1 ∈ tables_1
theorem lw_p0 : lw_okq (⟨"java/lang/Throwable", "fillInStackTrace", "(I)Ljava/lang/Throwable;"⟩, 6) := ⟨⟨by decide +kernel, by decide +kernel⟩, List.mem_of_getElem? (i := 293) (by decide +kernel), List.mem_of_getElem? (i := 291) (by decide +kernel), List.mem_of_getElem? (i := 292) (by decide +kernel)⟩
theorem lw_p1 : lw_okq (⟨"TankPlant", "needTank", "(I)V"⟩, 4) := ⟨⟨by decide +kernel, by decide +kernel⟩, List.mem_of_getElem? (i := 17) (by decide +kernel), List.mem_of_getElem? (i := 360) (by decide +kernel), List.mem_of_getElem? (i := 361) (by decide +kernel)⟩
theorem lw_p2 : lw_okq (⟨"TankPlant", "needTankOrOutside", "(I)V"⟩, 4) := ⟨⟨by decide +kernel, by decide +kernel⟩, List.mem_of_getElem? (i := 17) (by decide +kernel), List.mem_of_getElem? (i := 393) (by decide +kernel), List.mem_of_getElem? (i := 394) (by decide +kernel)⟩
theorem lw_p3 : lw_okq (⟨"TankPlant", "needSwitch", "(I)V"⟩, 4) := ⟨⟨by decide +kernel, by decide +kernel⟩, List.mem_of_getElem? (i := 17) (by decide +kernel), List.mem_of_getElem? (i := 397) (by decide +kernel), List.mem_of_getElem? (i := 398) (by decide +kernel)⟩
theorem lw_p4 : lw_okq (⟨"TankPlant", "needPump", "(I)V"⟩, 4) := ⟨⟨by decide +kernel, by decide +kernel⟩, List.mem_of_getElem? (i := 17) (by decide +kernel), List.mem_of_getElem? (i := 434) (by decide +kernel), List.mem_of_getElem? (i := 435) (by decide +kernel)⟩
theorem lw_p5 : lw_okq (⟨"TankPlant$Plant", "tick", "()I"⟩, 5) := ⟨⟨by decide +kernel, by decide +kernel⟩, List.mem_of_getElem? (i := 25) (by decide +kernel), List.mem_of_getElem? (i := 454) (by decide +kernel), List.mem_of_getElem? (i := 455) (by decide +kernel)⟩
theorem lw_p6 : lw_okq (⟨"TankPlant$Pumps", "move", "(ILTankPlant$Tanks;)V"⟩, 13) := ⟨⟨by decide +kernel, by decide +kernel⟩, List.mem_of_getElem? (i := 93) (by decide +kernel), List.mem_of_getElem? (i := 482) (by decide +kernel), List.mem_of_getElem? (i := 483) (by decide +kernel)⟩
theorem lw_p7 : lw_okq (⟨"TankPlant$Pumps", "enter", "(II)V"⟩, 13) := ⟨⟨by decide +kernel, by decide +kernel⟩, List.mem_of_getElem? (i := 93) (by decide +kernel), List.mem_of_getElem? (i := 489) (by decide +kernel), List.mem_of_getElem? (i := 490) (by decide +kernel)⟩
theorem lw_p8 : lw_okq (⟨"TankPlant$Plant", "repeatLast", "(I)I"⟩, 5) := ⟨⟨by decide +kernel, by decide +kernel⟩, List.mem_of_getElem? (i := 25) (by decide +kernel), List.mem_of_getElem? (i := 498) (by decide +kernel), List.mem_of_getElem? (i := 499) (by decide +kernel)⟩
theorem lw_p9 : lw_okq (⟨"TankPlant$Pumps", "steadyTicksOf", "(ILTankPlant$Tanks;I)I"⟩, 13) := ⟨⟨by decide +kernel, by decide +kernel⟩, List.mem_of_getElem? (i := 93) (by decide +kernel), List.mem_of_getElem? (i := 520) (by decide +kernel), List.mem_of_getElem? (i := 521) (by decide +kernel)⟩
theorem lw_p10 : lw_okq (⟨"TankPlant", "needLogged", "(I)V"⟩, 4) := ⟨⟨by decide +kernel, by decide +kernel⟩, List.mem_of_getElem? (i := 17) (by decide +kernel), List.mem_of_getElem? (i := 650) (by decide +kernel), List.mem_of_getElem? (i := 651) (by decide +kernel)⟩
theorem lw_p11 : lw_okq (⟨"TankPlantModel", "fail", "(I)I"⟩, 29) := ⟨⟨by decide +kernel, by decide +kernel⟩, List.mem_of_getElem? (i := 688) (by decide +kernel), List.mem_of_getElem? (i := 792) (by decide +kernel), List.mem_of_getElem? (i := 793) (by decide +kernel)⟩
theorem lw_p12 : lw_okq (⟨"TankPlantModel", "isTank", "(I)Z"⟩, 29) := ⟨⟨by decide +kernel, by decide +kernel⟩, List.mem_of_getElem? (i := 688) (by decide +kernel), List.mem_of_getElem? (i := 800) (by decide +kernel), List.mem_of_getElem? (i := 801) (by decide +kernel)⟩
theorem lw_p13 : lw_okq (⟨"TankPlantModel", "isSwitch", "(I)Z"⟩, 29) := ⟨⟨by decide +kernel, by decide +kernel⟩, List.mem_of_getElem? (i := 688) (by decide +kernel), List.mem_of_getElem? (i := 808) (by decide +kernel), List.mem_of_getElem? (i := 809) (by decide +kernel)⟩
theorem lw_p14 : lw_okq (⟨"TankPlantModel", "isPump", "(I)Z"⟩, 29) := ⟨⟨by decide +kernel, by decide +kernel⟩, List.mem_of_getElem? (i := 688) (by decide +kernel), List.mem_of_getElem? (i := 824) (by decide +kernel), List.mem_of_getElem? (i := 825) (by decide +kernel)⟩
theorem lw_p15 : lw_okq (⟨"TankPlantModel", "tick", "()I"⟩, 29) := ⟨⟨by decide +kernel, by decide +kernel⟩, List.mem_of_getElem? (i := 688) (by decide +kernel), List.mem_of_getElem? (i := 832) (by decide +kernel), List.mem_of_getElem? (i := 833) (by decide +kernel)⟩
def lw_privs_1 : List (MethodName × Nat) := [(⟨"java/lang/Throwable", "fillInStackTrace", "(I)Ljava/lang/Throwable;"⟩, 6), (⟨"TankPlant", "needTank", "(I)V"⟩, 4), (⟨"TankPlant", "needTankOrOutside", "(I)V"⟩, 4), (⟨"TankPlant", "needSwitch", "(I)V"⟩, 4), (⟨"TankPlant", "needPump", "(I)V"⟩, 4), (⟨"TankPlant$Plant", "tick", "()I"⟩, 5), (⟨"TankPlant$Pumps", "move", "(ILTankPlant$Tanks;)V"⟩, 13), (⟨"TankPlant$Pumps", "enter", "(II)V"⟩, 13), (⟨"TankPlant$Plant", "repeatLast", "(I)I"⟩, 5), (⟨"TankPlant$Pumps", "steadyTicksOf", "(ILTankPlant$Tanks;I)I"⟩, 13), (⟨"TankPlant", "needLogged", "(I)V"⟩, 4), (⟨"TankPlantModel", "fail", "(I)I"⟩, 29), (⟨"TankPlantModel", "isTank", "(I)Z"⟩, 29), (⟨"TankPlantModel", "isSwitch", "(I)Z"⟩, 29), (⟨"TankPlantModel", "isPump", "(I)Z"⟩, 29), (⟨"TankPlantModel", "tick", "()I"⟩, 29)]
theorem lw_r1 : ∀ q ∈ lw_privs_1, lw_okq q := List.forall_mem_cons.mpr ⟨lw_p0, List.forall_mem_cons.mpr ⟨lw_p1, List.forall_mem_cons.mpr ⟨lw_p2, List.forall_mem_cons.mpr ⟨lw_p3, List.forall_mem_cons.mpr ⟨lw_p4, List.forall_mem_cons.mpr ⟨lw_p5, List.forall_mem_cons.mpr ⟨lw_p6, List.forall_mem_cons.mpr ⟨lw_p7, List.forall_mem_cons.mpr ⟨lw_p8, List.forall_mem_cons.mpr ⟨lw_p9, List.forall_mem_cons.mpr ⟨lw_p10, List.forall_mem_cons.mpr ⟨lw_p11, List.forall_mem_cons.mpr ⟨lw_p12, List.forall_mem_cons.mpr ⟨lw_p13, List.forall_mem_cons.mpr ⟨lw_p14, List.forall_mem_cons.mpr ⟨lw_p15, fun _ h => absurd h List.not_mem_nil⟩⟩⟩⟩⟩⟩⟩⟩⟩⟩⟩⟩⟩⟩⟩⟩
theorem lw_p16 : lw_okq (⟨"TankPlantModel", "turn", "()I"⟩, 29) := ⟨⟨by decide +kernel, by decide +kernel⟩, List.mem_of_getElem? (i := 688) (by decide +kernel), List.mem_of_getElem? (i := 836) (by decide +kernel), List.mem_of_getElem? (i := 837) (by decide +kernel)⟩
theorem lw_p17 : lw_okq (⟨"TankPlantModel", "log", "(I)V"⟩, 29) := ⟨⟨by decide +kernel, by decide +kernel⟩, List.mem_of_getElem? (i := 688) (by decide +kernel), List.mem_of_getElem? (i := 840) (by decide +kernel), List.mem_of_getElem? (i := 841) (by decide +kernel)⟩
theorem lw_p18 : lw_okq (⟨"TankPlantModel", "pump", "(I)V"⟩, 29) := ⟨⟨by decide +kernel, by decide +kernel⟩, List.mem_of_getElem? (i := 688) (by decide +kernel), List.mem_of_getElem? (i := 844) (by decide +kernel), List.mem_of_getElem? (i := 845) (by decide +kernel)⟩
theorem lw_p19 : lw_okq (⟨"TankPlantModel", "write", "(I)V"⟩, 29) := ⟨⟨by decide +kernel, by decide +kernel⟩, List.mem_of_getElem? (i := 688) (by decide +kernel), List.mem_of_getElem? (i := 857) (by decide +kernel), List.mem_of_getElem? (i := 858) (by decide +kernel)⟩
theorem lw_p20 : lw_okq (⟨"TankPlantModel", "put", "(J)V"⟩, 29) := ⟨⟨by decide +kernel, by decide +kernel⟩, List.mem_of_getElem? (i := 688) (by decide +kernel), List.mem_of_getElem? (i := 861) (by decide +kernel), List.mem_of_getElem? (i := 862) (by decide +kernel)⟩
theorem lw_p21 : lw_okq (⟨"TankPlantModel", "read", "(I)V"⟩, 29) := ⟨⟨by decide +kernel, by decide +kernel⟩, List.mem_of_getElem? (i := 688) (by decide +kernel), List.mem_of_getElem? (i := 865) (by decide +kernel), List.mem_of_getElem? (i := 866) (by decide +kernel)⟩
theorem lw_p22 : lw_okq (⟨"TankPlantModel", "take", "()J"⟩, 29) := ⟨⟨by decide +kernel, by decide +kernel⟩, List.mem_of_getElem? (i := 688) (by decide +kernel), List.mem_of_getElem? (i := 869) (by decide +kernel), List.mem_of_getElem? (i := 870) (by decide +kernel)⟩
theorem lw_p23 : lw_okq (⟨"TankPlantModel", "isLogged", "(I)Z"⟩, 29) := ⟨⟨by decide +kernel, by decide +kernel⟩, List.mem_of_getElem? (i := 688) (by decide +kernel), List.mem_of_getElem? (i := 917) (by decide +kernel), List.mem_of_getElem? (i := 918) (by decide +kernel)⟩
def lw_privs_2 : List (MethodName × Nat) := [(⟨"TankPlantModel", "turn", "()I"⟩, 29), (⟨"TankPlantModel", "log", "(I)V"⟩, 29), (⟨"TankPlantModel", "pump", "(I)V"⟩, 29), (⟨"TankPlantModel", "write", "(I)V"⟩, 29), (⟨"TankPlantModel", "put", "(J)V"⟩, 29), (⟨"TankPlantModel", "read", "(I)V"⟩, 29), (⟨"TankPlantModel", "take", "()J"⟩, 29), (⟨"TankPlantModel", "isLogged", "(I)Z"⟩, 29)]
theorem lw_r2 : ∀ q ∈ lw_privs_2, lw_okq q := List.forall_mem_cons.mpr ⟨lw_p16, List.forall_mem_cons.mpr ⟨lw_p17, List.forall_mem_cons.mpr ⟨lw_p18, List.forall_mem_cons.mpr ⟨lw_p19, List.forall_mem_cons.mpr ⟨lw_p20, List.forall_mem_cons.mpr ⟨lw_p21, List.forall_mem_cons.mpr ⟨lw_p22, List.forall_mem_cons.mpr ⟨lw_p23, fun _ h => absurd h List.not_mem_nil⟩⟩⟩⟩⟩⟩⟩⟩
def lw_privs : List (MethodName × Nat) := lw_privs_1 ++ (lw_privs_2)
def lw_tbl : List Cond := k2_sels lw_privs ++ tables_1
theorem lw_privs_ok : ∀ q ∈ lw_privs, lw_okq q := by
  show ∀ q ∈ lw_privs_1 ++ (lw_privs_2), lw_okq q
  exact List.forall_mem_append.mpr ⟨lw_r1, lw_r2⟩
/-- the streams that the claim lets the run draw from -/
abbrev lw_cs : List Choice := [Jvm.Choice.named "NaN.bits"]
theorem lw_bits : nanBits ∈ lw_cs := by first | decide | exact List.mem_cons_self | simp [lw_cs, nanBits]

def RX0 : String := "TankPlant$ChangeLog"
def TX0 : u_T := fun k => match k with
  | 0 => ("TankPlant$ChangeLog", "count", "J", false)
  | 1 => ("TankPlant$ChangeLog", "times", "[J", true)
  | _ => ("TankPlant$ChangeLog", "numbers", "[I", true)
def tyX0 : Nat → FieldType := fun k => match k with
  | 0 => .long
  | 1 => .array .long
  | _ => .array .int
abbrev wsX00 : List Cond := u_ws RX0 TX0 3
theorem nmX0 : ∀ a, a < 3 → ∀ b, b < 3 → a ≠ b → (TX0 a).2.1 ≠ (TX0 b).2.1 := by decide +kernel
theorem tyX0_ok : ∀ k, k < 3 → parseFieldDescriptor (TX0 k).2.2.1 = some (tyX0 k) := by decide +kernel
abbrev cX0_init : ByteArray := prog_2_method_1_code
def yX0_init : MethodName := ⟨RX0, "<init>", "()V"⟩
abbrev cX0_note : ByteArray := prog_2_method_2_code
def yX0_note : MethodName := ⟨RX0, "note", "(JI)V"⟩
abbrev cX0_kept : ByteArray := prog_2_method_3_code
def yX0_kept : MethodName := ⟨RX0, "kept", "()I"⟩
abbrev cX0_slotOf : ByteArray := prog_2_method_4_code
def yX0_slotOf : MethodName := ⟨RX0, "slotOf", "(I)I"⟩
abbrev cX0_copyFrom : ByteArray := prog_2_method_5_code
def yX0_copyFrom : MethodName := ⟨RX0, "copyFrom", "(LTankPlant$ChangeLog;)V"⟩
def RX1 : String := "TankPlant$Plant"
def TX1 : u_T := fun k => match k with
  | 0 => ("TankPlant$Plant", "tanks", "LTankPlant$Tanks;", true)
  | 1 => ("TankPlant$Plant", "switches", "LTankPlant$Switches;", true)
  | 2 => ("TankPlant$Plant", "pumps", "LTankPlant$Pumps;", true)
  | 3 => ("TankPlant$Plant", "log", "LTankPlant$ChangeLog;", true)
  | _ => ("TankPlant$Plant", "time", "J", false)
def tyX1 : Nat → FieldType := fun k => match k with
  | 0 => .object "TankPlant$Tanks"
  | 1 => .object "TankPlant$Switches"
  | 2 => .object "TankPlant$Pumps"
  | 3 => .object "TankPlant$ChangeLog"
  | _ => .long
abbrev wsX10 : List Cond := u_ws RX1 TX1 5
theorem nmX1 : ∀ a, a < 5 → ∀ b, b < 5 → a ≠ b → (TX1 a).2.1 ≠ (TX1 b).2.1 := by decide +kernel
theorem tyX1_ok : ∀ k, k < 5 → parseFieldDescriptor (TX1 k).2.2.1 = some (tyX1 k) := by decide +kernel
abbrev cX1_init : ByteArray := prog_3_method_1_code
def yX1_init : MethodName := ⟨RX1, "<init>", "()V"⟩
abbrev cX1_copyFrom : ByteArray := prog_3_method_2_code
def yX1_copyFrom : MethodName := ⟨RX1, "copyFrom", "(LTankPlant$Plant;)V"⟩
abbrev cX1_advance : ByteArray := prog_3_method_3_code
def yX1_advance : MethodName := ⟨RX1, "advance", "(I)I"⟩
abbrev cX1_advanceUntil : ByteArray := prog_3_method_4_code
def yX1_advanceUntil : MethodName := ⟨RX1, "advanceUntil", "(IIZI)I"⟩
abbrev cX1_advanceToChange : ByteArray := prog_3_method_5_code
def yX1_advanceToChange : MethodName := ⟨RX1, "advanceToChange", "(I)I"⟩
abbrev cX1_tick : ByteArray := prog_3_method_6_code
def yX1_tick : MethodName := ⟨RX1, "tick", "()I"⟩
abbrev cX1_repeatLast : ByteArray := prog_3_method_7_code
def yX1_repeatLast : MethodName := ⟨RX1, "repeatLast", "(I)I"⟩
def RX2 : String := "TankPlant$Pumps"
def TX2 : u_T := fun k => match k with
  | 0 => ("TankPlant$Pumps", "count", "I", false)
  | 1 => ("TankPlant$Pumps", "from", "[I", true)
  | 2 => ("TankPlant$Pumps", "to", "[I", true)
  | 3 => ("TankPlant$Pumps", "rate", "[I", true)
  | 4 => ("TankPlant$Pumps", "lift", "[I", true)
  | 5 => ("TankPlant$Pumps", "control", "[I", true)
  | 6 => ("TankPlant$Pumps", "inverted", "[Z", true)
  | 7 => ("TankPlant$Pumps", "total", "[J", true)
  | 8 => ("TankPlant$Pumps", "energy", "[J", true)
  | 9 => ("TankPlant$Pumps", "shortTicks", "[J", true)
  | 10 => ("TankPlant$Pumps", "amount", "[I", true)
  | 11 => ("TankPlant$Pumps", "sourceLeft", "[I", true)
  | _ => ("TankPlant$Pumps", "roomLeft", "[I", true)
def tyX2 : Nat → FieldType := fun k => match k with
  | 0 => .int
  | 1 => .array .int
  | 2 => .array .int
  | 3 => .array .int
  | 4 => .array .int
  | 5 => .array .int
  | 6 => .array .boolean
  | 7 => .array .long
  | 8 => .array .long
  | 9 => .array .long
  | 10 => .array .int
  | 11 => .array .int
  | _ => .array .int
abbrev wsX20 : List Cond := u_ws RX2 TX2 13
theorem nmX2 : ∀ a, a < 13 → ∀ b, b < 13 → a ≠ b → (TX2 a).2.1 ≠ (TX2 b).2.1 := by decide +kernel
theorem tyX2_ok : ∀ k, k < 13 → parseFieldDescriptor (TX2 k).2.2.1 = some (tyX2 k) := by decide +kernel
abbrev cX2_init : ByteArray := prog_4_method_1_code
def yX2_init : MethodName := ⟨RX2, "<init>", "()V"⟩
abbrev cX2_append : ByteArray := prog_4_method_2_code
def yX2_append : MethodName := ⟨RX2, "append", "(IIIIIZ)I"⟩
abbrev cX2_copyFrom : ByteArray := prog_4_method_3_code
def yX2_copyFrom : MethodName := ⟨RX2, "copyFrom", "(LTankPlant$Pumps;)V"⟩
abbrev cX2_isActive : ByteArray := prog_4_method_4_code
def yX2_isActive : MethodName := ⟨RX2, "isActive", "(ILTankPlant$Switches;)Z"⟩
abbrev cX2_moveAll : ByteArray := prog_4_method_5_code
def yX2_moveAll : MethodName := ⟨RX2, "moveAll", "(LTankPlant$Tanks;LTankPlant$Switches;)V"⟩
abbrev cX2_move : ByteArray := prog_4_method_6_code
def yX2_move : MethodName := ⟨RX2, "move", "(ILTankPlant$Tanks;)V"⟩
abbrev cX2_enter : ByteArray := prog_4_method_7_code
def yX2_enter : MethodName := ⟨RX2, "enter", "(II)V"⟩
abbrev cX2_steadyTicks : ByteArray := prog_4_method_8_code
def yX2_steadyTicks : MethodName := ⟨RX2, "steadyTicks", "(LTankPlant$Tanks;LTankPlant$Switches;I)I"⟩
abbrev cX2_steadyTicksOf : ByteArray := prog_4_method_9_code
def yX2_steadyTicksOf : MethodName := ⟨RX2, "steadyTicksOf", "(ILTankPlant$Tanks;I)I"⟩
abbrev cX2_repeat : ByteArray := prog_4_method_10_code
def yX2_repeat : MethodName := ⟨RX2, "repeat", "(LTankPlant$Switches;I)V"⟩
abbrev cX2_cameIn : ByteArray := prog_4_method_11_code
def yX2_cameIn : MethodName := ⟨RX2, "cameIn", "()J"⟩
abbrev cX2_wentOut : ByteArray := prog_4_method_12_code
def yX2_wentOut : MethodName := ⟨RX2, "wentOut", "()J"⟩
abbrev cX2_mixedInto : ByteArray := prog_4_method_13_code
def yX2_mixedInto : MethodName := ⟨RX2, "mixedInto", "(J)J"⟩
def RX3 : String := "TankPlant$Switches"
def TX3 : u_T := fun k => match k with
  | 0 => ("TankPlant$Switches", "count", "I", false)
  | 1 => ("TankPlant$Switches", "tank", "[I", true)
  | 2 => ("TankPlant$Switches", "low", "[I", true)
  | 3 => ("TankPlant$Switches", "high", "[I", true)
  | _ => ("TankPlant$Switches", "on", "[Z", true)
def tyX3 : Nat → FieldType := fun k => match k with
  | 0 => .int
  | 1 => .array .int
  | 2 => .array .int
  | 3 => .array .int
  | _ => .array .boolean
abbrev wsX30 : List Cond := u_ws RX3 TX3 5
theorem nmX3 : ∀ a, a < 5 → ∀ b, b < 5 → a ≠ b → (TX3 a).2.1 ≠ (TX3 b).2.1 := by decide +kernel
theorem tyX3_ok : ∀ k, k < 5 → parseFieldDescriptor (TX3 k).2.2.1 = some (tyX3 k) := by decide +kernel
abbrev cX3_init : ByteArray := prog_5_method_1_code
def yX3_init : MethodName := ⟨RX3, "<init>", "()V"⟩
abbrev cX3_append : ByteArray := prog_5_method_2_code
def yX3_append : MethodName := ⟨RX3, "append", "(III)I"⟩
abbrev cX3_copyFrom : ByteArray := prog_5_method_3_code
def yX3_copyFrom : MethodName := ⟨RX3, "copyFrom", "(LTankPlant$Switches;)V"⟩
abbrev cX3_follow : ByteArray := prog_5_method_4_code
def yX3_follow : MethodName := ⟨RX3, "follow", "(LTankPlant$Tanks;LTankPlant$ChangeLog;J)I"⟩
abbrev cX3_steadyTicks : ByteArray := prog_5_method_5_code
def yX3_steadyTicks : MethodName := ⟨RX3, "steadyTicks", "(LTankPlant$Tanks;I)I"⟩
abbrev cX3_mixedInto : ByteArray := prog_5_method_6_code
def yX3_mixedInto : MethodName := ⟨RX3, "mixedInto", "(J)J"⟩
def RX4 : String := "TankPlant$Tanks"
def TX4 : u_T := fun k => match k with
  | 0 => ("TankPlant$Tanks", "count", "I", false)
  | 1 => ("TankPlant$Tanks", "capacity", "[I", true)
  | 2 => ("TankPlant$Tanks", "level", "[I", true)
  | 3 => ("TankPlant$Tanks", "leak", "[I", true)
  | 4 => ("TankPlant$Tanks", "levelSum", "[J", true)
  | _ => ("TankPlant$Tanks", "before", "[I", true)
def tyX4 : Nat → FieldType := fun k => match k with
  | 0 => .int
  | 1 => .array .int
  | 2 => .array .int
  | 3 => .array .int
  | 4 => .array .long
  | _ => .array .int
abbrev wsX40 : List Cond := u_ws RX4 TX4 6
theorem nmX4 : ∀ a, a < 6 → ∀ b, b < 6 → a ≠ b → (TX4 a).2.1 ≠ (TX4 b).2.1 := by decide +kernel
theorem tyX4_ok : ∀ k, k < 6 → parseFieldDescriptor (TX4 k).2.2.1 = some (tyX4 k) := by decide +kernel
abbrev cX4_init : ByteArray := prog_6_method_1_code
def yX4_init : MethodName := ⟨RX4, "<init>", "()V"⟩
abbrev cX4_append : ByteArray := prog_6_method_2_code
def yX4_append : MethodName := ⟨RX4, "append", "(III)I"⟩
abbrev cX4_copyFrom : ByteArray := prog_6_method_3_code
def yX4_copyFrom : MethodName := ⟨RX4, "copyFrom", "(LTankPlant$Tanks;)V"⟩
abbrev cX4_noteLevels : ByteArray := prog_6_method_4_code
def yX4_noteLevels : MethodName := ⟨RX4, "noteLevels", "()V"⟩
abbrev cX4_leakAndSum : ByteArray := prog_6_method_5_code
def yX4_leakAndSum : MethodName := ⟨RX4, "leakAndSum", "()V"⟩
abbrev cX4_drift : ByteArray := prog_6_method_6_code
def yX4_drift : MethodName := ⟨RX4, "drift", "(I)I"⟩
abbrev cX4_hasReached : ByteArray := prog_6_method_7_code
def yX4_hasReached : MethodName := ⟨RX4, "hasReached", "(IIZ)Z"⟩
abbrev cX4_ticksShortOf : ByteArray := prog_6_method_8_code
def yX4_ticksShortOf : MethodName := ⟨RX4, "ticksShortOf", "(IIZI)I"⟩
abbrev cX4_steadyTicks : ByteArray := prog_6_method_9_code
def yX4_steadyTicks : MethodName := ⟨RX4, "steadyTicks", "(I)I"⟩
abbrev cX4_repeat : ByteArray := prog_6_method_10_code
def yX4_repeat : MethodName := ⟨RX4, "repeat", "(I)V"⟩
abbrev cX4_mixedInto : ByteArray := prog_6_method_11_code
def yX4_mixedInto : MethodName := ⟨RX4, "mixedInto", "(J)J"⟩
def RX5 : String := "TankPlant"
def TX5 : u_T := fun k => match k with
  | 0 => ("TankPlant", "plant", "LTankPlant$Plant;", true)
  | 1 => ("TankPlant", "trial", "LTankPlant$Plant;", true)
  | 2 => ("TankPlant", "depots", "[LTankPlant$Plant;", true)
  | _ => ("TankPlant", "depotCount", "I", false)
def tyX5 : Nat → FieldType := fun k => match k with
  | 0 => .object "TankPlant$Plant"
  | 1 => .object "TankPlant$Plant"
  | 2 => .array (.object "TankPlant$Plant")
  | _ => .int
abbrev wsX50 : List Cond := u_ws RX5 TX5 4
theorem nmX5 : ∀ a, a < 4 → ∀ b, b < 4 → a ≠ b → (TX5 a).2.1 ≠ (TX5 b).2.1 := by decide +kernel
theorem tyX5_ok : ∀ k, k < 4 → parseFieldDescriptor (TX5 k).2.2.1 = some (tyX5 k) := by decide +kernel
abbrev cX5_init : ByteArray := prog_1_method_1_code
def yX5_init : MethodName := ⟨RX5, "<init>", "()V"⟩
abbrev cX5_addTank : ByteArray := prog_1_method_2_code
def yX5_addTank : MethodName := ⟨RX5, "addTank", "(III)I"⟩
abbrev cX5_addSwitch : ByteArray := prog_1_method_3_code
def yX5_addSwitch : MethodName := ⟨RX5, "addSwitch", "(III)I"⟩
abbrev cX5_addPump : ByteArray := prog_1_method_4_code
def yX5_addPump : MethodName := ⟨RX5, "addPump", "(IIIIIZ)I"⟩
abbrev cX5_setLevel : ByteArray := prog_1_method_5_code
def yX5_setLevel : MethodName := ⟨RX5, "setLevel", "(II)I"⟩
abbrev cX5_setLeak : ByteArray := prog_1_method_6_code
def yX5_setLeak : MethodName := ⟨RX5, "setLeak", "(II)I"⟩
abbrev cX5_setRate : ByteArray := prog_1_method_7_code
def yX5_setRate : MethodName := ⟨RX5, "setRate", "(II)I"⟩
abbrev cX5_run : ByteArray := prog_1_method_8_code
def yX5_run : MethodName := ⟨RX5, "run", "(I)I"⟩
abbrev cX5_runUntil : ByteArray := prog_1_method_9_code
def yX5_runUntil : MethodName := ⟨RX5, "runUntil", "(IIZI)I"⟩
abbrev cX5_nextChange : ByteArray := prog_1_method_10_code
def yX5_nextChange : MethodName := ⟨RX5, "nextChange", "(I)I"⟩
abbrev cX5_time : ByteArray := prog_1_method_11_code
def yX5_time : MethodName := ⟨RX5, "time", "()J"⟩
abbrev cX5_level : ByteArray := prog_1_method_12_code
def yX5_level : MethodName := ⟨RX5, "level", "(I)I"⟩
abbrev cX5_levelSum : ByteArray := prog_1_method_13_code
def yX5_levelSum : MethodName := ⟨RX5, "levelSum", "(I)J"⟩
abbrev cX5_meanLevel : ByteArray := prog_1_method_14_code
def yX5_meanLevel : MethodName := ⟨RX5, "meanLevel", "(I)D"⟩
abbrev cX5_isOn : ByteArray := prog_1_method_15_code
def yX5_isOn : MethodName := ⟨RX5, "isOn", "(I)Z"⟩
abbrev cX5_total : ByteArray := prog_1_method_16_code
def yX5_total : MethodName := ⟨RX5, "total", "(I)J"⟩
abbrev cX5_energy : ByteArray := prog_1_method_17_code
def yX5_energy : MethodName := ⟨RX5, "energy", "(I)J"⟩
abbrev cX5_shortTicks : ByteArray := prog_1_method_18_code
def yX5_shortTicks : MethodName := ⟨RX5, "shortTicks", "(I)J"⟩
abbrev cX5_balance : ByteArray := prog_1_method_19_code
def yX5_balance : MethodName := ⟨RX5, "balance", "()J"⟩
abbrev cX5_changeCount : ByteArray := prog_1_method_20_code
def yX5_changeCount : MethodName := ⟨RX5, "changeCount", "()J"⟩
abbrev cX5_changeTime : ByteArray := prog_1_method_21_code
def yX5_changeTime : MethodName := ⟨RX5, "changeTime", "(I)J"⟩
abbrev cX5_changeSwitch : ByteArray := prog_1_method_22_code
def yX5_changeSwitch : MethodName := ⟨RX5, "changeSwitch", "(I)I"⟩
abbrev cX5_save : ByteArray := prog_1_method_23_code
def yX5_save : MethodName := ⟨RX5, "save", "()I"⟩
abbrev cX5_restore : ByteArray := prog_1_method_24_code
def yX5_restore : MethodName := ⟨RX5, "restore", "()I"⟩
abbrev cX5_digest : ByteArray := prog_1_method_25_code
def yX5_digest : MethodName := ⟨RX5, "digest", "()J"⟩
abbrev cX5_needTank : ByteArray := prog_1_method_26_code
def yX5_needTank : MethodName := ⟨RX5, "needTank", "(I)V"⟩
abbrev cX5_needTankOrOutside : ByteArray := prog_1_method_27_code
def yX5_needTankOrOutside : MethodName := ⟨RX5, "needTankOrOutside", "(I)V"⟩
abbrev cX5_needSwitch : ByteArray := prog_1_method_28_code
def yX5_needSwitch : MethodName := ⟨RX5, "needSwitch", "(I)V"⟩
abbrev cX5_needPump : ByteArray := prog_1_method_29_code
def yX5_needPump : MethodName := ⟨RX5, "needPump", "(I)V"⟩
abbrev cX5_needLogged : ByteArray := prog_1_method_30_code
def yX5_needLogged : MethodName := ⟨RX5, "needLogged", "(I)V"⟩
abbrev cX5_needAmount : ByteArray := prog_1_method_31_code
def yX5_needAmount : MethodName := ⟨RX5, "needAmount", "(II)V"⟩
abbrev cX5_needLeak : ByteArray := prog_1_method_32_code
def yX5_needLeak : MethodName := ⟨RX5, "needLeak", "(I)V"⟩
abbrev cX5_needRate : ByteArray := prog_1_method_33_code
def yX5_needRate : MethodName := ⟨RX5, "needRate", "(I)V"⟩
abbrev cX5_needTicks : ByteArray := prog_1_method_34_code
def yX5_needTicks : MethodName := ⟨RX5, "needTicks", "(II)V"⟩
abbrev cX5_isWithin : ByteArray := prog_1_method_35_code
def yX5_isWithin : MethodName := ⟨RX5, "isWithin", "(III)Z"⟩
abbrev cX5_mix : ByteArray := prog_1_method_36_code
def yX5_mix : MethodName := ⟨RX5, "mix", "(JJ)J"⟩
abbrev cX5_ticksWhile : ByteArray := prog_1_method_37_code
def yX5_ticksWhile : MethodName := ⟨RX5, "ticksWhile", "(JJI)I"⟩
def RX6 : String := "TankPlantModel"
def TX6 : u_T := fun k => match k with
  | 0 => ("TankPlantModel", "thrown", "I", false)
  | 1 => ("TankPlantModel", "tanks", "I", false)
  | 2 => ("TankPlantModel", "capacities", "[I", true)
  | 3 => ("TankPlantModel", "switches", "I", false)
  | 4 => ("TankPlantModel", "watched", "[I", true)
  | 5 => ("TankPlantModel", "lows", "[I", true)
  | 6 => ("TankPlantModel", "highs", "[I", true)
  | 7 => ("TankPlantModel", "pumps", "I", false)
  | 8 => ("TankPlantModel", "froms", "[I", true)
  | 9 => ("TankPlantModel", "tos", "[I", true)
  | 10 => ("TankPlantModel", "lifts", "[I", true)
  | 11 => ("TankPlantModel", "controls", "[I", true)
  | 12 => ("TankPlantModel", "areInverted", "[Z", true)
  | 13 => ("TankPlantModel", "levels", "[I", true)
  | 14 => ("TankPlantModel", "leaks", "[I", true)
  | 15 => ("TankPlantModel", "sums", "[J", true)
  | 16 => ("TankPlantModel", "areOn", "[Z", true)
  | 17 => ("TankPlantModel", "rates", "[I", true)
  | 18 => ("TankPlantModel", "totals", "[J", true)
  | 19 => ("TankPlantModel", "energies", "[J", true)
  | 20 => ("TankPlantModel", "shorts", "[J", true)
  | 21 => ("TankPlantModel", "time", "J", false)
  | 22 => ("TankPlantModel", "changes", "J", false)
  | 23 => ("TankPlantModel", "logged", "I", false)
  | 24 => ("TankPlantModel", "logTimes", "[J", true)
  | 25 => ("TankPlantModel", "logSwitches", "[I", true)
  | 26 => ("TankPlantModel", "depots", "I", false)
  | 27 => ("TankPlantModel", "stored", "[J", true)
  | _ => ("TankPlantModel", "at", "I", false)
def tyX6 : Nat → FieldType := fun k => match k with
  | 0 => .int
  | 1 => .int
  | 2 => .array .int
  | 3 => .int
  | 4 => .array .int
  | 5 => .array .int
  | 6 => .array .int
  | 7 => .int
  | 8 => .array .int
  | 9 => .array .int
  | 10 => .array .int
  | 11 => .array .int
  | 12 => .array .boolean
  | 13 => .array .int
  | 14 => .array .int
  | 15 => .array .long
  | 16 => .array .boolean
  | 17 => .array .int
  | 18 => .array .long
  | 19 => .array .long
  | 20 => .array .long
  | 21 => .long
  | 22 => .long
  | 23 => .int
  | 24 => .array .long
  | 25 => .array .int
  | 26 => .int
  | 27 => .array .long
  | _ => .int
abbrev wsX60 : List Cond := u_ws RX6 TX6 29
theorem nmX6 : ∀ a, a < 29 → ∀ b, b < 29 → a ≠ b → (TX6 a).2.1 ≠ (TX6 b).2.1 := by decide +kernel
theorem tyX6_ok : ∀ k, k < 29 → parseFieldDescriptor (TX6 k).2.2.1 = some (tyX6 k) := by decide +kernel
abbrev cX6_init : ByteArray := prog_8_method_1_code
def yX6_init : MethodName := ⟨RX6, "<init>", "()V"⟩
abbrev cX6_thrown : ByteArray := prog_8_method_2_code
def yX6_thrown : MethodName := ⟨RX6, "thrown", "()I"⟩
abbrev cX6_fail : ByteArray := prog_8_method_3_code
def yX6_fail : MethodName := ⟨RX6, "fail", "(I)I"⟩
abbrev cX6_isTank : ByteArray := prog_8_method_4_code
def yX6_isTank : MethodName := ⟨RX6, "isTank", "(I)Z"⟩
abbrev cX6_isSwitch : ByteArray := prog_8_method_5_code
def yX6_isSwitch : MethodName := ⟨RX6, "isSwitch", "(I)Z"⟩
abbrev cX6_isPump : ByteArray := prog_8_method_6_code
def yX6_isPump : MethodName := ⟨RX6, "isPump", "(I)Z"⟩
abbrev cX6_addTank : ByteArray := prog_8_method_7_code
def yX6_addTank : MethodName := ⟨RX6, "addTank", "(III)I"⟩
abbrev cX6_addSwitch : ByteArray := prog_8_method_8_code
def yX6_addSwitch : MethodName := ⟨RX6, "addSwitch", "(III)I"⟩
abbrev cX6_addPump : ByteArray := prog_8_method_9_code
def yX6_addPump : MethodName := ⟨RX6, "addPump", "(IIIIIZ)I"⟩
abbrev cX6_setLevel : ByteArray := prog_8_method_10_code
def yX6_setLevel : MethodName := ⟨RX6, "setLevel", "(II)I"⟩
abbrev cX6_setLeak : ByteArray := prog_8_method_11_code
def yX6_setLeak : MethodName := ⟨RX6, "setLeak", "(II)I"⟩
abbrev cX6_setRate : ByteArray := prog_8_method_12_code
def yX6_setRate : MethodName := ⟨RX6, "setRate", "(II)I"⟩
abbrev cX6_log : ByteArray := prog_8_method_13_code
def yX6_log : MethodName := ⟨RX6, "log", "(I)V"⟩
abbrev cX6_turn : ByteArray := prog_8_method_14_code
def yX6_turn : MethodName := ⟨RX6, "turn", "()I"⟩
abbrev cX6_pump : ByteArray := prog_8_method_15_code
def yX6_pump : MethodName := ⟨RX6, "pump", "(I)V"⟩
abbrev cX6_tick : ByteArray := prog_8_method_16_code
def yX6_tick : MethodName := ⟨RX6, "tick", "()I"⟩
abbrev cX6_run : ByteArray := prog_8_method_17_code
def yX6_run : MethodName := ⟨RX6, "run", "(I)I"⟩
abbrev cX6_runUntil : ByteArray := prog_8_method_18_code
def yX6_runUntil : MethodName := ⟨RX6, "runUntil", "(IIZI)I"⟩
abbrev cX6_nextChange : ByteArray := prog_8_method_19_code
def yX6_nextChange : MethodName := ⟨RX6, "nextChange", "(I)I"⟩
abbrev cX6_time : ByteArray := prog_8_method_20_code
def yX6_time : MethodName := ⟨RX6, "time", "()J"⟩
abbrev cX6_level : ByteArray := prog_8_method_21_code
def yX6_level : MethodName := ⟨RX6, "level", "(I)I"⟩
abbrev cX6_levelSum : ByteArray := prog_8_method_22_code
def yX6_levelSum : MethodName := ⟨RX6, "levelSum", "(I)J"⟩
abbrev cX6_meanLevel : ByteArray := prog_8_method_23_code
def yX6_meanLevel : MethodName := ⟨RX6, "meanLevel", "(I)D"⟩
abbrev cX6_isOn : ByteArray := prog_8_method_24_code
def yX6_isOn : MethodName := ⟨RX6, "isOn", "(I)Z"⟩
abbrev cX6_total : ByteArray := prog_8_method_25_code
def yX6_total : MethodName := ⟨RX6, "total", "(I)J"⟩
abbrev cX6_energy : ByteArray := prog_8_method_26_code
def yX6_energy : MethodName := ⟨RX6, "energy", "(I)J"⟩
abbrev cX6_shortTicks : ByteArray := prog_8_method_27_code
def yX6_shortTicks : MethodName := ⟨RX6, "shortTicks", "(I)J"⟩
abbrev cX6_balance : ByteArray := prog_8_method_28_code
def yX6_balance : MethodName := ⟨RX6, "balance", "()J"⟩
abbrev cX6_changeCount : ByteArray := prog_8_method_29_code
def yX6_changeCount : MethodName := ⟨RX6, "changeCount", "()J"⟩
abbrev cX6_isLogged : ByteArray := prog_8_method_30_code
def yX6_isLogged : MethodName := ⟨RX6, "isLogged", "(I)Z"⟩
abbrev cX6_changeTime : ByteArray := prog_8_method_31_code
def yX6_changeTime : MethodName := ⟨RX6, "changeTime", "(I)J"⟩
abbrev cX6_changeSwitch : ByteArray := prog_8_method_32_code
def yX6_changeSwitch : MethodName := ⟨RX6, "changeSwitch", "(I)I"⟩
abbrev cX6_put : ByteArray := prog_8_method_33_code
def yX6_put : MethodName := ⟨RX6, "put", "(J)V"⟩
abbrev cX6_take : ByteArray := prog_8_method_34_code
def yX6_take : MethodName := ⟨RX6, "take", "()J"⟩
abbrev cX6_write : ByteArray := prog_8_method_35_code
def yX6_write : MethodName := ⟨RX6, "write", "(I)V"⟩
abbrev cX6_read : ByteArray := prog_8_method_36_code
def yX6_read : MethodName := ⟨RX6, "read", "(I)V"⟩
abbrev cX6_save : ByteArray := prog_8_method_37_code
def yX6_save : MethodName := ⟨RX6, "save", "()I"⟩
abbrev cX6_restore : ByteArray := prog_8_method_38_code
def yX6_restore : MethodName := ⟨RX6, "restore", "()I"⟩
abbrev cX6_digest : ByteArray := prog_8_method_39_code
def yX6_digest : MethodName := ⟨RX6, "digest", "()J"⟩
def RJ9 : String := "java/lang/Math"
def TJ9 : u_T := fun k => match k with
  | _ => ("", "", "", false)
def tyJ9 : Nat → FieldType := fun k => match k with
  | _ => .int
abbrev wsJ90 : List Cond := u_ws RJ9 TJ9 0
theorem nmJ9 : ∀ a, a < 0 → ∀ b, b < 0 → a ≠ b → (TJ9 a).2.1 ≠ (TJ9 b).2.1 := by decide +kernel
theorem tyJ9_ok : ∀ k, k < 0 → parseFieldDescriptor (TJ9 k).2.2.1 = some (tyJ9 k) := by decide +kernel
abbrev cJ9_min_7cf53 : ByteArray := prog_13_method_69_code
def yJ9_min_7cf53 : MethodName := ⟨RJ9, "min", "(II)I"⟩
abbrev cJ9_min_f86c9 : ByteArray := prog_13_method_70_code
def yJ9_min_f86c9 : MethodName := ⟨RJ9, "min", "(JJ)J"⟩
def RJ0 : String := "java/lang/String"
def TJ0 : u_T := fun k => match k with
  | _ => ("", "", "", false)
def tyJ0 : Nat → FieldType := fun k => match k with
  | _ => .int
abbrev wsJ00 : List Cond := u_ws RJ0 TJ0 0
theorem nmJ0 : ∀ a, a < 0 → ∀ b, b < 0 → a ≠ b → (TJ0 a).2.1 ≠ (TJ0 b).2.1 := by decide +kernel
theorem tyJ0_ok : ∀ k, k < 0 → parseFieldDescriptor (TJ0 k).2.2.1 = some (tyJ0 k) := by decide +kernel
def RJ10 : String := "java/lang/System"
def TJ10 : u_T := fun k => match k with
  | _ => ("", "", "", false)
def tyJ10 : Nat → FieldType := fun k => match k with
  | _ => .int
abbrev wsJ100 : List Cond := u_ws RJ10 TJ10 0
theorem nmJ10 : ∀ a, a < 0 → ∀ b, b < 0 → a ≠ b → (TJ10 a).2.1 ≠ (TJ10 b).2.1 := by decide +kernel
theorem tyJ10_ok : ∀ k, k < 0 → parseFieldDescriptor (TJ10 k).2.2.1 = some (tyJ10 k) := by decide +kernel
def RL : String := "TankPlantLaw"
abbrev cL_addTank : ByteArray := method_3_code
def yL_addTank : MethodName := ⟨RL, "addTank", "(LTankPlant;III[J)I"⟩
abbrev cL_addSwitch : ByteArray := method_4_code
def yL_addSwitch : MethodName := ⟨RL, "addSwitch", "(LTankPlant;III[J)I"⟩
abbrev cL_addPump : ByteArray := method_5_code
def yL_addPump : MethodName := ⟨RL, "addPump", "(LTankPlant;IIIIIZ[J)I"⟩
abbrev cL_setLevel : ByteArray := method_6_code
def yL_setLevel : MethodName := ⟨RL, "setLevel", "(LTankPlant;II[J)I"⟩
abbrev cL_setLeak : ByteArray := method_7_code
def yL_setLeak : MethodName := ⟨RL, "setLeak", "(LTankPlant;II[J)I"⟩
abbrev cL_setRate : ByteArray := method_8_code
def yL_setRate : MethodName := ⟨RL, "setRate", "(LTankPlant;II[J)I"⟩
abbrev cL_run : ByteArray := method_9_code
def yL_run : MethodName := ⟨RL, "run", "(LTankPlant;I[J)I"⟩
abbrev cL_runUntil : ByteArray := method_10_code
def yL_runUntil : MethodName := ⟨RL, "runUntil", "(LTankPlant;IIZI[J)I"⟩
abbrev cL_nextChange : ByteArray := method_11_code
def yL_nextChange : MethodName := ⟨RL, "nextChange", "(LTankPlant;I[J)I"⟩
abbrev cL_level : ByteArray := method_12_code
def yL_level : MethodName := ⟨RL, "level", "(LTankPlant;I[J)I"⟩
abbrev cL_levelSum : ByteArray := method_13_code
def yL_levelSum : MethodName := ⟨RL, "levelSum", "(LTankPlant;I[J)I"⟩
abbrev cL_meanLevel : ByteArray := method_14_code
def yL_meanLevel : MethodName := ⟨RL, "meanLevel", "(LTankPlant;I[D)I"⟩
abbrev cL_isOn : ByteArray := method_15_code
def yL_isOn : MethodName := ⟨RL, "isOn", "(LTankPlant;I[J)I"⟩
abbrev cL_total : ByteArray := method_16_code
def yL_total : MethodName := ⟨RL, "total", "(LTankPlant;I[J)I"⟩
abbrev cL_energy : ByteArray := method_17_code
def yL_energy : MethodName := ⟨RL, "energy", "(LTankPlant;I[J)I"⟩
abbrev cL_shortTicks : ByteArray := method_18_code
def yL_shortTicks : MethodName := ⟨RL, "shortTicks", "(LTankPlant;I[J)I"⟩
abbrev cL_changeTime : ByteArray := method_19_code
def yL_changeTime : MethodName := ⟨RL, "changeTime", "(LTankPlant;I[J)I"⟩
abbrev cL_changeSwitch : ByteArray := method_20_code
def yL_changeSwitch : MethodName := ⟨RL, "changeSwitch", "(LTankPlant;I[J)I"⟩
abbrev cL_save : ByteArray := method_21_code
def yL_save : MethodName := ⟨RL, "save", "(LTankPlant;[J)I"⟩
abbrev cL_restore : ByteArray := method_22_code
def yL_restore : MethodName := ⟨RL, "restore", "(LTankPlant;[J)I"⟩
abbrev cL_law : ByteArray := code
def yL_law : MethodName := ⟨RL, "law", "([I)Z"⟩
abbrev vwCl : List vw_C := [(RX0, TX0, 3), (RX1, TX1, 5), (RX2, TX2, 13), (RX3, TX3, 5), (RX4, TX4, 6), (RX5, TX5, 4), (RX6, TX6, 29)]

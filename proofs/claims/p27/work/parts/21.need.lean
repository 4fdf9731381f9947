section TKNEED
variable {σ : tkM} {p x t dd : Nat} {I0 v : tkI} {L0 w : tkL}
/-- the program's object: its plant, its trial, its depots -/
def tkTP (σ : tkM) (x p t dd : Nat) : Prop := σ.2.1 x = (5, 0) ∧ σ.2.2 x 0 = some p ∧ σ.2.2 x 1 = some t ∧ σ.2.2 x 2 = some dd
abbrev bad (x a b : Int32) : Prop := x < a ∨ b < x
theorem jwith_bad {x a b : Int32} (h : bad x a b) : jwith x a b = 0 := by
  unfold jwith
  split
  · rfl
  · rename_i h1
    rw [if_pos (h.resolve_left h1)]
theorem jwith_ok {x a b : Int32} (h : ¬ bad x a b) : jwith x a b = 1 := by
  unfold jwith
  rw [if_neg (fun z => h (Or.inl z)), if_neg (fun z => h (Or.inr z))]
theorem jwith_z {x a b : Int32} (h : jwith x a b = 0) : bad x a b := Decidable.byContradiction fun z => by rw [jwith_ok z] at h; exact absurd h (by decide)
theorem jwith_nz {x a b : Int32} (h : ¬ jwith x a b = 0) : ¬ bad x a b := fun z => h (jwith_bad z)
abbrev xIAE : tkOut := .inr "java/lang/IllegalArgumentException"
abbrev xISE : tkOut := .inr "java/lang/IllegalStateException"
abbrev xIOB : tkOut := .inr "java/lang/IndexOutOfBoundsException"
theorem c_X5_needTank_ok (hX : tkTP σ x p t dd) (hP : tkReg 28 pT pF σ p) (i : Int32) (h : ¬ bad i 0 (I0 1 0 - 1)) :
    tkCon false (.code yX5_needTank cX5_needTank 2 none) yX5_needTank 7 [.ref x, .int i] σ (reg p 28 I0 v) (reg p 28 L0 w) 0 0 (.inl none) σ (reg p 28 I0 v) (reg p 28 L0 w) := by
  refine tkCon.of (by decide) (Nat.le_of_ble_eq_true rfl) (fun X C => ?_)
  refine g_iload_n C (i := 1) dX5_needTank_0 rfl rfl ?_
  refine g_iconst C (0) dX5_needTank_1 rfl ?_
  refine g_aload_n C (i := 0) dX5_needTank_2 rfl rfl ?_
  refine g_getR C 5 0 (RX5, TX5, 4) dX5_needTank_3 hX.1 hX.2.1 ml_X5_10 rfl (by decide) rfl ?_
  refine g_getR C 1 0 (RX1, TX1, 5) dX5_needTank_6 (hP.1 0 (by decide)) (hP.2 0 0 1 (by decide) rfl) ml_X5_47 rfl (by decide) rfl ?_
  refine g_getI C 4 0 (RX4, TX4, 6) dX5_needTank_9 (hP.1 1 (by decide)) (reg_at (k := 1) (by decide)) ml_X5_51 rfl (by decide) (Or.inl rfl) ?_
  refine g_iconst C (1) dX5_needTank_12 rfl ?_
  refine g_isub C dX5_needTank_13 ?_
  refine g_callS C dX5_needTank_14 mm_X5_isWithin ml_X5_28 mt_yX5_isWithin (c_X5_isWithin _ _ _) rfl ⟨by decide, Nat.le_of_ble_eq_true rfl, Nat.le_of_ble_eq_true rfl, Nat.le_of_ble_eq_true rfl⟩ (tk_retv ?_) tk_nothr
  refine g_if_ne C 30 dX5_needTank_17 (by decide) (fun h17 => ?_) (fun h17 => ?_)
  · exact g_return C dX5_needTank_30 ⟨Nat.le_of_ble_eq_true rfl, Nat.le_of_ble_eq_true rfl⟩ (tkEnd.rf rfl rfl rfl)
  · exact absurd (jwith_z h17) h
theorem c_X5_needSwitch_ok (hX : tkTP σ x p t dd) (hP : tkReg 28 pT pF σ p) (i : Int32) (h : ¬ bad i 0 (I0 7 0 - 1)) :
    tkCon false (.code yX5_needSwitch cX5_needSwitch 2 none) yX5_needSwitch 7 [.ref x, .int i] σ (reg p 28 I0 v) (reg p 28 L0 w) 0 0 (.inl none) σ (reg p 28 I0 v) (reg p 28 L0 w) := by
  refine tkCon.of (by decide) (Nat.le_of_ble_eq_true rfl) (fun X C => ?_)
  refine g_iload_n C (i := 1) dX5_needSwitch_0 rfl rfl ?_
  refine g_iconst C (0) dX5_needSwitch_1 rfl ?_
  refine g_aload_n C (i := 0) dX5_needSwitch_2 rfl rfl ?_
  refine g_getR C 5 0 (RX5, TX5, 4) dX5_needSwitch_3 hX.1 hX.2.1 ml_X5_10 rfl (by decide) rfl ?_
  refine g_getR C 1 1 (RX1, TX1, 5) dX5_needSwitch_6 (hP.1 0 (by decide)) (hP.2 0 1 7 (by decide) rfl) ml_X5_74 rfl (by decide) rfl ?_
  refine g_getI C 3 0 (RX3, TX3, 5) dX5_needSwitch_9 (hP.1 7 (by decide)) (reg_at (k := 7) (by decide)) ml_X5_78 rfl (by decide) (Or.inl rfl) ?_
  refine g_iconst C (1) dX5_needSwitch_12 rfl ?_
  refine g_isub C dX5_needSwitch_13 ?_
  refine g_callS C dX5_needSwitch_14 mm_X5_isWithin ml_X5_28 mt_yX5_isWithin (c_X5_isWithin _ _ _) rfl ⟨by decide, Nat.le_of_ble_eq_true rfl, Nat.le_of_ble_eq_true rfl, Nat.le_of_ble_eq_true rfl⟩ (tk_retv ?_) tk_nothr
  refine g_if_ne C 30 dX5_needSwitch_17 (by decide) (fun h17 => ?_) (fun h17 => ?_)
  · exact g_return C dX5_needSwitch_30 ⟨Nat.le_of_ble_eq_true rfl, Nat.le_of_ble_eq_true rfl⟩ (tkEnd.rf rfl rfl rfl)
  · exact absurd (jwith_z h17) h
theorem c_X5_needPump_ok (hX : tkTP σ x p t dd) (hP : tkReg 28 pT pF σ p) (i : Int32) (h : ¬ bad i 0 (I0 12 0 - 1)) :
    tkCon false (.code yX5_needPump cX5_needPump 2 none) yX5_needPump 7 [.ref x, .int i] σ (reg p 28 I0 v) (reg p 28 L0 w) 0 0 (.inl none) σ (reg p 28 I0 v) (reg p 28 L0 w) := by
  refine tkCon.of (by decide) (Nat.le_of_ble_eq_true rfl) (fun X C => ?_)
  refine g_iload_n C (i := 1) dX5_needPump_0 rfl rfl ?_
  refine g_iconst C (0) dX5_needPump_1 rfl ?_
  refine g_aload_n C (i := 0) dX5_needPump_2 rfl rfl ?_
  refine g_getR C 5 0 (RX5, TX5, 4) dX5_needPump_3 hX.1 hX.2.1 ml_X5_10 rfl (by decide) rfl ?_
  refine g_getR C 1 2 (RX1, TX1, 5) dX5_needPump_6 (hP.1 0 (by decide)) (hP.2 0 2 12 (by decide) rfl) ml_X5_97 rfl (by decide) rfl ?_
  refine g_getI C 2 0 (RX2, TX2, 13) dX5_needPump_9 (hP.1 12 (by decide)) (reg_at (k := 12) (by decide)) ml_X5_101 rfl (by decide) (Or.inl rfl) ?_
  refine g_iconst C (1) dX5_needPump_12 rfl ?_
  refine g_isub C dX5_needPump_13 ?_
  refine g_callS C dX5_needPump_14 mm_X5_isWithin ml_X5_28 mt_yX5_isWithin (c_X5_isWithin _ _ _) rfl ⟨by decide, Nat.le_of_ble_eq_true rfl, Nat.le_of_ble_eq_true rfl, Nat.le_of_ble_eq_true rfl⟩ (tk_retv ?_) tk_nothr
  refine g_if_ne C 30 dX5_needPump_17 (by decide) (fun h17 => ?_) (fun h17 => ?_)
  · exact g_return C dX5_needPump_30 ⟨Nat.le_of_ble_eq_true rfl, Nat.le_of_ble_eq_true rfl⟩ (tkEnd.rf rfl rfl rfl)
  · exact absurd (jwith_z h17) h
theorem c_X5_needAmount_ok  (a b : Int32) (h : ¬ bad a 0 b) :
    tkCon false (.code yX5_needAmount cX5_needAmount 2 none) yX5_needAmount 7 [.int a, .int b] σ (reg p 28 I0 v) (reg p 28 L0 w) 0 0 (.inl none) σ (reg p 28 I0 v) (reg p 28 L0 w) := by
  refine tkCon.of (by decide) (Nat.le_of_ble_eq_true rfl) (fun X C => ?_)
  refine g_iload_n C (i := 0) dX5_needAmount_0 rfl rfl ?_
  refine g_iconst C (0) dX5_needAmount_1 rfl ?_
  refine g_iload_n C (i := 1) dX5_needAmount_2 rfl rfl ?_
  refine g_callS C dX5_needAmount_3 mm_X5_isWithin ml_X5_28 mt_yX5_isWithin (c_X5_isWithin _ _ _) rfl ⟨by decide, Nat.le_of_ble_eq_true rfl, Nat.le_of_ble_eq_true rfl, Nat.le_of_ble_eq_true rfl⟩ (tk_retv ?_) tk_nothr
  refine g_if_ne C 19 dX5_needAmount_6 (by decide) (fun h6 => ?_) (fun h6 => ?_)
  · exact g_return C dX5_needAmount_19 ⟨Nat.le_of_ble_eq_true rfl, Nat.le_of_ble_eq_true rfl⟩ (tkEnd.rf rfl rfl rfl)
  · exact absurd (jwith_z h6) h
theorem c_X5_needLeak_ok  (a : Int32) (h : ¬ bad a 0 1000000) :
    tkCon false (.code yX5_needLeak cX5_needLeak 1 none) yX5_needLeak 7 [.int a] σ (reg p 28 I0 v) (reg p 28 L0 w) 0 0 (.inl none) σ (reg p 28 I0 v) (reg p 28 L0 w) := by
  refine tkCon.of (by decide) (Nat.le_of_ble_eq_true rfl) (fun X C => ?_)
  refine g_iload_n C (i := 0) dX5_needLeak_0 rfl rfl ?_
  refine g_iconst C (0) dX5_needLeak_1 rfl ?_
  refine g_ldc C (1000000) dX5_needLeak_2 ml_X5_220 ?_
  refine g_callS C dX5_needLeak_4 mm_X5_isWithin ml_X5_28 mt_yX5_isWithin (c_X5_isWithin _ _ _) rfl ⟨by decide, Nat.le_of_ble_eq_true rfl, Nat.le_of_ble_eq_true rfl, Nat.le_of_ble_eq_true rfl⟩ (tk_retv ?_) tk_nothr
  refine g_if_ne C 20 dX5_needLeak_7 (by decide) (fun h7 => ?_) (fun h7 => ?_)
  · exact g_return C dX5_needLeak_20 ⟨Nat.le_of_ble_eq_true rfl, Nat.le_of_ble_eq_true rfl⟩ (tkEnd.rf rfl rfl rfl)
  · exact absurd (jwith_z h7) h
theorem c_X5_needRate_ok  (a : Int32) (h : ¬ bad a 1 1000000) :
    tkCon false (.code yX5_needRate cX5_needRate 1 none) yX5_needRate 7 [.int a] σ (reg p 28 I0 v) (reg p 28 L0 w) 0 0 (.inl none) σ (reg p 28 I0 v) (reg p 28 L0 w) := by
  refine tkCon.of (by decide) (Nat.le_of_ble_eq_true rfl) (fun X C => ?_)
  refine g_iload_n C (i := 0) dX5_needRate_0 rfl rfl ?_
  refine g_iconst C (1) dX5_needRate_1 rfl ?_
  refine g_ldc C (1000000) dX5_needRate_2 ml_X5_220 ?_
  refine g_callS C dX5_needRate_4 mm_X5_isWithin ml_X5_28 mt_yX5_isWithin (c_X5_isWithin _ _ _) rfl ⟨by decide, Nat.le_of_ble_eq_true rfl, Nat.le_of_ble_eq_true rfl, Nat.le_of_ble_eq_true rfl⟩ (tk_retv ?_) tk_nothr
  refine g_if_ne C 20 dX5_needRate_7 (by decide) (fun h7 => ?_) (fun h7 => ?_)
  · exact g_return C dX5_needRate_20 ⟨Nat.le_of_ble_eq_true rfl, Nat.le_of_ble_eq_true rfl⟩ (tkEnd.rf rfl rfl rfl)
  · exact absurd (jwith_z h7) h
theorem c_X5_needTicks_ok  (a b : Int32) (h : ¬ bad a b 5000) :
    tkCon false (.code yX5_needTicks cX5_needTicks 2 none) yX5_needTicks 7 [.int a, .int b] σ (reg p 28 I0 v) (reg p 28 L0 w) 0 0 (.inl none) σ (reg p 28 I0 v) (reg p 28 L0 w) := by
  refine tkCon.of (by decide) (Nat.le_of_ble_eq_true rfl) (fun X C => ?_)
  refine g_iload_n C (i := 0) dX5_needTicks_0 rfl rfl ?_
  refine g_iload_n C (i := 1) dX5_needTicks_1 rfl rfl ?_
  refine g_sipush C (5000) dX5_needTicks_2 rfl ?_
  refine g_callS C dX5_needTicks_5 mm_X5_isWithin ml_X5_28 mt_yX5_isWithin (c_X5_isWithin _ _ _) rfl ⟨by decide, Nat.le_of_ble_eq_true rfl, Nat.le_of_ble_eq_true rfl, Nat.le_of_ble_eq_true rfl⟩ (tk_retv ?_) tk_nothr
  refine g_if_ne C 21 dX5_needTicks_8 (by decide) (fun h8 => ?_) (fun h8 => ?_)
  · exact g_return C dX5_needTicks_21 ⟨Nat.le_of_ble_eq_true rfl, Nat.le_of_ble_eq_true rfl⟩ (tkEnd.rf rfl rfl rfl)
  · exact absurd (jwith_z h8) h
abbrev badE (i : Int32) (I : tkI) : Prop := ¬ i = -1 ∧ bad i 0 (I 1 0 - 1)
theorem c_X5_needTankOrOutside_ok (hX : tkTP σ x p t dd) (hP : tkReg 28 pT pF σ p) (i : Int32) (h : ¬ badE i I0) :
    tkCon false (.code yX5_needTankOrOutside cX5_needTankOrOutside 2 none) yX5_needTankOrOutside 8 [.ref x, .int i] σ (reg p 28 I0 v) (reg p 28 L0 w) 0 0 (.inl none) σ (reg p 28 I0 v) (reg p 28 L0 w) := by
  refine tkCon.of (by decide) (Nat.le_of_ble_eq_true rfl) (fun X C => ?_)
  refine g_iload_n C (i := 1) dX5_needTankOrOutside_0 rfl rfl ?_
  refine g_iconst C (-1) dX5_needTankOrOutside_1 rfl ?_
  refine g_icmp_eq C 10 dX5_needTankOrOutside_2 (by decide) (fun h2 => ?_) (fun h2 => ?_)
  · exact g_return C dX5_needTankOrOutside_10 ⟨Nat.le_of_ble_eq_true rfl, Nat.le_of_ble_eq_true rfl⟩ (tkEnd.rf rfl rfl rfl)
  · refine g_aload_n C (i := 0) dX5_needTankOrOutside_5 rfl rfl ?_
    refine g_iload_n C (i := 1) dX5_needTankOrOutside_6 rfl rfl ?_
    refine g_callV C (q := (RX5, TX5, 4)) (rest := _) dX5_needTankOrOutside_7 mm_X5_needTank ml_X5_65 mv_yX5_needTank ms_yX5_needTank (c_X5_needTank_ok hX hP i (fun z => h ⟨h2, z⟩)) rfl hX.1 rfl rfl ⟨by decide, Nat.le_of_ble_eq_true rfl, Nat.le_of_ble_eq_true rfl, Nat.le_of_ble_eq_true rfl⟩ (tk_retn ?_) tk_nothr
    exact g_return C dX5_needTankOrOutside_10 ⟨Nat.le_of_ble_eq_true rfl, Nat.le_of_ble_eq_true rfl⟩ (tkEnd.rf rfl rfl rfl)
end TKNEED

section TKINIT
variable {p : Nat} {S : Nat → Nat × Nat} {R V : Nat → Nat → Option Nat} {I : tkI} {L : tkL}
/-- cell o is made, and goes to field j of object k -/
def al (p k j o : Nat) (R : Nat → Nat → Option Nat) : Nat → Nat → Option Nat := tk2 (tk1 R o (fun _ => none)) k j (some (p + o))
def rT (p : Nat) (R : Nat → Nat → Option Nat) : Nat → Nat → Option Nat := (al p 1 5 6 (al p 1 4 5 (al p 1 3 4 (al p 1 2 3 (al p 1 1 2 R)))))
def rS (p : Nat) (R : Nat → Nat → Option Nat) : Nat → Nat → Option Nat := (al p 7 4 11 (al p 7 3 10 (al p 7 2 9 (al p 7 1 8 R))))
def rU (p : Nat) (R : Nat → Nat → Option Nat) : Nat → Nat → Option Nat := (al p 12 12 24 (al p 12 11 23 (al p 12 10 22 (al p 12 9 21 (al p 12 8 20 (al p 12 7 19 (al p 12 6 18 (al p 12 5 17 (al p 12 4 16 (al p 12 3 15 (al p 12 2 14 (al p 12 1 13 R))))))))))))
def rL (p : Nat) (R : Nat → Nat → Option Nat) : Nat → Nat → Option Nat := (al p 25 2 27 (al p 25 1 26 R))
def rOb (o : Nat) (R : Nat → Nat → Option Nat) : Nat → Nat → Option Nat := tk1 R o (fun _ => none)
def rPl (p : Nat) (R : Nat → Nat → Option Nat) : Nat → Nat → Option Nat := tk2 (rL p (rOb 25 (tk2 (rU p (rOb 12 (tk2 (rS p (rOb 7 (tk2 (rT p (rOb 1 R)) 0 0 (some (p + 1))))) 0 1 (some (p + 7))))) 0 2 (some (p + 12))))) 0 3 (some (p + 25))
theorem c_X4_init : tkCon false (.code yX4_init cX4_init 1 none) yX4_init 2 [.ref (p + 1)] (bM p 2 pT S R V) (reg p 2 zI I) (reg p 2 zL L) 5 40 (.inl none) (bM p 7 pT S (rT p R) V) (reg p 7 zI I) (reg p 7 zL L) := by
  refine tkCon.of (by decide) (Nat.le_of_ble_eq_true rfl) (fun X C => ?_)
  refine g_aload_n C (i := 0) dX4_init_0 rfl rfl ?_
  refine g_objInit C dX4_init_1 ml_X4_3 mv_objectInit mc_objectInit (by decide) (Nat.le_of_ble_eq_true rfl) ?_
  refine g_aload_n C (i := 0) dX4_init_4 rfl rfl ?_
  refine g_bipush C (8) dX4_init_5 rfl ?_
  refine b_newa_i C 8 dX4_init_7 rfl ma_int (by decide) (by decide) (by decide) (Nat.le_of_ble_eq_true rfl) (Nat.le_of_ble_eq_true rfl) ?_
  refine b_putF C (k := 1) (j := 1) (b0 := p + 2) (RX4, TX4, 6) dX4_init_9 rfl (by decide) ml_X4_9 rfl (by decide) ⟨rfl, rfl, rfl⟩ rfl ?_
  refine g_aload_n C (i := 0) dX4_init_12 rfl rfl ?_
  refine g_bipush C (8) dX4_init_13 rfl ?_
  refine b_newa_i C 8 dX4_init_15 rfl ma_int (by decide) (by decide) (by decide) (Nat.le_of_ble_eq_true rfl) (Nat.le_of_ble_eq_true rfl) ?_
  refine b_putF C (k := 1) (j := 2) (b0 := p + 3) (RX4, TX4, 6) dX4_init_17 rfl (by decide) ml_X4_15 rfl (by decide) ⟨rfl, rfl, rfl⟩ rfl ?_
  refine g_aload_n C (i := 0) dX4_init_20 rfl rfl ?_
  refine g_bipush C (8) dX4_init_21 rfl ?_
  refine b_newa_i C 8 dX4_init_23 rfl ma_int (by decide) (by decide) (by decide) (Nat.le_of_ble_eq_true rfl) (Nat.le_of_ble_eq_true rfl) ?_
  refine b_putF C (k := 1) (j := 3) (b0 := p + 4) (RX4, TX4, 6) dX4_init_25 rfl (by decide) ml_X4_18 rfl (by decide) ⟨rfl, rfl, rfl⟩ rfl ?_
  refine g_aload_n C (i := 0) dX4_init_28 rfl rfl ?_
  refine g_bipush C (8) dX4_init_29 rfl ?_
  refine b_newa_l C 8 dX4_init_31 rfl ma_long (by decide) (by decide) (by decide) (Nat.le_of_ble_eq_true rfl) (Nat.le_of_ble_eq_true rfl) ?_
  refine b_putF C (k := 1) (j := 4) (b0 := p + 5) (RX4, TX4, 6) dX4_init_33 rfl (by decide) ml_X4_21 rfl (by decide) ⟨rfl, rfl, rfl⟩ rfl ?_
  refine g_aload_n C (i := 0) dX4_init_36 rfl rfl ?_
  refine g_bipush C (8) dX4_init_37 rfl ?_
  refine b_newa_i C 8 dX4_init_39 rfl ma_int (by decide) (by decide) (by decide) (Nat.le_of_ble_eq_true rfl) (Nat.le_of_ble_eq_true rfl) ?_
  refine b_putF C (k := 1) (j := 5) (b0 := p + 6) (RX4, TX4, 6) dX4_init_41 rfl (by decide) ml_X4_25 rfl (by decide) ⟨rfl, rfl, rfl⟩ rfl ?_
  exact g_return C dX4_init_44 ⟨Nat.le_of_ble_eq_true rfl, Nat.le_of_ble_eq_true rfl⟩ (tkEnd.rf rfl rfl rfl)
theorem c_X3_init : tkCon false (.code yX3_init cX3_init 1 none) yX3_init 2 [.ref (p + 7)] (bM p 8 pT S R V) (reg p 8 zI I) (reg p 8 zL L) 4 40 (.inl none) (bM p 12 pT S (rS p R) V) (reg p 12 zI I) (reg p 12 zL L) := by
  refine tkCon.of (by decide) (Nat.le_of_ble_eq_true rfl) (fun X C => ?_)
  refine g_aload_n C (i := 0) dX3_init_0 rfl rfl ?_
  refine g_objInit C dX3_init_1 ml_X3_3 mv_objectInit mc_objectInit (by decide) (Nat.le_of_ble_eq_true rfl) ?_
  refine g_aload_n C (i := 0) dX3_init_4 rfl rfl ?_
  refine g_bipush C (10) dX3_init_5 rfl ?_
  refine b_newa_i C 10 dX3_init_7 rfl ma_int (by decide) (by decide) (by decide) (Nat.le_of_ble_eq_true rfl) (Nat.le_of_ble_eq_true rfl) ?_
  refine b_putF C (k := 7) (j := 1) (b0 := p + 8) (RX3, TX3, 5) dX3_init_9 rfl (by decide) ml_X3_9 rfl (by decide) ⟨rfl, rfl, rfl⟩ rfl ?_
  refine g_aload_n C (i := 0) dX3_init_12 rfl rfl ?_
  refine g_bipush C (10) dX3_init_13 rfl ?_
  refine b_newa_i C 10 dX3_init_15 rfl ma_int (by decide) (by decide) (by decide) (Nat.le_of_ble_eq_true rfl) (Nat.le_of_ble_eq_true rfl) ?_
  refine b_putF C (k := 7) (j := 2) (b0 := p + 9) (RX3, TX3, 5) dX3_init_17 rfl (by decide) ml_X3_15 rfl (by decide) ⟨rfl, rfl, rfl⟩ rfl ?_
  refine g_aload_n C (i := 0) dX3_init_20 rfl rfl ?_
  refine g_bipush C (10) dX3_init_21 rfl ?_
  refine b_newa_i C 10 dX3_init_23 rfl ma_int (by decide) (by decide) (by decide) (Nat.le_of_ble_eq_true rfl) (Nat.le_of_ble_eq_true rfl) ?_
  refine b_putF C (k := 7) (j := 3) (b0 := p + 10) (RX3, TX3, 5) dX3_init_25 rfl (by decide) ml_X3_18 rfl (by decide) ⟨rfl, rfl, rfl⟩ rfl ?_
  refine g_aload_n C (i := 0) dX3_init_28 rfl rfl ?_
  refine g_bipush C (10) dX3_init_29 rfl ?_
  refine b_newa_z C 10 dX3_init_31 rfl ma_boolean (by decide) (by decide) (by decide) (Nat.le_of_ble_eq_true rfl) (Nat.le_of_ble_eq_true rfl) ?_
  refine b_putF C (k := 7) (j := 4) (b0 := p + 11) (RX3, TX3, 5) dX3_init_33 rfl (by decide) ml_X3_21 rfl (by decide) ⟨rfl, rfl, rfl⟩ rfl ?_
  exact g_return C dX3_init_36 ⟨Nat.le_of_ble_eq_true rfl, Nat.le_of_ble_eq_true rfl⟩ (tkEnd.rf rfl rfl rfl)
theorem c_X2_init : tkCon false (.code yX2_init cX2_init 1 none) yX2_init 2 [.ref (p + 12)] (bM p 13 pT S R V) (reg p 13 zI I) (reg p 13 zL L) 12 192 (.inl none) (bM p 25 pT S (rU p R) V) (reg p 25 zI I) (reg p 25 zL L) := by
  refine tkCon.of (by decide) (Nat.le_of_ble_eq_true rfl) (fun X C => ?_)
  refine g_aload_n C (i := 0) dX2_init_0 rfl rfl ?_
  refine g_objInit C dX2_init_1 ml_X2_3 mv_objectInit mc_objectInit (by decide) (Nat.le_of_ble_eq_true rfl) ?_
  refine g_aload_n C (i := 0) dX2_init_4 rfl rfl ?_
  refine g_bipush C (16) dX2_init_5 rfl ?_
  refine b_newa_i C 16 dX2_init_7 rfl ma_int (by decide) (by decide) (by decide) (Nat.le_of_ble_eq_true rfl) (Nat.le_of_ble_eq_true rfl) ?_
  refine b_putF C (k := 12) (j := 1) (b0 := p + 13) (RX2, TX2, 13) dX2_init_9 rfl (by decide) ml_X2_9 rfl (by decide) ⟨rfl, rfl, rfl⟩ rfl ?_
  refine g_aload_n C (i := 0) dX2_init_12 rfl rfl ?_
  refine g_bipush C (16) dX2_init_13 rfl ?_
  refine b_newa_i C 16 dX2_init_15 rfl ma_int (by decide) (by decide) (by decide) (Nat.le_of_ble_eq_true rfl) (Nat.le_of_ble_eq_true rfl) ?_
  refine b_putF C (k := 12) (j := 2) (b0 := p + 14) (RX2, TX2, 13) dX2_init_17 rfl (by decide) ml_X2_15 rfl (by decide) ⟨rfl, rfl, rfl⟩ rfl ?_
  refine g_aload_n C (i := 0) dX2_init_20 rfl rfl ?_
  refine g_bipush C (16) dX2_init_21 rfl ?_
  refine b_newa_i C 16 dX2_init_23 rfl ma_int (by decide) (by decide) (by decide) (Nat.le_of_ble_eq_true rfl) (Nat.le_of_ble_eq_true rfl) ?_
  refine b_putF C (k := 12) (j := 3) (b0 := p + 15) (RX2, TX2, 13) dX2_init_25 rfl (by decide) ml_X2_18 rfl (by decide) ⟨rfl, rfl, rfl⟩ rfl ?_
  refine g_aload_n C (i := 0) dX2_init_28 rfl rfl ?_
  refine g_bipush C (16) dX2_init_29 rfl ?_
  refine b_newa_i C 16 dX2_init_31 rfl ma_int (by decide) (by decide) (by decide) (Nat.le_of_ble_eq_true rfl) (Nat.le_of_ble_eq_true rfl) ?_
  refine b_putF C (k := 12) (j := 4) (b0 := p + 16) (RX2, TX2, 13) dX2_init_33 rfl (by decide) ml_X2_21 rfl (by decide) ⟨rfl, rfl, rfl⟩ rfl ?_
  refine g_aload_n C (i := 0) dX2_init_36 rfl rfl ?_
  refine g_bipush C (16) dX2_init_37 rfl ?_
  refine b_newa_i C 16 dX2_init_39 rfl ma_int (by decide) (by decide) (by decide) (Nat.le_of_ble_eq_true rfl) (Nat.le_of_ble_eq_true rfl) ?_
  refine b_putF C (k := 12) (j := 5) (b0 := p + 17) (RX2, TX2, 13) dX2_init_41 rfl (by decide) ml_X2_24 rfl (by decide) ⟨rfl, rfl, rfl⟩ rfl ?_
  refine g_aload_n C (i := 0) dX2_init_44 rfl rfl ?_
  refine g_bipush C (16) dX2_init_45 rfl ?_
  refine b_newa_z C 16 dX2_init_47 rfl ma_boolean (by decide) (by decide) (by decide) (Nat.le_of_ble_eq_true rfl) (Nat.le_of_ble_eq_true rfl) ?_
  refine b_putF C (k := 12) (j := 6) (b0 := p + 18) (RX2, TX2, 13) dX2_init_49 rfl (by decide) ml_X2_27 rfl (by decide) ⟨rfl, rfl, rfl⟩ rfl ?_
  refine g_aload_n C (i := 0) dX2_init_52 rfl rfl ?_
  refine g_bipush C (16) dX2_init_53 rfl ?_
  refine b_newa_l C 16 dX2_init_55 rfl ma_long (by decide) (by decide) (by decide) (Nat.le_of_ble_eq_true rfl) (Nat.le_of_ble_eq_true rfl) ?_
  refine b_putF C (k := 12) (j := 7) (b0 := p + 19) (RX2, TX2, 13) dX2_init_57 rfl (by decide) ml_X2_31 rfl (by decide) ⟨rfl, rfl, rfl⟩ rfl ?_
  refine g_aload_n C (i := 0) dX2_init_60 rfl rfl ?_
  refine g_bipush C (16) dX2_init_61 rfl ?_
  refine b_newa_l C 16 dX2_init_63 rfl ma_long (by decide) (by decide) (by decide) (Nat.le_of_ble_eq_true rfl) (Nat.le_of_ble_eq_true rfl) ?_
  refine b_putF C (k := 12) (j := 8) (b0 := p + 20) (RX2, TX2, 13) dX2_init_65 rfl (by decide) ml_X2_35 rfl (by decide) ⟨rfl, rfl, rfl⟩ rfl ?_
  refine g_aload_n C (i := 0) dX2_init_68 rfl rfl ?_
  refine g_bipush C (16) dX2_init_69 rfl ?_
  refine b_newa_l C 16 dX2_init_71 rfl ma_long (by decide) (by decide) (by decide) (Nat.le_of_ble_eq_true rfl) (Nat.le_of_ble_eq_true rfl) ?_
  refine b_putF C (k := 12) (j := 9) (b0 := p + 21) (RX2, TX2, 13) dX2_init_73 rfl (by decide) ml_X2_38 rfl (by decide) ⟨rfl, rfl, rfl⟩ rfl ?_
  refine g_aload_n C (i := 0) dX2_init_76 rfl rfl ?_
  refine g_bipush C (16) dX2_init_77 rfl ?_
  refine b_newa_i C 16 dX2_init_79 rfl ma_int (by decide) (by decide) (by decide) (Nat.le_of_ble_eq_true rfl) (Nat.le_of_ble_eq_true rfl) ?_
  refine b_putF C (k := 12) (j := 10) (b0 := p + 22) (RX2, TX2, 13) dX2_init_81 rfl (by decide) ml_X2_41 rfl (by decide) ⟨rfl, rfl, rfl⟩ rfl ?_
  refine g_aload_n C (i := 0) dX2_init_84 rfl rfl ?_
  refine g_bipush C (16) dX2_init_85 rfl ?_
  refine b_newa_i C 16 dX2_init_87 rfl ma_int (by decide) (by decide) (by decide) (Nat.le_of_ble_eq_true rfl) (Nat.le_of_ble_eq_true rfl) ?_
  refine b_putF C (k := 12) (j := 11) (b0 := p + 23) (RX2, TX2, 13) dX2_init_89 rfl (by decide) ml_X2_44 rfl (by decide) ⟨rfl, rfl, rfl⟩ rfl ?_
  refine g_aload_n C (i := 0) dX2_init_92 rfl rfl ?_
  refine g_bipush C (16) dX2_init_93 rfl ?_
  refine b_newa_i C 16 dX2_init_95 rfl ma_int (by decide) (by decide) (by decide) (Nat.le_of_ble_eq_true rfl) (Nat.le_of_ble_eq_true rfl) ?_
  refine b_putF C (k := 12) (j := 12) (b0 := p + 24) (RX2, TX2, 13) dX2_init_97 rfl (by decide) ml_X2_47 rfl (by decide) ⟨rfl, rfl, rfl⟩ rfl ?_
  exact g_return C dX2_init_100 ⟨Nat.le_of_ble_eq_true rfl, Nat.le_of_ble_eq_true rfl⟩ (tkEnd.rf rfl rfl rfl)
theorem c_X0_init : tkCon false (.code yX0_init cX0_init 1 none) yX0_init 2 [.ref (p + 25)] (bM p 26 pT S R V) (reg p 26 zI I) (reg p 26 zL L) 2 60 (.inl none) (bM p 28 pT S (rL p R) V) (reg p 28 zI I) (reg p 28 zL L) := by
  refine tkCon.of (by decide) (Nat.le_of_ble_eq_true rfl) (fun X C => ?_)
  refine g_aload_n C (i := 0) dX0_init_0 rfl rfl ?_
  refine g_objInit C dX0_init_1 ml_X0_3 mv_objectInit mc_objectInit (by decide) (Nat.le_of_ble_eq_true rfl) ?_
  refine g_aload_n C (i := 0) dX0_init_4 rfl rfl ?_
  refine g_bipush C (30) dX0_init_5 rfl ?_
  refine b_newa_l C 30 dX0_init_7 rfl ma_long (by decide) (by decide) (by decide) (Nat.le_of_ble_eq_true rfl) (Nat.le_of_ble_eq_true rfl) ?_
  refine b_putF C (k := 25) (j := 1) (b0 := p + 26) (RX0, TX0, 3) dX0_init_9 rfl (by decide) ml_X0_9 rfl (by decide) ⟨rfl, rfl, rfl⟩ rfl ?_
  refine g_aload_n C (i := 0) dX0_init_12 rfl rfl ?_
  refine g_bipush C (30) dX0_init_13 rfl ?_
  refine b_newa_i C 30 dX0_init_15 rfl ma_int (by decide) (by decide) (by decide) (Nat.le_of_ble_eq_true rfl) (Nat.le_of_ble_eq_true rfl) ?_
  refine b_putF C (k := 25) (j := 2) (b0 := p + 27) (RX0, TX0, 3) dX0_init_17 rfl (by decide) ml_X0_15 rfl (by decide) ⟨rfl, rfl, rfl⟩ rfl ?_
  exact g_return C dX0_init_20 ⟨Nat.le_of_ble_eq_true rfl, Nat.le_of_ble_eq_true rfl⟩ (tkEnd.rf rfl rfl rfl)
theorem c_X1_init : tkCon false (.code yX1_init cX1_init 1 none) yX1_init 3 [.ref (p + 0)] (bM p 1 pT S R V) (reg p 1 zI I) (reg p 1 zL L) 27 359 (.inl none) (bM p 28 pT S (rPl p R) V) (reg p 28 zI I) (reg p 28 zL L) := by
  refine tkCon.of (by decide) (Nat.le_of_ble_eq_true rfl) (fun X C => ?_)
  refine g_aload_n C (i := 0) dX1_init_0 rfl rfl ?_
  refine g_objInit C dX1_init_1 ml_X1_1 mv_objectInit mc_objectInit (by decide) (Nat.le_of_ble_eq_true rfl) ?_
  refine g_aload_n C (i := 0) dX1_init_4 rfl rfl ?_
  refine b_new C 4 (RX4, TX4, 6) dX1_init_5 rfl ml_X1_7 mn_X4 mi_X4 rfl (Nat.le_of_ble_eq_true rfl) (Nat.le_of_ble_eq_true rfl) ?_
  refine g_dup C dX1_init_8 rfl ?_
  refine g_callIN C dX1_init_9 mm_X4_init ml_X1_9 mv_yX4_init rfl (c_X4_init) rfl ⟨by decide, Nat.le_of_ble_eq_true rfl, Nat.le_of_ble_eq_true rfl, Nat.le_of_ble_eq_true rfl⟩ (tk_retn ?_) tk_nothr
  refine b_putF C (k := 0) (j := 0) (b0 := p + 1) (RX1, TX1, 5) dX1_init_12 rfl (by decide) ml_X1_10 rfl (by decide) ⟨rfl, rfl, rfl⟩ rfl ?_
  refine g_aload_n C (i := 0) dX1_init_15 rfl rfl ?_
  refine b_new C 3 (RX3, TX3, 5) dX1_init_16 rfl ml_X1_16 mn_X3 mi_X3 rfl (Nat.le_of_ble_eq_true rfl) (Nat.le_of_ble_eq_true rfl) ?_
  refine g_dup C dX1_init_19 rfl ?_
  refine g_callIN C dX1_init_20 mm_X3_init ml_X1_18 mv_yX3_init rfl (c_X3_init) rfl ⟨by decide, Nat.le_of_ble_eq_true rfl, Nat.le_of_ble_eq_true rfl, Nat.le_of_ble_eq_true rfl⟩ (tk_retn ?_) tk_nothr
  refine b_putF C (k := 0) (j := 1) (b0 := p + 7) (RX1, TX1, 5) dX1_init_23 rfl (by decide) ml_X1_19 rfl (by decide) ⟨rfl, rfl, rfl⟩ rfl ?_
  refine g_aload_n C (i := 0) dX1_init_26 rfl rfl ?_
  refine b_new C 2 (RX2, TX2, 13) dX1_init_27 rfl ml_X1_23 mn_X2 mi_X2 rfl (Nat.le_of_ble_eq_true rfl) (Nat.le_of_ble_eq_true rfl) ?_
  refine g_dup C dX1_init_30 rfl ?_
  refine g_callIN C dX1_init_31 mm_X2_init ml_X1_25 mv_yX2_init rfl (c_X2_init) rfl ⟨by decide, Nat.le_of_ble_eq_true rfl, Nat.le_of_ble_eq_true rfl, Nat.le_of_ble_eq_true rfl⟩ (tk_retn ?_) tk_nothr
  refine b_putF C (k := 0) (j := 2) (b0 := p + 12) (RX1, TX1, 5) dX1_init_34 rfl (by decide) ml_X1_26 rfl (by decide) ⟨rfl, rfl, rfl⟩ rfl ?_
  refine g_aload_n C (i := 0) dX1_init_37 rfl rfl ?_
  refine b_new C 0 (RX0, TX0, 3) dX1_init_38 rfl ml_X1_30 mn_X0 mi_X0 rfl (Nat.le_of_ble_eq_true rfl) (Nat.le_of_ble_eq_true rfl) ?_
  refine g_dup C dX1_init_41 rfl ?_
  refine g_callIN C dX1_init_42 mm_X0_init ml_X1_32 mv_yX0_init rfl (c_X0_init) rfl ⟨by decide, Nat.le_of_ble_eq_true rfl, Nat.le_of_ble_eq_true rfl, Nat.le_of_ble_eq_true rfl⟩ (tk_retn ?_) tk_nothr
  refine b_putF C (k := 0) (j := 3) (b0 := p + 25) (RX1, TX1, 5) dX1_init_45 rfl (by decide) ml_X1_33 rfl (by decide) ⟨rfl, rfl, rfl⟩ rfl ?_
  exact g_return C dX1_init_48 ⟨Nat.le_of_ble_eq_true rfl, Nat.le_of_ble_eq_true rfl⟩ (tkEnd.rf rfl rfl rfl)
end TKINIT

section TKCOPY
variable {σ : tkM} {p q : Nat} {I0 v : tkI} {L0 w : tkL}
def cpR {α : Type} (k n : Nat) (S f : Nat → Nat → α) : Nat → Nat → α := tk1 f k (va_cpy (S k) (f k) 0 0 n)
/-! a part of a plant is taken over from S, M -/
def sCpT (S I : tkI) : tkI := cpR 4 8 S (cpR 3 8 S (cpR 2 8 S (tk2 I 1 0 (S 1 0))))
def sCpS (S I : tkI) : tkI := cpR 11 10 S (cpR 10 10 S (cpR 9 10 S (cpR 8 10 S (tk2 I 7 0 (S 7 0)))))
def sCpP (S I : tkI) : tkI := cpR 18 16 S (cpR 17 16 S (cpR 16 16 S (cpR 15 16 S (cpR 14 16 S (cpR 13 16 S (tk2 I 12 0 (S 12 0)))))))
def sCpI (S I : tkI) : tkI := cpR 27 30 S (sCpP S (sCpS S (sCpT S I)))
def sCpL (M L : tkL) : tkL := tk2 (cpR 26 30 M (tk2 (cpR 21 16 M (cpR 20 16 M (cpR 19 16 M (cpR 5 8 M L)))) 25 0 (M 25 0))) 0 4 (M 0 4)
theorem c_X4_copyFrom (hP : tkReg 28 pT pF σ p) (hQ : tkReg 28 pT pF σ q) (hd : q + 28 ≤ p ∨ p + 28 ≤ q) :
    tkCon false (.code yX4_copyFrom cX4_copyFrom 2 none) yX4_copyFrom 2 [.ref (p + 1), .ref (q + 1)] σ (reg p 28 I0 v) (reg p 28 L0 w) 0 0 (.inl none) σ (reg p 28 (sCpT (fun k => v (q + k)) I0) v) (reg p 28 (cpR 5 8 (fun k => w (q + k)) L0) w) := by
  refine tkCon.of (by decide) (Nat.le_of_ble_eq_true rfl) (fun X C => ?_)
  refine g_aload_n C (i := 0) dX4_copyFrom_0 rfl rfl ?_
  refine g_aload_n C (i := 1) dX4_copyFrom_1 rfl rfl ?_
  refine g_getI C 4 0 (RX4, TX4, 6) dX4_copyFrom_2 (hQ.1 1 (by decide)) (reg_off (by omega)) ml_X4_28 rfl (by decide) (Or.inl rfl) ?_
  refine g_putI C 4 0 (RX4, TX4, 6) dX4_copyFrom_5 (hP.1 1 (by decide)) (tk2_reg (k := 1) (by decide)) ml_X4_28 rfl (by decide) rfl rfl ?_
  refine g_aload_n C (i := 1) dX4_copyFrom_8 rfl rfl ?_
  refine g_getR C 4 1 (RX4, TX4, 6) dX4_copyFrom_9 (hQ.1 1 (by decide)) (hQ.2 1 1 2 (by decide) rfl) ml_X4_9 rfl (by decide) rfl ?_
  refine g_iconst C (0) dX4_copyFrom_12 rfl ?_
  refine g_aload_n C (i := 0) dX4_copyFrom_13 rfl rfl ?_
  refine g_getR C 4 1 (RX4, TX4, 6) dX4_copyFrom_14 (hP.1 1 (by decide)) (hP.2 1 1 2 (by decide) rfl) ml_X4_9 rfl (by decide) rfl ?_
  refine g_iconst C (0) dX4_copyFrom_17 rfl ?_
  refine g_bipush C (8) dX4_copyFrom_18 rfl ?_
  refine g_cp_i C dX4_copyFrom_20 ml_X4_32 (hQ.1 2 (by decide)) (hP.1 2 (by decide)) rfl (cp_reg (k := 2) (by decide) (reg_off (by omega))) (by decide) (by decide) (by decide) (by decide) (Nat.le_of_ble_eq_true rfl) ?_
  refine g_aload_n C (i := 1) dX4_copyFrom_23 rfl rfl ?_
  refine g_getR C 4 2 (RX4, TX4, 6) dX4_copyFrom_24 (hQ.1 1 (by decide)) (hQ.2 1 2 3 (by decide) rfl) ml_X4_15 rfl (by decide) rfl ?_
  refine g_iconst C (0) dX4_copyFrom_27 rfl ?_
  refine g_aload_n C (i := 0) dX4_copyFrom_28 rfl rfl ?_
  refine g_getR C 4 2 (RX4, TX4, 6) dX4_copyFrom_29 (hP.1 1 (by decide)) (hP.2 1 2 3 (by decide) rfl) ml_X4_15 rfl (by decide) rfl ?_
  refine g_iconst C (0) dX4_copyFrom_32 rfl ?_
  refine g_bipush C (8) dX4_copyFrom_33 rfl ?_
  refine g_cp_i C dX4_copyFrom_35 ml_X4_32 (hQ.1 3 (by decide)) (hP.1 3 (by decide)) rfl (cp_reg (k := 3) (by decide) (reg_off (by omega))) (by decide) (by decide) (by decide) (by decide) (Nat.le_of_ble_eq_true rfl) ?_
  refine g_aload_n C (i := 1) dX4_copyFrom_38 rfl rfl ?_
  refine g_getR C 4 3 (RX4, TX4, 6) dX4_copyFrom_39 (hQ.1 1 (by decide)) (hQ.2 1 3 4 (by decide) rfl) ml_X4_18 rfl (by decide) rfl ?_
  refine g_iconst C (0) dX4_copyFrom_42 rfl ?_
  refine g_aload_n C (i := 0) dX4_copyFrom_43 rfl rfl ?_
  refine g_getR C 4 3 (RX4, TX4, 6) dX4_copyFrom_44 (hP.1 1 (by decide)) (hP.2 1 3 4 (by decide) rfl) ml_X4_18 rfl (by decide) rfl ?_
  refine g_iconst C (0) dX4_copyFrom_47 rfl ?_
  refine g_bipush C (8) dX4_copyFrom_48 rfl ?_
  refine g_cp_i C dX4_copyFrom_50 ml_X4_32 (hQ.1 4 (by decide)) (hP.1 4 (by decide)) rfl (cp_reg (k := 4) (by decide) (reg_off (by omega))) (by decide) (by decide) (by decide) (by decide) (Nat.le_of_ble_eq_true rfl) ?_
  refine g_aload_n C (i := 1) dX4_copyFrom_53 rfl rfl ?_
  refine g_getR C 4 4 (RX4, TX4, 6) dX4_copyFrom_54 (hQ.1 1 (by decide)) (hQ.2 1 4 5 (by decide) rfl) ml_X4_21 rfl (by decide) rfl ?_
  refine g_iconst C (0) dX4_copyFrom_57 rfl ?_
  refine g_aload_n C (i := 0) dX4_copyFrom_58 rfl rfl ?_
  refine g_getR C 4 4 (RX4, TX4, 6) dX4_copyFrom_59 (hP.1 1 (by decide)) (hP.2 1 4 5 (by decide) rfl) ml_X4_21 rfl (by decide) rfl ?_
  refine g_iconst C (0) dX4_copyFrom_62 rfl ?_
  refine g_bipush C (8) dX4_copyFrom_63 rfl ?_
  refine g_cp_l C dX4_copyFrom_65 ml_X4_32 (hQ.1 5 (by decide)) (hP.1 5 (by decide)) rfl (cp_reg (k := 5) (by decide) (reg_off (by omega))) (by decide) (by decide) (by decide) (by decide) (Nat.le_of_ble_eq_true rfl) ?_
  exact g_return C dX4_copyFrom_68 ⟨Nat.le_of_ble_eq_true rfl, Nat.le_of_ble_eq_true rfl⟩ (tkEnd.rf rfl rfl rfl)
theorem c_X3_copyFrom (hP : tkReg 28 pT pF σ p) (hQ : tkReg 28 pT pF σ q) (hd : q + 28 ≤ p ∨ p + 28 ≤ q) :
    tkCon false (.code yX3_copyFrom cX3_copyFrom 2 none) yX3_copyFrom 2 [.ref (p + 7), .ref (q + 7)] σ (reg p 28 I0 v) (reg p 28 L0 w) 0 0 (.inl none) σ (reg p 28 (sCpS (fun k => v (q + k)) I0) v) (reg p 28 L0 w) := by
  refine tkCon.of (by decide) (Nat.le_of_ble_eq_true rfl) (fun X C => ?_)
  refine g_aload_n C (i := 0) dX3_copyFrom_0 rfl rfl ?_
  refine g_aload_n C (i := 1) dX3_copyFrom_1 rfl rfl ?_
  refine g_getI C 3 0 (RX3, TX3, 5) dX3_copyFrom_2 (hQ.1 7 (by decide)) (reg_off (by omega)) ml_X3_25 rfl (by decide) (Or.inl rfl) ?_
  refine g_putI C 3 0 (RX3, TX3, 5) dX3_copyFrom_5 (hP.1 7 (by decide)) (tk2_reg (k := 7) (by decide)) ml_X3_25 rfl (by decide) rfl rfl ?_
  refine g_aload_n C (i := 1) dX3_copyFrom_8 rfl rfl ?_
  refine g_getR C 3 1 (RX3, TX3, 5) dX3_copyFrom_9 (hQ.1 7 (by decide)) (hQ.2 7 1 8 (by decide) rfl) ml_X3_9 rfl (by decide) rfl ?_
  refine g_iconst C (0) dX3_copyFrom_12 rfl ?_
  refine g_aload_n C (i := 0) dX3_copyFrom_13 rfl rfl ?_
  refine g_getR C 3 1 (RX3, TX3, 5) dX3_copyFrom_14 (hP.1 7 (by decide)) (hP.2 7 1 8 (by decide) rfl) ml_X3_9 rfl (by decide) rfl ?_
  refine g_iconst C (0) dX3_copyFrom_17 rfl ?_
  refine g_bipush C (10) dX3_copyFrom_18 rfl ?_
  refine g_cp_i C dX3_copyFrom_20 ml_X3_29 (hQ.1 8 (by decide)) (hP.1 8 (by decide)) rfl (cp_reg (k := 8) (by decide) (reg_off (by omega))) (by decide) (by decide) (by decide) (by decide) (Nat.le_of_ble_eq_true rfl) ?_
  refine g_aload_n C (i := 1) dX3_copyFrom_23 rfl rfl ?_
  refine g_getR C 3 2 (RX3, TX3, 5) dX3_copyFrom_24 (hQ.1 7 (by decide)) (hQ.2 7 2 9 (by decide) rfl) ml_X3_15 rfl (by decide) rfl ?_
  refine g_iconst C (0) dX3_copyFrom_27 rfl ?_
  refine g_aload_n C (i := 0) dX3_copyFrom_28 rfl rfl ?_
  refine g_getR C 3 2 (RX3, TX3, 5) dX3_copyFrom_29 (hP.1 7 (by decide)) (hP.2 7 2 9 (by decide) rfl) ml_X3_15 rfl (by decide) rfl ?_
  refine g_iconst C (0) dX3_copyFrom_32 rfl ?_
  refine g_bipush C (10) dX3_copyFrom_33 rfl ?_
  refine g_cp_i C dX3_copyFrom_35 ml_X3_29 (hQ.1 9 (by decide)) (hP.1 9 (by decide)) rfl (cp_reg (k := 9) (by decide) (reg_off (by omega))) (by decide) (by decide) (by decide) (by decide) (Nat.le_of_ble_eq_true rfl) ?_
  refine g_aload_n C (i := 1) dX3_copyFrom_38 rfl rfl ?_
  refine g_getR C 3 3 (RX3, TX3, 5) dX3_copyFrom_39 (hQ.1 7 (by decide)) (hQ.2 7 3 10 (by decide) rfl) ml_X3_18 rfl (by decide) rfl ?_
  refine g_iconst C (0) dX3_copyFrom_42 rfl ?_
  refine g_aload_n C (i := 0) dX3_copyFrom_43 rfl rfl ?_
  refine g_getR C 3 3 (RX3, TX3, 5) dX3_copyFrom_44 (hP.1 7 (by decide)) (hP.2 7 3 10 (by decide) rfl) ml_X3_18 rfl (by decide) rfl ?_
  refine g_iconst C (0) dX3_copyFrom_47 rfl ?_
  refine g_bipush C (10) dX3_copyFrom_48 rfl ?_
  refine g_cp_i C dX3_copyFrom_50 ml_X3_29 (hQ.1 10 (by decide)) (hP.1 10 (by decide)) rfl (cp_reg (k := 10) (by decide) (reg_off (by omega))) (by decide) (by decide) (by decide) (by decide) (Nat.le_of_ble_eq_true rfl) ?_
  refine g_aload_n C (i := 1) dX3_copyFrom_53 rfl rfl ?_
  refine g_getR C 3 4 (RX3, TX3, 5) dX3_copyFrom_54 (hQ.1 7 (by decide)) (hQ.2 7 4 11 (by decide) rfl) ml_X3_21 rfl (by decide) rfl ?_
  refine g_iconst C (0) dX3_copyFrom_57 rfl ?_
  refine g_aload_n C (i := 0) dX3_copyFrom_58 rfl rfl ?_
  refine g_getR C 3 4 (RX3, TX3, 5) dX3_copyFrom_59 (hP.1 7 (by decide)) (hP.2 7 4 11 (by decide) rfl) ml_X3_21 rfl (by decide) rfl ?_
  refine g_iconst C (0) dX3_copyFrom_62 rfl ?_
  refine g_bipush C (10) dX3_copyFrom_63 rfl ?_
  refine g_cp_z C dX3_copyFrom_65 ml_X3_29 (hQ.1 11 (by decide)) (hP.1 11 (by decide)) rfl (cp_reg (k := 11) (by decide) (reg_off (by omega))) (by decide) (by decide) (by decide) (by decide) (Nat.le_of_ble_eq_true rfl) ?_
  exact g_return C dX3_copyFrom_68 ⟨Nat.le_of_ble_eq_true rfl, Nat.le_of_ble_eq_true rfl⟩ (tkEnd.rf rfl rfl rfl)
theorem c_X2_copyFrom (hP : tkReg 28 pT pF σ p) (hQ : tkReg 28 pT pF σ q) (hd : q + 28 ≤ p ∨ p + 28 ≤ q) :
    tkCon false (.code yX2_copyFrom cX2_copyFrom 2 none) yX2_copyFrom 2 [.ref (p + 12), .ref (q + 12)] σ (reg p 28 I0 v) (reg p 28 L0 w) 0 0 (.inl none) σ (reg p 28 (sCpP (fun k => v (q + k)) I0) v) (reg p 28 (cpR 21 16 (fun k => w (q + k)) (cpR 20 16 (fun k => w (q + k)) (cpR 19 16 (fun k => w (q + k)) L0))) w) := by
  refine tkCon.of (by decide) (Nat.le_of_ble_eq_true rfl) (fun X C => ?_)
  refine g_aload_n C (i := 0) dX2_copyFrom_0 rfl rfl ?_
  refine g_aload_n C (i := 1) dX2_copyFrom_1 rfl rfl ?_
  refine g_getI C 2 0 (RX2, TX2, 13) dX2_copyFrom_2 (hQ.1 12 (by decide)) (reg_off (by omega)) ml_X2_50 rfl (by decide) (Or.inl rfl) ?_
  refine g_putI C 2 0 (RX2, TX2, 13) dX2_copyFrom_5 (hP.1 12 (by decide)) (tk2_reg (k := 12) (by decide)) ml_X2_50 rfl (by decide) rfl rfl ?_
  refine g_aload_n C (i := 1) dX2_copyFrom_8 rfl rfl ?_
  refine g_getR C 2 1 (RX2, TX2, 13) dX2_copyFrom_9 (hQ.1 12 (by decide)) (hQ.2 12 1 13 (by decide) rfl) ml_X2_9 rfl (by decide) rfl ?_
  refine g_iconst C (0) dX2_copyFrom_12 rfl ?_
  refine g_aload_n C (i := 0) dX2_copyFrom_13 rfl rfl ?_
  refine g_getR C 2 1 (RX2, TX2, 13) dX2_copyFrom_14 (hP.1 12 (by decide)) (hP.2 12 1 13 (by decide) rfl) ml_X2_9 rfl (by decide) rfl ?_
  refine g_iconst C (0) dX2_copyFrom_17 rfl ?_
  refine g_bipush C (16) dX2_copyFrom_18 rfl ?_
  refine g_cp_i C dX2_copyFrom_20 ml_X2_54 (hQ.1 13 (by decide)) (hP.1 13 (by decide)) rfl (cp_reg (k := 13) (by decide) (reg_off (by omega))) (by decide) (by decide) (by decide) (by decide) (Nat.le_of_ble_eq_true rfl) ?_
  refine g_aload_n C (i := 1) dX2_copyFrom_23 rfl rfl ?_
  refine g_getR C 2 2 (RX2, TX2, 13) dX2_copyFrom_24 (hQ.1 12 (by decide)) (hQ.2 12 2 14 (by decide) rfl) ml_X2_15 rfl (by decide) rfl ?_
  refine g_iconst C (0) dX2_copyFrom_27 rfl ?_
  refine g_aload_n C (i := 0) dX2_copyFrom_28 rfl rfl ?_
  refine g_getR C 2 2 (RX2, TX2, 13) dX2_copyFrom_29 (hP.1 12 (by decide)) (hP.2 12 2 14 (by decide) rfl) ml_X2_15 rfl (by decide) rfl ?_
  refine g_iconst C (0) dX2_copyFrom_32 rfl ?_
  refine g_bipush C (16) dX2_copyFrom_33 rfl ?_
  refine g_cp_i C dX2_copyFrom_35 ml_X2_54 (hQ.1 14 (by decide)) (hP.1 14 (by decide)) rfl (cp_reg (k := 14) (by decide) (reg_off (by omega))) (by decide) (by decide) (by decide) (by decide) (Nat.le_of_ble_eq_true rfl) ?_
  refine g_aload_n C (i := 1) dX2_copyFrom_38 rfl rfl ?_
  refine g_getR C 2 3 (RX2, TX2, 13) dX2_copyFrom_39 (hQ.1 12 (by decide)) (hQ.2 12 3 15 (by decide) rfl) ml_X2_18 rfl (by decide) rfl ?_
  refine g_iconst C (0) dX2_copyFrom_42 rfl ?_
  refine g_aload_n C (i := 0) dX2_copyFrom_43 rfl rfl ?_
  refine g_getR C 2 3 (RX2, TX2, 13) dX2_copyFrom_44 (hP.1 12 (by decide)) (hP.2 12 3 15 (by decide) rfl) ml_X2_18 rfl (by decide) rfl ?_
  refine g_iconst C (0) dX2_copyFrom_47 rfl ?_
  refine g_bipush C (16) dX2_copyFrom_48 rfl ?_
  refine g_cp_i C dX2_copyFrom_50 ml_X2_54 (hQ.1 15 (by decide)) (hP.1 15 (by decide)) rfl (cp_reg (k := 15) (by decide) (reg_off (by omega))) (by decide) (by decide) (by decide) (by decide) (Nat.le_of_ble_eq_true rfl) ?_
  refine g_aload_n C (i := 1) dX2_copyFrom_53 rfl rfl ?_
  refine g_getR C 2 4 (RX2, TX2, 13) dX2_copyFrom_54 (hQ.1 12 (by decide)) (hQ.2 12 4 16 (by decide) rfl) ml_X2_21 rfl (by decide) rfl ?_
  refine g_iconst C (0) dX2_copyFrom_57 rfl ?_
  refine g_aload_n C (i := 0) dX2_copyFrom_58 rfl rfl ?_
  refine g_getR C 2 4 (RX2, TX2, 13) dX2_copyFrom_59 (hP.1 12 (by decide)) (hP.2 12 4 16 (by decide) rfl) ml_X2_21 rfl (by decide) rfl ?_
  refine g_iconst C (0) dX2_copyFrom_62 rfl ?_
  refine g_bipush C (16) dX2_copyFrom_63 rfl ?_
  refine g_cp_i C dX2_copyFrom_65 ml_X2_54 (hQ.1 16 (by decide)) (hP.1 16 (by decide)) rfl (cp_reg (k := 16) (by decide) (reg_off (by omega))) (by decide) (by decide) (by decide) (by decide) (Nat.le_of_ble_eq_true rfl) ?_
  refine g_aload_n C (i := 1) dX2_copyFrom_68 rfl rfl ?_
  refine g_getR C 2 5 (RX2, TX2, 13) dX2_copyFrom_69 (hQ.1 12 (by decide)) (hQ.2 12 5 17 (by decide) rfl) ml_X2_24 rfl (by decide) rfl ?_
  refine g_iconst C (0) dX2_copyFrom_72 rfl ?_
  refine g_aload_n C (i := 0) dX2_copyFrom_73 rfl rfl ?_
  refine g_getR C 2 5 (RX2, TX2, 13) dX2_copyFrom_74 (hP.1 12 (by decide)) (hP.2 12 5 17 (by decide) rfl) ml_X2_24 rfl (by decide) rfl ?_
  refine g_iconst C (0) dX2_copyFrom_77 rfl ?_
  refine g_bipush C (16) dX2_copyFrom_78 rfl ?_
  refine g_cp_i C dX2_copyFrom_80 ml_X2_54 (hQ.1 17 (by decide)) (hP.1 17 (by decide)) rfl (cp_reg (k := 17) (by decide) (reg_off (by omega))) (by decide) (by decide) (by decide) (by decide) (Nat.le_of_ble_eq_true rfl) ?_
  refine g_aload_n C (i := 1) dX2_copyFrom_83 rfl rfl ?_
  refine g_getR C 2 6 (RX2, TX2, 13) dX2_copyFrom_84 (hQ.1 12 (by decide)) (hQ.2 12 6 18 (by decide) rfl) ml_X2_27 rfl (by decide) rfl ?_
  refine g_iconst C (0) dX2_copyFrom_87 rfl ?_
  refine g_aload_n C (i := 0) dX2_copyFrom_88 rfl rfl ?_
  refine g_getR C 2 6 (RX2, TX2, 13) dX2_copyFrom_89 (hP.1 12 (by decide)) (hP.2 12 6 18 (by decide) rfl) ml_X2_27 rfl (by decide) rfl ?_
  refine g_iconst C (0) dX2_copyFrom_92 rfl ?_
  refine g_bipush C (16) dX2_copyFrom_93 rfl ?_
  refine g_cp_z C dX2_copyFrom_95 ml_X2_54 (hQ.1 18 (by decide)) (hP.1 18 (by decide)) rfl (cp_reg (k := 18) (by decide) (reg_off (by omega))) (by decide) (by decide) (by decide) (by decide) (Nat.le_of_ble_eq_true rfl) ?_
  refine g_aload_n C (i := 1) dX2_copyFrom_98 rfl rfl ?_
  refine g_getR C 2 7 (RX2, TX2, 13) dX2_copyFrom_99 (hQ.1 12 (by decide)) (hQ.2 12 7 19 (by decide) rfl) ml_X2_31 rfl (by decide) rfl ?_
  refine g_iconst C (0) dX2_copyFrom_102 rfl ?_
  refine g_aload_n C (i := 0) dX2_copyFrom_103 rfl rfl ?_
  refine g_getR C 2 7 (RX2, TX2, 13) dX2_copyFrom_104 (hP.1 12 (by decide)) (hP.2 12 7 19 (by decide) rfl) ml_X2_31 rfl (by decide) rfl ?_
  refine g_iconst C (0) dX2_copyFrom_107 rfl ?_
  refine g_bipush C (16) dX2_copyFrom_108 rfl ?_
  refine g_cp_l C dX2_copyFrom_110 ml_X2_54 (hQ.1 19 (by decide)) (hP.1 19 (by decide)) rfl (cp_reg (k := 19) (by decide) (reg_off (by omega))) (by decide) (by decide) (by decide) (by decide) (Nat.le_of_ble_eq_true rfl) ?_
  refine g_aload_n C (i := 1) dX2_copyFrom_113 rfl rfl ?_
  refine g_getR C 2 8 (RX2, TX2, 13) dX2_copyFrom_114 (hQ.1 12 (by decide)) (hQ.2 12 8 20 (by decide) rfl) ml_X2_35 rfl (by decide) rfl ?_
  refine g_iconst C (0) dX2_copyFrom_117 rfl ?_
  refine g_aload_n C (i := 0) dX2_copyFrom_118 rfl rfl ?_
  refine g_getR C 2 8 (RX2, TX2, 13) dX2_copyFrom_119 (hP.1 12 (by decide)) (hP.2 12 8 20 (by decide) rfl) ml_X2_35 rfl (by decide) rfl ?_
  refine g_iconst C (0) dX2_copyFrom_122 rfl ?_
  refine g_bipush C (16) dX2_copyFrom_123 rfl ?_
  refine g_cp_l C dX2_copyFrom_125 ml_X2_54 (hQ.1 20 (by decide)) (hP.1 20 (by decide)) rfl (cp_reg (k := 20) (by decide) (reg_off (by omega))) (by decide) (by decide) (by decide) (by decide) (Nat.le_of_ble_eq_true rfl) ?_
  refine g_aload_n C (i := 1) dX2_copyFrom_128 rfl rfl ?_
  refine g_getR C 2 9 (RX2, TX2, 13) dX2_copyFrom_129 (hQ.1 12 (by decide)) (hQ.2 12 9 21 (by decide) rfl) ml_X2_38 rfl (by decide) rfl ?_
  refine g_iconst C (0) dX2_copyFrom_132 rfl ?_
  refine g_aload_n C (i := 0) dX2_copyFrom_133 rfl rfl ?_
  refine g_getR C 2 9 (RX2, TX2, 13) dX2_copyFrom_134 (hP.1 12 (by decide)) (hP.2 12 9 21 (by decide) rfl) ml_X2_38 rfl (by decide) rfl ?_
  refine g_iconst C (0) dX2_copyFrom_137 rfl ?_
  refine g_bipush C (16) dX2_copyFrom_138 rfl ?_
  refine g_cp_l C dX2_copyFrom_140 ml_X2_54 (hQ.1 21 (by decide)) (hP.1 21 (by decide)) rfl (cp_reg (k := 21) (by decide) (reg_off (by omega))) (by decide) (by decide) (by decide) (by decide) (Nat.le_of_ble_eq_true rfl) ?_
  exact g_return C dX2_copyFrom_143 ⟨Nat.le_of_ble_eq_true rfl, Nat.le_of_ble_eq_true rfl⟩ (tkEnd.rf rfl rfl rfl)
theorem c_X0_copyFrom (hP : tkReg 28 pT pF σ p) (hQ : tkReg 28 pT pF σ q) (hd : q + 28 ≤ p ∨ p + 28 ≤ q) :
    tkCon false (.code yX0_copyFrom cX0_copyFrom 2 none) yX0_copyFrom 2 [.ref (p + 25), .ref (q + 25)] σ (reg p 28 I0 v) (reg p 28 L0 w) 0 0 (.inl none) σ (reg p 28 (cpR 27 30 (fun k => v (q + k)) I0) v) (reg p 28 (cpR 26 30 (fun k => w (q + k)) (tk2 L0 25 0 (w (q + 25) 0))) w) := by
  refine tkCon.of (by decide) (Nat.le_of_ble_eq_true rfl) (fun X C => ?_)
  refine g_aload_n C (i := 0) dX0_copyFrom_0 rfl rfl ?_
  refine g_aload_n C (i := 1) dX0_copyFrom_1 rfl rfl ?_
  refine g_getL C 0 0 (RX0, TX0, 3) dX0_copyFrom_2 (hQ.1 25 (by decide)) (reg_off (by omega)) ml_X0_19 rfl (by decide) rfl ?_
  refine g_putL C 0 0 (RX0, TX0, 3) dX0_copyFrom_5 (hP.1 25 (by decide)) (tk2_reg (k := 25) (by decide)) ml_X0_19 rfl (by decide) rfl rfl ?_
  refine g_aload_n C (i := 1) dX0_copyFrom_8 rfl rfl ?_
  refine g_getR C 0 1 (RX0, TX0, 3) dX0_copyFrom_9 (hQ.1 25 (by decide)) (hQ.2 25 1 26 (by decide) rfl) ml_X0_9 rfl (by decide) rfl ?_
  refine g_iconst C (0) dX0_copyFrom_12 rfl ?_
  refine g_aload_n C (i := 0) dX0_copyFrom_13 rfl rfl ?_
  refine g_getR C 0 1 (RX0, TX0, 3) dX0_copyFrom_14 (hP.1 25 (by decide)) (hP.2 25 1 26 (by decide) rfl) ml_X0_9 rfl (by decide) rfl ?_
  refine g_iconst C (0) dX0_copyFrom_17 rfl ?_
  refine g_bipush C (30) dX0_copyFrom_18 rfl ?_
  refine g_cp_l C dX0_copyFrom_20 ml_X0_35 (hQ.1 26 (by decide)) (hP.1 26 (by decide)) rfl (cp_reg (k := 26) (by decide) (reg_off (by omega))) (by decide) (by decide) (by decide) (by decide) (Nat.le_of_ble_eq_true rfl) ?_
  refine g_aload_n C (i := 1) dX0_copyFrom_23 rfl rfl ?_
  refine g_getR C 0 2 (RX0, TX0, 3) dX0_copyFrom_24 (hQ.1 25 (by decide)) (hQ.2 25 2 27 (by decide) rfl) ml_X0_15 rfl (by decide) rfl ?_
  refine g_iconst C (0) dX0_copyFrom_27 rfl ?_
  refine g_aload_n C (i := 0) dX0_copyFrom_28 rfl rfl ?_
  refine g_getR C 0 2 (RX0, TX0, 3) dX0_copyFrom_29 (hP.1 25 (by decide)) (hP.2 25 2 27 (by decide) rfl) ml_X0_15 rfl (by decide) rfl ?_
  refine g_iconst C (0) dX0_copyFrom_32 rfl ?_
  refine g_bipush C (30) dX0_copyFrom_33 rfl ?_
  refine g_cp_i C dX0_copyFrom_35 ml_X0_35 (hQ.1 27 (by decide)) (hP.1 27 (by decide)) rfl (cp_reg (k := 27) (by decide) (reg_off (by omega))) (by decide) (by decide) (by decide) (by decide) (Nat.le_of_ble_eq_true rfl) ?_
  exact g_return C dX0_copyFrom_38 ⟨Nat.le_of_ble_eq_true rfl, Nat.le_of_ble_eq_true rfl⟩ (tkEnd.rf rfl rfl rfl)
theorem c_X1_copyFrom (hP : tkReg 28 pT pF σ p) (hQ : tkReg 28 pT pF σ q) (hd : q + 28 ≤ p ∨ p + 28 ≤ q) :
    tkCon false (.code yX1_copyFrom cX1_copyFrom 2 none) yX1_copyFrom 3 [.ref p, .ref q] σ (reg p 28 I0 v) (reg p 28 L0 w) 0 0 (.inl none) σ (reg p 28 (sCpI (fun k => v (q + k)) I0) v) (reg p 28 (sCpL (fun k => w (q + k)) L0) w) := by
  refine tkCon.of (by decide) (Nat.le_of_ble_eq_true rfl) (fun X C => ?_)
  refine g_aload_n C (i := 0) dX1_copyFrom_0 rfl rfl ?_
  refine g_getR C 1 0 (RX1, TX1, 5) dX1_copyFrom_1 (hP.1 0 (by decide)) (hP.2 0 0 1 (by decide) rfl) ml_X1_10 rfl (by decide) rfl ?_
  refine g_aload_n C (i := 1) dX1_copyFrom_4 rfl rfl ?_
  refine g_getR C 1 0 (RX1, TX1, 5) dX1_copyFrom_5 (hQ.1 0 (by decide)) (hQ.2 0 0 1 (by decide) rfl) ml_X1_10 rfl (by decide) rfl ?_
  refine g_callV C (q := (RX4, TX4, 6)) (rest := _) dX1_copyFrom_8 mm_X4_copyFrom ml_X1_37 mv_yX4_copyFrom ms_yX4_copyFrom (c_X4_copyFrom hP hQ hd) rfl (hP.1 1 (by decide)) rfl rfl ⟨by decide, Nat.le_of_ble_eq_true rfl, Nat.le_of_ble_eq_true rfl, Nat.le_of_ble_eq_true rfl⟩ (tk_retn ?_) tk_nothr
  refine g_aload_n C (i := 0) dX1_copyFrom_11 rfl rfl ?_
  refine g_getR C 1 1 (RX1, TX1, 5) dX1_copyFrom_12 (hP.1 0 (by decide)) (hP.2 0 1 7 (by decide) rfl) ml_X1_19 rfl (by decide) rfl ?_
  refine g_aload_n C (i := 1) dX1_copyFrom_15 rfl rfl ?_
  refine g_getR C 1 1 (RX1, TX1, 5) dX1_copyFrom_16 (hQ.1 0 (by decide)) (hQ.2 0 1 7 (by decide) rfl) ml_X1_19 rfl (by decide) rfl ?_
  refine g_callV C (q := (RX3, TX3, 5)) (rest := _) dX1_copyFrom_19 mm_X3_copyFrom ml_X1_41 mv_yX3_copyFrom ms_yX3_copyFrom (c_X3_copyFrom hP hQ hd) rfl (hP.1 7 (by decide)) rfl rfl ⟨by decide, Nat.le_of_ble_eq_true rfl, Nat.le_of_ble_eq_true rfl, Nat.le_of_ble_eq_true rfl⟩ (tk_retn ?_) tk_nothr
  refine g_aload_n C (i := 0) dX1_copyFrom_22 rfl rfl ?_
  refine g_getR C 1 2 (RX1, TX1, 5) dX1_copyFrom_23 (hP.1 0 (by decide)) (hP.2 0 2 12 (by decide) rfl) ml_X1_26 rfl (by decide) rfl ?_
  refine g_aload_n C (i := 1) dX1_copyFrom_26 rfl rfl ?_
  refine g_getR C 1 2 (RX1, TX1, 5) dX1_copyFrom_27 (hQ.1 0 (by decide)) (hQ.2 0 2 12 (by decide) rfl) ml_X1_26 rfl (by decide) rfl ?_
  refine g_callV C (q := (RX2, TX2, 13)) (rest := _) dX1_copyFrom_30 mm_X2_copyFrom ml_X1_44 mv_yX2_copyFrom ms_yX2_copyFrom (c_X2_copyFrom hP hQ hd) rfl (hP.1 12 (by decide)) rfl rfl ⟨by decide, Nat.le_of_ble_eq_true rfl, Nat.le_of_ble_eq_true rfl, Nat.le_of_ble_eq_true rfl⟩ (tk_retn ?_) tk_nothr
  refine g_aload_n C (i := 0) dX1_copyFrom_33 rfl rfl ?_
  refine g_getR C 1 3 (RX1, TX1, 5) dX1_copyFrom_34 (hP.1 0 (by decide)) (hP.2 0 3 25 (by decide) rfl) ml_X1_33 rfl (by decide) rfl ?_
  refine g_aload_n C (i := 1) dX1_copyFrom_37 rfl rfl ?_
  refine g_getR C 1 3 (RX1, TX1, 5) dX1_copyFrom_38 (hQ.1 0 (by decide)) (hQ.2 0 3 25 (by decide) rfl) ml_X1_33 rfl (by decide) rfl ?_
  refine g_callV C (q := (RX0, TX0, 3)) (rest := _) dX1_copyFrom_41 mm_X0_copyFrom ml_X1_47 mv_yX0_copyFrom ms_yX0_copyFrom (c_X0_copyFrom hP hQ hd) rfl (hP.1 25 (by decide)) rfl rfl ⟨by decide, Nat.le_of_ble_eq_true rfl, Nat.le_of_ble_eq_true rfl, Nat.le_of_ble_eq_true rfl⟩ (tk_retn ?_) tk_nothr
  refine g_aload_n C (i := 0) dX1_copyFrom_44 rfl rfl ?_
  refine g_aload_n C (i := 1) dX1_copyFrom_45 rfl rfl ?_
  refine g_getL C 1 4 (RX1, TX1, 5) dX1_copyFrom_46 (hQ.1 0 (by decide)) (reg_off (by omega)) ml_X1_50 rfl (by decide) rfl ?_
  refine g_putL C 1 4 (RX1, TX1, 5) dX1_copyFrom_49 (hP.1 0 (by decide)) (tk2_reg (k := 0) (by decide)) ml_X1_50 rfl (by decide) rfl rfl ?_
  exact g_return C dX1_copyFrom_52 ⟨Nat.le_of_ble_eq_true rfl, Nat.le_of_ble_eq_true rfl⟩ (tkEnd.rf rfl rfl rfl)
end TKCOPY

section TKTANKS
variable {σ : tkM} {p : Nat} {I0 v : tkI} {L0 w : tkL}
/-! the static helpers of TankPlant -/
theorem c_X5_isWithin {I : tkI} {L : tkL} (x a b : Int32) : tkCon false (.code yX5_isWithin cX5_isWithin 3 (some .boolean)) yX5_isWithin 1 [.int x, .int a, .int b] σ I L 0 0 (.inl (some (.int (jwith x a b)))) σ I L := by
  refine tkCon.of (by decide) (Nat.le_of_ble_eq_true rfl) (fun X C => ?_)
  refine g_iload_n C (i := 0) dX5_isWithin_0 rfl rfl ?_
  refine g_iload_n C (i := 1) dX5_isWithin_1 rfl rfl ?_
  refine g_icmp_lt C 14 dX5_isWithin_2 (by decide) (fun h2 => ?_) (fun h2 => ?_)
  · refine g_iconst C (0) dX5_isWithin_14 rfl ?_
    exact g_zreturn C dX5_isWithin_15 ⟨Nat.le_refl _, Nat.le_refl _⟩ (Or.inl rfl) (tkEnd.rf (by simp [jwith, h2]) rfl rfl)
  · refine g_iload_n C (i := 0) dX5_isWithin_5 rfl rfl ?_
    refine g_iload_n C (i := 2) dX5_isWithin_6 rfl rfl ?_
    refine g_icmp_gt C 14 dX5_isWithin_7 (by decide) (fun h7 => ?_) (fun h7 => ?_)
    · refine g_iconst C (0) dX5_isWithin_14 rfl ?_
      exact g_zreturn C dX5_isWithin_15 ⟨Nat.le_refl _, Nat.le_refl _⟩ (Or.inl rfl) (tkEnd.rf (by simp [jwith, h2, h7]) rfl rfl)
    · refine g_iconst C (1) dX5_isWithin_10 rfl ?_
      refine g_goto C 15 dX5_isWithin_11 (by decide) ?_
      exact g_zreturn C dX5_isWithin_15 ⟨Nat.le_refl _, Nat.le_refl _⟩ (Or.inr rfl) (tkEnd.rf (by simp [jwith, h2, h7]) rfl rfl)
theorem c_X5_ticksWhile {I : tkI} {L : tkL} (a b : Int64) (m : Int32) : tkCon false (.code yX5_ticksWhile cX5_ticksWhile 5 (some .int)) yX5_ticksWhile 2 [.long a, .long b, .int m] σ I L 0 0 (.inl (some (.int (jtw a b m)))) σ I L := by
  refine tkCon.of (by decide) (Nat.le_of_ble_eq_true rfl) (fun X C => ?_)
  refine g_lload_n C (i := 0) dX5_ticksWhile_0 rfl rfl ?_
  refine g_lconst C 0 dX5_ticksWhile_1 rfl ?_
  refine g_lcmp C dX5_ticksWhile_2 ?_
  refine g_if_ge C 8 dX5_ticksWhile_3 (by decide) (fun h3 => ?_) (fun h3 => ?_)
  · rw [lg_cmp_ge] at h3
    refine g_lload_n C (i := 2) dX5_ticksWhile_8 rfl rfl ?_
    refine g_lconst C 0 dX5_ticksWhile_9 rfl ?_
    refine g_lcmp C dX5_ticksWhile_10 ?_
    refine g_if_lt C 17 dX5_ticksWhile_11 (by decide) (fun h11 => ?_) (fun h11 => ?_)
    · rw [lg_cmp_lt] at h11
      refine g_iload C (i := 4) dX5_ticksWhile_17 rfl ?_
      refine g_i2l C dX5_ticksWhile_19 ?_
      refine g_lload_n C (i := 0) dX5_ticksWhile_20 rfl rfl ?_
      refine g_lload_n C (i := 2) dX5_ticksWhile_21 rfl rfl ?_
      refine g_lneg C dX5_ticksWhile_22 ?_
      refine g_ldiv C dX5_ticksWhile_23 (tk_negz h11) ?_
      refine g_minL C dX5_ticksWhile_24 ml_X5_229 (by decide) (Nat.le_of_ble_eq_true rfl) (Nat.le_of_ble_eq_true rfl) (Nat.le_of_ble_eq_true rfl) ?_
      refine g_l2i C dX5_ticksWhile_27 ?_
      exact g_ireturn C dX5_ticksWhile_28 ⟨Nat.le_of_ble_eq_true rfl, Nat.le_of_ble_eq_true rfl⟩ (tkEnd.rf (by simp [jtw, h3, h11]) rfl rfl)
    · rw [lg_cmp_lt] at h11
      refine g_iload C (i := 4) dX5_ticksWhile_14 rfl ?_
      exact g_ireturn C dX5_ticksWhile_16 ⟨Nat.le_of_ble_eq_true rfl, Nat.le_of_ble_eq_true rfl⟩ (tkEnd.rf (by simp [jtw, h3, h11]) rfl rfl)
  · rw [lg_cmp_ge] at h3
    refine g_iconst C (0) dX5_ticksWhile_6 rfl ?_
    exact g_ireturn C dX5_ticksWhile_7 ⟨Nat.le_of_ble_eq_true rfl, Nat.le_of_ble_eq_true rfl⟩ (tkEnd.rf (by simp [jtw, h3]) rfl rfl)
/-! Tanks -/
/-- Tanks.append -/
theorem c_X4_append (hP : tkReg 28 pT pF σ p) {n : Nat} (hn : n < 8) (hc : I0 1 0 = nI n) (x1 x2 x3 : Int32) :
    tkCon false (.code yX4_append cX4_append 5 (some .int)) yX4_append 1 [.ref (p + 1), .int x1, .int x2, .int x3] σ (reg p 28 I0 v) (reg p 28 L0 w) 0 0 (.inl (some (.int (nI n)))) σ
      (reg p 28 (tk2 (tk2 (tk2 (tk2 I0 2 n x1) 3 n x2) 4 n x3) 1 0 (nI n + 1)) v) (reg p 28 (tk2 L0 5 n 0) w) := by
  refine tkCon.of (by decide) (Nat.le_of_ble_eq_true rfl) (fun X C => ?_)
  refine g_aload_n C (i := 0) dX4_append_0 rfl rfl ?_
  refine g_getI C 4 0 (RX4, TX4, 6) dX4_append_1 (hP.1 1 (by decide)) (reg_at (k := 1) (by decide)) ml_X4_28 rfl (by decide) (Or.inl rfl) ?_
  rw [hc]
  refine g_istore C (i := 4) dX4_append_4 (by decide) ?_
  refine g_aload_n C (i := 0) dX4_append_6 rfl rfl ?_
  refine g_getR C 4 1 (RX4, TX4, 6) dX4_append_7 (hP.1 1 (by decide)) (hP.2 1 1 2 (by decide) rfl) ml_X4_9 rfl (by decide) rfl ?_
  refine g_iload C (i := 4) dX4_append_10 rfl ?_
  refine g_iload_n C (i := 1) dX4_append_12 rfl rfl ?_
  refine g_is C dX4_append_13 (hP.1 2 (by decide)) (tk2_reg (k := 2) (by decide)) rfl (by omega) (by decide) ?_
  refine g_aload_n C (i := 0) dX4_append_14 rfl rfl ?_
  refine g_getR C 4 2 (RX4, TX4, 6) dX4_append_15 (hP.1 1 (by decide)) (hP.2 1 2 3 (by decide) rfl) ml_X4_15 rfl (by decide) rfl ?_
  refine g_iload C (i := 4) dX4_append_18 rfl ?_
  refine g_iload_n C (i := 2) dX4_append_20 rfl rfl ?_
  refine g_is C dX4_append_21 (hP.1 3 (by decide)) (tk2_reg (k := 3) (by decide)) rfl (by omega) (by decide) ?_
  refine g_aload_n C (i := 0) dX4_append_22 rfl rfl ?_
  refine g_getR C 4 3 (RX4, TX4, 6) dX4_append_23 (hP.1 1 (by decide)) (hP.2 1 3 4 (by decide) rfl) ml_X4_18 rfl (by decide) rfl ?_
  refine g_iload C (i := 4) dX4_append_26 rfl ?_
  refine g_iload_n C (i := 3) dX4_append_28 rfl rfl ?_
  refine g_is C dX4_append_29 (hP.1 4 (by decide)) (tk2_reg (k := 4) (by decide)) rfl (by omega) (by decide) ?_
  refine g_aload_n C (i := 0) dX4_append_30 rfl rfl ?_
  refine g_getR C 4 4 (RX4, TX4, 6) dX4_append_31 (hP.1 1 (by decide)) (hP.2 1 4 5 (by decide) rfl) ml_X4_21 rfl (by decide) rfl ?_
  refine g_iload C (i := 4) dX4_append_34 rfl ?_
  refine g_lconst C 0 dX4_append_36 rfl ?_
  refine g_ls C dX4_append_37 (hP.1 5 (by decide)) (tk2_reg (k := 5) (by decide)) rfl (by omega) (by decide) ?_
  refine g_aload_n C (i := 0) dX4_append_38 rfl rfl ?_
  refine g_dup C dX4_append_39 rfl ?_
  refine g_getI C 4 0 (RX4, TX4, 6) dX4_append_40 (hP.1 1 (by decide)) (reg_at (k := 1) (by decide)) ml_X4_28 rfl (by decide) (Or.inl rfl) ?_
  rw [show tk2 (tk2 (tk2 I0 2 n x1) 3 n x2) 4 n x3 1 0 = nI n by simp [tk2, hc]]
  refine g_iconst C (1) dX4_append_43 rfl ?_
  refine g_iadd C dX4_append_44 ?_
  refine g_putI C 4 0 (RX4, TX4, 6) dX4_append_45 (hP.1 1 (by decide)) (tk2_reg (k := 1) (by decide)) ml_X4_28 rfl (by decide) rfl rfl ?_
  refine g_iload C (i := 4) dX4_append_48 rfl ?_
  exact g_ireturn C dX4_append_50 ⟨Nat.le_of_ble_eq_true rfl, Nat.le_of_ble_eq_true rfl⟩ (tkEnd.rf rfl rfl rfl)
/-- Tanks.drift -/
theorem c_X4_drift (hP : tkReg 28 pT pF σ p) {j : Nat} (hj : j < 8) :
    tkCon false (.code yX4_drift cX4_drift 2 (some .int)) yX4_drift 1 [.ref (p + 1), .int (nI j)] σ (reg p 28 I0 v) (reg p 28 L0 w) 0 0 (.inl (some (.int (I0 3 j - I0 6 j)))) σ (reg p 28 I0 v) (reg p 28 L0 w) := by
  refine tkCon.of (by decide) (Nat.le_of_ble_eq_true rfl) (fun X C => ?_)
  refine g_aload_n C (i := 0) dX4_drift_0 rfl rfl ?_
  refine g_getR C 4 2 (RX4, TX4, 6) dX4_drift_1 (hP.1 1 (by decide)) (hP.2 1 2 3 (by decide) rfl) ml_X4_15 rfl (by decide) rfl ?_
  refine g_iload_n C (i := 1) dX4_drift_4 rfl rfl ?_
  refine g_ia C dX4_drift_5 (hP.1 3 (by decide)) (reg_at (k := 3) (by decide)) rfl (by omega) (by decide) ?_
  refine g_aload_n C (i := 0) dX4_drift_6 rfl rfl ?_
  refine g_getR C 4 5 (RX4, TX4, 6) dX4_drift_7 (hP.1 1 (by decide)) (hP.2 1 5 6 (by decide) rfl) ml_X4_25 rfl (by decide) rfl ?_
  refine g_iload_n C (i := 1) dX4_drift_10 rfl rfl ?_
  refine g_ia C dX4_drift_11 (hP.1 6 (by decide)) (reg_at (k := 6) (by decide)) rfl (by omega) (by decide) ?_
  refine g_isub C dX4_drift_12 ?_
  exact g_ireturn C dX4_drift_13 ⟨Nat.le_of_ble_eq_true rfl, Nat.le_of_ble_eq_true rfl⟩ (tkEnd.rf rfl rfl rfl)
theorem c_X4_noteLevels (hP : tkReg 28 pT pF σ p) :
    tkCon false (.code yX4_noteLevels cX4_noteLevels 1 none) yX4_noteLevels 2 [.ref (p + 1)] σ (reg p 28 I0 v) (reg p 28 L0 w) 0 0 (.inl none) σ (reg p 28 (sBef I0) v) (reg p 28 L0 w) := by
  refine tkCon.of (by decide) (Nat.le_of_ble_eq_true rfl) (fun X C => ?_)
  refine g_aload_n C (i := 0) dX4_noteLevels_0 rfl rfl ?_
  refine g_getR C 4 2 (RX4, TX4, 6) dX4_noteLevels_1 (hP.1 1 (by decide)) (hP.2 1 2 3 (by decide) rfl) ml_X4_15 rfl (by decide) rfl ?_
  refine g_iconst C (0) dX4_noteLevels_4 rfl ?_
  refine g_aload_n C (i := 0) dX4_noteLevels_5 rfl rfl ?_
  refine g_getR C 4 5 (RX4, TX4, 6) dX4_noteLevels_6 (hP.1 1 (by decide)) (hP.2 1 5 6 (by decide) rfl) ml_X4_25 rfl (by decide) rfl ?_
  refine g_iconst C (0) dX4_noteLevels_9 rfl ?_
  refine g_bipush C (8) dX4_noteLevels_10 rfl ?_
  refine g_cp_i C dX4_noteLevels_12 ml_X4_32 (hP.1 3 (by decide)) (hP.1 6 (by decide)) rfl (cp_reg (k := 6) (by decide) (reg_at (by decide))) (by decide) (by decide) (by decide) (by decide) (Nat.le_of_ble_eq_true rfl) ?_
  exact g_return C dX4_noteLevels_15 ⟨Nat.le_of_ble_eq_true rfl, Nat.le_of_ble_eq_true rfl⟩ (tkEnd.rf rfl rfl rfl)
theorem c_X4_leakAndSum (hP : tkReg 28 pT pF σ p) {n : Nat} (hW : wTk I0 n) :
    tkCon false (.code yX4_leakAndSum cX4_leakAndSum 2 none) yX4_leakAndSum 2 [.ref (p + 1)] σ (reg p 28 I0 v) (reg p 28 L0 w) 0 0 (.inl none) σ (reg p 28 (itr sLeak n (I0, L0)).1 v) (reg p 28 (itr sLeak n (I0, L0)).2 w) := by
  obtain ⟨hc, hn⟩ := hW
  refine tkCon.of (by decide) (Nat.le_of_ble_eq_true rfl) (fun X C => ?_)
  have hcc : ∀ i, i ≤ n → (itr sLeak i (I0, L0)).1 1 0 = nI n := fun i hi => itr_inv (P := fun q : tkI × tkL => q.1 1 0 = nI n) (n := n) (fun k a _ h => by simp [sLeak, tk2, h]) hi hc
  refine g_iconst C (0) dX4_leakAndSum_0 rfl ?_
  refine g_istore_n C (i := 1) dX4_leakAndSum_1 rfl (by decide) ?_
  have key : ∀ k i, k + i = n → tkG X (tkQ false X 0 0 (.inl none) σ (reg p 28 (itr sLeak n (I0, L0)).1 v) (reg p 28 (itr sLeak n (I0, L0)).2 w)) 0 0 2 [some (.ref (p + 1)), some (.int (nI i))] [] σ (reg p 28 (itr sLeak i (I0, L0)).1 v) (reg p 28 (itr sLeak i (I0, L0)).2 w) := by
    intro k
    induction k with
    | zero =>
      intro i hi
      have e : i = n := by omega
      subst e
      refine g_iload_n C (i := 1) dX4_leakAndSum_2 rfl rfl ?_
      refine g_aload_n C (i := 0) dX4_leakAndSum_3 rfl rfl ?_
      refine g_getI C 4 0 (RX4, TX4, 6) dX4_leakAndSum_4 (hP.1 1 (by decide)) (reg_at (k := 1) (by decide)) ml_X4_28 rfl (by decide) (Or.inl rfl) ?_
      rw [hcc i (Nat.le_refl _)]
      refine g_icmp_ge C 56 dX4_leakAndSum_7 (by decide) (fun h7 => ?_) (fun h7 => ?_)
      · exact g_return C dX4_leakAndSum_56 ⟨Nat.le_of_ble_eq_true rfl, Nat.le_of_ble_eq_true rfl⟩ (tkEnd.rf rfl rfl rfl)
      · exact absurd (Int32.le_refl _) h7
    | succ k ih =>
      intro i hi
      have hlt : i < n := by omega
      refine g_iload_n C (i := 1) dX4_leakAndSum_2 rfl rfl ?_
      refine g_aload_n C (i := 0) dX4_leakAndSum_3 rfl rfl ?_
      refine g_getI C 4 0 (RX4, TX4, 6) dX4_leakAndSum_4 (hP.1 1 (by decide)) (reg_at (k := 1) (by decide)) ml_X4_28 rfl (by decide) (Or.inl rfl) ?_
      rw [hcc i (by omega)]
      refine g_icmp_ge C 56 dX4_leakAndSum_7 (by decide) (fun h7 => ?_) (fun h7 => ?_)
      · exact absurd h7 (nI_ge hlt (by omega))
      · refine g_aload_n C (i := 0) dX4_leakAndSum_10 rfl rfl ?_
        refine g_getR C 4 2 (RX4, TX4, 6) dX4_leakAndSum_11 (hP.1 1 (by decide)) (hP.2 1 2 3 (by decide) rfl) ml_X4_15 rfl (by decide) rfl ?_
        refine g_iload_n C (i := 1) dX4_leakAndSum_14 rfl rfl ?_
        refine g_dup2 C dX4_leakAndSum_15 rfl rfl ?_
        refine g_ia C dX4_leakAndSum_16 (hP.1 3 (by decide)) (reg_at (k := 3) (by decide)) rfl (by omega) (by decide) ?_
        refine g_aload_n C (i := 0) dX4_leakAndSum_17 rfl rfl ?_
        refine g_getR C 4 3 (RX4, TX4, 6) dX4_leakAndSum_18 (hP.1 1 (by decide)) (hP.2 1 3 4 (by decide) rfl) ml_X4_18 rfl (by decide) rfl ?_
        refine g_iload_n C (i := 1) dX4_leakAndSum_21 rfl rfl ?_
        refine g_ia C dX4_leakAndSum_22 (hP.1 4 (by decide)) (reg_at (k := 4) (by decide)) rfl (by omega) (by decide) ?_
        refine g_aload_n C (i := 0) dX4_leakAndSum_23 rfl rfl ?_
        refine g_getR C 4 2 (RX4, TX4, 6) dX4_leakAndSum_24 (hP.1 1 (by decide)) (hP.2 1 2 3 (by decide) rfl) ml_X4_15 rfl (by decide) rfl ?_
        refine g_iload_n C (i := 1) dX4_leakAndSum_27 rfl rfl ?_
        refine g_ia C dX4_leakAndSum_28 (hP.1 3 (by decide)) (reg_at (k := 3) (by decide)) rfl (by omega) (by decide) ?_
        refine g_min C dX4_leakAndSum_29 ml_X4_38 (by decide) (Nat.le_of_ble_eq_true rfl) (Nat.le_of_ble_eq_true rfl) (Nat.le_of_ble_eq_true rfl) ?_
        refine g_isub C dX4_leakAndSum_32 ?_
        refine g_is C dX4_leakAndSum_33 (hP.1 3 (by decide)) (tk2_reg (k := 3) (by decide)) rfl (by omega) (by decide) ?_
        refine g_aload_n C (i := 0) dX4_leakAndSum_34 rfl rfl ?_
        refine g_getR C 4 4 (RX4, TX4, 6) dX4_leakAndSum_35 (hP.1 1 (by decide)) (hP.2 1 4 5 (by decide) rfl) ml_X4_21 rfl (by decide) rfl ?_
        refine g_iload_n C (i := 1) dX4_leakAndSum_38 rfl rfl ?_
        refine g_dup2 C dX4_leakAndSum_39 rfl rfl ?_
        refine g_la C dX4_leakAndSum_40 (hP.1 5 (by decide)) (reg_at (k := 5) (by decide)) rfl (by omega) (by decide) ?_
        refine g_aload_n C (i := 0) dX4_leakAndSum_41 rfl rfl ?_
        refine g_getR C 4 2 (RX4, TX4, 6) dX4_leakAndSum_42 (hP.1 1 (by decide)) (hP.2 1 2 3 (by decide) rfl) ml_X4_15 rfl (by decide) rfl ?_
        refine g_iload_n C (i := 1) dX4_leakAndSum_45 rfl rfl ?_
        refine g_ia C dX4_leakAndSum_46 (hP.1 3 (by decide)) (reg_at (k := 3) (by decide)) rfl (by omega) (by decide) ?_
        refine g_i2l C dX4_leakAndSum_47 ?_
        refine g_ladd C dX4_leakAndSum_48 ?_
        refine g_ls C dX4_leakAndSum_49 (hP.1 5 (by decide)) (tk2_reg (k := 5) (by decide)) rfl (by omega) (by decide) ?_
        refine g_iinc C (i := 1) (nI (i + 1)) dX4_leakAndSum_50 rfl (nI_1 i) (by decide) ?_
        refine g_goto C 2 dX4_leakAndSum_53 (by decide) ?_
        exact ih (i + 1) (by omega)
  exact key n 0 (by omega)
theorem c_X4_steadyTicks (hP : tkReg 28 pT pF σ p) {n : Nat} (hW : wTk I0 n) (lim : Int32) :
    tkCon false (.code yX4_steadyTicks cX4_steadyTicks 4 (some .int)) yX4_steadyTicks 3 [.ref (p + 1), .int lim] σ (reg p 28 I0 v) (reg p 28 L0 w) 0 0 (.inl (some (.int (itr (sTst I0) n lim)))) σ (reg p 28 I0 v) (reg p 28 L0 w) := by
  obtain ⟨hc, hn⟩ := hW
  refine tkCon.of (by decide) (Nat.le_of_ble_eq_true rfl) (fun X C => ?_)
  refine g_iload_n C (i := 1) dX4_steadyTicks_0 rfl rfl ?_
  refine g_istore_n C (i := 2) dX4_steadyTicks_1 rfl (by decide) ?_
  refine g_iconst C (0) dX4_steadyTicks_2 rfl ?_
  refine g_istore_n C (i := 3) dX4_steadyTicks_3 rfl (by decide) ?_
  have key : ∀ k i, k + i = n → tkG X (tkQ false X 0 0 (.inl (some (.int (itr (sTst I0) n lim)))) σ (reg p 28 I0 v) (reg p 28 L0 w)) 0 0 4 [some (.ref (p + 1)), some (.int lim), some (.int (itr (sTst I0) i lim)), some (.int (nI i))] [] σ (reg p 28 I0 v) (reg p 28 L0 w) := by
    intro k
    induction k with
    | zero =>
      intro i hi
      have e : i = n := by omega
      subst e
      refine g_iload_n C (i := 3) dX4_steadyTicks_4 rfl rfl ?_
      refine g_aload_n C (i := 0) dX4_steadyTicks_5 rfl rfl ?_
      refine g_getI C 4 0 (RX4, TX4, 6) dX4_steadyTicks_6 (hP.1 1 (by decide)) (reg_at (k := 1) (by decide)) ml_X4_28 rfl (by decide) (Or.inl rfl) ?_
      rw [hc]
      refine g_icmp_ge C 40 dX4_steadyTicks_9 (by decide) (fun h9 => ?_) (fun h9 => ?_)
      · refine g_iload_n C (i := 2) dX4_steadyTicks_40 rfl rfl ?_
        exact g_ireturn C dX4_steadyTicks_41 ⟨Nat.le_of_ble_eq_true rfl, Nat.le_of_ble_eq_true rfl⟩ (tkEnd.rf rfl rfl rfl)
      · exact absurd (Int32.le_refl _) h9
    | succ k ih =>
      intro i hi
      have hlt : i < n := by omega
      refine g_iload_n C (i := 3) dX4_steadyTicks_4 rfl rfl ?_
      refine g_aload_n C (i := 0) dX4_steadyTicks_5 rfl rfl ?_
      refine g_getI C 4 0 (RX4, TX4, 6) dX4_steadyTicks_6 (hP.1 1 (by decide)) (reg_at (k := 1) (by decide)) ml_X4_28 rfl (by decide) (Or.inl rfl) ?_
      rw [hc]
      refine g_icmp_ge C 40 dX4_steadyTicks_9 (by decide) (fun h9 => ?_) (fun h9 => ?_)
      · exact absurd h9 (nI_ge hlt (by omega))
      · refine g_iload_n C (i := 2) dX4_steadyTicks_12 rfl rfl ?_
        refine g_if_le C 40 dX4_steadyTicks_13 (by decide) (fun h13 => ?_) (fun h13 => ?_)
        · have e := itr_stop (f := sTst I0) (P := fun s => s ≤ 0) (fun i a h => by simp [sTst, Int32.not_lt.mpr h]) h13 (k + 1)
          rw [show i + (k + 1) = n by omega] at e
          rw [e]
          refine g_iload_n C (i := 2) dX4_steadyTicks_40 rfl rfl ?_
          exact g_ireturn C dX4_steadyTicks_41 ⟨Nat.le_of_ble_eq_true rfl, Nat.le_of_ble_eq_true rfl⟩ (tkEnd.rf rfl rfl rfl)
        · have e : itr (sTst I0) (i + 1) lim = jtw (I0 3 i).toInt64 (I0 3 i - I0 6 i).toInt64 (itr (sTst I0) i lim) := by
            show sTst I0 i (itr (sTst I0) i lim) = _
            rw [sTst, if_pos (Int32.not_le.mp h13)]
          refine g_aload_n C (i := 0) dX4_steadyTicks_16 rfl rfl ?_
          refine g_getR C 4 2 (RX4, TX4, 6) dX4_steadyTicks_17 (hP.1 1 (by decide)) (hP.2 1 2 3 (by decide) rfl) ml_X4_15 rfl (by decide) rfl ?_
          refine g_iload_n C (i := 3) dX4_steadyTicks_20 rfl rfl ?_
          refine g_ia C dX4_steadyTicks_21 (hP.1 3 (by decide)) (reg_at (k := 3) (by decide)) rfl (by omega) (by decide) ?_
          refine g_i2l C dX4_steadyTicks_22 ?_
          refine g_aload_n C (i := 0) dX4_steadyTicks_23 rfl rfl ?_
          refine g_iload_n C (i := 3) dX4_steadyTicks_24 rfl rfl ?_
          refine g_callV C (q := (RX4, TX4, 6)) (rest := _) dX4_steadyTicks_25 mm_X4_drift ml_X4_44 mv_yX4_drift ms_yX4_drift (c_X4_drift hP (by omega)) rfl (hP.1 1 (by decide)) rfl rfl ⟨by decide, Nat.le_of_ble_eq_true rfl, Nat.le_of_ble_eq_true rfl, Nat.le_of_ble_eq_true rfl⟩ (tk_retv ?_) tk_nothr
          refine g_i2l C dX4_steadyTicks_28 ?_
          refine g_iload_n C (i := 2) dX4_steadyTicks_29 rfl rfl ?_
          refine g_callSN C dX4_steadyTicks_30 mm_X5_ticksWhile ml_X4_48 mt_yX5_ticksWhile (c_X5_ticksWhile _ _ _) rfl ⟨by decide, Nat.le_of_ble_eq_true rfl, Nat.le_of_ble_eq_true rfl, Nat.le_of_ble_eq_true rfl⟩ (tk_retv ?_) tk_nothr
          refine g_istore_n C (i := 2) dX4_steadyTicks_33 rfl (by decide) ?_
          refine g_iinc C (i := 3) (nI (i + 1)) dX4_steadyTicks_34 rfl (nI_1 i) (by decide) ?_
          refine g_goto C 4 dX4_steadyTicks_37 (by decide) ?_
          rw [← e]
          exact ih (i + 1) (by omega)
  exact key n 0 (by omega)
theorem c_X4_repeat (hP : tkReg 28 pT pF σ p) {n : Nat} (hW : wTk I0 n) (t : Int32) :
    tkCon false (.code yX4_repeat cX4_repeat 6 none) yX4_repeat 2 [.ref (p + 1), .int t] σ (reg p 28 I0 v) (reg p 28 L0 w) 0 0 (.inl none) σ (reg p 28 (itr (sRep t) n (I0, L0)).1 v) (reg p 28 (itr (sRep t) n (I0, L0)).2 w) := by
  obtain ⟨hc, hn⟩ := hW
  refine tkCon.of (by decide) (Nat.le_of_ble_eq_true rfl) (fun X C => ?_)
  have hcc : ∀ i, i ≤ n → (itr (sRep t) i (I0, L0)).1 1 0 = nI n := fun i hi => itr_inv (P := fun q : tkI × tkL => q.1 1 0 = nI n) (n := n) (fun k a _ h => by simp [sRep, tk2, h]) hi hc
  refine g_iload_n C (i := 1) dX4_repeat_0 rfl rfl ?_
  refine g_i2l C dX4_repeat_1 ?_
  refine g_iload_n C (i := 1) dX4_repeat_2 rfl rfl ?_
  refine g_iconst C (1) dX4_repeat_3 rfl ?_
  refine g_iadd C dX4_repeat_4 ?_
  refine g_i2l C dX4_repeat_5 ?_
  refine g_lmul C dX4_repeat_6 ?_
  refine g_ldc2 C (2) dX4_repeat_7 ml_X4_52 ?_
  refine g_ldiv C dX4_repeat_10 (by decide) ?_
  refine g_lstore_n C (i := 2) dX4_repeat_11 rfl (by decide) ?_
  refine g_iconst C (0) dX4_repeat_12 rfl ?_
  refine g_istore C (i := 4) dX4_repeat_13 (by decide) ?_
  have key : ∀ k i lv5, k + i = n → tkG X (tkQ false X 0 0 (.inl none) σ (reg p 28 (itr (sRep t) n (I0, L0)).1 v) (reg p 28 (itr (sRep t) n (I0, L0)).2 w)) 0 0 15 [some (.ref (p + 1)), some (.int t), some (.long (t.toInt64 * (t + 1).toInt64 / 2)), none, some (.int (nI i)), lv5] [] σ (reg p 28 (itr (sRep t) i (I0, L0)).1 v) (reg p 28 (itr (sRep t) i (I0, L0)).2 w) := by
    intro k
    induction k with
    | zero =>
      intro i lv5 hi
      have e : i = n := by omega
      subst e
      refine g_iload C (i := 4) dX4_repeat_15 rfl ?_
      refine g_aload_n C (i := 0) dX4_repeat_17 rfl rfl ?_
      refine g_getI C 4 0 (RX4, TX4, 6) dX4_repeat_18 (hP.1 1 (by decide)) (reg_at (k := 1) (by decide)) ml_X4_28 rfl (by decide) (Or.inl rfl) ?_
      rw [hcc i (Nat.le_refl _)]
      refine g_icmp_ge C 79 dX4_repeat_21 (by decide) (fun h21 => ?_) (fun h21 => ?_)
      · exact g_return C dX4_repeat_79 ⟨Nat.le_of_ble_eq_true rfl, Nat.le_of_ble_eq_true rfl⟩ (tkEnd.rf rfl rfl rfl)
      · exact absurd (Int32.le_refl _) h21
    | succ k ih =>
      intro i lv5 hi
      have hlt : i < n := by omega
      refine g_iload C (i := 4) dX4_repeat_15 rfl ?_
      refine g_aload_n C (i := 0) dX4_repeat_17 rfl rfl ?_
      refine g_getI C 4 0 (RX4, TX4, 6) dX4_repeat_18 (hP.1 1 (by decide)) (reg_at (k := 1) (by decide)) ml_X4_28 rfl (by decide) (Or.inl rfl) ?_
      rw [hcc i (by omega)]
      refine g_icmp_ge C 79 dX4_repeat_21 (by decide) (fun h21 => ?_) (fun h21 => ?_)
      · exact absurd h21 (nI_ge hlt (by omega))
      · refine g_aload_n C (i := 0) dX4_repeat_24 rfl rfl ?_
        refine g_iload C (i := 4) dX4_repeat_25 rfl ?_
        refine g_callV C (q := (RX4, TX4, 6)) (rest := _) dX4_repeat_27 mm_X4_drift ml_X4_44 mv_yX4_drift ms_yX4_drift (c_X4_drift hP (by omega)) rfl (hP.1 1 (by decide)) rfl rfl ⟨by decide, Nat.le_of_ble_eq_true rfl, Nat.le_of_ble_eq_true rfl, Nat.le_of_ble_eq_true rfl⟩ (tk_retv ?_) tk_nothr
        refine g_istore C (i := 5) dX4_repeat_30 (by decide) ?_
        refine g_aload_n C (i := 0) dX4_repeat_32 rfl rfl ?_
        refine g_getR C 4 4 (RX4, TX4, 6) dX4_repeat_33 (hP.1 1 (by decide)) (hP.2 1 4 5 (by decide) rfl) ml_X4_21 rfl (by decide) rfl ?_
        refine g_iload C (i := 4) dX4_repeat_36 rfl ?_
        refine g_dup2 C dX4_repeat_38 rfl rfl ?_
        refine g_la C dX4_repeat_39 (hP.1 5 (by decide)) (reg_at (k := 5) (by decide)) rfl (by omega) (by decide) ?_
        refine g_aload_n C (i := 0) dX4_repeat_40 rfl rfl ?_
        refine g_getR C 4 2 (RX4, TX4, 6) dX4_repeat_41 (hP.1 1 (by decide)) (hP.2 1 2 3 (by decide) rfl) ml_X4_15 rfl (by decide) rfl ?_
        refine g_iload C (i := 4) dX4_repeat_44 rfl ?_
        refine g_ia C dX4_repeat_46 (hP.1 3 (by decide)) (reg_at (k := 3) (by decide)) rfl (by omega) (by decide) ?_
        refine g_i2l C dX4_repeat_47 ?_
        refine g_iload_n C (i := 1) dX4_repeat_48 rfl rfl ?_
        refine g_i2l C dX4_repeat_49 ?_
        refine g_lmul C dX4_repeat_50 ?_
        refine g_iload C (i := 5) dX4_repeat_51 rfl ?_
        refine g_i2l C dX4_repeat_53 ?_
        refine g_lload_n C (i := 2) dX4_repeat_54 rfl rfl ?_
        refine g_lmul C dX4_repeat_55 ?_
        refine g_ladd C dX4_repeat_56 ?_
        refine g_ladd C dX4_repeat_57 ?_
        refine g_ls C dX4_repeat_58 (hP.1 5 (by decide)) (tk2_reg (k := 5) (by decide)) rfl (by omega) (by decide) ?_
        refine g_aload_n C (i := 0) dX4_repeat_59 rfl rfl ?_
        refine g_getR C 4 2 (RX4, TX4, 6) dX4_repeat_60 (hP.1 1 (by decide)) (hP.2 1 2 3 (by decide) rfl) ml_X4_15 rfl (by decide) rfl ?_
        refine g_iload C (i := 4) dX4_repeat_63 rfl ?_
        refine g_dup2 C dX4_repeat_65 rfl rfl ?_
        refine g_ia C dX4_repeat_66 (hP.1 3 (by decide)) (reg_at (k := 3) (by decide)) rfl (by omega) (by decide) ?_
        refine g_iload C (i := 5) dX4_repeat_67 rfl ?_
        refine g_iload_n C (i := 1) dX4_repeat_69 rfl rfl ?_
        refine g_imul C dX4_repeat_70 ?_
        refine g_iadd C dX4_repeat_71 ?_
        refine g_is C dX4_repeat_72 (hP.1 3 (by decide)) (tk2_reg (k := 3) (by decide)) rfl (by omega) (by decide) ?_
        refine g_iinc C (i := 4) (nI (i + 1)) dX4_repeat_73 rfl (nI_1 i) (by decide) ?_
        refine g_goto C 15 dX4_repeat_76 (by decide) ?_
        exact ih (i + 1) _ (by omega)
  exact key n 0 _ (by omega)
end TKTANKS

section TKTANKS
variable {σ : tkM} {p : Nat} {I0 v : tkI} {L0 w : tkL}
/-- Tanks.append -/
theorem c_X4_append (hP : tkReg 28 pT pF σ p) {n : Nat} (hn : n < 8) (hc : I0 1 0 = nI n) (x1 x2 x3 : Int32) :
    tkCon false (.code yX4_append cX4_append 5 (some .int)) yX4_append 1 [.ref (p + 1), .int x1, .int x2, .int x3] σ (reg p 28 I0 v) (reg p 28 L0 w) 0 0 (.inl (some (.int (nI n)))) σ
      (reg p 28 (tk2 (tk2 (tk2 (tk2 I0 2 n x1) 3 n x2) 4 n x3) 1 0 (nI n + 1)) v) (reg p 28 (tk2 L0 5 n 0) w) := by
  refine tkCon.of (by decide) (Nat.le_of_ble_eq_true rfl) (fun X C => ?_)
  refine g_aload_n C (i := 0) dX4_append_0 rfl rfl ?_
  refine g_getI C 4 0 (RX4, TX4, 6) dX4_append_1 (hP.1 1 (by decide)) (reg_at (k := 1) (by decide)) ml_X4_28 rfl (by decide) (Or.inl rfl) ?_
  rw [hc]
  refine g_istore C (i := 4) dX4_append_4 (by decide) ?_
  refine g_aload_n C (i := 0) dX4_append_6 rfl rfl ?_
  refine g_getR C 4 1 (RX4, TX4, 6) dX4_append_7 (hP.1 1 (by decide)) (hP.2 1 1 2 (by decide) rfl) ml_X4_9 rfl (by decide) rfl ?_
  refine g_iload C (i := 4) dX4_append_10 rfl ?_
  refine g_iload_n C (i := 1) dX4_append_12 rfl rfl ?_
  refine g_is C dX4_append_13 (hP.1 2 (by decide)) (tk2_reg (k := 2) (by decide)) rfl (by omega) (by decide) ?_
  refine g_aload_n C (i := 0) dX4_append_14 rfl rfl ?_
  refine g_getR C 4 2 (RX4, TX4, 6) dX4_append_15 (hP.1 1 (by decide)) (hP.2 1 2 3 (by decide) rfl) ml_X4_15 rfl (by decide) rfl ?_
  refine g_iload C (i := 4) dX4_append_18 rfl ?_
  refine g_iload_n C (i := 2) dX4_append_20 rfl rfl ?_
  refine g_is C dX4_append_21 (hP.1 3 (by decide)) (tk2_reg (k := 3) (by decide)) rfl (by omega) (by decide) ?_
  refine g_aload_n C (i := 0) dX4_append_22 rfl rfl ?_
  refine g_getR C 4 3 (RX4, TX4, 6) dX4_append_23 (hP.1 1 (by decide)) (hP.2 1 3 4 (by decide) rfl) ml_X4_18 rfl (by decide) rfl ?_
  refine g_iload C (i := 4) dX4_append_26 rfl ?_
  refine g_iload_n C (i := 3) dX4_append_28 rfl rfl ?_
  refine g_is C dX4_append_29 (hP.1 4 (by decide)) (tk2_reg (k := 4) (by decide)) rfl (by omega) (by decide) ?_
  refine g_aload_n C (i := 0) dX4_append_30 rfl rfl ?_
  refine g_getR C 4 4 (RX4, TX4, 6) dX4_append_31 (hP.1 1 (by decide)) (hP.2 1 4 5 (by decide) rfl) ml_X4_21 rfl (by decide) rfl ?_
  refine g_iload C (i := 4) dX4_append_34 rfl ?_
  refine g_lconst C 0 dX4_append_36 rfl ?_
  refine g_ls C dX4_append_37 (hP.1 5 (by decide)) (tk2_reg (k := 5) (by decide)) rfl (by omega) (by decide) ?_
  refine g_aload_n C (i := 0) dX4_append_38 rfl rfl ?_
  refine g_dup C dX4_append_39 rfl ?_
  refine g_getI C 4 0 (RX4, TX4, 6) dX4_append_40 (hP.1 1 (by decide)) (reg_at (k := 1) (by decide)) ml_X4_28 rfl (by decide) (Or.inl rfl) ?_
  rw [show tk2 (tk2 (tk2 I0 2 n x1) 3 n x2) 4 n x3 1 0 = nI n by simp [tk2, hc]]
  refine g_iconst C (1) dX4_append_43 rfl ?_
  refine g_iadd C dX4_append_44 ?_
  refine g_putI C 4 0 (RX4, TX4, 6) dX4_append_45 (hP.1 1 (by decide)) (tk2_reg (k := 1) (by decide)) ml_X4_28 rfl (by decide) rfl rfl ?_
  refine g_iload C (i := 4) dX4_append_48 rfl ?_
  exact g_ireturn C dX4_append_50 ⟨Nat.le_of_ble_eq_true rfl, Nat.le_of_ble_eq_true rfl⟩ (tkEnd.rf rfl rfl rfl)
/-- Tanks.drift -/
theorem c_X4_drift (hP : tkReg 28 pT pF σ p) {j : Nat} (hj : j < 8) :
    tkCon false (.code yX4_drift cX4_drift 2 (some .int)) yX4_drift 1 [.ref (p + 1), .int (nI j)] σ (reg p 28 I0 v) (reg p 28 L0 w) 0 0 (.inl (some (.int (I0 3 j - I0 6 j)))) σ (reg p 28 I0 v) (reg p 28 L0 w) := by
  refine tkCon.of (by decide) (Nat.le_of_ble_eq_true rfl) (fun X C => ?_)
  refine g_aload_n C (i := 0) dX4_drift_0 rfl rfl ?_
  refine g_getR C 4 2 (RX4, TX4, 6) dX4_drift_1 (hP.1 1 (by decide)) (hP.2 1 2 3 (by decide) rfl) ml_X4_15 rfl (by decide) rfl ?_
  refine g_iload_n C (i := 1) dX4_drift_4 rfl rfl ?_
  refine g_ia C dX4_drift_5 (hP.1 3 (by decide)) (reg_at (k := 3) (by decide)) rfl (by omega) (by decide) ?_
  refine g_aload_n C (i := 0) dX4_drift_6 rfl rfl ?_
  refine g_getR C 4 5 (RX4, TX4, 6) dX4_drift_7 (hP.1 1 (by decide)) (hP.2 1 5 6 (by decide) rfl) ml_X4_25 rfl (by decide) rfl ?_
  refine g_iload_n C (i := 1) dX4_drift_10 rfl rfl ?_
  refine g_ia C dX4_drift_11 (hP.1 6 (by decide)) (reg_at (k := 6) (by decide)) rfl (by omega) (by decide) ?_
  refine g_isub C dX4_drift_12 ?_
  exact g_ireturn C dX4_drift_13 ⟨Nat.le_of_ble_eq_true rfl, Nat.le_of_ble_eq_true rfl⟩ (tkEnd.rf rfl rfl rfl)
/-- one tank's leak and sum -/
def sLeak (i : Nat) (q : tkI × tkL) : tkI × tkL :=
  let I1 := tk2 q.1 3 i (q.1 3 i - jmin (q.1 4 i) (q.1 3 i))
  (I1, tk2 q.2 5 i (q.2 5 i + (I1 3 i).toInt64))
theorem c_X4_leakAndSum (hP : tkReg 28 pT pF σ p) {n : Nat} (hn : n ≤ 8) (hc : I0 1 0 = nI n) :
    tkCon false (.code yX4_leakAndSum cX4_leakAndSum 2 none) yX4_leakAndSum 2 [.ref (p + 1)] σ (reg p 28 I0 v) (reg p 28 L0 w) 0 0 (.inl none) σ (reg p 28 (itr sLeak n (I0, L0)).1 v) (reg p 28 (itr sLeak n (I0, L0)).2 w) := by
  refine tkCon.of (by decide) (Nat.le_of_ble_eq_true rfl) (fun X C => ?_)
  have hcc : ∀ i, i ≤ n → (itr sLeak i (I0, L0)).1 1 0 = nI n := fun i hi => itr_inv (P := fun q : tkI × tkL => q.1 1 0 = nI n) (n := n) (fun k a _ h => by simp [sLeak, tk2, h]) hi hc
  refine g_iconst C (0) dX4_leakAndSum_0 rfl ?_
  refine g_istore_n C (i := 1) dX4_leakAndSum_1 rfl (by decide) ?_
  have key : ∀ k i, k + i = n → tkG X (tkQ false X 0 0 (.inl none) σ (reg p 28 (itr sLeak n (I0, L0)).1 v) (reg p 28 (itr sLeak n (I0, L0)).2 w)) 0 0 2 [some (.ref (p + 1)), some (.int (nI i))] [] σ (reg p 28 (itr sLeak i (I0, L0)).1 v) (reg p 28 (itr sLeak i (I0, L0)).2 w) := by
    intro k
    induction k with
    | zero =>
      intro i hi
      have e : i = n := by omega
      subst e
      refine g_iload_n C (i := 1) dX4_leakAndSum_2 rfl rfl ?_
      refine g_aload_n C (i := 0) dX4_leakAndSum_3 rfl rfl ?_
      refine g_getI C 4 0 (RX4, TX4, 6) dX4_leakAndSum_4 (hP.1 1 (by decide)) (reg_at (k := 1) (by decide)) ml_X4_28 rfl (by decide) (Or.inl rfl) ?_
      rw [hcc i (Nat.le_refl _)]
      refine g_icmp_ge C 56 dX4_leakAndSum_7 (by decide) (fun h7 => ?_) (fun h7 => ?_)
      · exact g_return C dX4_leakAndSum_56 ⟨Nat.le_of_ble_eq_true rfl, Nat.le_of_ble_eq_true rfl⟩ (tkEnd.rf rfl rfl rfl)
      · exact absurd (Int32.le_refl _) h7
    | succ k ih =>
      intro i hi
      have hlt : i < n := by omega
      refine g_iload_n C (i := 1) dX4_leakAndSum_2 rfl rfl ?_
      refine g_aload_n C (i := 0) dX4_leakAndSum_3 rfl rfl ?_
      refine g_getI C 4 0 (RX4, TX4, 6) dX4_leakAndSum_4 (hP.1 1 (by decide)) (reg_at (k := 1) (by decide)) ml_X4_28 rfl (by decide) (Or.inl rfl) ?_
      rw [hcc i (by omega)]
      refine g_icmp_ge C 56 dX4_leakAndSum_7 (by decide) (fun h7 => ?_) (fun h7 => ?_)
      · exact absurd h7 (nI_ge hlt (by omega))
      · refine g_aload_n C (i := 0) dX4_leakAndSum_10 rfl rfl ?_
        refine g_getR C 4 2 (RX4, TX4, 6) dX4_leakAndSum_11 (hP.1 1 (by decide)) (hP.2 1 2 3 (by decide) rfl) ml_X4_15 rfl (by decide) rfl ?_
        refine g_iload_n C (i := 1) dX4_leakAndSum_14 rfl rfl ?_
        refine g_dup2 C dX4_leakAndSum_15 rfl rfl ?_
        refine g_ia C dX4_leakAndSum_16 (hP.1 3 (by decide)) (reg_at (k := 3) (by decide)) rfl (by omega) (by decide) ?_
        refine g_aload_n C (i := 0) dX4_leakAndSum_17 rfl rfl ?_
        refine g_getR C 4 3 (RX4, TX4, 6) dX4_leakAndSum_18 (hP.1 1 (by decide)) (hP.2 1 3 4 (by decide) rfl) ml_X4_18 rfl (by decide) rfl ?_
        refine g_iload_n C (i := 1) dX4_leakAndSum_21 rfl rfl ?_
        refine g_ia C dX4_leakAndSum_22 (hP.1 4 (by decide)) (reg_at (k := 4) (by decide)) rfl (by omega) (by decide) ?_
        refine g_aload_n C (i := 0) dX4_leakAndSum_23 rfl rfl ?_
        refine g_getR C 4 2 (RX4, TX4, 6) dX4_leakAndSum_24 (hP.1 1 (by decide)) (hP.2 1 2 3 (by decide) rfl) ml_X4_15 rfl (by decide) rfl ?_
        refine g_iload_n C (i := 1) dX4_leakAndSum_27 rfl rfl ?_
        refine g_ia C dX4_leakAndSum_28 (hP.1 3 (by decide)) (reg_at (k := 3) (by decide)) rfl (by omega) (by decide) ?_
        refine g_min C dX4_leakAndSum_29 ml_X4_38 (by decide) (Nat.le_of_ble_eq_true rfl) (Nat.le_of_ble_eq_true rfl) (Nat.le_of_ble_eq_true rfl) ?_
        refine g_isub C dX4_leakAndSum_32 ?_
        refine g_is C dX4_leakAndSum_33 (hP.1 3 (by decide)) (tk2_reg (k := 3) (by decide)) rfl (by omega) (by decide) ?_
        refine g_aload_n C (i := 0) dX4_leakAndSum_34 rfl rfl ?_
        refine g_getR C 4 4 (RX4, TX4, 6) dX4_leakAndSum_35 (hP.1 1 (by decide)) (hP.2 1 4 5 (by decide) rfl) ml_X4_21 rfl (by decide) rfl ?_
        refine g_iload_n C (i := 1) dX4_leakAndSum_38 rfl rfl ?_
        refine g_dup2 C dX4_leakAndSum_39 rfl rfl ?_
        refine g_la C dX4_leakAndSum_40 (hP.1 5 (by decide)) (reg_at (k := 5) (by decide)) rfl (by omega) (by decide) ?_
        refine g_aload_n C (i := 0) dX4_leakAndSum_41 rfl rfl ?_
        refine g_getR C 4 2 (RX4, TX4, 6) dX4_leakAndSum_42 (hP.1 1 (by decide)) (hP.2 1 2 3 (by decide) rfl) ml_X4_15 rfl (by decide) rfl ?_
        refine g_iload_n C (i := 1) dX4_leakAndSum_45 rfl rfl ?_
        refine g_ia C dX4_leakAndSum_46 (hP.1 3 (by decide)) (reg_at (k := 3) (by decide)) rfl (by omega) (by decide) ?_
        refine g_i2l C dX4_leakAndSum_47 ?_
        refine g_ladd C dX4_leakAndSum_48 ?_
        refine g_ls C dX4_leakAndSum_49 (hP.1 5 (by decide)) (tk2_reg (k := 5) (by decide)) rfl (by omega) (by decide) ?_
        refine g_iinc C (i := 1) (nI (i + 1)) dX4_leakAndSum_50 rfl (nI_1 i) (by decide) ?_
        refine g_goto C 2 dX4_leakAndSum_53 (by decide) ?_
        exact ih (i + 1) (by omega)
  exact key n 0 (by omega)
end TKTANKS

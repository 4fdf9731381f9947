section TKAPI
variable {σ : tkM} {x p t dd : Nat} {I0 v : tkI} {L0 w : tkL}
theorem bad_not {i : Int32} {n : Nat} (hn : n < 2 ^ 30) (h : ¬ bad i 0 (nI n - 1)) : ∃ j, j < n ∧ i = nI j := by
  rcases pk_ix i (n := n) (by omega) with h1 | h1 | h1
  · exact absurd (Or.inl h1) h
  · refine absurd (Or.inr ?_) h
    rw [Int32.lt_iff_toInt_lt, show (1 : Int32) = nI 1 from rfl, pk_sub_toInt hn (by omega)]
    rw [Int32.le_iff_toInt_le, nI_toInt (by omega)] at h1
    omega
  · exact h1
theorem not_bad {n j : Nat} (hn : n < 2 ^ 30) (h : j < n) : ¬ bad (nI j) 0 (nI n - 1) := by
  rintro (z | z)
  · exact nI_pos (by omega) z
  · rw [Int32.lt_iff_toInt_lt, show (1 : Int32) = nI 1 from rfl, pk_sub_toInt hn (by omega), nI_toInt (by omega)] at z
    omega
theorem c_X5_time (hX : tkTP σ x p t dd) (hP : tkReg 28 pT pF σ p) :
    tkCon false (.code yX5_time cX5_time 1 (some .long)) yX5_time 10 [.ref x] σ (reg p 28 I0 v) (reg p 28 L0 w) 1 6 (.inl (some (.long (L0 0 4)))) σ (reg p 28 I0 v) (reg p 28 L0 w) := by
  refine tkCon.of (by decide) (Nat.le_of_ble_eq_true rfl) (fun X C => ?_)
  refine g_aload_n C (i := 0) dX5_time_0 rfl rfl ?_
  refine g_getR C 5 0 (RX5, TX5, 4) dX5_time_1 hX.1 hX.2.1 ml_X5_10 rfl (by decide) rfl ?_
  refine g_getL C 1 4 (RX1, TX1, 5) dX5_time_4 (hP.1 0 (by decide)) (reg_at (k := 0) (by decide)) ml_X5_139 rfl (by decide) rfl ?_
  exact g_lreturn C dX5_time_7 ⟨Nat.le_of_ble_eq_true rfl, Nat.le_of_ble_eq_true rfl⟩ (tkEnd.rf rfl rfl rfl)
theorem c_X5_changeCount (hX : tkTP σ x p t dd) (hP : tkReg 28 pT pF σ p) :
    tkCon false (.code yX5_changeCount cX5_changeCount 1 (some .long)) yX5_changeCount 10 [.ref x] σ (reg p 28 I0 v) (reg p 28 L0 w) 1 6 (.inl (some (.long (L0 25 0)))) σ (reg p 28 I0 v) (reg p 28 L0 w) := by
  refine tkCon.of (by decide) (Nat.le_of_ble_eq_true rfl) (fun X C => ?_)
  refine g_aload_n C (i := 0) dX5_changeCount_0 rfl rfl ?_
  refine g_getR C 5 0 (RX5, TX5, 4) dX5_changeCount_1 hX.1 hX.2.1 ml_X5_10 rfl (by decide) rfl ?_
  refine g_getR C 1 3 (RX1, TX1, 5) dX5_changeCount_4 (hP.1 0 (by decide)) (hP.2 0 3 25 (by decide) rfl) ml_X5_167 rfl (by decide) rfl ?_
  refine g_getL C 0 0 (RX0, TX0, 3) dX5_changeCount_7 (hP.1 25 (by decide)) (reg_at (k := 25) (by decide)) ml_X5_171 rfl (by decide) rfl ?_
  exact g_lreturn C dX5_changeCount_10 ⟨Nat.le_of_ble_eq_true rfl, Nat.le_of_ble_eq_true rfl⟩ (tkEnd.rf rfl rfl rfl)
theorem c_X5_balance (hX : tkTP σ x p t dd) (hP : tkReg 28 pT pF σ p) {np : Nat} (hW : wPu I0 np) :
    tkCon false (.code yX5_balance cX5_balance 1 (some .long)) yX5_balance 10 [.ref x] σ (reg p 28 I0 v) (reg p 28 L0 w) 1 6 (.inl (some (.long (itr (sIn I0 L0) np 0 - itr (sGo I0 L0) np 0)))) σ (reg p 28 I0 v) (reg p 28 L0 w) := by
  refine tkCon.of (by decide) (Nat.le_of_ble_eq_true rfl) (fun X C => ?_)
  refine g_aload_n C (i := 0) dX5_balance_0 rfl rfl ?_
  refine g_getR C 5 0 (RX5, TX5, 4) dX5_balance_1 hX.1 hX.2.1 ml_X5_10 rfl (by decide) rfl ?_
  refine g_getR C 1 2 (RX1, TX1, 5) dX5_balance_4 (hP.1 0 (by decide)) (hP.2 0 2 12 (by decide) rfl) ml_X5_97 rfl (by decide) rfl ?_
  refine g_callV C (q := (RX2, TX2, 13)) (rest := _) dX5_balance_7 mm_X2_cameIn ml_X5_160 mv_yX2_cameIn ms_yX2_cameIn (c_X2_cameIn hP hW) rfl (hP.1 12 (by decide)) rfl rfl ⟨by decide, Nat.le_of_ble_eq_true rfl, Nat.le_of_ble_eq_true rfl, Nat.le_of_ble_eq_true rfl⟩ (tk_retv ?_) tk_nothr
  refine g_aload_n C (i := 0) dX5_balance_10 rfl rfl ?_
  refine g_getR C 5 0 (RX5, TX5, 4) dX5_balance_11 hX.1 hX.2.1 ml_X5_10 rfl (by decide) rfl ?_
  refine g_getR C 1 2 (RX1, TX1, 5) dX5_balance_14 (hP.1 0 (by decide)) (hP.2 0 2 12 (by decide) rfl) ml_X5_97 rfl (by decide) rfl ?_
  refine g_callV C (q := (RX2, TX2, 13)) (rest := _) dX5_balance_17 mm_X2_wentOut ml_X5_164 mv_yX2_wentOut ms_yX2_wentOut (c_X2_wentOut hP hW) rfl (hP.1 12 (by decide)) rfl rfl ⟨by decide, Nat.le_of_ble_eq_true rfl, Nat.le_of_ble_eq_true rfl, Nat.le_of_ble_eq_true rfl⟩ (tk_retv ?_) tk_nothr
  refine g_lsub C dX5_balance_20 ?_
  exact g_lreturn C dX5_balance_21 ⟨Nat.le_of_ble_eq_true rfl, Nat.le_of_ble_eq_true rfl⟩ (tkEnd.rf rfl rfl rfl)
theorem c_X5_level (hX : tkTP σ x p t dd) (hP : tkReg 28 pT pF σ p) {n : Nat} (hW : wTk I0 n) (i : Int32) :
    tkCon false (.code yX5_level cX5_level 2 (some .int)) yX5_level 10 [.ref x, .int i] σ (reg p 28 I0 v) (reg p 28 L0 w) 1 6 (if bad i 0 (I0 1 0 - 1) then xIOB else .inl (some (.int (I0 3 i.toNatClampNeg)))) σ (reg p 28 I0 v) (reg p 28 L0 w) := by
  refine tkCon.of (by decide) (Nat.le_of_ble_eq_true rfl) (fun X C => ?_)
  by_cases h : bad i 0 (I0 1 0 - 1)
  · rw [if_pos h]
    refine g_aload_n C (i := 0) dX5_level_0 rfl rfl ?_
    refine g_iload_n C (i := 1) dX5_level_1 rfl rfl ?_
    refine g_callV C (q := (RX5, TX5, 4)) (rest := _) dX5_level_2 mm_X5_needTank ml_X5_65 mv_yX5_needTank ms_yX5_needTank (c_X5_needTank_bad hX hP i h) rfl hX.1 rfl rfl ⟨by decide, Nat.le_of_ble_eq_true rfl, Nat.le_of_ble_eq_true rfl, Nat.le_of_ble_eq_true rfl⟩ tk_noret (tk_thr fun n9 hn9 => ?_)
    exact g_out C ⟨Nat.le_of_ble_eq_true rfl, Nat.le_of_ble_eq_true rfl⟩ rfl ⟨hn9, rfl⟩ rfl rfl
  · rw [if_neg h]
    have hn9 := hW.2
    have h9 := h
    rw [hW.1] at h9
    obtain ⟨j, hj, rfl⟩ := bad_not (by omega) h9
    rw [nI_clamp (by omega)]
    refine g_aload_n C (i := 0) dX5_level_0 rfl rfl ?_
    refine g_iload_n C (i := 1) dX5_level_1 rfl rfl ?_
    refine g_callV C (q := (RX5, TX5, 4)) (rest := _) dX5_level_2 mm_X5_needTank ml_X5_65 mv_yX5_needTank ms_yX5_needTank (c_X5_needTank_ok hX hP _ h) rfl hX.1 rfl rfl ⟨by decide, Nat.le_of_ble_eq_true rfl, Nat.le_of_ble_eq_true rfl, Nat.le_of_ble_eq_true rfl⟩ (tk_retn ?_) tk_nothr
    refine g_aload_n C (i := 0) dX5_level_5 rfl rfl ?_
    refine g_getR C 5 0 (RX5, TX5, 4) dX5_level_6 hX.1 hX.2.1 ml_X5_10 rfl (by decide) rfl ?_
    refine g_getR C 1 0 (RX1, TX1, 5) dX5_level_9 (hP.1 0 (by decide)) (hP.2 0 0 1 (by decide) rfl) ml_X5_47 rfl (by decide) rfl ?_
    refine g_getR C 4 2 (RX4, TX4, 6) dX5_level_12 (hP.1 1 (by decide)) (hP.2 1 2 3 (by decide) rfl) ml_X5_109 rfl (by decide) rfl ?_
    refine g_iload_n C (i := 1) dX5_level_15 rfl rfl ?_
    refine g_ia C dX5_level_16 (hP.1 3 (by decide)) (reg_at (k := 3) (by decide)) rfl (by omega) (by decide) ?_
    exact g_ireturn C dX5_level_17 ⟨Nat.le_of_ble_eq_true rfl, Nat.le_of_ble_eq_true rfl⟩ (tkEnd.rf rfl rfl rfl)
theorem c_X5_levelSum (hX : tkTP σ x p t dd) (hP : tkReg 28 pT pF σ p) {n : Nat} (hW : wTk I0 n) (i : Int32) :
    tkCon false (.code yX5_levelSum cX5_levelSum 2 (some .long)) yX5_levelSum 10 [.ref x, .int i] σ (reg p 28 I0 v) (reg p 28 L0 w) 1 6 (if bad i 0 (I0 1 0 - 1) then xIOB else .inl (some (.long (L0 5 i.toNatClampNeg)))) σ (reg p 28 I0 v) (reg p 28 L0 w) := by
  refine tkCon.of (by decide) (Nat.le_of_ble_eq_true rfl) (fun X C => ?_)
  by_cases h : bad i 0 (I0 1 0 - 1)
  · rw [if_pos h]
    refine g_aload_n C (i := 0) dX5_levelSum_0 rfl rfl ?_
    refine g_iload_n C (i := 1) dX5_levelSum_1 rfl rfl ?_
    refine g_callV C (q := (RX5, TX5, 4)) (rest := _) dX5_levelSum_2 mm_X5_needTank ml_X5_65 mv_yX5_needTank ms_yX5_needTank (c_X5_needTank_bad hX hP i h) rfl hX.1 rfl rfl ⟨by decide, Nat.le_of_ble_eq_true rfl, Nat.le_of_ble_eq_true rfl, Nat.le_of_ble_eq_true rfl⟩ tk_noret (tk_thr fun n9 hn9 => ?_)
    exact g_out C ⟨Nat.le_of_ble_eq_true rfl, Nat.le_of_ble_eq_true rfl⟩ rfl ⟨hn9, rfl⟩ rfl rfl
  · rw [if_neg h]
    have hn9 := hW.2
    have h9 := h
    rw [hW.1] at h9
    obtain ⟨j, hj, rfl⟩ := bad_not (by omega) h9
    rw [nI_clamp (by omega)]
    refine g_aload_n C (i := 0) dX5_levelSum_0 rfl rfl ?_
    refine g_iload_n C (i := 1) dX5_levelSum_1 rfl rfl ?_
    refine g_callV C (q := (RX5, TX5, 4)) (rest := _) dX5_levelSum_2 mm_X5_needTank ml_X5_65 mv_yX5_needTank ms_yX5_needTank (c_X5_needTank_ok hX hP _ h) rfl hX.1 rfl rfl ⟨by decide, Nat.le_of_ble_eq_true rfl, Nat.le_of_ble_eq_true rfl, Nat.le_of_ble_eq_true rfl⟩ (tk_retn ?_) tk_nothr
    refine g_aload_n C (i := 0) dX5_levelSum_5 rfl rfl ?_
    refine g_getR C 5 0 (RX5, TX5, 4) dX5_levelSum_6 hX.1 hX.2.1 ml_X5_10 rfl (by decide) rfl ?_
    refine g_getR C 1 0 (RX1, TX1, 5) dX5_levelSum_9 (hP.1 0 (by decide)) (hP.2 0 0 1 (by decide) rfl) ml_X5_47 rfl (by decide) rfl ?_
    refine g_getR C 4 4 (RX4, TX4, 6) dX5_levelSum_12 (hP.1 1 (by decide)) (hP.2 1 4 5 (by decide) rfl) ml_X5_143 rfl (by decide) rfl ?_
    refine g_iload_n C (i := 1) dX5_levelSum_15 rfl rfl ?_
    refine g_la C dX5_levelSum_16 (hP.1 5 (by decide)) (reg_at (k := 5) (by decide)) rfl (by omega) (by decide) ?_
    exact g_lreturn C dX5_levelSum_17 ⟨Nat.le_of_ble_eq_true rfl, Nat.le_of_ble_eq_true rfl⟩ (tkEnd.rf rfl rfl rfl)
theorem c_X5_isOn (hX : tkTP σ x p t dd) (hP : tkReg 28 pT pF σ p) {n : Nat} (hW : wSw I0 n) (i : Int32) :
    tkCon false (.code yX5_isOn cX5_isOn 2 (some .boolean)) yX5_isOn 10 [.ref x, .int i] σ (reg p 28 I0 v) (reg p 28 L0 w) 1 6 (if bad i 0 (I0 7 0 - 1) then xIOB else .inl (some (.int (I0 11 i.toNatClampNeg)))) σ (reg p 28 I0 v) (reg p 28 L0 w) := by
  refine tkCon.of (by decide) (Nat.le_of_ble_eq_true rfl) (fun X C => ?_)
  by_cases h : bad i 0 (I0 7 0 - 1)
  · rw [if_pos h]
    refine g_aload_n C (i := 0) dX5_isOn_0 rfl rfl ?_
    refine g_iload_n C (i := 1) dX5_isOn_1 rfl rfl ?_
    refine g_callV C (q := (RX5, TX5, 4)) (rest := _) dX5_isOn_2 mm_X5_needSwitch ml_X5_87 mv_yX5_needSwitch ms_yX5_needSwitch (c_X5_needSwitch_bad hX hP i h) rfl hX.1 rfl rfl ⟨by decide, Nat.le_of_ble_eq_true rfl, Nat.le_of_ble_eq_true rfl, Nat.le_of_ble_eq_true rfl⟩ tk_noret (tk_thr fun n9 hn9 => ?_)
    exact g_out C ⟨Nat.le_of_ble_eq_true rfl, Nat.le_of_ble_eq_true rfl⟩ rfl ⟨hn9, rfl⟩ rfl rfl
  · rw [if_neg h]
    have hn9 := hW.2.1
    have h9 := h
    rw [hW.1] at h9
    obtain ⟨j, hj, rfl⟩ := bad_not (by omega) h9
    rw [nI_clamp (by omega)]
    refine g_aload_n C (i := 0) dX5_isOn_0 rfl rfl ?_
    refine g_iload_n C (i := 1) dX5_isOn_1 rfl rfl ?_
    refine g_callV C (q := (RX5, TX5, 4)) (rest := _) dX5_isOn_2 mm_X5_needSwitch ml_X5_87 mv_yX5_needSwitch ms_yX5_needSwitch (c_X5_needSwitch_ok hX hP _ h) rfl hX.1 rfl rfl ⟨by decide, Nat.le_of_ble_eq_true rfl, Nat.le_of_ble_eq_true rfl, Nat.le_of_ble_eq_true rfl⟩ (tk_retn ?_) tk_nothr
    refine g_aload_n C (i := 0) dX5_isOn_5 rfl rfl ?_
    refine g_getR C 5 0 (RX5, TX5, 4) dX5_isOn_6 hX.1 hX.2.1 ml_X5_10 rfl (by decide) rfl ?_
    refine g_getR C 1 1 (RX1, TX1, 5) dX5_isOn_9 (hP.1 0 (by decide)) (hP.2 0 1 7 (by decide) rfl) ml_X5_74 rfl (by decide) rfl ?_
    refine g_getR C 3 4 (RX3, TX3, 5) dX5_isOn_12 (hP.1 7 (by decide)) (hP.2 7 4 11 (by decide) rfl) ml_X5_147 rfl (by decide) rfl ?_
    refine g_iload_n C (i := 1) dX5_isOn_15 rfl rfl ?_
    refine g_za C dX5_isOn_16 (hP.1 11 (by decide)) (reg_at (k := 11) (by decide)) rfl (by omega) (by decide) (fun _ => ?_)
    exact g_zreturn C dX5_isOn_17 ⟨Nat.le_of_ble_eq_true rfl, Nat.le_of_ble_eq_true rfl⟩ (by first | assumption | exact Or.inl rfl | exact Or.inr rfl) (tkEnd.rf rfl rfl rfl)
theorem c_X5_total (hX : tkTP σ x p t dd) (hP : tkReg 28 pT pF σ p) {n : Nat} (hW : wPu I0 n) (i : Int32) :
    tkCon false (.code yX5_total cX5_total 2 (some .long)) yX5_total 10 [.ref x, .int i] σ (reg p 28 I0 v) (reg p 28 L0 w) 1 6 (if bad i 0 (I0 12 0 - 1) then xIOB else .inl (some (.long (L0 19 i.toNatClampNeg)))) σ (reg p 28 I0 v) (reg p 28 L0 w) := by
  refine tkCon.of (by decide) (Nat.le_of_ble_eq_true rfl) (fun X C => ?_)
  by_cases h : bad i 0 (I0 12 0 - 1)
  · rw [if_pos h]
    refine g_aload_n C (i := 0) dX5_total_0 rfl rfl ?_
    refine g_iload_n C (i := 1) dX5_total_1 rfl rfl ?_
    refine g_callV C (q := (RX5, TX5, 4)) (rest := _) dX5_total_2 mm_X5_needPump ml_X5_115 mv_yX5_needPump ms_yX5_needPump (c_X5_needPump_bad hX hP i h) rfl hX.1 rfl rfl ⟨by decide, Nat.le_of_ble_eq_true rfl, Nat.le_of_ble_eq_true rfl, Nat.le_of_ble_eq_true rfl⟩ tk_noret (tk_thr fun n9 hn9 => ?_)
    exact g_out C ⟨Nat.le_of_ble_eq_true rfl, Nat.le_of_ble_eq_true rfl⟩ rfl ⟨hn9, rfl⟩ rfl rfl
  · rw [if_neg h]
    have hn9 := hW.2.1
    have h9 := h
    rw [hW.1] at h9
    obtain ⟨j, hj, rfl⟩ := bad_not (by omega) h9
    rw [nI_clamp (by omega)]
    refine g_aload_n C (i := 0) dX5_total_0 rfl rfl ?_
    refine g_iload_n C (i := 1) dX5_total_1 rfl rfl ?_
    refine g_callV C (q := (RX5, TX5, 4)) (rest := _) dX5_total_2 mm_X5_needPump ml_X5_115 mv_yX5_needPump ms_yX5_needPump (c_X5_needPump_ok hX hP _ h) rfl hX.1 rfl rfl ⟨by decide, Nat.le_of_ble_eq_true rfl, Nat.le_of_ble_eq_true rfl, Nat.le_of_ble_eq_true rfl⟩ (tk_retn ?_) tk_nothr
    refine g_aload_n C (i := 0) dX5_total_5 rfl rfl ?_
    refine g_getR C 5 0 (RX5, TX5, 4) dX5_total_6 hX.1 hX.2.1 ml_X5_10 rfl (by decide) rfl ?_
    refine g_getR C 1 2 (RX1, TX1, 5) dX5_total_9 (hP.1 0 (by decide)) (hP.2 0 2 12 (by decide) rfl) ml_X5_97 rfl (by decide) rfl ?_
    refine g_getR C 2 7 (RX2, TX2, 13) dX5_total_12 (hP.1 12 (by decide)) (hP.2 12 7 19 (by decide) rfl) ml_X5_151 rfl (by decide) rfl ?_
    refine g_iload_n C (i := 1) dX5_total_15 rfl rfl ?_
    refine g_la C dX5_total_16 (hP.1 19 (by decide)) (reg_at (k := 19) (by decide)) rfl (by omega) (by decide) ?_
    exact g_lreturn C dX5_total_17 ⟨Nat.le_of_ble_eq_true rfl, Nat.le_of_ble_eq_true rfl⟩ (tkEnd.rf rfl rfl rfl)
theorem c_X5_energy (hX : tkTP σ x p t dd) (hP : tkReg 28 pT pF σ p) {n : Nat} (hW : wPu I0 n) (i : Int32) :
    tkCon false (.code yX5_energy cX5_energy 2 (some .long)) yX5_energy 10 [.ref x, .int i] σ (reg p 28 I0 v) (reg p 28 L0 w) 1 6 (if bad i 0 (I0 12 0 - 1) then xIOB else .inl (some (.long (L0 20 i.toNatClampNeg)))) σ (reg p 28 I0 v) (reg p 28 L0 w) := by
  refine tkCon.of (by decide) (Nat.le_of_ble_eq_true rfl) (fun X C => ?_)
  by_cases h : bad i 0 (I0 12 0 - 1)
  · rw [if_pos h]
    refine g_aload_n C (i := 0) dX5_energy_0 rfl rfl ?_
    refine g_iload_n C (i := 1) dX5_energy_1 rfl rfl ?_
    refine g_callV C (q := (RX5, TX5, 4)) (rest := _) dX5_energy_2 mm_X5_needPump ml_X5_115 mv_yX5_needPump ms_yX5_needPump (c_X5_needPump_bad hX hP i h) rfl hX.1 rfl rfl ⟨by decide, Nat.le_of_ble_eq_true rfl, Nat.le_of_ble_eq_true rfl, Nat.le_of_ble_eq_true rfl⟩ tk_noret (tk_thr fun n9 hn9 => ?_)
    exact g_out C ⟨Nat.le_of_ble_eq_true rfl, Nat.le_of_ble_eq_true rfl⟩ rfl ⟨hn9, rfl⟩ rfl rfl
  · rw [if_neg h]
    have hn9 := hW.2.1
    have h9 := h
    rw [hW.1] at h9
    obtain ⟨j, hj, rfl⟩ := bad_not (by omega) h9
    rw [nI_clamp (by omega)]
    refine g_aload_n C (i := 0) dX5_energy_0 rfl rfl ?_
    refine g_iload_n C (i := 1) dX5_energy_1 rfl rfl ?_
    refine g_callV C (q := (RX5, TX5, 4)) (rest := _) dX5_energy_2 mm_X5_needPump ml_X5_115 mv_yX5_needPump ms_yX5_needPump (c_X5_needPump_ok hX hP _ h) rfl hX.1 rfl rfl ⟨by decide, Nat.le_of_ble_eq_true rfl, Nat.le_of_ble_eq_true rfl, Nat.le_of_ble_eq_true rfl⟩ (tk_retn ?_) tk_nothr
    refine g_aload_n C (i := 0) dX5_energy_5 rfl rfl ?_
    refine g_getR C 5 0 (RX5, TX5, 4) dX5_energy_6 hX.1 hX.2.1 ml_X5_10 rfl (by decide) rfl ?_
    refine g_getR C 1 2 (RX1, TX1, 5) dX5_energy_9 (hP.1 0 (by decide)) (hP.2 0 2 12 (by decide) rfl) ml_X5_97 rfl (by decide) rfl ?_
    refine g_getR C 2 8 (RX2, TX2, 13) dX5_energy_12 (hP.1 12 (by decide)) (hP.2 12 8 20 (by decide) rfl) ml_X5_154 rfl (by decide) rfl ?_
    refine g_iload_n C (i := 1) dX5_energy_15 rfl rfl ?_
    refine g_la C dX5_energy_16 (hP.1 20 (by decide)) (reg_at (k := 20) (by decide)) rfl (by omega) (by decide) ?_
    exact g_lreturn C dX5_energy_17 ⟨Nat.le_of_ble_eq_true rfl, Nat.le_of_ble_eq_true rfl⟩ (tkEnd.rf rfl rfl rfl)
theorem c_X5_shortTicks (hX : tkTP σ x p t dd) (hP : tkReg 28 pT pF σ p) {n : Nat} (hW : wPu I0 n) (i : Int32) :
    tkCon false (.code yX5_shortTicks cX5_shortTicks 2 (some .long)) yX5_shortTicks 10 [.ref x, .int i] σ (reg p 28 I0 v) (reg p 28 L0 w) 1 6 (if bad i 0 (I0 12 0 - 1) then xIOB else .inl (some (.long (L0 21 i.toNatClampNeg)))) σ (reg p 28 I0 v) (reg p 28 L0 w) := by
  refine tkCon.of (by decide) (Nat.le_of_ble_eq_true rfl) (fun X C => ?_)
  by_cases h : bad i 0 (I0 12 0 - 1)
  · rw [if_pos h]
    refine g_aload_n C (i := 0) dX5_shortTicks_0 rfl rfl ?_
    refine g_iload_n C (i := 1) dX5_shortTicks_1 rfl rfl ?_
    refine g_callV C (q := (RX5, TX5, 4)) (rest := _) dX5_shortTicks_2 mm_X5_needPump ml_X5_115 mv_yX5_needPump ms_yX5_needPump (c_X5_needPump_bad hX hP i h) rfl hX.1 rfl rfl ⟨by decide, Nat.le_of_ble_eq_true rfl, Nat.le_of_ble_eq_true rfl, Nat.le_of_ble_eq_true rfl⟩ tk_noret (tk_thr fun n9 hn9 => ?_)
    exact g_out C ⟨Nat.le_of_ble_eq_true rfl, Nat.le_of_ble_eq_true rfl⟩ rfl ⟨hn9, rfl⟩ rfl rfl
  · rw [if_neg h]
    have hn9 := hW.2.1
    have h9 := h
    rw [hW.1] at h9
    obtain ⟨j, hj, rfl⟩ := bad_not (by omega) h9
    rw [nI_clamp (by omega)]
    refine g_aload_n C (i := 0) dX5_shortTicks_0 rfl rfl ?_
    refine g_iload_n C (i := 1) dX5_shortTicks_1 rfl rfl ?_
    refine g_callV C (q := (RX5, TX5, 4)) (rest := _) dX5_shortTicks_2 mm_X5_needPump ml_X5_115 mv_yX5_needPump ms_yX5_needPump (c_X5_needPump_ok hX hP _ h) rfl hX.1 rfl rfl ⟨by decide, Nat.le_of_ble_eq_true rfl, Nat.le_of_ble_eq_true rfl, Nat.le_of_ble_eq_true rfl⟩ (tk_retn ?_) tk_nothr
    refine g_aload_n C (i := 0) dX5_shortTicks_5 rfl rfl ?_
    refine g_getR C 5 0 (RX5, TX5, 4) dX5_shortTicks_6 hX.1 hX.2.1 ml_X5_10 rfl (by decide) rfl ?_
    refine g_getR C 1 2 (RX1, TX1, 5) dX5_shortTicks_9 (hP.1 0 (by decide)) (hP.2 0 2 12 (by decide) rfl) ml_X5_97 rfl (by decide) rfl ?_
    refine g_getR C 2 9 (RX2, TX2, 13) dX5_shortTicks_12 (hP.1 12 (by decide)) (hP.2 12 9 21 (by decide) rfl) ml_X5_157 rfl (by decide) rfl ?_
    refine g_iload_n C (i := 1) dX5_shortTicks_15 rfl rfl ?_
    refine g_la C dX5_shortTicks_16 (hP.1 21 (by decide)) (reg_at (k := 21) (by decide)) rfl (by omega) (by decide) ?_
    exact g_lreturn C dX5_shortTicks_17 ⟨Nat.le_of_ble_eq_true rfl, Nat.le_of_ble_eq_true rfl⟩ (tkEnd.rf rfl rfl rfl)
theorem c_X5_changeTime (hX : tkTP σ x p t dd) (hP : tkReg 28 pT pF σ p) {c : Nat} (hc : L0 25 0 = lN c) (hlt : c < 2 ^ 62) (i : Int32) :
    tkCon false (.code yX5_changeTime cX5_changeTime 2 (some .long)) yX5_changeTime 10 [.ref x, .int i] σ (reg p 28 I0 v) (reg p 28 L0 w) 1 6 (if bad i 0 (nI (min c 30) - 1) then xIOB else .inl (some (.long (L0 26 ((c - min c 30 + i.toNatClampNeg) % 30))))) σ (reg p 28 I0 v) (reg p 28 L0 w) := by
  refine tkCon.of (by decide) (Nat.le_of_ble_eq_true rfl) (fun X C => ?_)
  by_cases h : bad i 0 (nI (min c 30) - 1)
  · rw [if_pos h]
    refine g_aload_n C (i := 0) dX5_changeTime_0 rfl rfl ?_
    refine g_iload_n C (i := 1) dX5_changeTime_1 rfl rfl ?_
    refine g_callV C (q := (RX5, TX5, 4)) (rest := _) dX5_changeTime_2 mm_X5_needLogged ml_X5_175 mv_yX5_needLogged ms_yX5_needLogged (c_X5_needLogged_bad hX hP hc hlt i h) rfl hX.1 rfl rfl ⟨by decide, Nat.le_of_ble_eq_true rfl, Nat.le_of_ble_eq_true rfl, Nat.le_of_ble_eq_true rfl⟩ tk_noret (tk_thr fun n9 hn9 => ?_)
    exact g_out C ⟨Nat.le_of_ble_eq_true rfl, Nat.le_of_ble_eq_true rfl⟩ rfl ⟨hn9, rfl⟩ rfl rfl
  · rw [if_neg h]
    obtain ⟨j, hj, rfl⟩ := bad_not (by omega) h
    rw [nI_clamp (by omega)]
    refine g_aload_n C (i := 0) dX5_changeTime_0 rfl rfl ?_
    refine g_iload_n C (i := 1) dX5_changeTime_1 rfl rfl ?_
    refine g_callV C (q := (RX5, TX5, 4)) (rest := _) dX5_changeTime_2 mm_X5_needLogged ml_X5_175 mv_yX5_needLogged ms_yX5_needLogged (c_X5_needLogged_ok hX hP hc hlt _ h) rfl hX.1 rfl rfl ⟨by decide, Nat.le_of_ble_eq_true rfl, Nat.le_of_ble_eq_true rfl, Nat.le_of_ble_eq_true rfl⟩ (tk_retn ?_) tk_nothr
    refine g_aload_n C (i := 0) dX5_changeTime_5 rfl rfl ?_
    refine g_getR C 5 0 (RX5, TX5, 4) dX5_changeTime_6 hX.1 hX.2.1 ml_X5_10 rfl (by decide) rfl ?_
    refine g_getR C 1 3 (RX1, TX1, 5) dX5_changeTime_9 (hP.1 0 (by decide)) (hP.2 0 3 25 (by decide) rfl) ml_X5_167 rfl (by decide) rfl ?_
    refine g_getR C 0 1 (RX0, TX0, 3) dX5_changeTime_12 (hP.1 25 (by decide)) (hP.2 25 1 26 (by decide) rfl) ml_X5_178 rfl (by decide) rfl ?_
    refine g_aload_n C (i := 0) dX5_changeTime_15 rfl rfl ?_
    refine g_getR C 5 0 (RX5, TX5, 4) dX5_changeTime_16 hX.1 hX.2.1 ml_X5_10 rfl (by decide) rfl ?_
    refine g_getR C 1 3 (RX1, TX1, 5) dX5_changeTime_19 (hP.1 0 (by decide)) (hP.2 0 3 25 (by decide) rfl) ml_X5_167 rfl (by decide) rfl ?_
    refine g_iload_n C (i := 1) dX5_changeTime_22 rfl rfl ?_
    refine g_callV C (q := (RX0, TX0, 3)) (rest := _) dX5_changeTime_23 mm_X0_slotOf ml_X5_181 mv_yX0_slotOf ms_yX0_slotOf (c_X0_slotOf hP hc hlt hj) rfl (hP.1 25 (by decide)) rfl rfl ⟨by decide, Nat.le_of_ble_eq_true rfl, Nat.le_of_ble_eq_true rfl, Nat.le_of_ble_eq_true rfl⟩ (tk_retv ?_) tk_nothr
    refine g_la C dX5_changeTime_26 (hP.1 26 (by decide)) (reg_at (k := 26) (by decide)) rfl (by omega) (by decide) ?_
    exact g_lreturn C dX5_changeTime_27 ⟨Nat.le_of_ble_eq_true rfl, Nat.le_of_ble_eq_true rfl⟩ (tkEnd.rf rfl rfl rfl)
theorem c_X5_changeSwitch (hX : tkTP σ x p t dd) (hP : tkReg 28 pT pF σ p) {c : Nat} (hc : L0 25 0 = lN c) (hlt : c < 2 ^ 62) (i : Int32) :
    tkCon false (.code yX5_changeSwitch cX5_changeSwitch 2 (some .int)) yX5_changeSwitch 10 [.ref x, .int i] σ (reg p 28 I0 v) (reg p 28 L0 w) 1 6 (if bad i 0 (nI (min c 30) - 1) then xIOB else .inl (some (.int (I0 27 ((c - min c 30 + i.toNatClampNeg) % 30))))) σ (reg p 28 I0 v) (reg p 28 L0 w) := by
  refine tkCon.of (by decide) (Nat.le_of_ble_eq_true rfl) (fun X C => ?_)
  by_cases h : bad i 0 (nI (min c 30) - 1)
  · rw [if_pos h]
    refine g_aload_n C (i := 0) dX5_changeSwitch_0 rfl rfl ?_
    refine g_iload_n C (i := 1) dX5_changeSwitch_1 rfl rfl ?_
    refine g_callV C (q := (RX5, TX5, 4)) (rest := _) dX5_changeSwitch_2 mm_X5_needLogged ml_X5_175 mv_yX5_needLogged ms_yX5_needLogged (c_X5_needLogged_bad hX hP hc hlt i h) rfl hX.1 rfl rfl ⟨by decide, Nat.le_of_ble_eq_true rfl, Nat.le_of_ble_eq_true rfl, Nat.le_of_ble_eq_true rfl⟩ tk_noret (tk_thr fun n9 hn9 => ?_)
    exact g_out C ⟨Nat.le_of_ble_eq_true rfl, Nat.le_of_ble_eq_true rfl⟩ rfl ⟨hn9, rfl⟩ rfl rfl
  · rw [if_neg h]
    obtain ⟨j, hj, rfl⟩ := bad_not (by omega) h
    rw [nI_clamp (by omega)]
    refine g_aload_n C (i := 0) dX5_changeSwitch_0 rfl rfl ?_
    refine g_iload_n C (i := 1) dX5_changeSwitch_1 rfl rfl ?_
    refine g_callV C (q := (RX5, TX5, 4)) (rest := _) dX5_changeSwitch_2 mm_X5_needLogged ml_X5_175 mv_yX5_needLogged ms_yX5_needLogged (c_X5_needLogged_ok hX hP hc hlt _ h) rfl hX.1 rfl rfl ⟨by decide, Nat.le_of_ble_eq_true rfl, Nat.le_of_ble_eq_true rfl, Nat.le_of_ble_eq_true rfl⟩ (tk_retn ?_) tk_nothr
    refine g_aload_n C (i := 0) dX5_changeSwitch_5 rfl rfl ?_
    refine g_getR C 5 0 (RX5, TX5, 4) dX5_changeSwitch_6 hX.1 hX.2.1 ml_X5_10 rfl (by decide) rfl ?_
    refine g_getR C 1 3 (RX1, TX1, 5) dX5_changeSwitch_9 (hP.1 0 (by decide)) (hP.2 0 3 25 (by decide) rfl) ml_X5_167 rfl (by decide) rfl ?_
    refine g_getR C 0 2 (RX0, TX0, 3) dX5_changeSwitch_12 (hP.1 25 (by decide)) (hP.2 25 2 27 (by decide) rfl) ml_X5_184 rfl (by decide) rfl ?_
    refine g_aload_n C (i := 0) dX5_changeSwitch_15 rfl rfl ?_
    refine g_getR C 5 0 (RX5, TX5, 4) dX5_changeSwitch_16 hX.1 hX.2.1 ml_X5_10 rfl (by decide) rfl ?_
    refine g_getR C 1 3 (RX1, TX1, 5) dX5_changeSwitch_19 (hP.1 0 (by decide)) (hP.2 0 3 25 (by decide) rfl) ml_X5_167 rfl (by decide) rfl ?_
    refine g_iload_n C (i := 1) dX5_changeSwitch_22 rfl rfl ?_
    refine g_callV C (q := (RX0, TX0, 3)) (rest := _) dX5_changeSwitch_23 mm_X0_slotOf ml_X5_181 mv_yX0_slotOf ms_yX0_slotOf (c_X0_slotOf hP hc hlt hj) rfl (hP.1 25 (by decide)) rfl rfl ⟨by decide, Nat.le_of_ble_eq_true rfl, Nat.le_of_ble_eq_true rfl, Nat.le_of_ble_eq_true rfl⟩ (tk_retv ?_) tk_nothr
    refine g_ia C dX5_changeSwitch_26 (hP.1 27 (by decide)) (reg_at (k := 27) (by decide)) rfl (by omega) (by decide) ?_
    exact g_ireturn C dX5_changeSwitch_27 ⟨Nat.le_of_ble_eq_true rfl, Nat.le_of_ble_eq_true rfl⟩ (tkEnd.rf rfl rfl rfl)
theorem c_X5_meanLevel (hX : tkTP σ x p t dd) (hP : tkReg 28 pT pF σ p) {n : Nat} (hW : wTk I0 n) (i : Int32) (hne : 0 < L0 0 4 → vf_n64 (FP.ddiv (FP.l2d (L0 5 i.toNatClampNeg)) (FP.l2d (L0 0 4)))) :
    tkCon false (.code yX5_meanLevel cX5_meanLevel 2 (some .double)) yX5_meanLevel 10 [.ref x, .int i] σ (reg p 28 I0 v) (reg p 28 L0 w) 1 6 (if bad i 0 (I0 1 0 - 1) then xIOB else .inl (some (.double (if 0 < L0 0 4 then FP.ddiv (FP.l2d (L0 5 i.toNatClampNeg)) (FP.l2d (L0 0 4)) else FP.i2d (I0 3 i.toNatClampNeg))))) σ (reg p 28 I0 v) (reg p 28 L0 w) := by
  refine tkCon.of (by decide) (Nat.le_of_ble_eq_true rfl) (fun X C => ?_)
  by_cases h : bad i 0 (I0 1 0 - 1)
  · rw [if_pos h]
    refine g_aload_n C (i := 0) dX5_meanLevel_0 rfl rfl ?_
    refine g_iload_n C (i := 1) dX5_meanLevel_1 rfl rfl ?_
    refine g_callV C (q := (RX5, TX5, 4)) (rest := _) dX5_meanLevel_2 mm_X5_needTank ml_X5_65 mv_yX5_needTank ms_yX5_needTank (c_X5_needTank_bad hX hP i h) rfl hX.1 rfl rfl ⟨by decide, Nat.le_of_ble_eq_true rfl, Nat.le_of_ble_eq_true rfl, Nat.le_of_ble_eq_true rfl⟩ tk_noret (tk_thr fun n9 hn9 => ?_)
    exact g_out C ⟨Nat.le_of_ble_eq_true rfl, Nat.le_of_ble_eq_true rfl⟩ rfl ⟨hn9, rfl⟩ rfl rfl
  · rw [if_neg h]
    have hn9 := hW.2
    have h9 := h
    rw [hW.1] at h9
    obtain ⟨j, hj, rfl⟩ := bad_not (by omega) h9
    rw [nI_clamp (by omega)] at hne ⊢
    refine g_aload_n C (i := 0) dX5_meanLevel_0 rfl rfl ?_
    refine g_iload_n C (i := 1) dX5_meanLevel_1 rfl rfl ?_
    refine g_callV C (q := (RX5, TX5, 4)) (rest := _) dX5_meanLevel_2 mm_X5_needTank ml_X5_65 mv_yX5_needTank ms_yX5_needTank (c_X5_needTank_ok hX hP _ h) rfl hX.1 rfl rfl ⟨by decide, Nat.le_of_ble_eq_true rfl, Nat.le_of_ble_eq_true rfl, Nat.le_of_ble_eq_true rfl⟩ (tk_retn ?_) tk_nothr
    refine g_aload_n C (i := 0) dX5_meanLevel_5 rfl rfl ?_
    refine g_getR C 5 0 (RX5, TX5, 4) dX5_meanLevel_6 hX.1 hX.2.1 ml_X5_10 rfl (by decide) rfl ?_
    refine g_getL C 1 4 (RX1, TX1, 5) dX5_meanLevel_9 (hP.1 0 (by decide)) (reg_at (k := 0) (by decide)) ml_X5_139 rfl (by decide) rfl ?_
    refine g_lconst C 0 dX5_meanLevel_12 rfl ?_
    refine g_lcmp C dX5_meanLevel_13 ?_
    refine g_if_gt C 31 dX5_meanLevel_14 (by decide) (fun h14 => ?_) (fun h14 => ?_)
    · rw [lg_cmp_gt] at h14
      rw [if_pos h14]
      refine g_aload_n C (i := 0) dX5_meanLevel_31 rfl rfl ?_
      refine g_getR C 5 0 (RX5, TX5, 4) dX5_meanLevel_32 hX.1 hX.2.1 ml_X5_10 rfl (by decide) rfl ?_
      refine g_getR C 1 0 (RX1, TX1, 5) dX5_meanLevel_35 (hP.1 0 (by decide)) (hP.2 0 0 1 (by decide) rfl) ml_X5_47 rfl (by decide) rfl ?_
      refine g_getR C 4 4 (RX4, TX4, 6) dX5_meanLevel_38 (hP.1 1 (by decide)) (hP.2 1 4 5 (by decide) rfl) ml_X5_143 rfl (by decide) rfl ?_
      refine g_iload_n C (i := 1) dX5_meanLevel_41 rfl rfl ?_
      refine g_la C dX5_meanLevel_42 (hP.1 5 (by decide)) (reg_at (k := 5) (by decide)) rfl (by omega) (by decide) ?_
      refine g_l2d C dX5_meanLevel_43 ?_
      refine g_aload_n C (i := 0) dX5_meanLevel_44 rfl rfl ?_
      refine g_getR C 5 0 (RX5, TX5, 4) dX5_meanLevel_45 hX.1 hX.2.1 ml_X5_10 rfl (by decide) rfl ?_
      refine g_getL C 1 4 (RX1, TX1, 5) dX5_meanLevel_48 (hP.1 0 (by decide)) (reg_at (k := 0) (by decide)) ml_X5_139 rfl (by decide) rfl ?_
      refine g_l2d C dX5_meanLevel_51 ?_
      refine g_ddiv C dX5_meanLevel_52 (hne h14) ?_
      exact g_dreturn C dX5_meanLevel_53 ⟨Nat.le_of_ble_eq_true rfl, Nat.le_of_ble_eq_true rfl⟩ (tkEnd.rf rfl rfl rfl)
    · rw [lg_cmp_gt] at h14
      rw [if_neg h14]
      refine g_aload_n C (i := 0) dX5_meanLevel_17 rfl rfl ?_
      refine g_getR C 5 0 (RX5, TX5, 4) dX5_meanLevel_18 hX.1 hX.2.1 ml_X5_10 rfl (by decide) rfl ?_
      refine g_getR C 1 0 (RX1, TX1, 5) dX5_meanLevel_21 (hP.1 0 (by decide)) (hP.2 0 0 1 (by decide) rfl) ml_X5_47 rfl (by decide) rfl ?_
      refine g_getR C 4 2 (RX4, TX4, 6) dX5_meanLevel_24 (hP.1 1 (by decide)) (hP.2 1 2 3 (by decide) rfl) ml_X5_109 rfl (by decide) rfl ?_
      refine g_iload_n C (i := 1) dX5_meanLevel_27 rfl rfl ?_
      refine g_ia C dX5_meanLevel_28 (hP.1 3 (by decide)) (reg_at (k := 3) (by decide)) rfl (by omega) (by decide) ?_
      refine g_i2d C dX5_meanLevel_29 ?_
      exact g_dreturn C dX5_meanLevel_30 ⟨Nat.le_of_ble_eq_true rfl, Nat.le_of_ble_eq_true rfl⟩ (tkEnd.rf rfl rfl rfl)
def xAddTank (nt : Nat) (c l k : Int32) (q : tkI × tkL) : tkOut × (tkI × tkL) :=
  if bad c 1 1000000000 then (xIAE, q) else if bad l 0 c then (xIAE, q) else if bad k 0 1000000 then (xIAE, q) else if 8 ≤ nt then (xISE, q) else
    (.inl (some (.int (nI nt))), (tk2 (tk2 (tk2 (tk2 q.1 2 nt c) 3 nt l) 4 nt k) 1 0 (nI nt + 1), tk2 q.2 5 nt 0))
theorem c_X5_addTank (hX : tkTP σ x p t dd) (hP : tkReg 28 pT pF σ p) {nt : Nat} (hW : wTk I0 nt) (c l k : Int32) :
    tkCon false (.code yX5_addTank cX5_addTank 4 (some .int)) yX5_addTank 10 [.ref x, .int c, .int l, .int k] σ (reg p 28 I0 v) (reg p 28 L0 w) 1 6 ((xAddTank nt c l k (I0, L0)).1) σ (reg p 28 (xAddTank nt c l k (I0, L0)).2.1 v) (reg p 28 (xAddTank nt c l k (I0, L0)).2.2 w) := by
  refine tkCon.of (by decide) (Nat.le_of_ble_eq_true rfl) (fun X C => ?_)
  have hn := hW.2
  unfold xAddTank
  refine g_iload_n C (i := 1) dX5_addTank_0 rfl rfl ?_
  refine g_iconst C (1) dX5_addTank_1 rfl ?_
  refine g_ldc C (1000000000) dX5_addTank_2 ml_X5_27 ?_
  refine g_callS C dX5_addTank_4 mm_X5_isWithin ml_X5_28 mt_yX5_isWithin (c_X5_isWithin _ _ _) rfl ⟨by decide, Nat.le_of_ble_eq_true rfl, Nat.le_of_ble_eq_true rfl, Nat.le_of_ble_eq_true rfl⟩ (tk_retv ?_) tk_nothr
  refine g_if_ne C 20 dX5_addTank_7 (by decide) (fun h7 => ?_) (fun h7 => ?_)
  · rw [if_neg (jwith_nz h7)]
    by_cases h1 : bad l 0 c
    · rw [if_pos h1]
      refine g_iload_n C (i := 2) dX5_addTank_20 rfl rfl ?_
      refine g_iload_n C (i := 1) dX5_addTank_21 rfl rfl ?_
      refine g_callS C dX5_addTank_22 mm_X5_needAmount ml_X5_39 mt_yX5_needAmount (c_X5_needAmount_bad (p := p) l c h1) rfl ⟨by decide, Nat.le_of_ble_eq_true rfl, Nat.le_of_ble_eq_true rfl, Nat.le_of_ble_eq_true rfl⟩ tk_noret (tk_thr fun n9 hn9 => ?_)
      exact g_out C ⟨Nat.le_of_ble_eq_true rfl, Nat.le_of_ble_eq_true rfl⟩ rfl ⟨hn9, rfl⟩ rfl rfl
    · rw [if_neg h1]
      refine g_iload_n C (i := 2) dX5_addTank_20 rfl rfl ?_
      refine g_iload_n C (i := 1) dX5_addTank_21 rfl rfl ?_
      refine g_callS C dX5_addTank_22 mm_X5_needAmount ml_X5_39 mt_yX5_needAmount (c_X5_needAmount_ok (p := p) l c h1) rfl ⟨by decide, Nat.le_of_ble_eq_true rfl, Nat.le_of_ble_eq_true rfl, Nat.le_of_ble_eq_true rfl⟩ (tk_retn ?_) tk_nothr
      by_cases h2 : bad k 0 1000000
      · rw [if_pos h2]
        refine g_iload_n C (i := 3) dX5_addTank_25 rfl rfl ?_
        refine g_callS C dX5_addTank_26 mm_X5_needLeak ml_X5_43 mt_yX5_needLeak (c_X5_needLeak_bad (p := p) k h2) rfl ⟨by decide, Nat.le_of_ble_eq_true rfl, Nat.le_of_ble_eq_true rfl, Nat.le_of_ble_eq_true rfl⟩ tk_noret (tk_thr fun n9 hn9 => ?_)
        exact g_out C ⟨Nat.le_of_ble_eq_true rfl, Nat.le_of_ble_eq_true rfl⟩ rfl ⟨hn9, rfl⟩ rfl rfl
      · rw [if_neg h2]
        refine g_iload_n C (i := 3) dX5_addTank_25 rfl rfl ?_
        refine g_callS C dX5_addTank_26 mm_X5_needLeak ml_X5_43 mt_yX5_needLeak (c_X5_needLeak_ok (p := p) k h2) rfl ⟨by decide, Nat.le_of_ble_eq_true rfl, Nat.le_of_ble_eq_true rfl, Nat.le_of_ble_eq_true rfl⟩ (tk_retn ?_) tk_nothr
        refine g_aload_n C (i := 0) dX5_addTank_29 rfl rfl ?_
        refine g_getR C 5 0 (RX5, TX5, 4) dX5_addTank_30 hX.1 hX.2.1 ml_X5_10 rfl (by decide) rfl ?_
        refine g_getR C 1 0 (RX1, TX1, 5) dX5_addTank_33 (hP.1 0 (by decide)) (hP.2 0 0 1 (by decide) rfl) ml_X5_47 rfl (by decide) rfl ?_
        refine g_getI C 4 0 (RX4, TX4, 6) dX5_addTank_36 (hP.1 1 (by decide)) (reg_at (k := 1) (by decide)) ml_X5_51 rfl (by decide) (Or.inl rfl) ?_
        rw [hW.1]
        refine g_bipush C (8) dX5_addTank_39 rfl ?_
        refine g_icmp_lt C 54 dX5_addTank_41 (by decide) (fun h41 => ?_) (fun h41 => ?_)
        · have h3 : nt < 8 := (nI_ltI (by omega) (by omega)).mp h41
          rw [if_neg (Nat.not_le_of_lt h3)]
          refine g_aload_n C (i := 0) dX5_addTank_54 rfl rfl ?_
          refine g_getR C 5 0 (RX5, TX5, 4) dX5_addTank_55 hX.1 hX.2.1 ml_X5_10 rfl (by decide) rfl ?_
          refine g_getR C 1 0 (RX1, TX1, 5) dX5_addTank_58 (hP.1 0 (by decide)) (hP.2 0 0 1 (by decide) rfl) ml_X5_47 rfl (by decide) rfl ?_
          refine g_iload_n C (i := 1) dX5_addTank_61 rfl rfl ?_
          refine g_iload_n C (i := 2) dX5_addTank_62 rfl rfl ?_
          refine g_iload_n C (i := 3) dX5_addTank_63 rfl rfl ?_
          refine g_callV C (q := (RX4, TX4, 6)) (rest := _) dX5_addTank_64 mm_X4_append ml_X5_61 mv_yX4_append ms_yX4_append (c_X4_append hP h3 hW.1 _ _ _) rfl (hP.1 1 (by decide)) rfl rfl ⟨by decide, Nat.le_of_ble_eq_true rfl, Nat.le_of_ble_eq_true rfl, Nat.le_of_ble_eq_true rfl⟩ (tk_retv ?_) tk_nothr
          exact g_ireturn C dX5_addTank_67 ⟨Nat.le_of_ble_eq_true rfl, Nat.le_of_ble_eq_true rfl⟩ (tkEnd.rf rfl rfl rfl)
        · rw [if_pos (Nat.le_of_not_lt fun z => h41 (nI_lt (b := 8) z (by omega)))]
          exact g_throwS C (text := "there are 8 tanks") dX5_addTank_44 dX5_addTank_47 dX5_addTank_48 dX5_addTank_50 dX5_addTank_53 rfl ml_X5_56 mi_java_lang_IllegalStateException (by decide) mx_ise mg_ise ⟨by decide, Nat.le_of_ble_eq_true rfl, Nat.le_of_ble_eq_true rfl, Nat.le_of_ble_eq_true rfl⟩ ⟨Nat.le_of_ble_eq_true rfl, Nat.le_of_ble_eq_true rfl⟩ rfl ⟨Nat.le_refl _, rfl⟩ rfl rfl
  · rw [if_pos (jwith_z h7)]
    exact g_throwS C (text := "capacity is not 1 to 1000000000") dX5_addTank_10 dX5_addTank_13 dX5_addTank_14 dX5_addTank_16 dX5_addTank_19 rfl ml_X5_32 mi_java_lang_IllegalArgumentException (by decide) mx_iae mg_iae ⟨by decide, Nat.le_of_ble_eq_true rfl, Nat.le_of_ble_eq_true rfl, Nat.le_of_ble_eq_true rfl⟩ ⟨Nat.le_of_ble_eq_true rfl, Nat.le_of_ble_eq_true rfl⟩ rfl ⟨Nat.le_refl _, rfl⟩ rfl rfl
def xAddSwitch (ns : Nat) (i lo hi : Int32) (q : tkI × tkL) : tkOut × (tkI × tkL) :=
  if bad i 0 (q.1 1 0 - 1) then (xIOB, q) else if lo < 0 ∨ hi ≤ lo ∨ ¬ hi ≤ q.1 2 i.toNatClampNeg then (xIAE, q) else if 10 ≤ ns then (xISE, q) else
    (.inl (some (.int (nI ns))), (tk2 (tk2 (tk2 (tk2 (tk2 q.1 8 ns i) 9 ns lo) 10 ns hi) 11 ns 0) 7 0 (nI ns + 1), q.2))
theorem c_X5_addSwitch (hX : tkTP σ x p t dd) (hP : tkReg 28 pT pF σ p) {nt ns : Nat} (hT : wTk I0 nt) (hW : wSw I0 ns) (i lo hi : Int32) :
    tkCon false (.code yX5_addSwitch cX5_addSwitch 4 (some .int)) yX5_addSwitch 10 [.ref x, .int i, .int lo, .int hi] σ (reg p 28 I0 v) (reg p 28 L0 w) 1 6 ((xAddSwitch ns i lo hi (I0, L0)).1) σ (reg p 28 (xAddSwitch ns i lo hi (I0, L0)).2.1 v) (reg p 28 (xAddSwitch ns i lo hi (I0, L0)).2.2 w) := by
  refine tkCon.of (by decide) (Nat.le_of_ble_eq_true rfl) (fun X C => ?_)
  have hn := hW.2.1
  have hn2 := hT.2
  unfold xAddSwitch
  dsimp only
  by_cases h : bad i 0 (I0 1 0 - 1)
  · rw [if_pos h]
    refine g_aload_n C (i := 0) dX5_addSwitch_0 rfl rfl ?_
    refine g_iload_n C (i := 1) dX5_addSwitch_1 rfl rfl ?_
    refine g_callV C (q := (RX5, TX5, 4)) (rest := _) dX5_addSwitch_2 mm_X5_needTank ml_X5_65 mv_yX5_needTank ms_yX5_needTank (c_X5_needTank_bad hX hP i h) rfl hX.1 rfl rfl ⟨by decide, Nat.le_of_ble_eq_true rfl, Nat.le_of_ble_eq_true rfl, Nat.le_of_ble_eq_true rfl⟩ tk_noret (tk_thr fun n9 hn9 => ?_)
    exact g_out C ⟨Nat.le_of_ble_eq_true rfl, Nat.le_of_ble_eq_true rfl⟩ rfl ⟨hn9, rfl⟩ rfl rfl
  · rw [if_neg h]
    have h9 := h
    rw [hT.1] at h9
    obtain ⟨j, hj, rfl⟩ := bad_not (by omega) h9
    rw [nI_clamp (by omega)]
    refine g_aload_n C (i := 0) dX5_addSwitch_0 rfl rfl ?_
    refine g_iload_n C (i := 1) dX5_addSwitch_1 rfl rfl ?_
    refine g_callV C (q := (RX5, TX5, 4)) (rest := _) dX5_addSwitch_2 mm_X5_needTank ml_X5_65 mv_yX5_needTank ms_yX5_needTank (c_X5_needTank_ok hX hP _ h) rfl hX.1 rfl rfl ⟨by decide, Nat.le_of_ble_eq_true rfl, Nat.le_of_ble_eq_true rfl, Nat.le_of_ble_eq_true rfl⟩ (tk_retn ?_) tk_nothr
    refine g_iload_n C (i := 2) dX5_addSwitch_5 rfl rfl ?_
    refine g_if_lt C 30 dX5_addSwitch_6 (by decide) (fun h6 => ?_) (fun h6 => ?_)
    · rw [if_pos (Or.inl h6)]
      exact g_throwS C (text := "not 0 <= low < high <= capacity") dX5_addSwitch_30 dX5_addSwitch_33 dX5_addSwitch_34 dX5_addSwitch_36 dX5_addSwitch_39 rfl ml_X5_32 mi_java_lang_IllegalArgumentException (by decide) mx_iae mg_iae ⟨by decide, Nat.le_of_ble_eq_true rfl, Nat.le_of_ble_eq_true rfl, Nat.le_of_ble_eq_true rfl⟩ ⟨Nat.le_of_ble_eq_true rfl, Nat.le_of_ble_eq_true rfl⟩ rfl ⟨Nat.le_refl _, rfl⟩ rfl rfl
    · refine g_iload_n C (i := 2) dX5_addSwitch_9 rfl rfl ?_
      refine g_iload_n C (i := 3) dX5_addSwitch_10 rfl rfl ?_
      refine g_icmp_ge C 30 dX5_addSwitch_11 (by decide) (fun h11 => ?_) (fun h11 => ?_)
      · rw [if_pos (Or.inr (Or.inl h11))]
        exact g_throwS C (text := "not 0 <= low < high <= capacity") dX5_addSwitch_30 dX5_addSwitch_33 dX5_addSwitch_34 dX5_addSwitch_36 dX5_addSwitch_39 rfl ml_X5_32 mi_java_lang_IllegalArgumentException (by decide) mx_iae mg_iae ⟨by decide, Nat.le_of_ble_eq_true rfl, Nat.le_of_ble_eq_true rfl, Nat.le_of_ble_eq_true rfl⟩ ⟨Nat.le_of_ble_eq_true rfl, Nat.le_of_ble_eq_true rfl⟩ rfl ⟨Nat.le_refl _, rfl⟩ rfl rfl
      · refine g_iload_n C (i := 3) dX5_addSwitch_14 rfl rfl ?_
        refine g_aload_n C (i := 0) dX5_addSwitch_15 rfl rfl ?_
        refine g_getR C 5 0 (RX5, TX5, 4) dX5_addSwitch_16 hX.1 hX.2.1 ml_X5_10 rfl (by decide) rfl ?_
        refine g_getR C 1 0 (RX1, TX1, 5) dX5_addSwitch_19 (hP.1 0 (by decide)) (hP.2 0 0 1 (by decide) rfl) ml_X5_47 rfl (by decide) rfl ?_
        refine g_getR C 4 1 (RX4, TX4, 6) dX5_addSwitch_22 (hP.1 1 (by decide)) (hP.2 1 1 2 (by decide) rfl) ml_X5_68 rfl (by decide) rfl ?_
        refine g_iload_n C (i := 1) dX5_addSwitch_25 rfl rfl ?_
        refine g_ia C dX5_addSwitch_26 (hP.1 2 (by decide)) (reg_at (k := 2) (by decide)) rfl (by omega) (by decide) ?_
        refine g_icmp_le C 40 dX5_addSwitch_27 (by decide) (fun h27 => ?_) (fun h27 => ?_)
        · rw [if_neg (by rintro (z | z | z); exact h6 z; exact h11 z; exact z h27)]
          refine g_aload_n C (i := 0) dX5_addSwitch_40 rfl rfl ?_
          refine g_getR C 5 0 (RX5, TX5, 4) dX5_addSwitch_41 hX.1 hX.2.1 ml_X5_10 rfl (by decide) rfl ?_
          refine g_getR C 1 1 (RX1, TX1, 5) dX5_addSwitch_44 (hP.1 0 (by decide)) (hP.2 0 1 7 (by decide) rfl) ml_X5_74 rfl (by decide) rfl ?_
          refine g_getI C 3 0 (RX3, TX3, 5) dX5_addSwitch_47 (hP.1 7 (by decide)) (reg_at (k := 7) (by decide)) ml_X5_78 rfl (by decide) (Or.inl rfl) ?_
          rw [hW.1]
          refine g_bipush C (10) dX5_addSwitch_50 rfl ?_
          refine g_icmp_lt C 65 dX5_addSwitch_52 (by decide) (fun h52 => ?_) (fun h52 => ?_)
          · have h3 : ns < 10 := (nI_ltI (by omega) (by omega)).mp h52
            rw [if_neg (Nat.not_le_of_lt h3)]
            refine g_aload_n C (i := 0) dX5_addSwitch_65 rfl rfl ?_
            refine g_getR C 5 0 (RX5, TX5, 4) dX5_addSwitch_66 hX.1 hX.2.1 ml_X5_10 rfl (by decide) rfl ?_
            refine g_getR C 1 1 (RX1, TX1, 5) dX5_addSwitch_69 (hP.1 0 (by decide)) (hP.2 0 1 7 (by decide) rfl) ml_X5_74 rfl (by decide) rfl ?_
            refine g_iload_n C (i := 1) dX5_addSwitch_72 rfl rfl ?_
            refine g_iload_n C (i := 2) dX5_addSwitch_73 rfl rfl ?_
            refine g_iload_n C (i := 3) dX5_addSwitch_74 rfl rfl ?_
            refine g_callV C (q := (RX3, TX3, 5)) (rest := _) dX5_addSwitch_75 mm_X3_append ml_X5_83 mv_yX3_append ms_yX3_append (c_X3_append hP h3 hW.1 _ _ _) rfl (hP.1 7 (by decide)) rfl rfl ⟨by decide, Nat.le_of_ble_eq_true rfl, Nat.le_of_ble_eq_true rfl, Nat.le_of_ble_eq_true rfl⟩ (tk_retv ?_) tk_nothr
            exact g_ireturn C dX5_addSwitch_78 ⟨Nat.le_of_ble_eq_true rfl, Nat.le_of_ble_eq_true rfl⟩ (tkEnd.rf rfl rfl rfl)
          · rw [if_pos (Nat.le_of_not_lt fun z => h52 (nI_lt (b := 10) z (by omega)))]
            exact g_throwS C (text := "there are 10 switches") dX5_addSwitch_55 dX5_addSwitch_58 dX5_addSwitch_59 dX5_addSwitch_61 dX5_addSwitch_64 rfl ml_X5_56 mi_java_lang_IllegalStateException (by decide) mx_ise mg_ise ⟨by decide, Nat.le_of_ble_eq_true rfl, Nat.le_of_ble_eq_true rfl, Nat.le_of_ble_eq_true rfl⟩ ⟨Nat.le_of_ble_eq_true rfl, Nat.le_of_ble_eq_true rfl⟩ rfl ⟨Nat.le_refl _, rfl⟩ rfl rfl
        · rw [if_pos (Or.inr (Or.inr h27))]
          exact g_throwS C (text := "not 0 <= low < high <= capacity") dX5_addSwitch_30 dX5_addSwitch_33 dX5_addSwitch_34 dX5_addSwitch_36 dX5_addSwitch_39 rfl ml_X5_32 mi_java_lang_IllegalArgumentException (by decide) mx_iae mg_iae ⟨by decide, Nat.le_of_ble_eq_true rfl, Nat.le_of_ble_eq_true rfl, Nat.le_of_ble_eq_true rfl⟩ ⟨Nat.le_of_ble_eq_true rfl, Nat.le_of_ble_eq_true rfl⟩ rfl ⟨Nat.le_refl _, rfl⟩ rfl rfl
def xAddPump (np : Nat) (i j r l c b : Int32) (q : tkI × tkL) : tkOut × (tkI × tkL) :=
  if badE i q.1 then (xIOB, q) else if badE j q.1 then (xIOB, q) else if ¬ c = -1 ∧ bad c 0 (q.1 7 0 - 1) then (xIOB, q) else if i = j then (xIAE, q) else if bad r 1 1000000 then (xIAE, q) else if bad l 0 100 then (xIAE, q) else if 16 ≤ np then (xISE, q) else
    (.inl (some (.int (nI np))), (tk2 (tk2 (tk2 (tk2 (tk2 (tk2 (tk2 q.1 13 np i) 14 np j) 15 np r) 16 np l) 17 np c) 18 np b) 12 0 (nI np + 1), tk2 (tk2 (tk2 q.2 19 np 0) 20 np 0) 21 np 0))
theorem c_X5_addPump (hX : tkTP σ x p t dd) (hP : tkReg 28 pT pF σ p) {np : Nat} (hW : wPu I0 np) (i j r l c b : Int32) (hb : b = 0 ∨ b = 1) :
    tkCon false (.code yX5_addPump cX5_addPump 7 (some .int)) yX5_addPump 10 [.ref x, .int i, .int j, .int r, .int l, .int c, .int b] σ (reg p 28 I0 v) (reg p 28 L0 w) 1 6 ((xAddPump np i j r l c b (I0, L0)).1) σ (reg p 28 (xAddPump np i j r l c b (I0, L0)).2.1 v) (reg p 28 (xAddPump np i j r l c b (I0, L0)).2.2 w) := by
  refine tkCon.of (by decide) (Nat.le_of_ble_eq_true rfl) (fun X C => ?_)
  have hn := hW.2.1
  unfold xAddPump
  dsimp only
  have J22 : ¬ (¬ c = -1 ∧ bad c 0 (I0 7 0 - 1)) → tkG X (tkQ false X 1 6 ((if ¬ c = -1 ∧ bad c 0 (I0 7 0 - 1) then ((xIOB, (I0, L0)) : tkOut × (tkI × tkL)) else if i = j then (xIAE, (I0, L0)) else if bad r 1 1000000 then (xIAE, (I0, L0)) else if bad l 0 100 then (xIAE, (I0, L0)) else if 16 ≤ np then (xISE, (I0, L0)) else
    (.inl (some (.int (nI np))), (tk2 (tk2 (tk2 (tk2 (tk2 (tk2 (tk2 I0 13 np i) 14 np j) 15 np r) 16 np l) 17 np c) 18 np b) 12 0 (nI np + 1), tk2 (tk2 (tk2 L0 19 np 0) 20 np 0) 21 np 0)))).1
     σ (reg p 28 ((if ¬ c = -1 ∧ bad c 0 (I0 7 0 - 1) then ((xIOB, (I0, L0)) : tkOut × (tkI × tkL)) else if i = j then (xIAE, (I0, L0)) else if bad r 1 1000000 then (xIAE, (I0, L0)) else if bad l 0 100 then (xIAE, (I0, L0)) else if 16 ≤ np then (xISE, (I0, L0)) else
    (.inl (some (.int (nI np))), (tk2 (tk2 (tk2 (tk2 (tk2 (tk2 (tk2 I0 13 np i) 14 np j) 15 np r) 16 np l) 17 np c) 18 np b) 12 0 (nI np + 1), tk2 (tk2 (tk2 L0 19 np 0) 20 np 0) 21 np 0)))).2.1 v) (reg p 28 ((if ¬ c = -1 ∧ bad c 0 (I0 7 0 - 1) then ((xIOB, (I0, L0)) : tkOut × (tkI × tkL)) else if i = j then (xIAE, (I0, L0)) else if bad r 1 1000000 then (xIAE, (I0, L0)) else if bad l 0 100 then (xIAE, (I0, L0)) else if 16 ≤ np then (xISE, (I0, L0)) else
    (.inl (some (.int (nI np))), (tk2 (tk2 (tk2 (tk2 (tk2 (tk2 (tk2 I0 13 np i) 14 np j) 15 np r) 16 np l) 17 np c) 18 np b) 12 0 (nI np + 1), tk2 (tk2 (tk2 L0 19 np 0) 20 np 0) 21 np 0)))).2.2 w)) 0 0 22 [some (.ref x), some (.int i), some (.int j), some (.int r), some (.int l), some (.int c), some (.int b)] [] σ (reg p 28 I0 v) (reg p 28 L0 w) := by
    intro hc
    rw [if_neg hc]
    refine g_iload_n C (i := 1) dX5_addPump_22 rfl rfl ?_
    refine g_iload_n C (i := 2) dX5_addPump_23 rfl rfl ?_
    refine g_icmp_ne C 37 dX5_addPump_24 (by decide) (fun h24 => ?_) (fun h24 => ?_)
    · rw [if_neg h24]
      by_cases h2 : bad r 1 1000000
      · rw [if_pos h2]
        refine g_iload_n C (i := 3) dX5_addPump_37 rfl rfl ?_
        refine g_callS C dX5_addPump_38 mm_X5_needRate ml_X5_92 mt_yX5_needRate (c_X5_needRate_bad (p := p) r h2) rfl ⟨by decide, Nat.le_of_ble_eq_true rfl, Nat.le_of_ble_eq_true rfl, Nat.le_of_ble_eq_true rfl⟩ tk_noret (tk_thr fun n9 hn9 => ?_)
        exact g_out C ⟨Nat.le_of_ble_eq_true rfl, Nat.le_of_ble_eq_true rfl⟩ rfl ⟨hn9, rfl⟩ rfl rfl
      · rw [if_neg h2]
        refine g_iload_n C (i := 3) dX5_addPump_37 rfl rfl ?_
        refine g_callS C dX5_addPump_38 mm_X5_needRate ml_X5_92 mt_yX5_needRate (c_X5_needRate_ok (p := p) r h2) rfl ⟨by decide, Nat.le_of_ble_eq_true rfl, Nat.le_of_ble_eq_true rfl, Nat.le_of_ble_eq_true rfl⟩ (tk_retn ?_) tk_nothr
        refine g_iload C (i := 4) dX5_addPump_41 rfl ?_
        refine g_iconst C (0) dX5_addPump_43 rfl ?_
        refine g_bipush C (100) dX5_addPump_44 rfl ?_
        refine g_callS C dX5_addPump_46 mm_X5_isWithin ml_X5_28 mt_yX5_isWithin (c_X5_isWithin _ _ _) rfl ⟨by decide, Nat.le_of_ble_eq_true rfl, Nat.le_of_ble_eq_true rfl, Nat.le_of_ble_eq_true rfl⟩ (tk_retv ?_) tk_nothr
        refine g_if_ne C 62 dX5_addPump_49 (by decide) (fun h49 => ?_) (fun h49 => ?_)
        · rw [if_neg (jwith_nz h49)]
          refine g_aload_n C (i := 0) dX5_addPump_62 rfl rfl ?_
          refine g_getR C 5 0 (RX5, TX5, 4) dX5_addPump_63 hX.1 hX.2.1 ml_X5_10 rfl (by decide) rfl ?_
          refine g_getR C 1 2 (RX1, TX1, 5) dX5_addPump_66 (hP.1 0 (by decide)) (hP.2 0 2 12 (by decide) rfl) ml_X5_97 rfl (by decide) rfl ?_
          refine g_getI C 2 0 (RX2, TX2, 13) dX5_addPump_69 (hP.1 12 (by decide)) (reg_at (k := 12) (by decide)) ml_X5_101 rfl (by decide) (Or.inl rfl) ?_
          rw [hW.1]
          refine g_bipush C (16) dX5_addPump_72 rfl ?_
          refine g_icmp_lt C 87 dX5_addPump_74 (by decide) (fun h74 => ?_) (fun h74 => ?_)
          · have h3 : np < 16 := (nI_ltI (by omega) (by omega)).mp h74
            rw [if_neg (Nat.not_le_of_lt h3)]
            refine g_aload_n C (i := 0) dX5_addPump_87 rfl rfl ?_
            refine g_getR C 5 0 (RX5, TX5, 4) dX5_addPump_88 hX.1 hX.2.1 ml_X5_10 rfl (by decide) rfl ?_
            refine g_getR C 1 2 (RX1, TX1, 5) dX5_addPump_91 (hP.1 0 (by decide)) (hP.2 0 2 12 (by decide) rfl) ml_X5_97 rfl (by decide) rfl ?_
            refine g_iload_n C (i := 1) dX5_addPump_94 rfl rfl ?_
            refine g_iload_n C (i := 2) dX5_addPump_95 rfl rfl ?_
            refine g_iload_n C (i := 3) dX5_addPump_96 rfl rfl ?_
            refine g_iload C (i := 4) dX5_addPump_97 rfl ?_
            refine g_iload C (i := 5) dX5_addPump_99 rfl ?_
            refine g_iload C (i := 6) dX5_addPump_101 rfl ?_
            refine g_callV C (q := (RX2, TX2, 13)) (rest := _) dX5_addPump_103 mm_X2_append ml_X5_106 mv_yX2_append ms_yX2_append (c_X2_append hP h3 hW.1 _ _ _ _ _ _ hb) rfl (hP.1 12 (by decide)) rfl rfl ⟨by decide, Nat.le_of_ble_eq_true rfl, Nat.le_of_ble_eq_true rfl, Nat.le_of_ble_eq_true rfl⟩ (tk_retv ?_) tk_nothr
            exact g_ireturn C dX5_addPump_106 ⟨Nat.le_of_ble_eq_true rfl, Nat.le_of_ble_eq_true rfl⟩ (tkEnd.rf rfl rfl rfl)
          · rw [if_pos (Nat.le_of_not_lt fun z => h74 (nI_lt (b := 16) z (by omega)))]
            exact g_throwS C (text := "there are 16 pumps") dX5_addPump_77 dX5_addPump_80 dX5_addPump_81 dX5_addPump_83 dX5_addPump_86 rfl ml_X5_56 mi_java_lang_IllegalStateException (by decide) mx_ise mg_ise ⟨by decide, Nat.le_of_ble_eq_true rfl, Nat.le_of_ble_eq_true rfl, Nat.le_of_ble_eq_true rfl⟩ ⟨Nat.le_of_ble_eq_true rfl, Nat.le_of_ble_eq_true rfl⟩ rfl ⟨Nat.le_refl _, rfl⟩ rfl rfl
        · rw [if_pos (jwith_z h49)]
          exact g_throwS C (text := "lift is not 0 to 100") dX5_addPump_52 dX5_addPump_55 dX5_addPump_56 dX5_addPump_58 dX5_addPump_61 rfl ml_X5_32 mi_java_lang_IllegalArgumentException (by decide) mx_iae mg_iae ⟨by decide, Nat.le_of_ble_eq_true rfl, Nat.le_of_ble_eq_true rfl, Nat.le_of_ble_eq_true rfl⟩ ⟨Nat.le_of_ble_eq_true rfl, Nat.le_of_ble_eq_true rfl⟩ rfl ⟨Nat.le_refl _, rfl⟩ rfl rfl
    · rw [if_pos h24]
      exact g_throwS C (text := "from and to are the same") dX5_addPump_27 dX5_addPump_30 dX5_addPump_31 dX5_addPump_33 dX5_addPump_36 rfl ml_X5_32 mi_java_lang_IllegalArgumentException (by decide) mx_iae mg_iae ⟨by decide, Nat.le_of_ble_eq_true rfl, Nat.le_of_ble_eq_true rfl, Nat.le_of_ble_eq_true rfl⟩ ⟨Nat.le_of_ble_eq_true rfl, Nat.le_of_ble_eq_true rfl⟩ rfl ⟨Nat.le_refl _, rfl⟩ rfl rfl
  by_cases h : badE i I0
  · rw [if_pos h]
    refine g_aload_n C (i := 0) dX5_addPump_0 rfl rfl ?_
    refine g_iload_n C (i := 1) dX5_addPump_1 rfl rfl ?_
    refine g_callV C (q := (RX5, TX5, 4)) (rest := _) dX5_addPump_2 mm_X5_needTankOrOutside ml_X5_84 mv_yX5_needTankOrOutside ms_yX5_needTankOrOutside (c_X5_needTankOrOutside_bad hX hP i h) rfl hX.1 rfl rfl ⟨by decide, Nat.le_of_ble_eq_true rfl, Nat.le_of_ble_eq_true rfl, Nat.le_of_ble_eq_true rfl⟩ tk_noret (tk_thr fun n9 hn9 => ?_)
    exact g_out C ⟨Nat.le_of_ble_eq_true rfl, Nat.le_of_ble_eq_true rfl⟩ rfl ⟨hn9, rfl⟩ rfl rfl
  · rw [if_neg h]
    refine g_aload_n C (i := 0) dX5_addPump_0 rfl rfl ?_
    refine g_iload_n C (i := 1) dX5_addPump_1 rfl rfl ?_
    refine g_callV C (q := (RX5, TX5, 4)) (rest := _) dX5_addPump_2 mm_X5_needTankOrOutside ml_X5_84 mv_yX5_needTankOrOutside ms_yX5_needTankOrOutside (c_X5_needTankOrOutside_ok hX hP i h) rfl hX.1 rfl rfl ⟨by decide, Nat.le_of_ble_eq_true rfl, Nat.le_of_ble_eq_true rfl, Nat.le_of_ble_eq_true rfl⟩ (tk_retn ?_) tk_nothr
    by_cases h2 : badE j I0
    · rw [if_pos h2]
      refine g_aload_n C (i := 0) dX5_addPump_5 rfl rfl ?_
      refine g_iload_n C (i := 2) dX5_addPump_6 rfl rfl ?_
      refine g_callV C (q := (RX5, TX5, 4)) (rest := _) dX5_addPump_7 mm_X5_needTankOrOutside ml_X5_84 mv_yX5_needTankOrOutside ms_yX5_needTankOrOutside (c_X5_needTankOrOutside_bad hX hP j h2) rfl hX.1 rfl rfl ⟨by decide, Nat.le_of_ble_eq_true rfl, Nat.le_of_ble_eq_true rfl, Nat.le_of_ble_eq_true rfl⟩ tk_noret (tk_thr fun n9 hn9 => ?_)
      exact g_out C ⟨Nat.le_of_ble_eq_true rfl, Nat.le_of_ble_eq_true rfl⟩ rfl ⟨hn9, rfl⟩ rfl rfl
    · rw [if_neg h2]
      refine g_aload_n C (i := 0) dX5_addPump_5 rfl rfl ?_
      refine g_iload_n C (i := 2) dX5_addPump_6 rfl rfl ?_
      refine g_callV C (q := (RX5, TX5, 4)) (rest := _) dX5_addPump_7 mm_X5_needTankOrOutside ml_X5_84 mv_yX5_needTankOrOutside ms_yX5_needTankOrOutside (c_X5_needTankOrOutside_ok hX hP j h2) rfl hX.1 rfl rfl ⟨by decide, Nat.le_of_ble_eq_true rfl, Nat.le_of_ble_eq_true rfl, Nat.le_of_ble_eq_true rfl⟩ (tk_retn ?_) tk_nothr
      refine g_iload C (i := 5) dX5_addPump_10 rfl ?_
      refine g_iconst C (-1) dX5_addPump_12 rfl ?_
      refine g_icmp_eq C 22 dX5_addPump_13 (by decide) (fun h13 => ?_) (fun h13 => ?_)
      · skip
        exact J22 (fun z => z.1 h13)
      · by_cases h3 : bad c 0 (I0 7 0 - 1)
        · rw [if_pos ⟨h13, h3⟩]
          refine g_aload_n C (i := 0) dX5_addPump_16 rfl rfl ?_
          refine g_iload C (i := 5) dX5_addPump_17 rfl ?_
          refine g_callV C (q := (RX5, TX5, 4)) (rest := _) dX5_addPump_19 mm_X5_needSwitch ml_X5_87 mv_yX5_needSwitch ms_yX5_needSwitch (c_X5_needSwitch_bad hX hP c h3) rfl hX.1 rfl rfl ⟨by decide, Nat.le_of_ble_eq_true rfl, Nat.le_of_ble_eq_true rfl, Nat.le_of_ble_eq_true rfl⟩ tk_noret (tk_thr fun n9 hn9 => ?_)
          exact g_out C ⟨Nat.le_of_ble_eq_true rfl, Nat.le_of_ble_eq_true rfl⟩ rfl ⟨hn9, rfl⟩ rfl rfl
        · refine g_aload_n C (i := 0) dX5_addPump_16 rfl rfl ?_
          refine g_iload C (i := 5) dX5_addPump_17 rfl ?_
          refine g_callV C (q := (RX5, TX5, 4)) (rest := _) dX5_addPump_19 mm_X5_needSwitch ml_X5_87 mv_yX5_needSwitch ms_yX5_needSwitch (c_X5_needSwitch_ok hX hP c h3) rfl hX.1 rfl rfl ⟨by decide, Nat.le_of_ble_eq_true rfl, Nat.le_of_ble_eq_true rfl, Nat.le_of_ble_eq_true rfl⟩ (tk_retn ?_) tk_nothr
          exact J22 (fun z => h3 z.2)
def xSetLevel (i y : Int32) (q : tkI × tkL) : tkOut × (tkI × tkL) :=
  if bad i 0 (q.1 1 0 - 1) then (xIOB, q) else if bad y 0 (q.1 2 i.toNatClampNeg) then (xIAE, q) else (.inl (some (.int (q.1 3 i.toNatClampNeg))), (tk2 q.1 3 i.toNatClampNeg y, q.2))
theorem c_X5_setLevel (hX : tkTP σ x p t dd) (hP : tkReg 28 pT pF σ p) {n : Nat} (hW : wTk I0 n) (i y : Int32) :
    tkCon false (.code yX5_setLevel cX5_setLevel 4 (some .int)) yX5_setLevel 10 [.ref x, .int i, .int y] σ (reg p 28 I0 v) (reg p 28 L0 w) 1 6 ((xSetLevel i y (I0, L0)).1) σ (reg p 28 (xSetLevel i y (I0, L0)).2.1 v) (reg p 28 (xSetLevel i y (I0, L0)).2.2 w) := by
  refine tkCon.of (by decide) (Nat.le_of_ble_eq_true rfl) (fun X C => ?_)
  unfold xSetLevel
  dsimp only
  by_cases h : bad i 0 (I0 1 0 - 1)
  · rw [if_pos h]
    refine g_aload_n C (i := 0) dX5_setLevel_0 rfl rfl ?_
    refine g_iload_n C (i := 1) dX5_setLevel_1 rfl rfl ?_
    refine g_callV C (q := (RX5, TX5, 4)) (rest := _) dX5_setLevel_2 mm_X5_needTank ml_X5_65 mv_yX5_needTank ms_yX5_needTank (c_X5_needTank_bad hX hP i h) rfl hX.1 rfl rfl ⟨by decide, Nat.le_of_ble_eq_true rfl, Nat.le_of_ble_eq_true rfl, Nat.le_of_ble_eq_true rfl⟩ tk_noret (tk_thr fun n9 hn9 => ?_)
    exact g_out C ⟨Nat.le_of_ble_eq_true rfl, Nat.le_of_ble_eq_true rfl⟩ rfl ⟨hn9, rfl⟩ rfl rfl
  · rw [if_neg h]
    have hn9 := hW.2
    have h9 := h
    rw [hW.1] at h9
    obtain ⟨j, hj, rfl⟩ := bad_not (by omega) h9
    rw [nI_clamp (by omega)]
    refine g_aload_n C (i := 0) dX5_setLevel_0 rfl rfl ?_
    refine g_iload_n C (i := 1) dX5_setLevel_1 rfl rfl ?_
    refine g_callV C (q := (RX5, TX5, 4)) (rest := _) dX5_setLevel_2 mm_X5_needTank ml_X5_65 mv_yX5_needTank ms_yX5_needTank (c_X5_needTank_ok hX hP _ h) rfl hX.1 rfl rfl ⟨by decide, Nat.le_of_ble_eq_true rfl, Nat.le_of_ble_eq_true rfl, Nat.le_of_ble_eq_true rfl⟩ (tk_retn ?_) tk_nothr
    refine g_iload_n C (i := 2) dX5_setLevel_5 rfl rfl ?_
    refine g_aload_n C (i := 0) dX5_setLevel_6 rfl rfl ?_
    refine g_getR C 5 0 (RX5, TX5, 4) dX5_setLevel_7 hX.1 hX.2.1 ml_X5_10 rfl (by decide) rfl ?_
    refine g_getR C 1 0 (RX1, TX1, 5) dX5_setLevel_10 (hP.1 0 (by decide)) (hP.2 0 0 1 (by decide) rfl) ml_X5_47 rfl (by decide) rfl ?_
    refine g_getR C 4 1 (RX4, TX4, 6) dX5_setLevel_13 (hP.1 1 (by decide)) (hP.2 1 1 2 (by decide) rfl) ml_X5_68 rfl (by decide) rfl ?_
    refine g_iload_n C (i := 1) dX5_setLevel_16 rfl rfl ?_
    refine g_ia C dX5_setLevel_17 (hP.1 2 (by decide)) (reg_at (k := 2) (by decide)) rfl (by omega) (by decide) ?_
    by_cases h2 : bad y 0 (I0 2 j)
    · rw [if_pos h2]
      refine g_callS C dX5_setLevel_18 mm_X5_needAmount ml_X5_39 mt_yX5_needAmount (c_X5_needAmount_bad (p := p) y _ h2) rfl ⟨by decide, Nat.le_of_ble_eq_true rfl, Nat.le_of_ble_eq_true rfl, Nat.le_of_ble_eq_true rfl⟩ tk_noret (tk_thr fun n9 hn9 => ?_)
      exact g_out C ⟨Nat.le_of_ble_eq_true rfl, Nat.le_of_ble_eq_true rfl⟩ rfl ⟨hn9, rfl⟩ rfl rfl
    · rw [if_neg h2]
      refine g_callS C dX5_setLevel_18 mm_X5_needAmount ml_X5_39 mt_yX5_needAmount (c_X5_needAmount_ok (p := p) y _ h2) rfl ⟨by decide, Nat.le_of_ble_eq_true rfl, Nat.le_of_ble_eq_true rfl, Nat.le_of_ble_eq_true rfl⟩ (tk_retn ?_) tk_nothr
      refine g_aload_n C (i := 0) dX5_setLevel_21 rfl rfl ?_
      refine g_getR C 5 0 (RX5, TX5, 4) dX5_setLevel_22 hX.1 hX.2.1 ml_X5_10 rfl (by decide) rfl ?_
      refine g_getR C 1 0 (RX1, TX1, 5) dX5_setLevel_25 (hP.1 0 (by decide)) (hP.2 0 0 1 (by decide) rfl) ml_X5_47 rfl (by decide) rfl ?_
      refine g_getR C 4 2 (RX4, TX4, 6) dX5_setLevel_28 (hP.1 1 (by decide)) (hP.2 1 2 3 (by decide) rfl) ml_X5_109 rfl (by decide) rfl ?_
      refine g_iload_n C (i := 1) dX5_setLevel_31 rfl rfl ?_
      refine g_ia C dX5_setLevel_32 (hP.1 3 (by decide)) (reg_at (k := 3) (by decide)) rfl (by omega) (by decide) ?_
      refine g_istore_n C (i := 3) dX5_setLevel_33 rfl (by decide) ?_
      refine g_aload_n C (i := 0) dX5_setLevel_34 rfl rfl ?_
      refine g_getR C 5 0 (RX5, TX5, 4) dX5_setLevel_35 hX.1 hX.2.1 ml_X5_10 rfl (by decide) rfl ?_
      refine g_getR C 1 0 (RX1, TX1, 5) dX5_setLevel_38 (hP.1 0 (by decide)) (hP.2 0 0 1 (by decide) rfl) ml_X5_47 rfl (by decide) rfl ?_
      refine g_getR C 4 2 (RX4, TX4, 6) dX5_setLevel_41 (hP.1 1 (by decide)) (hP.2 1 2 3 (by decide) rfl) ml_X5_109 rfl (by decide) rfl ?_
      refine g_iload_n C (i := 1) dX5_setLevel_44 rfl rfl ?_
      refine g_iload_n C (i := 2) dX5_setLevel_45 rfl rfl ?_
      refine g_is C dX5_setLevel_46 (hP.1 3 (by decide)) (tk2_reg (k := 3) (by decide)) rfl (by omega) (by decide) ?_
      refine g_iload_n C (i := 3) dX5_setLevel_47 rfl rfl ?_
      exact g_ireturn C dX5_setLevel_48 ⟨Nat.le_of_ble_eq_true rfl, Nat.le_of_ble_eq_true rfl⟩ (tkEnd.rf rfl rfl rfl)
def xSetLeak (i y : Int32) (q : tkI × tkL) : tkOut × (tkI × tkL) :=
  if bad i 0 (q.1 1 0 - 1) then (xIOB, q) else if bad y 0 1000000 then (xIAE, q) else (.inl (some (.int (q.1 4 i.toNatClampNeg))), (tk2 q.1 4 i.toNatClampNeg y, q.2))
theorem c_X5_setLeak (hX : tkTP σ x p t dd) (hP : tkReg 28 pT pF σ p) {n : Nat} (hW : wTk I0 n) (i y : Int32) :
    tkCon false (.code yX5_setLeak cX5_setLeak 4 (some .int)) yX5_setLeak 10 [.ref x, .int i, .int y] σ (reg p 28 I0 v) (reg p 28 L0 w) 1 6 ((xSetLeak i y (I0, L0)).1) σ (reg p 28 (xSetLeak i y (I0, L0)).2.1 v) (reg p 28 (xSetLeak i y (I0, L0)).2.2 w) := by
  refine tkCon.of (by decide) (Nat.le_of_ble_eq_true rfl) (fun X C => ?_)
  unfold xSetLeak
  dsimp only
  by_cases h : bad i 0 (I0 1 0 - 1)
  · rw [if_pos h]
    refine g_aload_n C (i := 0) dX5_setLeak_0 rfl rfl ?_
    refine g_iload_n C (i := 1) dX5_setLeak_1 rfl rfl ?_
    refine g_callV C (q := (RX5, TX5, 4)) (rest := _) dX5_setLeak_2 mm_X5_needTank ml_X5_65 mv_yX5_needTank ms_yX5_needTank (c_X5_needTank_bad hX hP i h) rfl hX.1 rfl rfl ⟨by decide, Nat.le_of_ble_eq_true rfl, Nat.le_of_ble_eq_true rfl, Nat.le_of_ble_eq_true rfl⟩ tk_noret (tk_thr fun n9 hn9 => ?_)
    exact g_out C ⟨Nat.le_of_ble_eq_true rfl, Nat.le_of_ble_eq_true rfl⟩ rfl ⟨hn9, rfl⟩ rfl rfl
  · rw [if_neg h]
    have hn9 := hW.2
    have h9 := h
    rw [hW.1] at h9
    obtain ⟨j, hj, rfl⟩ := bad_not (by omega) h9
    rw [nI_clamp (by omega)]
    refine g_aload_n C (i := 0) dX5_setLeak_0 rfl rfl ?_
    refine g_iload_n C (i := 1) dX5_setLeak_1 rfl rfl ?_
    refine g_callV C (q := (RX5, TX5, 4)) (rest := _) dX5_setLeak_2 mm_X5_needTank ml_X5_65 mv_yX5_needTank ms_yX5_needTank (c_X5_needTank_ok hX hP _ h) rfl hX.1 rfl rfl ⟨by decide, Nat.le_of_ble_eq_true rfl, Nat.le_of_ble_eq_true rfl, Nat.le_of_ble_eq_true rfl⟩ (tk_retn ?_) tk_nothr
    refine g_iload_n C (i := 2) dX5_setLeak_5 rfl rfl ?_
    by_cases h2 : bad y 0 1000000
    · rw [if_pos h2]
      refine g_callS C dX5_setLeak_6 mm_X5_needLeak ml_X5_43 mt_yX5_needLeak (c_X5_needLeak_bad (p := p) y h2) rfl ⟨by decide, Nat.le_of_ble_eq_true rfl, Nat.le_of_ble_eq_true rfl, Nat.le_of_ble_eq_true rfl⟩ tk_noret (tk_thr fun n9 hn9 => ?_)
      exact g_out C ⟨Nat.le_of_ble_eq_true rfl, Nat.le_of_ble_eq_true rfl⟩ rfl ⟨hn9, rfl⟩ rfl rfl
    · rw [if_neg h2]
      refine g_callS C dX5_setLeak_6 mm_X5_needLeak ml_X5_43 mt_yX5_needLeak (c_X5_needLeak_ok (p := p) y h2) rfl ⟨by decide, Nat.le_of_ble_eq_true rfl, Nat.le_of_ble_eq_true rfl, Nat.le_of_ble_eq_true rfl⟩ (tk_retn ?_) tk_nothr
      refine g_aload_n C (i := 0) dX5_setLeak_9 rfl rfl ?_
      refine g_getR C 5 0 (RX5, TX5, 4) dX5_setLeak_10 hX.1 hX.2.1 ml_X5_10 rfl (by decide) rfl ?_
      refine g_getR C 1 0 (RX1, TX1, 5) dX5_setLeak_13 (hP.1 0 (by decide)) (hP.2 0 0 1 (by decide) rfl) ml_X5_47 rfl (by decide) rfl ?_
      refine g_getR C 4 3 (RX4, TX4, 6) dX5_setLeak_16 (hP.1 1 (by decide)) (hP.2 1 3 4 (by decide) rfl) ml_X5_112 rfl (by decide) rfl ?_
      refine g_iload_n C (i := 1) dX5_setLeak_19 rfl rfl ?_
      refine g_ia C dX5_setLeak_20 (hP.1 4 (by decide)) (reg_at (k := 4) (by decide)) rfl (by omega) (by decide) ?_
      refine g_istore_n C (i := 3) dX5_setLeak_21 rfl (by decide) ?_
      refine g_aload_n C (i := 0) dX5_setLeak_22 rfl rfl ?_
      refine g_getR C 5 0 (RX5, TX5, 4) dX5_setLeak_23 hX.1 hX.2.1 ml_X5_10 rfl (by decide) rfl ?_
      refine g_getR C 1 0 (RX1, TX1, 5) dX5_setLeak_26 (hP.1 0 (by decide)) (hP.2 0 0 1 (by decide) rfl) ml_X5_47 rfl (by decide) rfl ?_
      refine g_getR C 4 3 (RX4, TX4, 6) dX5_setLeak_29 (hP.1 1 (by decide)) (hP.2 1 3 4 (by decide) rfl) ml_X5_112 rfl (by decide) rfl ?_
      refine g_iload_n C (i := 1) dX5_setLeak_32 rfl rfl ?_
      refine g_iload_n C (i := 2) dX5_setLeak_33 rfl rfl ?_
      refine g_is C dX5_setLeak_34 (hP.1 4 (by decide)) (tk2_reg (k := 4) (by decide)) rfl (by omega) (by decide) ?_
      refine g_iload_n C (i := 3) dX5_setLeak_35 rfl rfl ?_
      exact g_ireturn C dX5_setLeak_36 ⟨Nat.le_of_ble_eq_true rfl, Nat.le_of_ble_eq_true rfl⟩ (tkEnd.rf rfl rfl rfl)
def xSetRate (i y : Int32) (q : tkI × tkL) : tkOut × (tkI × tkL) :=
  if bad i 0 (q.1 12 0 - 1) then (xIOB, q) else if bad y 1 1000000 then (xIAE, q) else (.inl (some (.int (q.1 15 i.toNatClampNeg))), (tk2 q.1 15 i.toNatClampNeg y, q.2))
theorem c_X5_setRate (hX : tkTP σ x p t dd) (hP : tkReg 28 pT pF σ p) {n : Nat} (hW : wPu I0 n) (i y : Int32) :
    tkCon false (.code yX5_setRate cX5_setRate 4 (some .int)) yX5_setRate 10 [.ref x, .int i, .int y] σ (reg p 28 I0 v) (reg p 28 L0 w) 1 6 ((xSetRate i y (I0, L0)).1) σ (reg p 28 (xSetRate i y (I0, L0)).2.1 v) (reg p 28 (xSetRate i y (I0, L0)).2.2 w) := by
  refine tkCon.of (by decide) (Nat.le_of_ble_eq_true rfl) (fun X C => ?_)
  unfold xSetRate
  dsimp only
  by_cases h : bad i 0 (I0 12 0 - 1)
  · rw [if_pos h]
    refine g_aload_n C (i := 0) dX5_setRate_0 rfl rfl ?_
    refine g_iload_n C (i := 1) dX5_setRate_1 rfl rfl ?_
    refine g_callV C (q := (RX5, TX5, 4)) (rest := _) dX5_setRate_2 mm_X5_needPump ml_X5_115 mv_yX5_needPump ms_yX5_needPump (c_X5_needPump_bad hX hP i h) rfl hX.1 rfl rfl ⟨by decide, Nat.le_of_ble_eq_true rfl, Nat.le_of_ble_eq_true rfl, Nat.le_of_ble_eq_true rfl⟩ tk_noret (tk_thr fun n9 hn9 => ?_)
    exact g_out C ⟨Nat.le_of_ble_eq_true rfl, Nat.le_of_ble_eq_true rfl⟩ rfl ⟨hn9, rfl⟩ rfl rfl
  · rw [if_neg h]
    have hn9 := hW.2.1
    have h9 := h
    rw [hW.1] at h9
    obtain ⟨j, hj, rfl⟩ := bad_not (by omega) h9
    rw [nI_clamp (by omega)]
    refine g_aload_n C (i := 0) dX5_setRate_0 rfl rfl ?_
    refine g_iload_n C (i := 1) dX5_setRate_1 rfl rfl ?_
    refine g_callV C (q := (RX5, TX5, 4)) (rest := _) dX5_setRate_2 mm_X5_needPump ml_X5_115 mv_yX5_needPump ms_yX5_needPump (c_X5_needPump_ok hX hP _ h) rfl hX.1 rfl rfl ⟨by decide, Nat.le_of_ble_eq_true rfl, Nat.le_of_ble_eq_true rfl, Nat.le_of_ble_eq_true rfl⟩ (tk_retn ?_) tk_nothr
    refine g_iload_n C (i := 2) dX5_setRate_5 rfl rfl ?_
    by_cases h2 : bad y 1 1000000
    · rw [if_pos h2]
      refine g_callS C dX5_setRate_6 mm_X5_needRate ml_X5_92 mt_yX5_needRate (c_X5_needRate_bad (p := p) y h2) rfl ⟨by decide, Nat.le_of_ble_eq_true rfl, Nat.le_of_ble_eq_true rfl, Nat.le_of_ble_eq_true rfl⟩ tk_noret (tk_thr fun n9 hn9 => ?_)
      exact g_out C ⟨Nat.le_of_ble_eq_true rfl, Nat.le_of_ble_eq_true rfl⟩ rfl ⟨hn9, rfl⟩ rfl rfl
    · rw [if_neg h2]
      refine g_callS C dX5_setRate_6 mm_X5_needRate ml_X5_92 mt_yX5_needRate (c_X5_needRate_ok (p := p) y h2) rfl ⟨by decide, Nat.le_of_ble_eq_true rfl, Nat.le_of_ble_eq_true rfl, Nat.le_of_ble_eq_true rfl⟩ (tk_retn ?_) tk_nothr
      refine g_aload_n C (i := 0) dX5_setRate_9 rfl rfl ?_
      refine g_getR C 5 0 (RX5, TX5, 4) dX5_setRate_10 hX.1 hX.2.1 ml_X5_10 rfl (by decide) rfl ?_
      refine g_getR C 1 2 (RX1, TX1, 5) dX5_setRate_13 (hP.1 0 (by decide)) (hP.2 0 2 12 (by decide) rfl) ml_X5_97 rfl (by decide) rfl ?_
      refine g_getR C 2 3 (RX2, TX2, 13) dX5_setRate_16 (hP.1 12 (by decide)) (hP.2 12 3 15 (by decide) rfl) ml_X5_118 rfl (by decide) rfl ?_
      refine g_iload_n C (i := 1) dX5_setRate_19 rfl rfl ?_
      refine g_ia C dX5_setRate_20 (hP.1 15 (by decide)) (reg_at (k := 15) (by decide)) rfl (by omega) (by decide) ?_
      refine g_istore_n C (i := 3) dX5_setRate_21 rfl (by decide) ?_
      refine g_aload_n C (i := 0) dX5_setRate_22 rfl rfl ?_
      refine g_getR C 5 0 (RX5, TX5, 4) dX5_setRate_23 hX.1 hX.2.1 ml_X5_10 rfl (by decide) rfl ?_
      refine g_getR C 1 2 (RX1, TX1, 5) dX5_setRate_26 (hP.1 0 (by decide)) (hP.2 0 2 12 (by decide) rfl) ml_X5_97 rfl (by decide) rfl ?_
      refine g_getR C 2 3 (RX2, TX2, 13) dX5_setRate_29 (hP.1 12 (by decide)) (hP.2 12 3 15 (by decide) rfl) ml_X5_118 rfl (by decide) rfl ?_
      refine g_iload_n C (i := 1) dX5_setRate_32 rfl rfl ?_
      refine g_iload_n C (i := 2) dX5_setRate_33 rfl rfl ?_
      refine g_is C dX5_setRate_34 (hP.1 15 (by decide)) (tk2_reg (k := 15) (by decide)) rfl (by omega) (by decide) ?_
      refine g_iload_n C (i := 3) dX5_setRate_35 rfl rfl ?_
      exact g_ireturn C dX5_setRate_36 ⟨Nat.le_of_ble_eq_true rfl, Nat.le_of_ble_eq_true rfl⟩ (tkEnd.rf rfl rfl rfl)
theorem bad_5000 {n : Int32} {a : Nat} (ha : a ≤ 1) (h : ¬ bad n (nI a) 5000) : ∃ k, a ≤ k ∧ k ≤ 5000 ∧ n = nI k := by
  have h1 : ¬ n < 0 := fun z => h (Or.inl (by
    rw [Int32.lt_iff_toInt_lt] at z ⊢
    rw [nI_toInt (by omega)]
    have : (0 : Int32).toInt = 0 := by decide
    omega))
  obtain ⟨k, hk, rfl⟩ := nI_of h1
  refine ⟨k, ?_, ?_, rfl⟩
  · exact Nat.le_of_not_lt fun z => h (Or.inl (nI_lt z (by omega)))
  · exact Nat.le_of_not_lt fun z => h (Or.inr (nI_lt (a := 5000) z (by omega)))
def xRun (nt ns np : Nat) (n : Int32) (q : tkI × tkL) : tkOut × (tkI × tkL) :=
  if bad n 0 5000 then (xIAE, q) else (.inl (some (.int (sAdv nt ns np n n.toNatClampNeg 0 (q, 0)).2)), (sAdv nt ns np n n.toNatClampNeg 0 (q, 0)).1)
def xRunUntil (nt ns np : Nat) (i lv b n : Int32) (q : tkI × tkL) : tkOut × (tkI × tkL) :=
  if bad i 0 (q.1 1 0 - 1) then (xIOB, q) else if bad n 0 5000 then (xIAE, q) else (.inl (some (.int (sUntil nt ns np i.toNatClampNeg lv b n n.toNatClampNeg q).2)), (sUntil nt ns np i.toNatClampNeg lv b n n.toNatClampNeg q).1)
theorem c_X5_run (hX : tkTP σ x p t dd) (hP : tkReg 28 pT pF σ p) {nt ns np B : Nat} (hW : wAll nt ns np B (I0, L0)) (hB : B + 60000 < 2 ^ 62) (n : Int32) :
    tkCon false (.code yX5_run cX5_run 2 (some .int)) yX5_run 10 [.ref x, .int n] σ (reg p 28 I0 v) (reg p 28 L0 w) 1 6 ((xRun nt ns np n (I0, L0)).1) σ (reg p 28 (xRun nt ns np n (I0, L0)).2.1 v) (reg p 28 (xRun nt ns np n (I0, L0)).2.2 w) := by
  refine tkCon.of (by decide) (Nat.le_of_ble_eq_true rfl) (fun X C => ?_)
  unfold xRun
  by_cases h : bad n 0 5000
  · rw [if_pos h]
    refine g_iload_n C (i := 1) dX5_run_0 rfl rfl ?_
    refine g_iconst C (0) dX5_run_1 rfl ?_
    refine g_callS C dX5_run_2 mm_X5_needTicks ml_X5_121 mt_yX5_needTicks (c_X5_needTicks_bad (p := p) n 0 h) rfl ⟨by decide, Nat.le_of_ble_eq_true rfl, Nat.le_of_ble_eq_true rfl, Nat.le_of_ble_eq_true rfl⟩ tk_noret (tk_thr fun n9 hn9 => ?_)
    exact g_out C ⟨Nat.le_of_ble_eq_true rfl, Nat.le_of_ble_eq_true rfl⟩ rfl ⟨hn9, rfl⟩ rfl rfl
  · rw [if_neg h]
    obtain ⟨k, -, hk, rfl⟩ := bad_5000 (a := 0) (by omega) h
    rw [nI_clamp (by omega)]
    refine g_iload_n C (i := 1) dX5_run_0 rfl rfl ?_
    refine g_iconst C (0) dX5_run_1 rfl ?_
    refine g_callS C dX5_run_2 mm_X5_needTicks ml_X5_121 mt_yX5_needTicks (c_X5_needTicks_ok (p := p) _ 0 h) rfl ⟨by decide, Nat.le_of_ble_eq_true rfl, Nat.le_of_ble_eq_true rfl, Nat.le_of_ble_eq_true rfl⟩ (tk_retn ?_) tk_nothr
    refine g_aload_n C (i := 0) dX5_run_5 rfl rfl ?_
    refine g_getR C 5 0 (RX5, TX5, 4) dX5_run_6 hX.1 hX.2.1 ml_X5_10 rfl (by decide) rfl ?_
    refine g_iload_n C (i := 1) dX5_run_9 rfl rfl ?_
    refine g_callV C (q := (RX1, TX1, 5)) (rest := _) dX5_run_10 mm_X1_advance ml_X5_124 mv_yX1_advance ms_yX1_advance (c_X1_advance hP hW hk (by omega)) rfl (hP.1 0 (by decide)) rfl rfl ⟨by decide, Nat.le_of_ble_eq_true rfl, Nat.le_of_ble_eq_true rfl, Nat.le_of_ble_eq_true rfl⟩ (tk_retv ?_) tk_nothr
    exact g_ireturn C dX5_run_13 ⟨Nat.le_of_ble_eq_true rfl, Nat.le_of_ble_eq_true rfl⟩ (tkEnd.rf rfl rfl rfl)
theorem c_X5_runUntil (hX : tkTP σ x p t dd) (hP : tkReg 28 pT pF σ p) {nt ns np B : Nat} (hW : wAll nt ns np B (I0, L0)) (hB : B + 60000 < 2 ^ 62) (i lv b n : Int32) :
    tkCon false (.code yX5_runUntil cX5_runUntil 5 (some .int)) yX5_runUntil 10 [.ref x, .int i, .int lv, .int b, .int n] σ (reg p 28 I0 v) (reg p 28 L0 w) 1 6 ((xRunUntil nt ns np i lv b n (I0, L0)).1) σ (reg p 28 (xRunUntil nt ns np i lv b n (I0, L0)).2.1 v) (reg p 28 (xRunUntil nt ns np i lv b n (I0, L0)).2.2 w) := by
  refine tkCon.of (by decide) (Nat.le_of_ble_eq_true rfl) (fun X C => ?_)
  unfold xRunUntil
  dsimp only
  by_cases h : bad i 0 (I0 1 0 - 1)
  · rw [if_pos h]
    refine g_aload_n C (i := 0) dX5_runUntil_0 rfl rfl ?_
    refine g_iload_n C (i := 1) dX5_runUntil_1 rfl rfl ?_
    refine g_callV C (q := (RX5, TX5, 4)) (rest := _) dX5_runUntil_2 mm_X5_needTank ml_X5_65 mv_yX5_needTank ms_yX5_needTank (c_X5_needTank_bad hX hP i h) rfl hX.1 rfl rfl ⟨by decide, Nat.le_of_ble_eq_true rfl, Nat.le_of_ble_eq_true rfl, Nat.le_of_ble_eq_true rfl⟩ tk_noret (tk_thr fun n9 hn9 => ?_)
    exact g_out C ⟨Nat.le_of_ble_eq_true rfl, Nat.le_of_ble_eq_true rfl⟩ rfl ⟨hn9, rfl⟩ rfl rfl
  · rw [if_neg h]
    have hn9 := hW.1.2
    have h9 := h
    have e9 : I0 1 0 = nI nt := hW.1.1
    rw [e9] at h9
    obtain ⟨j, hj, rfl⟩ := bad_not (by omega) h9
    rw [nI_clamp (by omega)]
    refine g_aload_n C (i := 0) dX5_runUntil_0 rfl rfl ?_
    refine g_iload_n C (i := 1) dX5_runUntil_1 rfl rfl ?_
    refine g_callV C (q := (RX5, TX5, 4)) (rest := _) dX5_runUntil_2 mm_X5_needTank ml_X5_65 mv_yX5_needTank ms_yX5_needTank (c_X5_needTank_ok hX hP _ h) rfl hX.1 rfl rfl ⟨by decide, Nat.le_of_ble_eq_true rfl, Nat.le_of_ble_eq_true rfl, Nat.le_of_ble_eq_true rfl⟩ (tk_retn ?_) tk_nothr
    by_cases h2 : bad n 0 5000
    · rw [if_pos h2]
      refine g_iload C (i := 4) dX5_runUntil_5 rfl ?_
      refine g_iconst C (0) dX5_runUntil_7 rfl ?_
      refine g_callS C dX5_runUntil_8 mm_X5_needTicks ml_X5_121 mt_yX5_needTicks (c_X5_needTicks_bad (p := p) n 0 h2) rfl ⟨by decide, Nat.le_of_ble_eq_true rfl, Nat.le_of_ble_eq_true rfl, Nat.le_of_ble_eq_true rfl⟩ tk_noret (tk_thr fun n9 hn9 => ?_)
      exact g_out C ⟨Nat.le_of_ble_eq_true rfl, Nat.le_of_ble_eq_true rfl⟩ rfl ⟨hn9, rfl⟩ rfl rfl
    · rw [if_neg h2]
      obtain ⟨k, -, hk, rfl⟩ := bad_5000 (a := 0) (by omega) h2
      rw [nI_clamp (by omega)]
      refine g_iload C (i := 4) dX5_runUntil_5 rfl ?_
      refine g_iconst C (0) dX5_runUntil_7 rfl ?_
      refine g_callS C dX5_runUntil_8 mm_X5_needTicks ml_X5_121 mt_yX5_needTicks (c_X5_needTicks_ok (p := p) _ 0 h2) rfl ⟨by decide, Nat.le_of_ble_eq_true rfl, Nat.le_of_ble_eq_true rfl, Nat.le_of_ble_eq_true rfl⟩ (tk_retn ?_) tk_nothr
      refine g_aload_n C (i := 0) dX5_runUntil_11 rfl rfl ?_
      refine g_getR C 5 0 (RX5, TX5, 4) dX5_runUntil_12 hX.1 hX.2.1 ml_X5_10 rfl (by decide) rfl ?_
      refine g_iload_n C (i := 1) dX5_runUntil_15 rfl rfl ?_
      refine g_iload_n C (i := 2) dX5_runUntil_16 rfl rfl ?_
      refine g_iload_n C (i := 3) dX5_runUntil_17 rfl rfl ?_
      refine g_iload C (i := 4) dX5_runUntil_18 rfl ?_
      refine g_callV C (q := (RX1, TX1, 5)) (rest := _) dX5_runUntil_20 mm_X1_advanceUntil ml_X5_128 mv_yX1_advanceUntil ms_yX1_advanceUntil (c_X1_advanceUntil hP hW (by omega) lv b hk (by omega)) rfl (hP.1 0 (by decide)) rfl rfl ⟨by decide, Nat.le_of_ble_eq_true rfl, Nat.le_of_ble_eq_true rfl, Nat.le_of_ble_eq_true rfl⟩ (tk_retv ?_) tk_nothr
      exact g_ireturn C dX5_runUntil_23 ⟨Nat.le_of_ble_eq_true rfl, Nat.le_of_ble_eq_true rfl⟩ (tkEnd.rf rfl rfl rfl)
end TKAPI

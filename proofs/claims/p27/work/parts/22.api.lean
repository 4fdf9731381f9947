section TKAPI
variable {σ : tkM} {x p t dd : Nat} {I0 v : tkI} {L0 w : tkL}
theorem not_bad {n j : Nat} (hn : n < 2 ^ 30) (h : j < n) : ¬ bad (nI j) 0 (nI n - 1) := by
  rintro (z | z)
  · exact nI_pos (by omega) z
  · rw [Int32.lt_iff_toInt_lt, show (1 : Int32) = nI 1 from rfl, pk_sub_toInt hn (by omega), nI_toInt (by omega)] at z
    omega
theorem o_time (hX : tkTP σ x p t dd) (hP : tkReg 28 pT pF σ p) :
    tkCon false (.code yX5_time cX5_time 1 (some .long)) yX5_time 8 [.ref x] σ (reg p 28 I0 v) (reg p 28 L0 w) 0 0 (.inl (some (.long (L0 0 4)))) σ (reg p 28 I0 v) (reg p 28 L0 w) := by
  refine tkCon.of (by decide) (Nat.le_of_ble_eq_true rfl) (fun X C => ?_)
  refine g_aload_n C (i := 0) dX5_time_0 rfl rfl ?_
  refine g_getR C 5 0 (RX5, TX5, 4) dX5_time_1 hX.1 hX.2.1 ml_X5_10 rfl (by decide) rfl ?_
  refine g_getL C 1 4 (RX1, TX1, 5) dX5_time_4 (hP.1 0 (by decide)) (reg_at (k := 0) (by decide)) ml_X5_139 rfl (by decide) rfl ?_
  exact g_lreturn C dX5_time_7 ⟨Nat.le_of_ble_eq_true rfl, Nat.le_of_ble_eq_true rfl⟩ (tkEnd.rf rfl rfl rfl)
theorem o_changeCount (hX : tkTP σ x p t dd) (hP : tkReg 28 pT pF σ p) :
    tkCon false (.code yX5_changeCount cX5_changeCount 1 (some .long)) yX5_changeCount 8 [.ref x] σ (reg p 28 I0 v) (reg p 28 L0 w) 0 0 (.inl (some (.long (L0 25 0)))) σ (reg p 28 I0 v) (reg p 28 L0 w) := by
  refine tkCon.of (by decide) (Nat.le_of_ble_eq_true rfl) (fun X C => ?_)
  refine g_aload_n C (i := 0) dX5_changeCount_0 rfl rfl ?_
  refine g_getR C 5 0 (RX5, TX5, 4) dX5_changeCount_1 hX.1 hX.2.1 ml_X5_10 rfl (by decide) rfl ?_
  refine g_getR C 1 3 (RX1, TX1, 5) dX5_changeCount_4 (hP.1 0 (by decide)) (hP.2 0 3 25 (by decide) rfl) ml_X5_167 rfl (by decide) rfl ?_
  refine g_getL C 0 0 (RX0, TX0, 3) dX5_changeCount_7 (hP.1 25 (by decide)) (reg_at (k := 25) (by decide)) ml_X5_171 rfl (by decide) rfl ?_
  exact g_lreturn C dX5_changeCount_10 ⟨Nat.le_of_ble_eq_true rfl, Nat.le_of_ble_eq_true rfl⟩ (tkEnd.rf rfl rfl rfl)
theorem o_level (hX : tkTP σ x p t dd) (hP : tkReg 28 pT pF σ p) {n j : Nat} (hW : wTk I0 n) (hj : j < n) :
    tkCon false (.code yX5_level cX5_level 2 (some .int)) yX5_level 8 [.ref x, .int (nI j)] σ (reg p 28 I0 v) (reg p 28 L0 w) 0 0 (.inl (some (.int (I0 3 j)))) σ (reg p 28 I0 v) (reg p 28 L0 w) := by
  refine tkCon.of (by decide) (Nat.le_of_ble_eq_true rfl) (fun X C => ?_)
  have hn9 := hW.2
  have h : ¬ bad (nI j) 0 (I0 1 0 - 1) := by rw [hW.1]; exact not_bad (by omega) hj
  refine g_aload_n C (i := 0) dX5_level_0 rfl rfl ?_
  refine g_iload_n C (i := 1) dX5_level_1 rfl rfl ?_
  refine g_callV C (q := (RX5, TX5, 4)) (rest := _) dX5_level_2 mm_X5_needTank ml_X5_65 mv_yX5_needTank ms_yX5_needTank (c_X5_needTank_ok hX hP _ h) rfl hX.1 rfl rfl ⟨by decide, Nat.le_of_ble_eq_true rfl, Nat.le_of_ble_eq_true rfl, Nat.le_of_ble_eq_true rfl⟩ (tk_retn ?_) tk_nothr
  refine g_aload_n C (i := 0) dX5_level_5 rfl rfl ?_
  refine g_getR C 5 0 (RX5, TX5, 4) dX5_level_6 hX.1 hX.2.1 ml_X5_10 rfl (by decide) rfl ?_
  refine g_getR C 1 0 (RX1, TX1, 5) dX5_level_9 (hP.1 0 (by decide)) (hP.2 0 0 1 (by decide) rfl) ml_X5_47 rfl (by decide) rfl ?_
  refine g_getR C 4 2 (RX4, TX4, 6) dX5_level_12 (hP.1 1 (by decide)) (hP.2 1 2 3 (by decide) rfl) ml_X5_109 rfl (by decide) rfl ?_
  refine g_iload_n C (i := 1) dX5_level_15 rfl rfl ?_
  refine g_ia C dX5_level_16 (hP.1 3 (by decide)) (reg_at (k := 3) (by decide)) rfl (by omega) (by decide) ?_
  exact g_ireturn C dX5_level_17 ⟨Nat.le_of_ble_eq_true rfl, Nat.le_of_ble_eq_true rfl⟩ (tkEnd.rf rfl rfl rfl)
theorem o_levelSum (hX : tkTP σ x p t dd) (hP : tkReg 28 pT pF σ p) {n j : Nat} (hW : wTk I0 n) (hj : j < n) :
    tkCon false (.code yX5_levelSum cX5_levelSum 2 (some .long)) yX5_levelSum 8 [.ref x, .int (nI j)] σ (reg p 28 I0 v) (reg p 28 L0 w) 0 0 (.inl (some (.long (L0 5 j)))) σ (reg p 28 I0 v) (reg p 28 L0 w) := by
  refine tkCon.of (by decide) (Nat.le_of_ble_eq_true rfl) (fun X C => ?_)
  have hn9 := hW.2
  have h : ¬ bad (nI j) 0 (I0 1 0 - 1) := by rw [hW.1]; exact not_bad (by omega) hj
  refine g_aload_n C (i := 0) dX5_levelSum_0 rfl rfl ?_
  refine g_iload_n C (i := 1) dX5_levelSum_1 rfl rfl ?_
  refine g_callV C (q := (RX5, TX5, 4)) (rest := _) dX5_levelSum_2 mm_X5_needTank ml_X5_65 mv_yX5_needTank ms_yX5_needTank (c_X5_needTank_ok hX hP _ h) rfl hX.1 rfl rfl ⟨by decide, Nat.le_of_ble_eq_true rfl, Nat.le_of_ble_eq_true rfl, Nat.le_of_ble_eq_true rfl⟩ (tk_retn ?_) tk_nothr
  refine g_aload_n C (i := 0) dX5_levelSum_5 rfl rfl ?_
  refine g_getR C 5 0 (RX5, TX5, 4) dX5_levelSum_6 hX.1 hX.2.1 ml_X5_10 rfl (by decide) rfl ?_
  refine g_getR C 1 0 (RX1, TX1, 5) dX5_levelSum_9 (hP.1 0 (by decide)) (hP.2 0 0 1 (by decide) rfl) ml_X5_47 rfl (by decide) rfl ?_
  refine g_getR C 4 4 (RX4, TX4, 6) dX5_levelSum_12 (hP.1 1 (by decide)) (hP.2 1 4 5 (by decide) rfl) ml_X5_143 rfl (by decide) rfl ?_
  refine g_iload_n C (i := 1) dX5_levelSum_15 rfl rfl ?_
  refine g_la C dX5_levelSum_16 (hP.1 5 (by decide)) (reg_at (k := 5) (by decide)) rfl (by omega) (by decide) ?_
  exact g_lreturn C dX5_levelSum_17 ⟨Nat.le_of_ble_eq_true rfl, Nat.le_of_ble_eq_true rfl⟩ (tkEnd.rf rfl rfl rfl)
theorem o_isOn (hX : tkTP σ x p t dd) (hP : tkReg 28 pT pF σ p) {n j : Nat} (hW : wSw I0 n) (hj : j < n) :
    tkCon false (.code yX5_isOn cX5_isOn 2 (some .boolean)) yX5_isOn 8 [.ref x, .int (nI j)] σ (reg p 28 I0 v) (reg p 28 L0 w) 0 0 (.inl (some (.int (I0 11 j)))) σ (reg p 28 I0 v) (reg p 28 L0 w) := by
  refine tkCon.of (by decide) (Nat.le_of_ble_eq_true rfl) (fun X C => ?_)
  have hn9 := hW.2.1
  have h : ¬ bad (nI j) 0 (I0 7 0 - 1) := by rw [hW.1]; exact not_bad (by omega) hj
  refine g_aload_n C (i := 0) dX5_isOn_0 rfl rfl ?_
  refine g_iload_n C (i := 1) dX5_isOn_1 rfl rfl ?_
  refine g_callV C (q := (RX5, TX5, 4)) (rest := _) dX5_isOn_2 mm_X5_needSwitch ml_X5_87 mv_yX5_needSwitch ms_yX5_needSwitch (c_X5_needSwitch_ok hX hP _ h) rfl hX.1 rfl rfl ⟨by decide, Nat.le_of_ble_eq_true rfl, Nat.le_of_ble_eq_true rfl, Nat.le_of_ble_eq_true rfl⟩ (tk_retn ?_) tk_nothr
  refine g_aload_n C (i := 0) dX5_isOn_5 rfl rfl ?_
  refine g_getR C 5 0 (RX5, TX5, 4) dX5_isOn_6 hX.1 hX.2.1 ml_X5_10 rfl (by decide) rfl ?_
  refine g_getR C 1 1 (RX1, TX1, 5) dX5_isOn_9 (hP.1 0 (by decide)) (hP.2 0 1 7 (by decide) rfl) ml_X5_74 rfl (by decide) rfl ?_
  refine g_getR C 3 4 (RX3, TX3, 5) dX5_isOn_12 (hP.1 7 (by decide)) (hP.2 7 4 11 (by decide) rfl) ml_X5_147 rfl (by decide) rfl ?_
  refine g_iload_n C (i := 1) dX5_isOn_15 rfl rfl ?_
  refine g_za C dX5_isOn_16 (hP.1 11 (by decide)) (reg_at (k := 11) (by decide)) rfl (by omega) (by decide) (fun _ => ?_)
  exact g_zreturn C dX5_isOn_17 ⟨Nat.le_of_ble_eq_true rfl, Nat.le_of_ble_eq_true rfl⟩ (by first | assumption | exact Or.inl rfl | exact Or.inr rfl) (tkEnd.rf rfl rfl rfl)
theorem o_total (hX : tkTP σ x p t dd) (hP : tkReg 28 pT pF σ p) {n j : Nat} (hW : wPu I0 n) (hj : j < n) :
    tkCon false (.code yX5_total cX5_total 2 (some .long)) yX5_total 8 [.ref x, .int (nI j)] σ (reg p 28 I0 v) (reg p 28 L0 w) 0 0 (.inl (some (.long (L0 19 j)))) σ (reg p 28 I0 v) (reg p 28 L0 w) := by
  refine tkCon.of (by decide) (Nat.le_of_ble_eq_true rfl) (fun X C => ?_)
  have hn9 := hW.2.1
  have h : ¬ bad (nI j) 0 (I0 12 0 - 1) := by rw [hW.1]; exact not_bad (by omega) hj
  refine g_aload_n C (i := 0) dX5_total_0 rfl rfl ?_
  refine g_iload_n C (i := 1) dX5_total_1 rfl rfl ?_
  refine g_callV C (q := (RX5, TX5, 4)) (rest := _) dX5_total_2 mm_X5_needPump ml_X5_115 mv_yX5_needPump ms_yX5_needPump (c_X5_needPump_ok hX hP _ h) rfl hX.1 rfl rfl ⟨by decide, Nat.le_of_ble_eq_true rfl, Nat.le_of_ble_eq_true rfl, Nat.le_of_ble_eq_true rfl⟩ (tk_retn ?_) tk_nothr
  refine g_aload_n C (i := 0) dX5_total_5 rfl rfl ?_
  refine g_getR C 5 0 (RX5, TX5, 4) dX5_total_6 hX.1 hX.2.1 ml_X5_10 rfl (by decide) rfl ?_
  refine g_getR C 1 2 (RX1, TX1, 5) dX5_total_9 (hP.1 0 (by decide)) (hP.2 0 2 12 (by decide) rfl) ml_X5_97 rfl (by decide) rfl ?_
  refine g_getR C 2 7 (RX2, TX2, 13) dX5_total_12 (hP.1 12 (by decide)) (hP.2 12 7 19 (by decide) rfl) ml_X5_151 rfl (by decide) rfl ?_
  refine g_iload_n C (i := 1) dX5_total_15 rfl rfl ?_
  refine g_la C dX5_total_16 (hP.1 19 (by decide)) (reg_at (k := 19) (by decide)) rfl (by omega) (by decide) ?_
  exact g_lreturn C dX5_total_17 ⟨Nat.le_of_ble_eq_true rfl, Nat.le_of_ble_eq_true rfl⟩ (tkEnd.rf rfl rfl rfl)
theorem o_energy (hX : tkTP σ x p t dd) (hP : tkReg 28 pT pF σ p) {n j : Nat} (hW : wPu I0 n) (hj : j < n) :
    tkCon false (.code yX5_energy cX5_energy 2 (some .long)) yX5_energy 8 [.ref x, .int (nI j)] σ (reg p 28 I0 v) (reg p 28 L0 w) 0 0 (.inl (some (.long (L0 20 j)))) σ (reg p 28 I0 v) (reg p 28 L0 w) := by
  refine tkCon.of (by decide) (Nat.le_of_ble_eq_true rfl) (fun X C => ?_)
  have hn9 := hW.2.1
  have h : ¬ bad (nI j) 0 (I0 12 0 - 1) := by rw [hW.1]; exact not_bad (by omega) hj
  refine g_aload_n C (i := 0) dX5_energy_0 rfl rfl ?_
  refine g_iload_n C (i := 1) dX5_energy_1 rfl rfl ?_
  refine g_callV C (q := (RX5, TX5, 4)) (rest := _) dX5_energy_2 mm_X5_needPump ml_X5_115 mv_yX5_needPump ms_yX5_needPump (c_X5_needPump_ok hX hP _ h) rfl hX.1 rfl rfl ⟨by decide, Nat.le_of_ble_eq_true rfl, Nat.le_of_ble_eq_true rfl, Nat.le_of_ble_eq_true rfl⟩ (tk_retn ?_) tk_nothr
  refine g_aload_n C (i := 0) dX5_energy_5 rfl rfl ?_
  refine g_getR C 5 0 (RX5, TX5, 4) dX5_energy_6 hX.1 hX.2.1 ml_X5_10 rfl (by decide) rfl ?_
  refine g_getR C 1 2 (RX1, TX1, 5) dX5_energy_9 (hP.1 0 (by decide)) (hP.2 0 2 12 (by decide) rfl) ml_X5_97 rfl (by decide) rfl ?_
  refine g_getR C 2 8 (RX2, TX2, 13) dX5_energy_12 (hP.1 12 (by decide)) (hP.2 12 8 20 (by decide) rfl) ml_X5_154 rfl (by decide) rfl ?_
  refine g_iload_n C (i := 1) dX5_energy_15 rfl rfl ?_
  refine g_la C dX5_energy_16 (hP.1 20 (by decide)) (reg_at (k := 20) (by decide)) rfl (by omega) (by decide) ?_
  exact g_lreturn C dX5_energy_17 ⟨Nat.le_of_ble_eq_true rfl, Nat.le_of_ble_eq_true rfl⟩ (tkEnd.rf rfl rfl rfl)
theorem o_shortTicks (hX : tkTP σ x p t dd) (hP : tkReg 28 pT pF σ p) {n j : Nat} (hW : wPu I0 n) (hj : j < n) :
    tkCon false (.code yX5_shortTicks cX5_shortTicks 2 (some .long)) yX5_shortTicks 8 [.ref x, .int (nI j)] σ (reg p 28 I0 v) (reg p 28 L0 w) 0 0 (.inl (some (.long (L0 21 j)))) σ (reg p 28 I0 v) (reg p 28 L0 w) := by
  refine tkCon.of (by decide) (Nat.le_of_ble_eq_true rfl) (fun X C => ?_)
  have hn9 := hW.2.1
  have h : ¬ bad (nI j) 0 (I0 12 0 - 1) := by rw [hW.1]; exact not_bad (by omega) hj
  refine g_aload_n C (i := 0) dX5_shortTicks_0 rfl rfl ?_
  refine g_iload_n C (i := 1) dX5_shortTicks_1 rfl rfl ?_
  refine g_callV C (q := (RX5, TX5, 4)) (rest := _) dX5_shortTicks_2 mm_X5_needPump ml_X5_115 mv_yX5_needPump ms_yX5_needPump (c_X5_needPump_ok hX hP _ h) rfl hX.1 rfl rfl ⟨by decide, Nat.le_of_ble_eq_true rfl, Nat.le_of_ble_eq_true rfl, Nat.le_of_ble_eq_true rfl⟩ (tk_retn ?_) tk_nothr
  refine g_aload_n C (i := 0) dX5_shortTicks_5 rfl rfl ?_
  refine g_getR C 5 0 (RX5, TX5, 4) dX5_shortTicks_6 hX.1 hX.2.1 ml_X5_10 rfl (by decide) rfl ?_
  refine g_getR C 1 2 (RX1, TX1, 5) dX5_shortTicks_9 (hP.1 0 (by decide)) (hP.2 0 2 12 (by decide) rfl) ml_X5_97 rfl (by decide) rfl ?_
  refine g_getR C 2 9 (RX2, TX2, 13) dX5_shortTicks_12 (hP.1 12 (by decide)) (hP.2 12 9 21 (by decide) rfl) ml_X5_157 rfl (by decide) rfl ?_
  refine g_iload_n C (i := 1) dX5_shortTicks_15 rfl rfl ?_
  refine g_la C dX5_shortTicks_16 (hP.1 21 (by decide)) (reg_at (k := 21) (by decide)) rfl (by omega) (by decide) ?_
  exact g_lreturn C dX5_shortTicks_17 ⟨Nat.le_of_ble_eq_true rfl, Nat.le_of_ble_eq_true rfl⟩ (tkEnd.rf rfl rfl rfl)
def aTank (nt : Nat) (c l k : Int32) (q : tkI × tkL) : tkI × tkL := (tk2 (tk2 (tk2 (tk2 q.1 2 nt c) 3 nt l) 4 nt k) 1 0 (nI nt + 1), tk2 q.2 5 nt 0)
theorem o_addTank (hX : tkTP σ x p t dd) (hP : tkReg 28 pT pF σ p) {nt : Nat} (hW : wTk I0 nt) (c l k : Int32) (h0 : ¬ bad c 1 1000000000) (h1 : ¬ bad l 0 c) (h2 : ¬ bad k 0 1000000) (h3 : nt < 8) :
    tkCon false (.code yX5_addTank cX5_addTank 4 (some .int)) yX5_addTank 8 [.ref x, .int c, .int l, .int k] σ (reg p 28 I0 v) (reg p 28 L0 w) 0 0 (.inl (some (.int (nI nt)))) σ (reg p 28 (aTank nt c l k (I0, L0)).1 v) (reg p 28 (aTank nt c l k (I0, L0)).2 w) := by
  refine tkCon.of (by decide) (Nat.le_of_ble_eq_true rfl) (fun X C => ?_)
  have hn := hW.2
  unfold aTank
  refine g_iload_n C (i := 1) dX5_addTank_0 rfl rfl ?_
  refine g_iconst C (1) dX5_addTank_1 rfl ?_
  refine g_ldc C (1000000000) dX5_addTank_2 ml_X5_27 ?_
  refine g_callS C dX5_addTank_4 mm_X5_isWithin ml_X5_28 mt_yX5_isWithin (c_X5_isWithin _ _ _) rfl ⟨by decide, Nat.le_of_ble_eq_true rfl, Nat.le_of_ble_eq_true rfl, Nat.le_of_ble_eq_true rfl⟩ (tk_retv ?_) tk_nothr
  refine g_if_ne C 20 dX5_addTank_7 (by decide) (fun h7 => ?_) (fun h7 => ?_)
  · refine g_iload_n C (i := 2) dX5_addTank_20 rfl rfl ?_
    refine g_iload_n C (i := 1) dX5_addTank_21 rfl rfl ?_
    refine g_callS C dX5_addTank_22 mm_X5_needAmount ml_X5_39 mt_yX5_needAmount (c_X5_needAmount_ok (p := p) l c h1) rfl ⟨by decide, Nat.le_of_ble_eq_true rfl, Nat.le_of_ble_eq_true rfl, Nat.le_of_ble_eq_true rfl⟩ (tk_retn ?_) tk_nothr
    refine g_iload_n C (i := 3) dX5_addTank_25 rfl rfl ?_
    refine g_callS C dX5_addTank_26 mm_X5_needLeak ml_X5_43 mt_yX5_needLeak (c_X5_needLeak_ok (p := p) k h2) rfl ⟨by decide, Nat.le_of_ble_eq_true rfl, Nat.le_of_ble_eq_true rfl, Nat.le_of_ble_eq_true rfl⟩ (tk_retn ?_) tk_nothr
    refine g_aload_n C (i := 0) dX5_addTank_29 rfl rfl ?_
    refine g_getR C 5 0 (RX5, TX5, 4) dX5_addTank_30 hX.1 hX.2.1 ml_X5_10 rfl (by decide) rfl ?_
    refine g_getR C 1 0 (RX1, TX1, 5) dX5_addTank_33 (hP.1 0 (by decide)) (hP.2 0 0 1 (by decide) rfl) ml_X5_47 rfl (by decide) rfl ?_
    refine g_getI C 4 0 (RX4, TX4, 6) dX5_addTank_36 (hP.1 1 (by decide)) (reg_at (k := 1) (by decide)) ml_X5_51 rfl (by decide) (Or.inl rfl) ?_
    rw [hW.1]
    refine g_bipush C (8) dX5_addTank_39 rfl ?_
    refine g_icmp_lt C 54 dX5_addTank_41 (by decide) (fun h41 => ?_) (fun h41 => ?_)
    · refine g_aload_n C (i := 0) dX5_addTank_54 rfl rfl ?_
      refine g_getR C 5 0 (RX5, TX5, 4) dX5_addTank_55 hX.1 hX.2.1 ml_X5_10 rfl (by decide) rfl ?_
      refine g_getR C 1 0 (RX1, TX1, 5) dX5_addTank_58 (hP.1 0 (by decide)) (hP.2 0 0 1 (by decide) rfl) ml_X5_47 rfl (by decide) rfl ?_
      refine g_iload_n C (i := 1) dX5_addTank_61 rfl rfl ?_
      refine g_iload_n C (i := 2) dX5_addTank_62 rfl rfl ?_
      refine g_iload_n C (i := 3) dX5_addTank_63 rfl rfl ?_
      refine g_callV C (q := (RX4, TX4, 6)) (rest := _) dX5_addTank_64 mm_X4_append ml_X5_61 mv_yX4_append ms_yX4_append (c_X4_append hP h3 hW.1 _ _ _) rfl (hP.1 1 (by decide)) rfl rfl ⟨by decide, Nat.le_of_ble_eq_true rfl, Nat.le_of_ble_eq_true rfl, Nat.le_of_ble_eq_true rfl⟩ (tk_retv ?_) tk_nothr
      exact g_ireturn C dX5_addTank_67 ⟨Nat.le_of_ble_eq_true rfl, Nat.le_of_ble_eq_true rfl⟩ (tkEnd.rf rfl rfl rfl)
    · exact absurd (nI_lt (b := 8) h3 (by omega)) h41
  · exact absurd (jwith_z h7) h0
def aSwitch (ns : Nat) (i lo hi : Int32) (q : tkI × tkL) : tkI × tkL := (tk2 (tk2 (tk2 (tk2 (tk2 q.1 8 ns i) 9 ns lo) 10 ns hi) 11 ns 0) 7 0 (nI ns + 1), q.2)
theorem o_addSwitch (hX : tkTP σ x p t dd) (hP : tkReg 28 pT pF σ p) {nt ns j : Nat} (hT : wTk I0 nt) (hW : wSw I0 ns) (lo hi : Int32) (hj : j < nt) (h1 : ¬ lo < 0) (h2 : ¬ hi ≤ lo) (h4 : hi ≤ I0 2 j) (h3 : ns < 10) :
    tkCon false (.code yX5_addSwitch cX5_addSwitch 4 (some .int)) yX5_addSwitch 8 [.ref x, .int (nI j), .int lo, .int hi] σ (reg p 28 I0 v) (reg p 28 L0 w) 0 0 (.inl (some (.int (nI ns)))) σ (reg p 28 (aSwitch ns (nI j) lo hi (I0, L0)).1 v) (reg p 28 (aSwitch ns (nI j) lo hi (I0, L0)).2 w) := by
  refine tkCon.of (by decide) (Nat.le_of_ble_eq_true rfl) (fun X C => ?_)
  have hn := hW.2.1
  have hn2 := hT.2
  unfold aSwitch
  dsimp only
  have h : ¬ bad (nI j) 0 (I0 1 0 - 1) := by rw [hT.1]; exact not_bad (by omega) hj
  refine g_aload_n C (i := 0) dX5_addSwitch_0 rfl rfl ?_
  refine g_iload_n C (i := 1) dX5_addSwitch_1 rfl rfl ?_
  refine g_callV C (q := (RX5, TX5, 4)) (rest := _) dX5_addSwitch_2 mm_X5_needTank ml_X5_65 mv_yX5_needTank ms_yX5_needTank (c_X5_needTank_ok hX hP _ h) rfl hX.1 rfl rfl ⟨by decide, Nat.le_of_ble_eq_true rfl, Nat.le_of_ble_eq_true rfl, Nat.le_of_ble_eq_true rfl⟩ (tk_retn ?_) tk_nothr
  refine g_iload_n C (i := 2) dX5_addSwitch_5 rfl rfl ?_
  refine g_if_lt C 30 dX5_addSwitch_6 (by decide) (fun h6 => ?_) (fun h6 => ?_)
  · exact absurd h6 h1
  · refine g_iload_n C (i := 2) dX5_addSwitch_9 rfl rfl ?_
    refine g_iload_n C (i := 3) dX5_addSwitch_10 rfl rfl ?_
    refine g_icmp_ge C 30 dX5_addSwitch_11 (by decide) (fun h11 => ?_) (fun h11 => ?_)
    · exact absurd h11 h2
    · refine g_iload_n C (i := 3) dX5_addSwitch_14 rfl rfl ?_
      refine g_aload_n C (i := 0) dX5_addSwitch_15 rfl rfl ?_
      refine g_getR C 5 0 (RX5, TX5, 4) dX5_addSwitch_16 hX.1 hX.2.1 ml_X5_10 rfl (by decide) rfl ?_
      refine g_getR C 1 0 (RX1, TX1, 5) dX5_addSwitch_19 (hP.1 0 (by decide)) (hP.2 0 0 1 (by decide) rfl) ml_X5_47 rfl (by decide) rfl ?_
      refine g_getR C 4 1 (RX4, TX4, 6) dX5_addSwitch_22 (hP.1 1 (by decide)) (hP.2 1 1 2 (by decide) rfl) ml_X5_68 rfl (by decide) rfl ?_
      refine g_iload_n C (i := 1) dX5_addSwitch_25 rfl rfl ?_
      refine g_ia C dX5_addSwitch_26 (hP.1 2 (by decide)) (reg_at (k := 2) (by decide)) rfl (by omega) (by decide) ?_
      refine g_icmp_le C 40 dX5_addSwitch_27 (by decide) (fun h27 => ?_) (fun h27 => ?_)
      · refine g_aload_n C (i := 0) dX5_addSwitch_40 rfl rfl ?_
        refine g_getR C 5 0 (RX5, TX5, 4) dX5_addSwitch_41 hX.1 hX.2.1 ml_X5_10 rfl (by decide) rfl ?_
        refine g_getR C 1 1 (RX1, TX1, 5) dX5_addSwitch_44 (hP.1 0 (by decide)) (hP.2 0 1 7 (by decide) rfl) ml_X5_74 rfl (by decide) rfl ?_
        refine g_getI C 3 0 (RX3, TX3, 5) dX5_addSwitch_47 (hP.1 7 (by decide)) (reg_at (k := 7) (by decide)) ml_X5_78 rfl (by decide) (Or.inl rfl) ?_
        rw [hW.1]
        refine g_bipush C (10) dX5_addSwitch_50 rfl ?_
        refine g_icmp_lt C 65 dX5_addSwitch_52 (by decide) (fun h52 => ?_) (fun h52 => ?_)
        · refine g_aload_n C (i := 0) dX5_addSwitch_65 rfl rfl ?_
          refine g_getR C 5 0 (RX5, TX5, 4) dX5_addSwitch_66 hX.1 hX.2.1 ml_X5_10 rfl (by decide) rfl ?_
          refine g_getR C 1 1 (RX1, TX1, 5) dX5_addSwitch_69 (hP.1 0 (by decide)) (hP.2 0 1 7 (by decide) rfl) ml_X5_74 rfl (by decide) rfl ?_
          refine g_iload_n C (i := 1) dX5_addSwitch_72 rfl rfl ?_
          refine g_iload_n C (i := 2) dX5_addSwitch_73 rfl rfl ?_
          refine g_iload_n C (i := 3) dX5_addSwitch_74 rfl rfl ?_
          refine g_callV C (q := (RX3, TX3, 5)) (rest := _) dX5_addSwitch_75 mm_X3_append ml_X5_83 mv_yX3_append ms_yX3_append (c_X3_append hP h3 hW.1 _ _ _) rfl (hP.1 7 (by decide)) rfl rfl ⟨by decide, Nat.le_of_ble_eq_true rfl, Nat.le_of_ble_eq_true rfl, Nat.le_of_ble_eq_true rfl⟩ (tk_retv ?_) tk_nothr
          exact g_ireturn C dX5_addSwitch_78 ⟨Nat.le_of_ble_eq_true rfl, Nat.le_of_ble_eq_true rfl⟩ (tkEnd.rf rfl rfl rfl)
        · exact absurd (nI_lt (b := 10) h3 (by omega)) h52
      · exact absurd h4 h27
def aPump (np : Nat) (i j r l c b : Int32) (q : tkI × tkL) : tkI × tkL := (tk2 (tk2 (tk2 (tk2 (tk2 (tk2 (tk2 q.1 13 np i) 14 np j) 15 np r) 16 np l) 17 np c) 18 np b) 12 0 (nI np + 1), tk2 (tk2 (tk2 q.2 19 np 0) 20 np 0) 21 np 0)
theorem o_addPump (hX : tkTP σ x p t dd) (hP : tkReg 28 pT pF σ p) {np : Nat} (hW : wPu I0 np) (i j r l c b : Int32) (hb : b = 0 ∨ b = 1) (g1 : ¬ badE i I0) (g2 : ¬ badE j I0) (g3 : ¬ (¬ c = -1 ∧ bad c 0 (I0 7 0 - 1))) (g4 : ¬ i = j) (g5 : ¬ bad r 1 1000000) (g6 : ¬ bad l 0 100) (h3 : np < 16) :
    tkCon false (.code yX5_addPump cX5_addPump 7 (some .int)) yX5_addPump 9 [.ref x, .int i, .int j, .int r, .int l, .int c, .int b] σ (reg p 28 I0 v) (reg p 28 L0 w) 0 0 (.inl (some (.int (nI np)))) σ (reg p 28 (aPump np i j r l c b (I0, L0)).1 v) (reg p 28 (aPump np i j r l c b (I0, L0)).2 w) := by
  refine tkCon.of (by decide) (Nat.le_of_ble_eq_true rfl) (fun X C => ?_)
  have hn := hW.2.1
  unfold aPump
  dsimp only
  have J22 : tkG X (tkQ false X 0 0 (.inl (some (.int (nI np)))) σ (reg p 28 (tk2 (tk2 (tk2 (tk2 (tk2 (tk2 (tk2 I0 13 np i) 14 np j) 15 np r) 16 np l) 17 np c) 18 np b) 12 0 (nI np + 1)) v) (reg p 28 (tk2 (tk2 (tk2 L0 19 np 0) 20 np 0) 21 np 0) w)) 0 0 22 [some (.ref x), some (.int i), some (.int j), some (.int r), some (.int l), some (.int c), some (.int b)] [] σ (reg p 28 I0 v) (reg p 28 L0 w) := by
    refine g_iload_n C (i := 1) dX5_addPump_22 rfl rfl ?_
    refine g_iload_n C (i := 2) dX5_addPump_23 rfl rfl ?_
    refine g_icmp_ne C 37 dX5_addPump_24 (by decide) (fun h24 => ?_) (fun h24 => ?_)
    · refine g_iload_n C (i := 3) dX5_addPump_37 rfl rfl ?_
      refine g_callS C dX5_addPump_38 mm_X5_needRate ml_X5_92 mt_yX5_needRate (c_X5_needRate_ok (p := p) r g5) rfl ⟨by decide, Nat.le_of_ble_eq_true rfl, Nat.le_of_ble_eq_true rfl, Nat.le_of_ble_eq_true rfl⟩ (tk_retn ?_) tk_nothr
      refine g_iload C (i := 4) dX5_addPump_41 rfl ?_
      refine g_iconst C (0) dX5_addPump_43 rfl ?_
      refine g_bipush C (100) dX5_addPump_44 rfl ?_
      refine g_callS C dX5_addPump_46 mm_X5_isWithin ml_X5_28 mt_yX5_isWithin (c_X5_isWithin _ _ _) rfl ⟨by decide, Nat.le_of_ble_eq_true rfl, Nat.le_of_ble_eq_true rfl, Nat.le_of_ble_eq_true rfl⟩ (tk_retv ?_) tk_nothr
      refine g_if_ne C 62 dX5_addPump_49 (by decide) (fun h49 => ?_) (fun h49 => ?_)
      · refine g_aload_n C (i := 0) dX5_addPump_62 rfl rfl ?_
        refine g_getR C 5 0 (RX5, TX5, 4) dX5_addPump_63 hX.1 hX.2.1 ml_X5_10 rfl (by decide) rfl ?_
        refine g_getR C 1 2 (RX1, TX1, 5) dX5_addPump_66 (hP.1 0 (by decide)) (hP.2 0 2 12 (by decide) rfl) ml_X5_97 rfl (by decide) rfl ?_
        refine g_getI C 2 0 (RX2, TX2, 13) dX5_addPump_69 (hP.1 12 (by decide)) (reg_at (k := 12) (by decide)) ml_X5_101 rfl (by decide) (Or.inl rfl) ?_
        rw [hW.1]
        refine g_bipush C (16) dX5_addPump_72 rfl ?_
        refine g_icmp_lt C 87 dX5_addPump_74 (by decide) (fun h74 => ?_) (fun h74 => ?_)
        · refine g_aload_n C (i := 0) dX5_addPump_87 rfl rfl ?_
          refine g_getR C 5 0 (RX5, TX5, 4) dX5_addPump_88 hX.1 hX.2.1 ml_X5_10 rfl (by decide) rfl ?_
          refine g_getR C 1 2 (RX1, TX1, 5) dX5_addPump_91 (hP.1 0 (by decide)) (hP.2 0 2 12 (by decide) rfl) ml_X5_97 rfl (by decide) rfl ?_
          refine g_iload_n C (i := 1) dX5_addPump_94 rfl rfl ?_
          refine g_iload_n C (i := 2) dX5_addPump_95 rfl rfl ?_
          refine g_iload_n C (i := 3) dX5_addPump_96 rfl rfl ?_
          refine g_iload C (i := 4) dX5_addPump_97 rfl ?_
          refine g_iload C (i := 5) dX5_addPump_99 rfl ?_
          refine g_iload C (i := 6) dX5_addPump_101 rfl ?_
          refine g_callV C (q := (RX2, TX2, 13)) (rest := _) dX5_addPump_103 mm_X2_append ml_X5_106 mv_yX2_append ms_yX2_append (c_X2_append hP h3 hW.1 _ _ _ _ _ _ hb) rfl (hP.1 12 (by decide)) rfl rfl ⟨by decide, Nat.le_of_ble_eq_true rfl, Nat.le_of_ble_eq_true rfl, Nat.le_of_ble_eq_true rfl⟩ (tk_retv ?_) tk_nothr
          exact g_ireturn C dX5_addPump_106 ⟨Nat.le_of_ble_eq_true rfl, Nat.le_of_ble_eq_true rfl⟩ (tkEnd.rf rfl rfl rfl)
        · exact absurd (nI_lt (b := 16) h3 (by omega)) h74
      · exact absurd (jwith_z h49) g6
    · exact absurd h24 g4
  refine g_aload_n C (i := 0) dX5_addPump_0 rfl rfl ?_
  refine g_iload_n C (i := 1) dX5_addPump_1 rfl rfl ?_
  refine g_callV C (q := (RX5, TX5, 4)) (rest := _) dX5_addPump_2 mm_X5_needTankOrOutside ml_X5_84 mv_yX5_needTankOrOutside ms_yX5_needTankOrOutside (c_X5_needTankOrOutside_ok hX hP i g1) rfl hX.1 rfl rfl ⟨by decide, Nat.le_of_ble_eq_true rfl, Nat.le_of_ble_eq_true rfl, Nat.le_of_ble_eq_true rfl⟩ (tk_retn ?_) tk_nothr
  refine g_aload_n C (i := 0) dX5_addPump_5 rfl rfl ?_
  refine g_iload_n C (i := 2) dX5_addPump_6 rfl rfl ?_
  refine g_callV C (q := (RX5, TX5, 4)) (rest := _) dX5_addPump_7 mm_X5_needTankOrOutside ml_X5_84 mv_yX5_needTankOrOutside ms_yX5_needTankOrOutside (c_X5_needTankOrOutside_ok hX hP j g2) rfl hX.1 rfl rfl ⟨by decide, Nat.le_of_ble_eq_true rfl, Nat.le_of_ble_eq_true rfl, Nat.le_of_ble_eq_true rfl⟩ (tk_retn ?_) tk_nothr
  refine g_iload C (i := 5) dX5_addPump_10 rfl ?_
  refine g_iconst C (-1) dX5_addPump_12 rfl ?_
  refine g_icmp_eq C 22 dX5_addPump_13 (by decide) (fun h13 => ?_) (fun h13 => ?_)
  · skip
    exact J22
  · refine g_aload_n C (i := 0) dX5_addPump_16 rfl rfl ?_
    refine g_iload C (i := 5) dX5_addPump_17 rfl ?_
    refine g_callV C (q := (RX5, TX5, 4)) (rest := _) dX5_addPump_19 mm_X5_needSwitch ml_X5_87 mv_yX5_needSwitch ms_yX5_needSwitch (c_X5_needSwitch_ok hX hP c (fun z => g3 ⟨h13, z⟩)) rfl hX.1 rfl rfl ⟨by decide, Nat.le_of_ble_eq_true rfl, Nat.le_of_ble_eq_true rfl, Nat.le_of_ble_eq_true rfl⟩ (tk_retn ?_) tk_nothr
    exact J22
theorem o_run (hX : tkTP σ x p t dd) (hP : tkReg 28 pT pF σ p) {nt ns np B k : Nat} (hW : wAll nt ns np B (I0, L0)) (hB : B + 60000 < 2 ^ 62) (hk : k ≤ 5000) :
    tkCon false (.code yX5_run cX5_run 2 (some .int)) yX5_run 8 [.ref x, .int (nI k)] σ (reg p 28 I0 v) (reg p 28 L0 w) 0 0 (.inl (some (.int (sAdv nt ns np (nI k) k 0 ((I0, L0), 0)).2))) σ (reg p 28 (sAdv nt ns np (nI k) k 0 ((I0, L0), 0)).1.1 v) (reg p 28 (sAdv nt ns np (nI k) k 0 ((I0, L0), 0)).1.2 w) := by
  refine tkCon.of (by decide) (Nat.le_of_ble_eq_true rfl) (fun X C => ?_)
  have h : ¬ bad (nI k) 0 5000 := by
    rintro (z | z)
    · exact nI_pos (by omega) z
    · exact absurd z (nI_nlt (a := 5000) hk (by omega))
  refine g_iload_n C (i := 1) dX5_run_0 rfl rfl ?_
  refine g_iconst C (0) dX5_run_1 rfl ?_
  refine g_callS C dX5_run_2 mm_X5_needTicks ml_X5_121 mt_yX5_needTicks (c_X5_needTicks_ok (p := p) _ 0 h) rfl ⟨by decide, Nat.le_of_ble_eq_true rfl, Nat.le_of_ble_eq_true rfl, Nat.le_of_ble_eq_true rfl⟩ (tk_retn ?_) tk_nothr
  refine g_aload_n C (i := 0) dX5_run_5 rfl rfl ?_
  refine g_getR C 5 0 (RX5, TX5, 4) dX5_run_6 hX.1 hX.2.1 ml_X5_10 rfl (by decide) rfl ?_
  refine g_iload_n C (i := 1) dX5_run_9 rfl rfl ?_
  refine g_callV C (q := (RX1, TX1, 5)) (rest := _) dX5_run_10 mm_X1_advance ml_X5_124 mv_yX1_advance ms_yX1_advance (c_X1_advance hP hW hk (by omega)) rfl (hP.1 0 (by decide)) rfl rfl ⟨by decide, Nat.le_of_ble_eq_true rfl, Nat.le_of_ble_eq_true rfl, Nat.le_of_ble_eq_true rfl⟩ (tk_retv ?_) tk_nothr
  exact g_ireturn C dX5_run_13 ⟨Nat.le_of_ble_eq_true rfl, Nat.le_of_ble_eq_true rfl⟩ (tkEnd.rf rfl rfl rfl)
end TKAPI

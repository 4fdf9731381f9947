section TKMODEL
variable {σ : tkM} {r : Nat} {J v : tkI} {K w : tkL}
abbrev off (i : Int32) (n : Nat) : Prop := i < 0 ∨ nI n ≤ i
theorem bad_off {i : Int32} {n : Nat} (hn : n < 2 ^ 30) : bad i 0 (nI n - 1) ↔ off i n := by
  have e : nI n - 1 < i ↔ nI n ≤ i := by
    rw [Int32.lt_iff_toInt_lt, Int32.le_iff_toInt_le, show (1 : Int32) = nI 1 from rfl, pk_sub_toInt hn (by omega), nI_toInt (by omega)]
    omega
  exact or_congr Iff.rfl e
theorem off_not {i : Int32} {n : Nat} (hn : n < 2 ^ 30) (h : ¬ off i n) : ∃ j, j < n ∧ i = nI j := bad_not hn (fun z => h ((bad_off hn).mp z))
def offB (i : Int32) (n : Nat) : Int32 := if off i n then 0 else 1
theorem offB_1 {i : Int32} {n : Nat} (h : ¬ off i n) : offB i n = 1 := if_neg h
theorem offB_0 {i : Int32} {n : Nat} (h : off i n) : offB i n = 0 := if_pos h
theorem offB_z {i : Int32} {n : Nat} (h : offB i n = 0) : off i n := Decidable.byContradiction fun z => by rw [offB_1 z] at h; exact absurd h (by decide)
theorem offB_nz {i : Int32} {n : Nat} (h : ¬ offB i n = 0) : ¬ off i n := fun z => h (offB_0 z)
/-- the reference refuses -/
def mTh (c : Int32) (J : tkI) : tkI := tk2 (tk2 J 0 0 0) 0 0 c
def mT0 (J : tkI) : tkI := tk2 J 0 0 0
theorem c_X6_thrown (hM : tkReg 21 mT mF σ r)  :
    tkCon false (.code yX6_thrown cX6_thrown 1 (some .int)) yX6_thrown 1 [.ref r] σ (reg r 21 J v) (reg r 21 K w) 0 0 (.inl (some (.int (J 0 0)))) σ (reg r 21 J v) (reg r 21 K w) := by
  refine tkCon.of (by decide) (Nat.le_of_ble_eq_true rfl) (fun X C => ?_)
  refine g_aload_n C (i := 0) dX6_thrown_0 rfl rfl ?_
  refine g_getI C 6 0 (RX6, TX6, 29) dX6_thrown_1 (hM.1 0 (by decide)) (reg_at (k := 0) (by decide)) ml_X6_72 rfl (by decide) (Or.inl rfl) ?_
  exact g_ireturn C dX6_thrown_4 ⟨Nat.le_of_ble_eq_true rfl, Nat.le_of_ble_eq_true rfl⟩ (tkEnd.rf rfl rfl rfl)
theorem c_X6_fail (hM : tkReg 21 mT mF σ r) (c : Int32) :
    tkCon false (.code yX6_fail cX6_fail 2 (some .int)) yX6_fail 1 [.ref r, .int c] σ (reg r 21 J v) (reg r 21 K w) 0 0 (.inl (some (.int 0))) σ (reg r 21 (tk2 J 0 0 c) v) (reg r 21 (K) w) := by
  refine tkCon.of (by decide) (Nat.le_of_ble_eq_true rfl) (fun X C => ?_)
  refine g_aload_n C (i := 0) dX6_fail_0 rfl rfl ?_
  refine g_iload_n C (i := 1) dX6_fail_1 rfl rfl ?_
  refine g_putI C 6 0 (RX6, TX6, 29) dX6_fail_2 (hM.1 0 (by decide)) (tk2_reg (k := 0) (by decide)) ml_X6_72 rfl (by decide) rfl rfl ?_
  refine g_iconst C (0) dX6_fail_5 rfl ?_
  exact g_ireturn C dX6_fail_6 ⟨Nat.le_of_ble_eq_true rfl, Nat.le_of_ble_eq_true rfl⟩ (tkEnd.rf rfl rfl rfl)
theorem c_X6_isTank (hM : tkReg 21 mT mF σ r) {nt : Nat} (hc : J 0 1 = nI nt) (i : Int32) :
    tkCon false (.code yX6_isTank cX6_isTank 2 (some .boolean)) yX6_isTank 1 [.ref r, .int i] σ (reg r 21 J v) (reg r 21 K w) 0 0 (.inl (some (.int (offB i nt)))) σ (reg r 21 J v) (reg r 21 K w) := by
  refine tkCon.of (by decide) (Nat.le_of_ble_eq_true rfl) (fun X C => ?_)
  refine g_iload_n C (i := 1) dX6_isTank_0 rfl rfl ?_
  refine g_if_lt C 16 dX6_isTank_1 (by decide) (fun h1 => ?_) (fun h1 => ?_)
  · refine g_iconst C (0) dX6_isTank_16 rfl ?_
    exact g_zreturn C dX6_isTank_17 ⟨Nat.le_of_ble_eq_true rfl, Nat.le_of_ble_eq_true rfl⟩ (by first | assumption | exact Or.inl rfl | exact Or.inr rfl) (tkEnd.rf (by rw [offB_0 (Or.inl h1)]) rfl rfl)
  · refine g_iload_n C (i := 1) dX6_isTank_4 rfl rfl ?_
    refine g_aload_n C (i := 0) dX6_isTank_5 rfl rfl ?_
    refine g_getI C 6 1 (RX6, TX6, 29) dX6_isTank_6 (hM.1 0 (by decide)) (reg_at (k := 0) (by decide)) ml_X6_76 rfl (by decide) (Or.inl rfl) ?_
    rw [hc]
    refine g_icmp_ge C 16 dX6_isTank_9 (by decide) (fun h9 => ?_) (fun h9 => ?_)
    · refine g_iconst C (0) dX6_isTank_16 rfl ?_
      exact g_zreturn C dX6_isTank_17 ⟨Nat.le_of_ble_eq_true rfl, Nat.le_of_ble_eq_true rfl⟩ (by first | assumption | exact Or.inl rfl | exact Or.inr rfl) (tkEnd.rf (by rw [offB_0 (Or.inr h9)]) rfl rfl)
    · refine g_iconst C (1) dX6_isTank_12 rfl ?_
      refine g_goto C 17 dX6_isTank_13 (by decide) ?_
      exact g_zreturn C dX6_isTank_17 ⟨Nat.le_of_ble_eq_true rfl, Nat.le_of_ble_eq_true rfl⟩ (by first | assumption | exact Or.inl rfl | exact Or.inr rfl) (tkEnd.rf (by rw [offB_1 (fun z => z.elim h1 h9)]) rfl rfl)
theorem c_X6_isSwitch (hM : tkReg 21 mT mF σ r) {ns : Nat} (hc : J 0 3 = nI ns) (i : Int32) :
    tkCon false (.code yX6_isSwitch cX6_isSwitch 2 (some .boolean)) yX6_isSwitch 1 [.ref r, .int i] σ (reg r 21 J v) (reg r 21 K w) 0 0 (.inl (some (.int (offB i ns)))) σ (reg r 21 J v) (reg r 21 K w) := by
  refine tkCon.of (by decide) (Nat.le_of_ble_eq_true rfl) (fun X C => ?_)
  refine g_iload_n C (i := 1) dX6_isSwitch_0 rfl rfl ?_
  refine g_if_lt C 16 dX6_isSwitch_1 (by decide) (fun h1 => ?_) (fun h1 => ?_)
  · refine g_iconst C (0) dX6_isSwitch_16 rfl ?_
    exact g_zreturn C dX6_isSwitch_17 ⟨Nat.le_of_ble_eq_true rfl, Nat.le_of_ble_eq_true rfl⟩ (by first | assumption | exact Or.inl rfl | exact Or.inr rfl) (tkEnd.rf (by rw [offB_0 (Or.inl h1)]) rfl rfl)
  · refine g_iload_n C (i := 1) dX6_isSwitch_4 rfl rfl ?_
    refine g_aload_n C (i := 0) dX6_isSwitch_5 rfl rfl ?_
    refine g_getI C 6 3 (RX6, TX6, 29) dX6_isSwitch_6 (hM.1 0 (by decide)) (reg_at (k := 0) (by decide)) ml_X6_79 rfl (by decide) (Or.inl rfl) ?_
    rw [hc]
    refine g_icmp_ge C 16 dX6_isSwitch_9 (by decide) (fun h9 => ?_) (fun h9 => ?_)
    · refine g_iconst C (0) dX6_isSwitch_16 rfl ?_
      exact g_zreturn C dX6_isSwitch_17 ⟨Nat.le_of_ble_eq_true rfl, Nat.le_of_ble_eq_true rfl⟩ (by first | assumption | exact Or.inl rfl | exact Or.inr rfl) (tkEnd.rf (by rw [offB_0 (Or.inr h9)]) rfl rfl)
    · refine g_iconst C (1) dX6_isSwitch_12 rfl ?_
      refine g_goto C 17 dX6_isSwitch_13 (by decide) ?_
      exact g_zreturn C dX6_isSwitch_17 ⟨Nat.le_of_ble_eq_true rfl, Nat.le_of_ble_eq_true rfl⟩ (by first | assumption | exact Or.inl rfl | exact Or.inr rfl) (tkEnd.rf (by rw [offB_1 (fun z => z.elim h1 h9)]) rfl rfl)
theorem c_X6_isPump (hM : tkReg 21 mT mF σ r) {np : Nat} (hc : J 0 7 = nI np) (i : Int32) :
    tkCon false (.code yX6_isPump cX6_isPump 2 (some .boolean)) yX6_isPump 1 [.ref r, .int i] σ (reg r 21 J v) (reg r 21 K w) 0 0 (.inl (some (.int (offB i np)))) σ (reg r 21 J v) (reg r 21 K w) := by
  refine tkCon.of (by decide) (Nat.le_of_ble_eq_true rfl) (fun X C => ?_)
  refine g_iload_n C (i := 1) dX6_isPump_0 rfl rfl ?_
  refine g_if_lt C 16 dX6_isPump_1 (by decide) (fun h1 => ?_) (fun h1 => ?_)
  · refine g_iconst C (0) dX6_isPump_16 rfl ?_
    exact g_zreturn C dX6_isPump_17 ⟨Nat.le_of_ble_eq_true rfl, Nat.le_of_ble_eq_true rfl⟩ (by first | assumption | exact Or.inl rfl | exact Or.inr rfl) (tkEnd.rf (by rw [offB_0 (Or.inl h1)]) rfl rfl)
  · refine g_iload_n C (i := 1) dX6_isPump_4 rfl rfl ?_
    refine g_aload_n C (i := 0) dX6_isPump_5 rfl rfl ?_
    refine g_getI C 6 7 (RX6, TX6, 29) dX6_isPump_6 (hM.1 0 (by decide)) (reg_at (k := 0) (by decide)) ml_X6_82 rfl (by decide) (Or.inl rfl) ?_
    rw [hc]
    refine g_icmp_ge C 16 dX6_isPump_9 (by decide) (fun h9 => ?_) (fun h9 => ?_)
    · refine g_iconst C (0) dX6_isPump_16 rfl ?_
      exact g_zreturn C dX6_isPump_17 ⟨Nat.le_of_ble_eq_true rfl, Nat.le_of_ble_eq_true rfl⟩ (by first | assumption | exact Or.inl rfl | exact Or.inr rfl) (tkEnd.rf (by rw [offB_0 (Or.inr h9)]) rfl rfl)
    · refine g_iconst C (1) dX6_isPump_12 rfl ?_
      refine g_goto C 17 dX6_isPump_13 (by decide) ?_
      exact g_zreturn C dX6_isPump_17 ⟨Nat.le_of_ble_eq_true rfl, Nat.le_of_ble_eq_true rfl⟩ (by first | assumption | exact Or.inl rfl | exact Or.inr rfl) (tkEnd.rf (by rw [offB_1 (fun z => z.elim h1 h9)]) rfl rfl)
theorem c_X6_isLogged (hM : tkReg 21 mT mF σ r) {lg : Nat} (hc : J 0 23 = nI lg) (i : Int32) :
    tkCon false (.code yX6_isLogged cX6_isLogged 2 (some .boolean)) yX6_isLogged 1 [.ref r, .int i] σ (reg r 21 J v) (reg r 21 K w) 0 0 (.inl (some (.int (offB i lg)))) σ (reg r 21 J v) (reg r 21 K w) := by
  refine tkCon.of (by decide) (Nat.le_of_ble_eq_true rfl) (fun X C => ?_)
  refine g_iload_n C (i := 1) dX6_isLogged_0 rfl rfl ?_
  refine g_if_lt C 16 dX6_isLogged_1 (by decide) (fun h1 => ?_) (fun h1 => ?_)
  · refine g_iconst C (0) dX6_isLogged_16 rfl ?_
    exact g_zreturn C dX6_isLogged_17 ⟨Nat.le_of_ble_eq_true rfl, Nat.le_of_ble_eq_true rfl⟩ (by first | assumption | exact Or.inl rfl | exact Or.inr rfl) (tkEnd.rf (by rw [offB_0 (Or.inl h1)]) rfl rfl)
  · refine g_iload_n C (i := 1) dX6_isLogged_4 rfl rfl ?_
    refine g_aload_n C (i := 0) dX6_isLogged_5 rfl rfl ?_
    refine g_getI C 6 23 (RX6, TX6, 29) dX6_isLogged_6 (hM.1 0 (by decide)) (reg_at (k := 0) (by decide)) ml_X6_101 rfl (by decide) (Or.inl rfl) ?_
    rw [hc]
    refine g_icmp_ge C 16 dX6_isLogged_9 (by decide) (fun h9 => ?_) (fun h9 => ?_)
    · refine g_iconst C (0) dX6_isLogged_16 rfl ?_
      exact g_zreturn C dX6_isLogged_17 ⟨Nat.le_of_ble_eq_true rfl, Nat.le_of_ble_eq_true rfl⟩ (by first | assumption | exact Or.inl rfl | exact Or.inr rfl) (tkEnd.rf (by rw [offB_0 (Or.inr h9)]) rfl rfl)
    · refine g_iconst C (1) dX6_isLogged_12 rfl ?_
      refine g_goto C 17 dX6_isLogged_13 (by decide) ?_
      exact g_zreturn C dX6_isLogged_17 ⟨Nat.le_of_ble_eq_true rfl, Nat.le_of_ble_eq_true rfl⟩ (by first | assumption | exact Or.inl rfl | exact Or.inr rfl) (tkEnd.rf (by rw [offB_1 (fun z => z.elim h1 h9)]) rfl rfl)
theorem c_X6_time (hM : tkReg 21 mT mF σ r)  :
    tkCon false (.code yX6_time cX6_time 1 (some .long)) yX6_time 2 [.ref r] σ (reg r 21 J v) (reg r 21 K w) 0 0 (.inl (some (.long (K 0 21)))) σ (reg r 21 (mT0 J) v) (reg r 21 (K) w) := by
  refine tkCon.of (by decide) (Nat.le_of_ble_eq_true rfl) (fun X C => ?_)
  refine g_aload_n C (i := 0) dX6_time_0 rfl rfl ?_
  refine g_iconst C (0) dX6_time_1 rfl ?_
  refine g_putI C 6 0 (RX6, TX6, 29) dX6_time_2 (hM.1 0 (by decide)) (tk2_reg (k := 0) (by decide)) ml_X6_72 rfl (by decide) rfl rfl ?_
  refine g_aload_n C (i := 0) dX6_time_5 rfl rfl ?_
  refine g_getL C 6 21 (RX6, TX6, 29) dX6_time_6 (hM.1 0 (by decide)) (reg_at (k := 0) (by decide)) ml_X6_104 rfl (by decide) rfl ?_
  exact g_lreturn C dX6_time_9 ⟨Nat.le_of_ble_eq_true rfl, Nat.le_of_ble_eq_true rfl⟩ (tkEnd.rf rfl rfl rfl)
theorem c_X6_changeCount (hM : tkReg 21 mT mF σ r)  :
    tkCon false (.code yX6_changeCount cX6_changeCount 1 (some .long)) yX6_changeCount 2 [.ref r] σ (reg r 21 J v) (reg r 21 K w) 0 0 (.inl (some (.long (K 0 22)))) σ (reg r 21 (mT0 J) v) (reg r 21 (K) w) := by
  refine tkCon.of (by decide) (Nat.le_of_ble_eq_true rfl) (fun X C => ?_)
  refine g_aload_n C (i := 0) dX6_changeCount_0 rfl rfl ?_
  refine g_iconst C (0) dX6_changeCount_1 rfl ?_
  refine g_putI C 6 0 (RX6, TX6, 29) dX6_changeCount_2 (hM.1 0 (by decide)) (tk2_reg (k := 0) (by decide)) ml_X6_72 rfl (by decide) rfl rfl ?_
  refine g_aload_n C (i := 0) dX6_changeCount_5 rfl rfl ?_
  refine g_getL C 6 22 (RX6, TX6, 29) dX6_changeCount_6 (hM.1 0 (by decide)) (reg_at (k := 0) (by decide)) ml_X6_108 rfl (by decide) rfl ?_
  exact g_lreturn C dX6_changeCount_9 ⟨Nat.le_of_ble_eq_true rfl, Nat.le_of_ble_eq_true rfl⟩ (tkEnd.rf rfl rfl rfl)
theorem c_X6_level (hM : tkReg 21 mT mF σ r) {nt : Nat} (hc : J 0 1 = nI nt) (hn : nt ≤ 8) (i : Int32) :
    tkCon false (.code yX6_level cX6_level 2 (some .int)) yX6_level 2 [.ref r, .int i] σ (reg r 21 J v) (reg r 21 K w) 0 0 (.inl (some (.int (if off i nt then 0 else J 10 i.toNatClampNeg)))) σ (reg r 21 (if off i nt then mTh 1 J else mT0 J) v) (reg r 21 (K) w) := by
  refine tkCon.of (by decide) (Nat.le_of_ble_eq_true rfl) (fun X C => ?_)
  refine g_aload_n C (i := 0) dX6_level_0 rfl rfl ?_
  refine g_iconst C (0) dX6_level_1 rfl ?_
  refine g_putI C 6 0 (RX6, TX6, 29) dX6_level_2 (hM.1 0 (by decide)) (tk2_reg (k := 0) (by decide)) ml_X6_72 rfl (by decide) rfl rfl ?_
  refine g_aload_n C (i := 0) dX6_level_5 rfl rfl ?_
  refine g_iload_n C (i := 1) dX6_level_6 rfl rfl ?_
  refine g_callV C (q := (RX6, TX6, 29)) (rest := _) dX6_level_7 mm_X6_isTank ml_X6_91 mv_yX6_isTank ms_yX6_isTank (c_X6_isTank hM (J := mT0 J) hc i) rfl (hM.1 0 (by decide)) rfl rfl ⟨by decide, Nat.le_of_ble_eq_true rfl, Nat.le_of_ble_eq_true rfl, Nat.le_of_ble_eq_true rfl⟩ (tk_retv ?_) tk_nothr
  refine g_if_eq C 22 dX6_level_10 (by decide) (fun h10 => ?_) (fun h10 => ?_)
  · rw [if_pos (offB_z h10), if_pos (offB_z h10)]
    refine g_aload_n C (i := 0) dX6_level_22 rfl rfl ?_
    refine g_iconst C (1) dX6_level_23 rfl ?_
    refine g_callV C (q := (RX6, TX6, 29)) (rest := _) dX6_level_24 mm_X6_fail ml_X6_87 mv_yX6_fail ms_yX6_fail (c_X6_fail hM 1) rfl (hM.1 0 (by decide)) rfl rfl ⟨by decide, Nat.le_of_ble_eq_true rfl, Nat.le_of_ble_eq_true rfl, Nat.le_of_ble_eq_true rfl⟩ (tk_retv ?_) tk_nothr
    exact g_ireturn C dX6_level_27 ⟨Nat.le_of_ble_eq_true rfl, Nat.le_of_ble_eq_true rfl⟩ (tkEnd.rf rfl rfl rfl)
  · have h := offB_nz h10
    rw [if_neg h, if_neg h]
    obtain ⟨j, hj, rfl⟩ := off_not (by omega) h
    rw [nI_clamp (by omega)]
    refine g_aload_n C (i := 0) dX6_level_13 rfl rfl ?_
    refine g_getR C 6 13 (RX6, TX6, 29) dX6_level_14 (hM.1 0 (by decide)) (hM.2 0 13 10 (by decide) rfl) ml_X6_38 rfl (by decide) rfl ?_
    refine g_iload_n C (i := 1) dX6_level_17 rfl rfl ?_
    refine g_ia C dX6_level_18 (hM.1 10 (by decide)) (reg_at (k := 10) (by decide)) rfl (by omega) (by decide) ?_
    refine g_goto C 27 dX6_level_19 (by decide) ?_
    exact g_ireturn C dX6_level_27 ⟨Nat.le_of_ble_eq_true rfl, Nat.le_of_ble_eq_true rfl⟩ (tkEnd.rf rfl rfl rfl)
theorem c_X6_levelSum (hM : tkReg 21 mT mF σ r) {nt : Nat} (hc : J 0 1 = nI nt) (hn : nt ≤ 8) (i : Int32) :
    tkCon false (.code yX6_levelSum cX6_levelSum 2 (some .long)) yX6_levelSum 2 [.ref r, .int i] σ (reg r 21 J v) (reg r 21 K w) 0 0 (.inl (some (.long (if off i nt then 0 else K 12 i.toNatClampNeg)))) σ (reg r 21 (if off i nt then mTh 1 J else mT0 J) v) (reg r 21 (K) w) := by
  refine tkCon.of (by decide) (Nat.le_of_ble_eq_true rfl) (fun X C => ?_)
  refine g_aload_n C (i := 0) dX6_levelSum_0 rfl rfl ?_
  refine g_iconst C (0) dX6_levelSum_1 rfl ?_
  refine g_putI C 6 0 (RX6, TX6, 29) dX6_levelSum_2 (hM.1 0 (by decide)) (tk2_reg (k := 0) (by decide)) ml_X6_72 rfl (by decide) rfl rfl ?_
  refine g_aload_n C (i := 0) dX6_levelSum_5 rfl rfl ?_
  refine g_iload_n C (i := 1) dX6_levelSum_6 rfl rfl ?_
  refine g_callV C (q := (RX6, TX6, 29)) (rest := _) dX6_levelSum_7 mm_X6_isTank ml_X6_91 mv_yX6_isTank ms_yX6_isTank (c_X6_isTank hM (J := mT0 J) hc i) rfl (hM.1 0 (by decide)) rfl rfl ⟨by decide, Nat.le_of_ble_eq_true rfl, Nat.le_of_ble_eq_true rfl, Nat.le_of_ble_eq_true rfl⟩ (tk_retv ?_) tk_nothr
  refine g_if_eq C 22 dX6_levelSum_10 (by decide) (fun h10 => ?_) (fun h10 => ?_)
  · rw [if_pos (offB_z h10), if_pos (offB_z h10)]
    refine g_aload_n C (i := 0) dX6_levelSum_22 rfl rfl ?_
    refine g_iconst C (1) dX6_levelSum_23 rfl ?_
    refine g_callV C (q := (RX6, TX6, 29)) (rest := _) dX6_levelSum_24 mm_X6_fail ml_X6_87 mv_yX6_fail ms_yX6_fail (c_X6_fail hM 1) rfl (hM.1 0 (by decide)) rfl rfl ⟨by decide, Nat.le_of_ble_eq_true rfl, Nat.le_of_ble_eq_true rfl, Nat.le_of_ble_eq_true rfl⟩ (tk_retv ?_) tk_nothr
    refine g_i2l C dX6_levelSum_27 ?_
    exact g_lreturn C dX6_levelSum_28 ⟨Nat.le_of_ble_eq_true rfl, Nat.le_of_ble_eq_true rfl⟩ (tkEnd.rf rfl rfl rfl)
  · have h := offB_nz h10
    rw [if_neg h, if_neg h]
    obtain ⟨j, hj, rfl⟩ := off_not (by omega) h
    rw [nI_clamp (by omega)]
    refine g_aload_n C (i := 0) dX6_levelSum_13 rfl rfl ?_
    refine g_getR C 6 15 (RX6, TX6, 29) dX6_levelSum_14 (hM.1 0 (by decide)) (hM.2 0 15 12 (by decide) rfl) ml_X6_44 rfl (by decide) rfl ?_
    refine g_iload_n C (i := 1) dX6_levelSum_17 rfl rfl ?_
    refine g_la C dX6_levelSum_18 (hM.1 12 (by decide)) (reg_at (k := 12) (by decide)) rfl (by omega) (by decide) ?_
    refine g_goto C 28 dX6_levelSum_19 (by decide) ?_
    exact g_lreturn C dX6_levelSum_28 ⟨Nat.le_of_ble_eq_true rfl, Nat.le_of_ble_eq_true rfl⟩ (tkEnd.rf rfl rfl rfl)
theorem c_X6_total (hM : tkReg 21 mT mF σ r) {np : Nat} (hc : J 0 7 = nI np) (hn : np ≤ 16) (i : Int32) :
    tkCon false (.code yX6_total cX6_total 2 (some .long)) yX6_total 2 [.ref r, .int i] σ (reg r 21 J v) (reg r 21 K w) 0 0 (.inl (some (.long (if off i np then 0 else K 15 i.toNatClampNeg)))) σ (reg r 21 (if off i np then mTh 1 J else mT0 J) v) (reg r 21 (K) w) := by
  refine tkCon.of (by decide) (Nat.le_of_ble_eq_true rfl) (fun X C => ?_)
  refine g_aload_n C (i := 0) dX6_total_0 rfl rfl ?_
  refine g_iconst C (0) dX6_total_1 rfl ?_
  refine g_putI C 6 0 (RX6, TX6, 29) dX6_total_2 (hM.1 0 (by decide)) (tk2_reg (k := 0) (by decide)) ml_X6_72 rfl (by decide) rfl rfl ?_
  refine g_aload_n C (i := 0) dX6_total_5 rfl rfl ?_
  refine g_iload_n C (i := 1) dX6_total_6 rfl rfl ?_
  refine g_callV C (q := (RX6, TX6, 29)) (rest := _) dX6_total_7 mm_X6_isPump ml_X6_98 mv_yX6_isPump ms_yX6_isPump (c_X6_isPump hM (J := mT0 J) hc i) rfl (hM.1 0 (by decide)) rfl rfl ⟨by decide, Nat.le_of_ble_eq_true rfl, Nat.le_of_ble_eq_true rfl, Nat.le_of_ble_eq_true rfl⟩ (tk_retv ?_) tk_nothr
  refine g_if_eq C 22 dX6_total_10 (by decide) (fun h10 => ?_) (fun h10 => ?_)
  · rw [if_pos (offB_z h10), if_pos (offB_z h10)]
    refine g_aload_n C (i := 0) dX6_total_22 rfl rfl ?_
    refine g_iconst C (1) dX6_total_23 rfl ?_
    refine g_callV C (q := (RX6, TX6, 29)) (rest := _) dX6_total_24 mm_X6_fail ml_X6_87 mv_yX6_fail ms_yX6_fail (c_X6_fail hM 1) rfl (hM.1 0 (by decide)) rfl rfl ⟨by decide, Nat.le_of_ble_eq_true rfl, Nat.le_of_ble_eq_true rfl, Nat.le_of_ble_eq_true rfl⟩ (tk_retv ?_) tk_nothr
    refine g_i2l C dX6_total_27 ?_
    exact g_lreturn C dX6_total_28 ⟨Nat.le_of_ble_eq_true rfl, Nat.le_of_ble_eq_true rfl⟩ (tkEnd.rf rfl rfl rfl)
  · have h := offB_nz h10
    rw [if_neg h, if_neg h]
    obtain ⟨j, hj, rfl⟩ := off_not (by omega) h
    rw [nI_clamp (by omega)]
    refine g_aload_n C (i := 0) dX6_total_13 rfl rfl ?_
    refine g_getR C 6 18 (RX6, TX6, 29) dX6_total_14 (hM.1 0 (by decide)) (hM.2 0 18 15 (by decide) rfl) ml_X6_54 rfl (by decide) rfl ?_
    refine g_iload_n C (i := 1) dX6_total_17 rfl rfl ?_
    refine g_la C dX6_total_18 (hM.1 15 (by decide)) (reg_at (k := 15) (by decide)) rfl (by omega) (by decide) ?_
    refine g_goto C 28 dX6_total_19 (by decide) ?_
    exact g_lreturn C dX6_total_28 ⟨Nat.le_of_ble_eq_true rfl, Nat.le_of_ble_eq_true rfl⟩ (tkEnd.rf rfl rfl rfl)
theorem c_X6_energy (hM : tkReg 21 mT mF σ r) {np : Nat} (hc : J 0 7 = nI np) (hn : np ≤ 16) (i : Int32) :
    tkCon false (.code yX6_energy cX6_energy 2 (some .long)) yX6_energy 2 [.ref r, .int i] σ (reg r 21 J v) (reg r 21 K w) 0 0 (.inl (some (.long (if off i np then 0 else K 16 i.toNatClampNeg)))) σ (reg r 21 (if off i np then mTh 1 J else mT0 J) v) (reg r 21 (K) w) := by
  refine tkCon.of (by decide) (Nat.le_of_ble_eq_true rfl) (fun X C => ?_)
  refine g_aload_n C (i := 0) dX6_energy_0 rfl rfl ?_
  refine g_iconst C (0) dX6_energy_1 rfl ?_
  refine g_putI C 6 0 (RX6, TX6, 29) dX6_energy_2 (hM.1 0 (by decide)) (tk2_reg (k := 0) (by decide)) ml_X6_72 rfl (by decide) rfl rfl ?_
  refine g_aload_n C (i := 0) dX6_energy_5 rfl rfl ?_
  refine g_iload_n C (i := 1) dX6_energy_6 rfl rfl ?_
  refine g_callV C (q := (RX6, TX6, 29)) (rest := _) dX6_energy_7 mm_X6_isPump ml_X6_98 mv_yX6_isPump ms_yX6_isPump (c_X6_isPump hM (J := mT0 J) hc i) rfl (hM.1 0 (by decide)) rfl rfl ⟨by decide, Nat.le_of_ble_eq_true rfl, Nat.le_of_ble_eq_true rfl, Nat.le_of_ble_eq_true rfl⟩ (tk_retv ?_) tk_nothr
  refine g_if_eq C 22 dX6_energy_10 (by decide) (fun h10 => ?_) (fun h10 => ?_)
  · rw [if_pos (offB_z h10), if_pos (offB_z h10)]
    refine g_aload_n C (i := 0) dX6_energy_22 rfl rfl ?_
    refine g_iconst C (1) dX6_energy_23 rfl ?_
    refine g_callV C (q := (RX6, TX6, 29)) (rest := _) dX6_energy_24 mm_X6_fail ml_X6_87 mv_yX6_fail ms_yX6_fail (c_X6_fail hM 1) rfl (hM.1 0 (by decide)) rfl rfl ⟨by decide, Nat.le_of_ble_eq_true rfl, Nat.le_of_ble_eq_true rfl, Nat.le_of_ble_eq_true rfl⟩ (tk_retv ?_) tk_nothr
    refine g_i2l C dX6_energy_27 ?_
    exact g_lreturn C dX6_energy_28 ⟨Nat.le_of_ble_eq_true rfl, Nat.le_of_ble_eq_true rfl⟩ (tkEnd.rf rfl rfl rfl)
  · have h := offB_nz h10
    rw [if_neg h, if_neg h]
    obtain ⟨j, hj, rfl⟩ := off_not (by omega) h
    rw [nI_clamp (by omega)]
    refine g_aload_n C (i := 0) dX6_energy_13 rfl rfl ?_
    refine g_getR C 6 19 (RX6, TX6, 29) dX6_energy_14 (hM.1 0 (by decide)) (hM.2 0 19 16 (by decide) rfl) ml_X6_57 rfl (by decide) rfl ?_
    refine g_iload_n C (i := 1) dX6_energy_17 rfl rfl ?_
    refine g_la C dX6_energy_18 (hM.1 16 (by decide)) (reg_at (k := 16) (by decide)) rfl (by omega) (by decide) ?_
    refine g_goto C 28 dX6_energy_19 (by decide) ?_
    exact g_lreturn C dX6_energy_28 ⟨Nat.le_of_ble_eq_true rfl, Nat.le_of_ble_eq_true rfl⟩ (tkEnd.rf rfl rfl rfl)
theorem c_X6_shortTicks (hM : tkReg 21 mT mF σ r) {np : Nat} (hc : J 0 7 = nI np) (hn : np ≤ 16) (i : Int32) :
    tkCon false (.code yX6_shortTicks cX6_shortTicks 2 (some .long)) yX6_shortTicks 2 [.ref r, .int i] σ (reg r 21 J v) (reg r 21 K w) 0 0 (.inl (some (.long (if off i np then 0 else K 17 i.toNatClampNeg)))) σ (reg r 21 (if off i np then mTh 1 J else mT0 J) v) (reg r 21 (K) w) := by
  refine tkCon.of (by decide) (Nat.le_of_ble_eq_true rfl) (fun X C => ?_)
  refine g_aload_n C (i := 0) dX6_shortTicks_0 rfl rfl ?_
  refine g_iconst C (0) dX6_shortTicks_1 rfl ?_
  refine g_putI C 6 0 (RX6, TX6, 29) dX6_shortTicks_2 (hM.1 0 (by decide)) (tk2_reg (k := 0) (by decide)) ml_X6_72 rfl (by decide) rfl rfl ?_
  refine g_aload_n C (i := 0) dX6_shortTicks_5 rfl rfl ?_
  refine g_iload_n C (i := 1) dX6_shortTicks_6 rfl rfl ?_
  refine g_callV C (q := (RX6, TX6, 29)) (rest := _) dX6_shortTicks_7 mm_X6_isPump ml_X6_98 mv_yX6_isPump ms_yX6_isPump (c_X6_isPump hM (J := mT0 J) hc i) rfl (hM.1 0 (by decide)) rfl rfl ⟨by decide, Nat.le_of_ble_eq_true rfl, Nat.le_of_ble_eq_true rfl, Nat.le_of_ble_eq_true rfl⟩ (tk_retv ?_) tk_nothr
  refine g_if_eq C 22 dX6_shortTicks_10 (by decide) (fun h10 => ?_) (fun h10 => ?_)
  · rw [if_pos (offB_z h10), if_pos (offB_z h10)]
    refine g_aload_n C (i := 0) dX6_shortTicks_22 rfl rfl ?_
    refine g_iconst C (1) dX6_shortTicks_23 rfl ?_
    refine g_callV C (q := (RX6, TX6, 29)) (rest := _) dX6_shortTicks_24 mm_X6_fail ml_X6_87 mv_yX6_fail ms_yX6_fail (c_X6_fail hM 1) rfl (hM.1 0 (by decide)) rfl rfl ⟨by decide, Nat.le_of_ble_eq_true rfl, Nat.le_of_ble_eq_true rfl, Nat.le_of_ble_eq_true rfl⟩ (tk_retv ?_) tk_nothr
    refine g_i2l C dX6_shortTicks_27 ?_
    exact g_lreturn C dX6_shortTicks_28 ⟨Nat.le_of_ble_eq_true rfl, Nat.le_of_ble_eq_true rfl⟩ (tkEnd.rf rfl rfl rfl)
  · have h := offB_nz h10
    rw [if_neg h, if_neg h]
    obtain ⟨j, hj, rfl⟩ := off_not (by omega) h
    rw [nI_clamp (by omega)]
    refine g_aload_n C (i := 0) dX6_shortTicks_13 rfl rfl ?_
    refine g_getR C 6 20 (RX6, TX6, 29) dX6_shortTicks_14 (hM.1 0 (by decide)) (hM.2 0 20 17 (by decide) rfl) ml_X6_60 rfl (by decide) rfl ?_
    refine g_iload_n C (i := 1) dX6_shortTicks_17 rfl rfl ?_
    refine g_la C dX6_shortTicks_18 (hM.1 17 (by decide)) (reg_at (k := 17) (by decide)) rfl (by omega) (by decide) ?_
    refine g_goto C 28 dX6_shortTicks_19 (by decide) ?_
    exact g_lreturn C dX6_shortTicks_28 ⟨Nat.le_of_ble_eq_true rfl, Nat.le_of_ble_eq_true rfl⟩ (tkEnd.rf rfl rfl rfl)
theorem c_X6_changeTime (hM : tkReg 21 mT mF σ r) {lg : Nat} (hc : J 0 23 = nI lg) (hn : lg ≤ 30) (i : Int32) :
    tkCon false (.code yX6_changeTime cX6_changeTime 2 (some .long)) yX6_changeTime 2 [.ref r, .int i] σ (reg r 21 J v) (reg r 21 K w) 0 0 (.inl (some (.long (if off i lg then 0 else K 18 i.toNatClampNeg)))) σ (reg r 21 (if off i lg then mTh 1 J else mT0 J) v) (reg r 21 (K) w) := by
  refine tkCon.of (by decide) (Nat.le_of_ble_eq_true rfl) (fun X C => ?_)
  refine g_aload_n C (i := 0) dX6_changeTime_0 rfl rfl ?_
  refine g_iconst C (0) dX6_changeTime_1 rfl ?_
  refine g_putI C 6 0 (RX6, TX6, 29) dX6_changeTime_2 (hM.1 0 (by decide)) (tk2_reg (k := 0) (by decide)) ml_X6_72 rfl (by decide) rfl rfl ?_
  refine g_aload_n C (i := 0) dX6_changeTime_5 rfl rfl ?_
  refine g_iload_n C (i := 1) dX6_changeTime_6 rfl rfl ?_
  refine g_callV C (q := (RX6, TX6, 29)) (rest := _) dX6_changeTime_7 mm_X6_isLogged ml_X6_137 mv_yX6_isLogged ms_yX6_isLogged (c_X6_isLogged hM (J := mT0 J) hc i) rfl (hM.1 0 (by decide)) rfl rfl ⟨by decide, Nat.le_of_ble_eq_true rfl, Nat.le_of_ble_eq_true rfl, Nat.le_of_ble_eq_true rfl⟩ (tk_retv ?_) tk_nothr
  refine g_if_eq C 22 dX6_changeTime_10 (by decide) (fun h10 => ?_) (fun h10 => ?_)
  · rw [if_pos (offB_z h10), if_pos (offB_z h10)]
    refine g_aload_n C (i := 0) dX6_changeTime_22 rfl rfl ?_
    refine g_iconst C (1) dX6_changeTime_23 rfl ?_
    refine g_callV C (q := (RX6, TX6, 29)) (rest := _) dX6_changeTime_24 mm_X6_fail ml_X6_87 mv_yX6_fail ms_yX6_fail (c_X6_fail hM 1) rfl (hM.1 0 (by decide)) rfl rfl ⟨by decide, Nat.le_of_ble_eq_true rfl, Nat.le_of_ble_eq_true rfl, Nat.le_of_ble_eq_true rfl⟩ (tk_retv ?_) tk_nothr
    refine g_i2l C dX6_changeTime_27 ?_
    exact g_lreturn C dX6_changeTime_28 ⟨Nat.le_of_ble_eq_true rfl, Nat.le_of_ble_eq_true rfl⟩ (tkEnd.rf rfl rfl rfl)
  · have h := offB_nz h10
    rw [if_neg h, if_neg h]
    obtain ⟨j, hj, rfl⟩ := off_not (by omega) h
    rw [nI_clamp (by omega)]
    refine g_aload_n C (i := 0) dX6_changeTime_13 rfl rfl ?_
    refine g_getR C 6 24 (RX6, TX6, 29) dX6_changeTime_14 (hM.1 0 (by decide)) (hM.2 0 24 18 (by decide) rfl) ml_X6_63 rfl (by decide) rfl ?_
    refine g_iload_n C (i := 1) dX6_changeTime_17 rfl rfl ?_
    refine g_la C dX6_changeTime_18 (hM.1 18 (by decide)) (reg_at (k := 18) (by decide)) rfl (by omega) (by decide) ?_
    refine g_goto C 28 dX6_changeTime_19 (by decide) ?_
    exact g_lreturn C dX6_changeTime_28 ⟨Nat.le_of_ble_eq_true rfl, Nat.le_of_ble_eq_true rfl⟩ (tkEnd.rf rfl rfl rfl)
theorem c_X6_changeSwitch (hM : tkReg 21 mT mF σ r) {lg : Nat} (hc : J 0 23 = nI lg) (hn : lg ≤ 30) (i : Int32) :
    tkCon false (.code yX6_changeSwitch cX6_changeSwitch 2 (some .int)) yX6_changeSwitch 2 [.ref r, .int i] σ (reg r 21 J v) (reg r 21 K w) 0 0 (.inl (some (.int (if off i lg then 0 else J 19 i.toNatClampNeg)))) σ (reg r 21 (if off i lg then mTh 1 J else mT0 J) v) (reg r 21 (K) w) := by
  refine tkCon.of (by decide) (Nat.le_of_ble_eq_true rfl) (fun X C => ?_)
  refine g_aload_n C (i := 0) dX6_changeSwitch_0 rfl rfl ?_
  refine g_iconst C (0) dX6_changeSwitch_1 rfl ?_
  refine g_putI C 6 0 (RX6, TX6, 29) dX6_changeSwitch_2 (hM.1 0 (by decide)) (tk2_reg (k := 0) (by decide)) ml_X6_72 rfl (by decide) rfl rfl ?_
  refine g_aload_n C (i := 0) dX6_changeSwitch_5 rfl rfl ?_
  refine g_iload_n C (i := 1) dX6_changeSwitch_6 rfl rfl ?_
  refine g_callV C (q := (RX6, TX6, 29)) (rest := _) dX6_changeSwitch_7 mm_X6_isLogged ml_X6_137 mv_yX6_isLogged ms_yX6_isLogged (c_X6_isLogged hM (J := mT0 J) hc i) rfl (hM.1 0 (by decide)) rfl rfl ⟨by decide, Nat.le_of_ble_eq_true rfl, Nat.le_of_ble_eq_true rfl, Nat.le_of_ble_eq_true rfl⟩ (tk_retv ?_) tk_nothr
  refine g_if_eq C 22 dX6_changeSwitch_10 (by decide) (fun h10 => ?_) (fun h10 => ?_)
  · rw [if_pos (offB_z h10), if_pos (offB_z h10)]
    refine g_aload_n C (i := 0) dX6_changeSwitch_22 rfl rfl ?_
    refine g_iconst C (1) dX6_changeSwitch_23 rfl ?_
    refine g_callV C (q := (RX6, TX6, 29)) (rest := _) dX6_changeSwitch_24 mm_X6_fail ml_X6_87 mv_yX6_fail ms_yX6_fail (c_X6_fail hM 1) rfl (hM.1 0 (by decide)) rfl rfl ⟨by decide, Nat.le_of_ble_eq_true rfl, Nat.le_of_ble_eq_true rfl, Nat.le_of_ble_eq_true rfl⟩ (tk_retv ?_) tk_nothr
    exact g_ireturn C dX6_changeSwitch_27 ⟨Nat.le_of_ble_eq_true rfl, Nat.le_of_ble_eq_true rfl⟩ (tkEnd.rf rfl rfl rfl)
  · have h := offB_nz h10
    rw [if_neg h, if_neg h]
    obtain ⟨j, hj, rfl⟩ := off_not (by omega) h
    rw [nI_clamp (by omega)]
    refine g_aload_n C (i := 0) dX6_changeSwitch_13 rfl rfl ?_
    refine g_getR C 6 25 (RX6, TX6, 29) dX6_changeSwitch_14 (hM.1 0 (by decide)) (hM.2 0 25 19 (by decide) rfl) ml_X6_66 rfl (by decide) rfl ?_
    refine g_iload_n C (i := 1) dX6_changeSwitch_17 rfl rfl ?_
    refine g_ia C dX6_changeSwitch_18 (hM.1 19 (by decide)) (reg_at (k := 19) (by decide)) rfl (by omega) (by decide) ?_
    refine g_goto C 27 dX6_changeSwitch_19 (by decide) ?_
    exact g_ireturn C dX6_changeSwitch_27 ⟨Nat.le_of_ble_eq_true rfl, Nat.le_of_ble_eq_true rfl⟩ (tkEnd.rf rfl rfl rfl)
theorem c_X6_isOn (hM : tkReg 21 mT mF σ r) {ns : Nat} (hc : J 0 3 = nI ns) (hn : ns ≤ 10) (i : Int32) :
    tkCon false (.code yX6_isOn cX6_isOn 2 (some .boolean)) yX6_isOn 2 [.ref r, .int i] σ (reg r 21 J v) (reg r 21 K w) 0 0 (.inl (some (.int (if off i ns then 0 else J 13 i.toNatClampNeg)))) σ (reg r 21 (tk2 J 0 0 (if off i ns then 1 else 0)) v) (reg r 21 (K) w) := by
  refine tkCon.of (by decide) (Nat.le_of_ble_eq_true rfl) (fun X C => ?_)
  refine g_aload_n C (i := 0) dX6_isOn_0 rfl rfl ?_
  refine g_aload_n C (i := 0) dX6_isOn_1 rfl rfl ?_
  refine g_iload_n C (i := 1) dX6_isOn_2 rfl rfl ?_
  refine g_callV C (q := (RX6, TX6, 29)) (rest := _) dX6_isOn_3 mm_X6_isSwitch ml_X6_95 mv_yX6_isSwitch ms_yX6_isSwitch (c_X6_isSwitch hM hc i) rfl (hM.1 0 (by decide)) rfl rfl ⟨by decide, Nat.le_of_ble_eq_true rfl, Nat.le_of_ble_eq_true rfl, Nat.le_of_ble_eq_true rfl⟩ (tk_retv ?_) tk_nothr
  refine g_if_eq C 13 dX6_isOn_6 (by decide) (fun h6 => ?_) (fun h6 => ?_)
  · have h := offB_z h6
    rw [if_pos h, if_pos h]
    refine g_iconst C (1) dX6_isOn_13 rfl ?_
    refine g_putI C 6 0 (RX6, TX6, 29) dX6_isOn_14 (hM.1 0 (by decide)) (tk2_reg (k := 0) (by decide)) ml_X6_72 rfl (by decide) rfl rfl ?_
    refine g_aload_n C (i := 0) dX6_isOn_17 rfl rfl ?_
    refine g_getI C 6 0 (RX6, TX6, 29) dX6_isOn_18 (hM.1 0 (by decide)) (reg_at (k := 0) (by decide)) ml_X6_72 rfl (by decide) (Or.inl rfl) ?_
    refine g_if_ne C 37 dX6_isOn_21 (by decide) (fun h21 => ?_) (fun h21 => ?_)
    · refine g_iconst C (0) dX6_isOn_37 rfl ?_
      exact g_zreturn C dX6_isOn_38 ⟨Nat.le_of_ble_eq_true rfl, Nat.le_of_ble_eq_true rfl⟩ (by first | assumption | exact Or.inl rfl | exact Or.inr rfl) (tkEnd.rf rfl rfl rfl)
    · exact absurd (tk2_at.symm.trans h21) (by decide)
  · have h := offB_nz h6
    rw [if_neg h, if_neg h]
    obtain ⟨j, hj, rfl⟩ := off_not (by omega) h
    rw [nI_clamp (by omega)]
    refine g_iconst C (0) dX6_isOn_9 rfl ?_
    refine g_goto C 14 dX6_isOn_10 (by decide) ?_
    refine g_putI C 6 0 (RX6, TX6, 29) dX6_isOn_14 (hM.1 0 (by decide)) (tk2_reg (k := 0) (by decide)) ml_X6_72 rfl (by decide) rfl rfl ?_
    refine g_aload_n C (i := 0) dX6_isOn_17 rfl rfl ?_
    refine g_getI C 6 0 (RX6, TX6, 29) dX6_isOn_18 (hM.1 0 (by decide)) (reg_at (k := 0) (by decide)) ml_X6_72 rfl (by decide) (Or.inl rfl) ?_
    refine g_if_ne C 37 dX6_isOn_21 (by decide) (fun h21 => ?_) (fun h21 => ?_)
    · exact absurd tk2_at h21
    · refine g_aload_n C (i := 0) dX6_isOn_24 rfl rfl ?_
      refine g_getR C 6 16 (RX6, TX6, 29) dX6_isOn_25 (hM.1 0 (by decide)) (hM.2 0 16 13 (by decide) rfl) ml_X6_48 rfl (by decide) rfl ?_
      refine g_iload_n C (i := 1) dX6_isOn_28 rfl rfl ?_
      refine g_za C dX6_isOn_29 (hM.1 13 (by decide)) (reg_at (k := 13) (by decide)) rfl (by omega) (by decide) (fun h01 => ?_)
      refine g_if_eq C 37 dX6_isOn_30 (by decide) (fun h30 => ?_) (fun h30 => ?_)
      · rw [show J 13 j = 0 from h30]
        refine g_iconst C (0) dX6_isOn_37 rfl ?_
        exact g_zreturn C dX6_isOn_38 ⟨Nat.le_of_ble_eq_true rfl, Nat.le_of_ble_eq_true rfl⟩ (by first | assumption | exact Or.inl rfl | exact Or.inr rfl) (tkEnd.rf rfl rfl rfl)
      · rw [show J 13 j = 1 from h01.resolve_left h30]
        refine g_iconst C (1) dX6_isOn_33 rfl ?_
        refine g_goto C 38 dX6_isOn_34 (by decide) ?_
        exact g_zreturn C dX6_isOn_38 ⟨Nat.le_of_ble_eq_true rfl, Nat.le_of_ble_eq_true rfl⟩ (by first | assumption | exact Or.inl rfl | exact Or.inr rfl) (tkEnd.rf rfl rfl rfl)
def mFail (c : Int32) (q : tkI × tkL) : Int32 × (tkI × tkL) := (0, (mTh c q.1, q.2))
def mAddTank (nt : Nat) (c l k : Int32) (q : tkI × tkL) : Int32 × (tkI × tkL) :=
  if bad c 1 1000000000 ∨ bad l 0 c ∨ bad k 0 1000000 then mFail 1 q else if nt = 8 then mFail 2 q else
    (nI nt, (tk2 (tk2 (tk2 (tk2 (mT0 q.1) 1 nt c) 10 nt l) 11 nt k) 0 1 (nI nt + 1), tk2 q.2 12 nt 0))
theorem c_X6_addTank (hM : tkReg 21 mT mF σ r) {nt : Nat} (hc : J 0 1 = nI nt) (hn : nt ≤ 8) (c l k : Int32) :
    tkCon false (.code yX6_addTank cX6_addTank 4 (some .int)) yX6_addTank 2 [.ref r, .int c, .int l, .int k] σ (reg r 21 J v) (reg r 21 K w) 0 0 (.inl (some (.int (mAddTank nt c l k (J, K)).1))) σ (reg r 21 (mAddTank nt c l k (J, K)).2.1 v) (reg r 21 (mAddTank nt c l k (J, K)).2.2 w) := by
  refine tkCon.of (by decide) (Nat.le_of_ble_eq_true rfl) (fun X C => ?_)
  unfold mAddTank
  refine g_aload_n C (i := 0) dX6_addTank_0 rfl rfl ?_
  refine g_iconst C (0) dX6_addTank_1 rfl ?_
  refine g_putI C 6 0 (RX6, TX6, 29) dX6_addTank_2 (hM.1 0 (by decide)) (tk2_reg (k := 0) (by decide)) ml_X6_72 rfl (by decide) rfl rfl ?_
  refine g_iload_n C (i := 1) dX6_addTank_5 rfl rfl ?_
  refine g_iconst C (1) dX6_addTank_6 rfl ?_
  refine g_icmp_lt C 35 dX6_addTank_7 (by decide) (fun h7 => ?_) (fun h7 => ?_)
  · rw [if_pos (Or.inl (Or.inl h7))]
    refine g_aload_n C (i := 0) dX6_addTank_35 rfl rfl ?_
    refine g_iconst C (1) dX6_addTank_36 rfl ?_
    refine g_callV C (q := (RX6, TX6, 29)) (rest := _) dX6_addTank_37 mm_X6_fail ml_X6_87 mv_yX6_fail ms_yX6_fail (c_X6_fail (J := mT0 J) hM 1) rfl (hM.1 0 (by decide)) rfl rfl ⟨by decide, Nat.le_of_ble_eq_true rfl, Nat.le_of_ble_eq_true rfl, Nat.le_of_ble_eq_true rfl⟩ (tk_retv ?_) tk_nothr
    exact g_ireturn C dX6_addTank_40 ⟨Nat.le_of_ble_eq_true rfl, Nat.le_of_ble_eq_true rfl⟩ (tkEnd.rf rfl rfl rfl)
  · refine g_iload_n C (i := 1) dX6_addTank_10 rfl rfl ?_
    refine g_ldc C (1000000000) dX6_addTank_11 ml_X6_85 ?_
    refine g_icmp_gt C 35 dX6_addTank_13 (by decide) (fun h13 => ?_) (fun h13 => ?_)
    · rw [if_pos (Or.inl (Or.inr h13))]
      refine g_aload_n C (i := 0) dX6_addTank_35 rfl rfl ?_
      refine g_iconst C (1) dX6_addTank_36 rfl ?_
      refine g_callV C (q := (RX6, TX6, 29)) (rest := _) dX6_addTank_37 mm_X6_fail ml_X6_87 mv_yX6_fail ms_yX6_fail (c_X6_fail (J := mT0 J) hM 1) rfl (hM.1 0 (by decide)) rfl rfl ⟨by decide, Nat.le_of_ble_eq_true rfl, Nat.le_of_ble_eq_true rfl, Nat.le_of_ble_eq_true rfl⟩ (tk_retv ?_) tk_nothr
      exact g_ireturn C dX6_addTank_40 ⟨Nat.le_of_ble_eq_true rfl, Nat.le_of_ble_eq_true rfl⟩ (tkEnd.rf rfl rfl rfl)
    · refine g_iload_n C (i := 2) dX6_addTank_16 rfl rfl ?_
      refine g_if_lt C 35 dX6_addTank_17 (by decide) (fun h17 => ?_) (fun h17 => ?_)
      · rw [if_pos (Or.inr (Or.inl (Or.inl h17)))]
        refine g_aload_n C (i := 0) dX6_addTank_35 rfl rfl ?_
        refine g_iconst C (1) dX6_addTank_36 rfl ?_
        refine g_callV C (q := (RX6, TX6, 29)) (rest := _) dX6_addTank_37 mm_X6_fail ml_X6_87 mv_yX6_fail ms_yX6_fail (c_X6_fail (J := mT0 J) hM 1) rfl (hM.1 0 (by decide)) rfl rfl ⟨by decide, Nat.le_of_ble_eq_true rfl, Nat.le_of_ble_eq_true rfl, Nat.le_of_ble_eq_true rfl⟩ (tk_retv ?_) tk_nothr
        exact g_ireturn C dX6_addTank_40 ⟨Nat.le_of_ble_eq_true rfl, Nat.le_of_ble_eq_true rfl⟩ (tkEnd.rf rfl rfl rfl)
      · refine g_iload_n C (i := 2) dX6_addTank_20 rfl rfl ?_
        refine g_iload_n C (i := 1) dX6_addTank_21 rfl rfl ?_
        refine g_icmp_gt C 35 dX6_addTank_22 (by decide) (fun h22 => ?_) (fun h22 => ?_)
        · rw [if_pos (Or.inr (Or.inl (Or.inr h22)))]
          refine g_aload_n C (i := 0) dX6_addTank_35 rfl rfl ?_
          refine g_iconst C (1) dX6_addTank_36 rfl ?_
          refine g_callV C (q := (RX6, TX6, 29)) (rest := _) dX6_addTank_37 mm_X6_fail ml_X6_87 mv_yX6_fail ms_yX6_fail (c_X6_fail (J := mT0 J) hM 1) rfl (hM.1 0 (by decide)) rfl rfl ⟨by decide, Nat.le_of_ble_eq_true rfl, Nat.le_of_ble_eq_true rfl, Nat.le_of_ble_eq_true rfl⟩ (tk_retv ?_) tk_nothr
          exact g_ireturn C dX6_addTank_40 ⟨Nat.le_of_ble_eq_true rfl, Nat.le_of_ble_eq_true rfl⟩ (tkEnd.rf rfl rfl rfl)
        · refine g_iload_n C (i := 3) dX6_addTank_25 rfl rfl ?_
          refine g_if_lt C 35 dX6_addTank_26 (by decide) (fun h26 => ?_) (fun h26 => ?_)
          · rw [if_pos (Or.inr (Or.inr (Or.inl h26)))]
            refine g_aload_n C (i := 0) dX6_addTank_35 rfl rfl ?_
            refine g_iconst C (1) dX6_addTank_36 rfl ?_
            refine g_callV C (q := (RX6, TX6, 29)) (rest := _) dX6_addTank_37 mm_X6_fail ml_X6_87 mv_yX6_fail ms_yX6_fail (c_X6_fail (J := mT0 J) hM 1) rfl (hM.1 0 (by decide)) rfl rfl ⟨by decide, Nat.le_of_ble_eq_true rfl, Nat.le_of_ble_eq_true rfl, Nat.le_of_ble_eq_true rfl⟩ (tk_retv ?_) tk_nothr
            exact g_ireturn C dX6_addTank_40 ⟨Nat.le_of_ble_eq_true rfl, Nat.le_of_ble_eq_true rfl⟩ (tkEnd.rf rfl rfl rfl)
          · refine g_iload_n C (i := 3) dX6_addTank_29 rfl rfl ?_
            refine g_ldc C (1000000) dX6_addTank_30 ml_X6_86 ?_
            refine g_icmp_le C 41 dX6_addTank_32 (by decide) (fun h32 => ?_) (fun h32 => ?_)
            · rw [if_neg (by rintro ((z | z) | (z | z) | (z | z)); exact h7 z; exact h13 z; exact h17 z; exact h22 z; exact h26 z; exact Int32.not_le.mpr z h32)]
              refine g_aload_n C (i := 0) dX6_addTank_41 rfl rfl ?_
              refine g_getI C 6 1 (RX6, TX6, 29) dX6_addTank_42 (hM.1 0 (by decide)) (reg_at (k := 0) (by decide)) ml_X6_76 rfl (by decide) (Or.inl rfl) ?_
              rw [show (tk2 J 0 0 0) 0 1 = nI nt from hc]
              refine g_bipush C (8) dX6_addTank_45 rfl ?_
              refine g_icmp_ne C 56 dX6_addTank_47 (by decide) (fun h47 => ?_) (fun h47 => ?_)
              · have h8 : ¬ nt = 8 := fun z => h47 (by rw [z]; rfl)
                rw [if_neg h8]
                have hlt : nt < 8 := by omega
                refine g_aload_n C (i := 0) dX6_addTank_56 rfl rfl ?_
                refine g_getR C 6 2 (RX6, TX6, 29) dX6_addTank_57 (hM.1 0 (by decide)) (hM.2 0 2 1 (by decide) rfl) ml_X6_9 rfl (by decide) rfl ?_
                refine g_aload_n C (i := 0) dX6_addTank_60 rfl rfl ?_
                refine g_getI C 6 1 (RX6, TX6, 29) dX6_addTank_61 (hM.1 0 (by decide)) (reg_at (k := 0) (by decide)) ml_X6_76 rfl (by decide) (Or.inl rfl) ?_
                rw [show (tk2 J 0 0 0) 0 1 = nI nt from hc]
                refine g_iload_n C (i := 1) dX6_addTank_64 rfl rfl ?_
                refine g_is C dX6_addTank_65 (hM.1 1 (by decide)) (tk2_reg (k := 1) (by decide)) rfl (by omega) (by decide) ?_
                refine g_aload_n C (i := 0) dX6_addTank_66 rfl rfl ?_
                refine g_getR C 6 13 (RX6, TX6, 29) dX6_addTank_67 (hM.1 0 (by decide)) (hM.2 0 13 10 (by decide) rfl) ml_X6_38 rfl (by decide) rfl ?_
                refine g_aload_n C (i := 0) dX6_addTank_70 rfl rfl ?_
                refine g_getI C 6 1 (RX6, TX6, 29) dX6_addTank_71 (hM.1 0 (by decide)) (reg_at (k := 0) (by decide)) ml_X6_76 rfl (by decide) (Or.inl rfl) ?_
                rw [show (tk2 (tk2 J 0 0 0) 1 nt c) 0 1 = nI nt from hc]
                refine g_iload_n C (i := 2) dX6_addTank_74 rfl rfl ?_
                refine g_is C dX6_addTank_75 (hM.1 10 (by decide)) (tk2_reg (k := 10) (by decide)) rfl (by omega) (by decide) ?_
                refine g_aload_n C (i := 0) dX6_addTank_76 rfl rfl ?_
                refine g_getR C 6 14 (RX6, TX6, 29) dX6_addTank_77 (hM.1 0 (by decide)) (hM.2 0 14 11 (by decide) rfl) ml_X6_41 rfl (by decide) rfl ?_
                refine g_aload_n C (i := 0) dX6_addTank_80 rfl rfl ?_
                refine g_getI C 6 1 (RX6, TX6, 29) dX6_addTank_81 (hM.1 0 (by decide)) (reg_at (k := 0) (by decide)) ml_X6_76 rfl (by decide) (Or.inl rfl) ?_
                rw [show (tk2 (tk2 (tk2 J 0 0 0) 1 nt c) 10 nt l) 0 1 = nI nt from hc]
                refine g_iload_n C (i := 3) dX6_addTank_84 rfl rfl ?_
                refine g_is C dX6_addTank_85 (hM.1 11 (by decide)) (tk2_reg (k := 11) (by decide)) rfl (by omega) (by decide) ?_
                refine g_aload_n C (i := 0) dX6_addTank_86 rfl rfl ?_
                refine g_getR C 6 15 (RX6, TX6, 29) dX6_addTank_87 (hM.1 0 (by decide)) (hM.2 0 15 12 (by decide) rfl) ml_X6_44 rfl (by decide) rfl ?_
                refine g_aload_n C (i := 0) dX6_addTank_90 rfl rfl ?_
                refine g_getI C 6 1 (RX6, TX6, 29) dX6_addTank_91 (hM.1 0 (by decide)) (reg_at (k := 0) (by decide)) ml_X6_76 rfl (by decide) (Or.inl rfl) ?_
                rw [show (tk2 (tk2 (tk2 (tk2 J 0 0 0) 1 nt c) 10 nt l) 11 nt k) 0 1 = nI nt from hc]
                refine g_lconst C 0 dX6_addTank_94 rfl ?_
                refine g_ls C dX6_addTank_95 (hM.1 12 (by decide)) (tk2_reg (k := 12) (by decide)) rfl (by omega) (by decide) ?_
                refine g_aload_n C (i := 0) dX6_addTank_96 rfl rfl ?_
                refine g_dup C dX6_addTank_97 rfl ?_
                refine g_getI C 6 1 (RX6, TX6, 29) dX6_addTank_98 (hM.1 0 (by decide)) (reg_at (k := 0) (by decide)) ml_X6_76 rfl (by decide) (Or.inl rfl) ?_
                rw [show (tk2 (tk2 (tk2 (tk2 J 0 0 0) 1 nt c) 10 nt l) 11 nt k) 0 1 = nI nt from hc]
                refine g_iconst C (1) dX6_addTank_101 rfl ?_
                refine g_iadd C dX6_addTank_102 ?_
                refine g_putI C 6 1 (RX6, TX6, 29) dX6_addTank_103 (hM.1 0 (by decide)) (tk2_reg (k := 0) (by decide)) ml_X6_76 rfl (by decide) rfl rfl ?_
                refine g_aload_n C (i := 0) dX6_addTank_106 rfl rfl ?_
                refine g_getI C 6 1 (RX6, TX6, 29) dX6_addTank_107 (hM.1 0 (by decide)) (reg_at (k := 0) (by decide)) ml_X6_76 rfl (by decide) (Or.inl rfl) ?_
                rw [tk2_at]
                refine g_iconst C (1) dX6_addTank_110 rfl ?_
                refine g_isub C dX6_addTank_111 ?_
                exact g_ireturn C dX6_addTank_112 ⟨Nat.le_of_ble_eq_true rfl, Nat.le_of_ble_eq_true rfl⟩ (tkEnd.rf (by rw [nI_1, nI_pred]) rfl rfl)
              · have h8 : nt = 8 := (nI_eq (b := 8) (by omega) (by omega)).mp h47
                rw [if_pos h8]
                refine g_aload_n C (i := 0) dX6_addTank_50 rfl rfl ?_
                refine g_iconst C (2) dX6_addTank_51 rfl ?_
                refine g_callV C (q := (RX6, TX6, 29)) (rest := _) dX6_addTank_52 mm_X6_fail ml_X6_87 mv_yX6_fail ms_yX6_fail (c_X6_fail (J := mT0 J) hM 2) rfl (hM.1 0 (by decide)) rfl rfl ⟨by decide, Nat.le_of_ble_eq_true rfl, Nat.le_of_ble_eq_true rfl, Nat.le_of_ble_eq_true rfl⟩ (tk_retv ?_) tk_nothr
                exact g_ireturn C dX6_addTank_55 ⟨Nat.le_of_ble_eq_true rfl, Nat.le_of_ble_eq_true rfl⟩ (tkEnd.rf rfl rfl rfl)
            · rw [if_pos (Or.inr (Or.inr (Or.inr (Int32.not_le.mp h32))))]
              refine g_aload_n C (i := 0) dX6_addTank_35 rfl rfl ?_
              refine g_iconst C (1) dX6_addTank_36 rfl ?_
              refine g_callV C (q := (RX6, TX6, 29)) (rest := _) dX6_addTank_37 mm_X6_fail ml_X6_87 mv_yX6_fail ms_yX6_fail (c_X6_fail (J := mT0 J) hM 1) rfl (hM.1 0 (by decide)) rfl rfl ⟨by decide, Nat.le_of_ble_eq_true rfl, Nat.le_of_ble_eq_true rfl, Nat.le_of_ble_eq_true rfl⟩ (tk_retv ?_) tk_nothr
              exact g_ireturn C dX6_addTank_40 ⟨Nat.le_of_ble_eq_true rfl, Nat.le_of_ble_eq_true rfl⟩ (tkEnd.rf rfl rfl rfl)
end TKMODEL

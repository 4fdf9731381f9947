section TKMODEL2
variable {σ : tkM} {r : Nat} {J v : tkI} {K w : tkL}
def mAddSwitch (nt ns : Nat) (i lo hi : Int32) (q : tkI × tkL) : Int32 × (tkI × tkL) :=
  if off i nt then mFail 1 q else if lo < 0 ∨ hi ≤ lo ∨ ¬ hi ≤ q.1 1 i.toNatClampNeg then mFail 2 q else if ns = 10 then mFail 3 q else
    (nI ns, (tk2 (tk2 (tk2 (tk2 (tk2 (mT0 q.1) 2 ns i) 3 ns lo) 4 ns hi) 13 ns 0) 0 3 (nI ns + 1), q.2))
theorem c_X6_addSwitch (hM : tkReg 21 mT mF σ r) {nt ns : Nat} (ht : J 0 1 = nI nt) (hnt : nt ≤ 8) (hc : J 0 3 = nI ns) (hn : ns ≤ 10) (i lo hi : Int32) :
    tkCon false (.code yX6_addSwitch cX6_addSwitch 4 (some .int)) yX6_addSwitch 2 [.ref r, .int i, .int lo, .int hi] σ (reg r 21 J v) (reg r 21 K w) 0 0 (.inl (some (.int (mAddSwitch nt ns i lo hi (J, K)).1))) σ (reg r 21 (mAddSwitch nt ns i lo hi (J, K)).2.1 v) (reg r 21 (mAddSwitch nt ns i lo hi (J, K)).2.2 w) := by
  refine tkCon.of (by decide) (Nat.le_of_ble_eq_true rfl) (fun X C => ?_)
  unfold mAddSwitch
  dsimp only
  refine g_aload_n C (i := 0) dX6_addSwitch_0 rfl rfl ?_
  refine g_iconst C (0) dX6_addSwitch_1 rfl ?_
  refine g_putI C 6 0 (RX6, TX6, 29) dX6_addSwitch_2 (hM.1 0 (by decide)) (tk2_reg (k := 0) (by decide)) ml_X6_72 rfl (by decide) rfl rfl ?_
  refine g_aload_n C (i := 0) dX6_addSwitch_5 rfl rfl ?_
  refine g_iload_n C (i := 1) dX6_addSwitch_6 rfl rfl ?_
  refine g_callV C (q := (RX6, TX6, 29)) (rest := _) dX6_addSwitch_7 mm_X6_isTank ml_X6_91 mv_yX6_isTank ms_yX6_isTank (c_X6_isTank (J := mT0 J) hM ht i) rfl (hM.1 0 (by decide)) rfl rfl ⟨by decide, Nat.le_of_ble_eq_true rfl, Nat.le_of_ble_eq_true rfl, Nat.le_of_ble_eq_true rfl⟩ (tk_retv ?_) tk_nothr
  refine g_if_ne C 19 dX6_addSwitch_10 (by decide) (fun h10 => ?_) (fun h10 => ?_)
  · have h := offB_nz h10
    rw [if_neg h]
    obtain ⟨j, hj, rfl⟩ := off_not (by omega) h
    rw [nI_clamp (by omega)]
    refine g_iload_n C (i := 2) dX6_addSwitch_19 rfl rfl ?_
    refine g_if_lt C 38 dX6_addSwitch_20 (by decide) (fun h20 => ?_) (fun h20 => ?_)
    · rw [if_pos (Or.inl h20)]
      refine g_aload_n C (i := 0) dX6_addSwitch_38 rfl rfl ?_
      refine g_iconst C (2) dX6_addSwitch_39 rfl ?_
      refine g_callV C (q := (RX6, TX6, 29)) (rest := _) dX6_addSwitch_40 mm_X6_fail ml_X6_87 mv_yX6_fail ms_yX6_fail (c_X6_fail (J := mT0 J) hM 2) rfl (hM.1 0 (by decide)) rfl rfl ⟨by decide, Nat.le_of_ble_eq_true rfl, Nat.le_of_ble_eq_true rfl, Nat.le_of_ble_eq_true rfl⟩ (tk_retv ?_) tk_nothr
      exact g_ireturn C dX6_addSwitch_43 ⟨Nat.le_of_ble_eq_true rfl, Nat.le_of_ble_eq_true rfl⟩ (tkEnd.rf rfl rfl rfl)
    · refine g_iload_n C (i := 2) dX6_addSwitch_23 rfl rfl ?_
      refine g_iload_n C (i := 3) dX6_addSwitch_24 rfl rfl ?_
      refine g_icmp_ge C 38 dX6_addSwitch_25 (by decide) (fun h25 => ?_) (fun h25 => ?_)
      · rw [if_pos (Or.inr (Or.inl h25))]
        refine g_aload_n C (i := 0) dX6_addSwitch_38 rfl rfl ?_
        refine g_iconst C (2) dX6_addSwitch_39 rfl ?_
        refine g_callV C (q := (RX6, TX6, 29)) (rest := _) dX6_addSwitch_40 mm_X6_fail ml_X6_87 mv_yX6_fail ms_yX6_fail (c_X6_fail (J := mT0 J) hM 2) rfl (hM.1 0 (by decide)) rfl rfl ⟨by decide, Nat.le_of_ble_eq_true rfl, Nat.le_of_ble_eq_true rfl, Nat.le_of_ble_eq_true rfl⟩ (tk_retv ?_) tk_nothr
        exact g_ireturn C dX6_addSwitch_43 ⟨Nat.le_of_ble_eq_true rfl, Nat.le_of_ble_eq_true rfl⟩ (tkEnd.rf rfl rfl rfl)
      · refine g_iload_n C (i := 3) dX6_addSwitch_28 rfl rfl ?_
        refine g_aload_n C (i := 0) dX6_addSwitch_29 rfl rfl ?_
        refine g_getR C 6 2 (RX6, TX6, 29) dX6_addSwitch_30 (hM.1 0 (by decide)) (hM.2 0 2 1 (by decide) rfl) ml_X6_9 rfl (by decide) rfl ?_
        refine g_iload_n C (i := 1) dX6_addSwitch_33 rfl rfl ?_
        refine g_ia C dX6_addSwitch_34 (hM.1 1 (by decide)) (reg_at (k := 1) (by decide)) rfl (by omega) (by decide) ?_
        refine g_icmp_le C 44 dX6_addSwitch_35 (by decide) (fun h35 => ?_) (fun h35 => ?_)
        · rw [if_neg (by rintro (z | z | z); exact h20 z; exact h25 z; exact z h35)]
          refine g_aload_n C (i := 0) dX6_addSwitch_44 rfl rfl ?_
          refine g_getI C 6 3 (RX6, TX6, 29) dX6_addSwitch_45 (hM.1 0 (by decide)) (reg_at (k := 0) (by decide)) ml_X6_79 rfl (by decide) (Or.inl rfl) ?_
          rw [show (mT0 J) 0 3 = nI ns from hc]
          refine g_bipush C (10) dX6_addSwitch_48 rfl ?_
          refine g_icmp_ne C 59 dX6_addSwitch_50 (by decide) (fun h50 => ?_) (fun h50 => ?_)
          · rw [if_neg (fun z => h50 (by rw [z]; rfl))]
            have hlt : ns < 10 := Nat.lt_of_le_of_ne hn (fun z => h50 (by rw [z]; rfl))
            refine g_aload_n C (i := 0) dX6_addSwitch_59 rfl rfl ?_
            refine g_getR C 6 4 (RX6, TX6, 29) dX6_addSwitch_60 (hM.1 0 (by decide)) (hM.2 0 4 2 (by decide) rfl) ml_X6_13 rfl (by decide) rfl ?_
            refine g_aload_n C (i := 0) dX6_addSwitch_63 rfl rfl ?_
            refine g_getI C 6 3 (RX6, TX6, 29) dX6_addSwitch_64 (hM.1 0 (by decide)) (reg_at (k := 0) (by decide)) ml_X6_79 rfl (by decide) (Or.inl rfl) ?_
            rw [show (mT0 J) 0 3 = nI ns from hc]
            refine g_iload_n C (i := 1) dX6_addSwitch_67 rfl rfl ?_
            refine g_is C dX6_addSwitch_68 (hM.1 2 (by decide)) (tk2_reg (k := 2) (by decide)) rfl (by omega) (by decide) ?_
            refine g_aload_n C (i := 0) dX6_addSwitch_69 rfl rfl ?_
            refine g_getR C 6 5 (RX6, TX6, 29) dX6_addSwitch_70 (hM.1 0 (by decide)) (hM.2 0 5 3 (by decide) rfl) ml_X6_16 rfl (by decide) rfl ?_
            refine g_aload_n C (i := 0) dX6_addSwitch_73 rfl rfl ?_
            refine g_getI C 6 3 (RX6, TX6, 29) dX6_addSwitch_74 (hM.1 0 (by decide)) (reg_at (k := 0) (by decide)) ml_X6_79 rfl (by decide) (Or.inl rfl) ?_
            rw [show (tk2 (mT0 J) 2 ns (nI j)) 0 3 = nI ns from hc]
            refine g_iload_n C (i := 2) dX6_addSwitch_77 rfl rfl ?_
            refine g_is C dX6_addSwitch_78 (hM.1 3 (by decide)) (tk2_reg (k := 3) (by decide)) rfl (by omega) (by decide) ?_
            refine g_aload_n C (i := 0) dX6_addSwitch_79 rfl rfl ?_
            refine g_getR C 6 6 (RX6, TX6, 29) dX6_addSwitch_80 (hM.1 0 (by decide)) (hM.2 0 6 4 (by decide) rfl) ml_X6_19 rfl (by decide) rfl ?_
            refine g_aload_n C (i := 0) dX6_addSwitch_83 rfl rfl ?_
            refine g_getI C 6 3 (RX6, TX6, 29) dX6_addSwitch_84 (hM.1 0 (by decide)) (reg_at (k := 0) (by decide)) ml_X6_79 rfl (by decide) (Or.inl rfl) ?_
            rw [show (tk2 (tk2 (mT0 J) 2 ns (nI j)) 3 ns lo) 0 3 = nI ns from hc]
            refine g_iload_n C (i := 3) dX6_addSwitch_87 rfl rfl ?_
            refine g_is C dX6_addSwitch_88 (hM.1 4 (by decide)) (tk2_reg (k := 4) (by decide)) rfl (by omega) (by decide) ?_
            refine g_aload_n C (i := 0) dX6_addSwitch_89 rfl rfl ?_
            refine g_getR C 6 16 (RX6, TX6, 29) dX6_addSwitch_90 (hM.1 0 (by decide)) (hM.2 0 16 13 (by decide) rfl) ml_X6_48 rfl (by decide) rfl ?_
            refine g_aload_n C (i := 0) dX6_addSwitch_93 rfl rfl ?_
            refine g_getI C 6 3 (RX6, TX6, 29) dX6_addSwitch_94 (hM.1 0 (by decide)) (reg_at (k := 0) (by decide)) ml_X6_79 rfl (by decide) (Or.inl rfl) ?_
            rw [show (tk2 (tk2 (tk2 (mT0 J) 2 ns (nI j)) 3 ns lo) 4 ns hi) 0 3 = nI ns from hc]
            refine g_iconst C (0) dX6_addSwitch_97 rfl ?_
            refine g_zs C dX6_addSwitch_98 (hM.1 13 (by decide)) (tk2_reg (k := 13) (by decide)) rfl (by omega) (by decide) (by first | assumption | exact Or.inl rfl | exact Or.inr rfl) ?_
            refine g_aload_n C (i := 0) dX6_addSwitch_99 rfl rfl ?_
            refine g_dup C dX6_addSwitch_100 rfl ?_
            refine g_getI C 6 3 (RX6, TX6, 29) dX6_addSwitch_101 (hM.1 0 (by decide)) (reg_at (k := 0) (by decide)) ml_X6_79 rfl (by decide) (Or.inl rfl) ?_
            rw [show (tk2 (tk2 (tk2 (tk2 (mT0 J) 2 ns (nI j)) 3 ns lo) 4 ns hi) 13 ns 0) 0 3 = nI ns from hc]
            refine g_iconst C (1) dX6_addSwitch_104 rfl ?_
            refine g_iadd C dX6_addSwitch_105 ?_
            refine g_putI C 6 3 (RX6, TX6, 29) dX6_addSwitch_106 (hM.1 0 (by decide)) (tk2_reg (k := 0) (by decide)) ml_X6_79 rfl (by decide) rfl rfl ?_
            refine g_aload_n C (i := 0) dX6_addSwitch_109 rfl rfl ?_
            refine g_getI C 6 3 (RX6, TX6, 29) dX6_addSwitch_110 (hM.1 0 (by decide)) (reg_at (k := 0) (by decide)) ml_X6_79 rfl (by decide) (Or.inl rfl) ?_
            rw [tk2_at]
            refine g_iconst C (1) dX6_addSwitch_113 rfl ?_
            refine g_isub C dX6_addSwitch_114 ?_
            exact g_ireturn C dX6_addSwitch_115 ⟨Nat.le_of_ble_eq_true rfl, Nat.le_of_ble_eq_true rfl⟩ (tkEnd.rf (by rw [nI_1, nI_pred]) rfl rfl)
          · rw [if_pos ((nI_eq (b := 10) (by omega) (by omega)).mp h50)]
            refine g_aload_n C (i := 0) dX6_addSwitch_53 rfl rfl ?_
            refine g_iconst C (3) dX6_addSwitch_54 rfl ?_
            refine g_callV C (q := (RX6, TX6, 29)) (rest := _) dX6_addSwitch_55 mm_X6_fail ml_X6_87 mv_yX6_fail ms_yX6_fail (c_X6_fail (J := mT0 J) hM 3) rfl (hM.1 0 (by decide)) rfl rfl ⟨by decide, Nat.le_of_ble_eq_true rfl, Nat.le_of_ble_eq_true rfl, Nat.le_of_ble_eq_true rfl⟩ (tk_retv ?_) tk_nothr
            exact g_ireturn C dX6_addSwitch_58 ⟨Nat.le_of_ble_eq_true rfl, Nat.le_of_ble_eq_true rfl⟩ (tkEnd.rf rfl rfl rfl)
        · rw [if_pos (Or.inr (Or.inr (show ¬ hi ≤ J 1 j from h35)))]
          refine g_aload_n C (i := 0) dX6_addSwitch_38 rfl rfl ?_
          refine g_iconst C (2) dX6_addSwitch_39 rfl ?_
          refine g_callV C (q := (RX6, TX6, 29)) (rest := _) dX6_addSwitch_40 mm_X6_fail ml_X6_87 mv_yX6_fail ms_yX6_fail (c_X6_fail (J := mT0 J) hM 2) rfl (hM.1 0 (by decide)) rfl rfl ⟨by decide, Nat.le_of_ble_eq_true rfl, Nat.le_of_ble_eq_true rfl, Nat.le_of_ble_eq_true rfl⟩ (tk_retv ?_) tk_nothr
          exact g_ireturn C dX6_addSwitch_43 ⟨Nat.le_of_ble_eq_true rfl, Nat.le_of_ble_eq_true rfl⟩ (tkEnd.rf rfl rfl rfl)
  · rw [if_pos (offB_z h10)]
    refine g_aload_n C (i := 0) dX6_addSwitch_13 rfl rfl ?_
    refine g_iconst C (1) dX6_addSwitch_14 rfl ?_
    refine g_callV C (q := (RX6, TX6, 29)) (rest := _) dX6_addSwitch_15 mm_X6_fail ml_X6_87 mv_yX6_fail ms_yX6_fail (c_X6_fail (J := mT0 J) hM 1) rfl (hM.1 0 (by decide)) rfl rfl ⟨by decide, Nat.le_of_ble_eq_true rfl, Nat.le_of_ble_eq_true rfl, Nat.le_of_ble_eq_true rfl⟩ (tk_retv ?_) tk_nothr
    exact g_ireturn C dX6_addSwitch_18 ⟨Nat.le_of_ble_eq_true rfl, Nat.le_of_ble_eq_true rfl⟩ (tkEnd.rf rfl rfl rfl)
def mAddPump (nt ns np : Nat) (i j rt l c b : Int32) (q : tkI × tkL) : Int32 × (tkI × tkL) :=
  if (¬ i = -1 ∧ off i nt) ∨ (¬ j = -1 ∧ off j nt) ∨ (¬ c = -1 ∧ off c ns) then mFail 1 q else if i = j ∨ bad rt 1 1000000 ∨ bad l 0 100 then mFail 2 q else if np = 16 then mFail 3 q else
    (nI np, (tk2 (tk2 (tk2 (tk2 (tk2 (tk2 (tk2 (mT0 q.1) 5 np i) 6 np j) 14 np rt) 7 np l) 8 np c) 9 np b) 0 7 (nI np + 1), tk2 (tk2 (tk2 q.2 15 np 0) 16 np 0) 17 np 0))
theorem c_X6_addPump (hM : tkReg 21 mT mF σ r) {nt ns np : Nat} (ht : J 0 1 = nI nt) (hnt : nt ≤ 8) (hs : J 0 3 = nI ns) (hns : ns ≤ 10) (hc : J 0 7 = nI np) (hn : np ≤ 16) (i j rt l c b : Int32) (hb : b = 0 ∨ b = 1) :
    tkCon false (.code yX6_addPump cX6_addPump 7 (some .int)) yX6_addPump 2 [.ref r, .int i, .int j, .int rt, .int l, .int c, .int b] σ (reg r 21 J v) (reg r 21 K w) 0 0 (.inl (some (.int (mAddPump nt ns np i j rt l c b (J, K)).1))) σ (reg r 21 (mAddPump nt ns np i j rt l c b (J, K)).2.1 v) (reg r 21 (mAddPump nt ns np i j rt l c b (J, K)).2.2 w) := by
  refine tkCon.of (by decide) (Nat.le_of_ble_eq_true rfl) (fun X C => ?_)
  obtain ⟨R, eR⟩ : ∃ R, mAddPump nt ns np i j rt l c b (J, K) = R := ⟨_, rfl⟩
  rw [eR]
  unfold mAddPump at eR
  dsimp only at eR
  have J46 : ((¬ i = -1 ∧ off i nt) ∨ (¬ j = -1 ∧ off j nt) ∨ (¬ c = -1 ∧ off c ns)) → tkG X (tkQ false X 0 0 (.inl (some (.int R.1))) σ (reg r 21 R.2.1 v) (reg r 21 R.2.2 w)) 0 0 46 [some (.ref r), some (.int i), some (.int j), some (.int rt), some (.int l), some (.int c), some (.int b)] [] σ (reg r 21 (tk2 J 0 0 0) v) (reg r 21 K w) := by
    intro h
    rw [if_pos h] at eR
    subst eR
    refine g_aload_n C (i := 0) dX6_addPump_46 rfl rfl ?_
    refine g_iconst C (1) dX6_addPump_47 rfl ?_
    refine g_callV C (q := (RX6, TX6, 29)) (rest := _) dX6_addPump_48 mm_X6_fail ml_X6_87 mv_yX6_fail ms_yX6_fail (c_X6_fail (J := mT0 J) hM 1) rfl (hM.1 0 (by decide)) rfl rfl ⟨by decide, Nat.le_of_ble_eq_true rfl, Nat.le_of_ble_eq_true rfl, Nat.le_of_ble_eq_true rfl⟩ (tk_retv ?_) tk_nothr
    exact g_ireturn C dX6_addPump_51 ⟨Nat.le_of_ble_eq_true rfl, Nat.le_of_ble_eq_true rfl⟩ (tkEnd.rf rfl rfl rfl)
  have J52 : ¬ ((¬ i = -1 ∧ off i nt) ∨ (¬ j = -1 ∧ off j nt) ∨ (¬ c = -1 ∧ off c ns)) → tkG X (tkQ false X 0 0 (.inl (some (.int R.1))) σ (reg r 21 R.2.1 v) (reg r 21 R.2.2 w)) 0 0 52 [some (.ref r), some (.int i), some (.int j), some (.int rt), some (.int l), some (.int c), some (.int b)] [] σ (reg r 21 (tk2 J 0 0 0) v) (reg r 21 K w) := by
    intro h
    rw [if_neg h] at eR
    refine g_iload_n C (i := 1) dX6_addPump_52 rfl rfl ?_
    refine g_iload_n C (i := 2) dX6_addPump_53 rfl rfl ?_
    refine g_icmp_eq C 80 dX6_addPump_54 (by decide) (fun h54 => ?_) (fun h54 => ?_)
    · rw [if_pos (Or.inl h54)] at eR
      subst eR
      refine g_aload_n C (i := 0) dX6_addPump_80 rfl rfl ?_
      refine g_iconst C (2) dX6_addPump_81 rfl ?_
      refine g_callV C (q := (RX6, TX6, 29)) (rest := _) dX6_addPump_82 mm_X6_fail ml_X6_87 mv_yX6_fail ms_yX6_fail (c_X6_fail (J := mT0 J) hM 2) rfl (hM.1 0 (by decide)) rfl rfl ⟨by decide, Nat.le_of_ble_eq_true rfl, Nat.le_of_ble_eq_true rfl, Nat.le_of_ble_eq_true rfl⟩ (tk_retv ?_) tk_nothr
      exact g_ireturn C dX6_addPump_85 ⟨Nat.le_of_ble_eq_true rfl, Nat.le_of_ble_eq_true rfl⟩ (tkEnd.rf rfl rfl rfl)
    · refine g_iload_n C (i := 3) dX6_addPump_57 rfl rfl ?_
      refine g_iconst C (1) dX6_addPump_58 rfl ?_
      refine g_icmp_lt C 80 dX6_addPump_59 (by decide) (fun h59 => ?_) (fun h59 => ?_)
      · rw [if_pos (Or.inr (Or.inl (Or.inl h59)))] at eR
        subst eR
        refine g_aload_n C (i := 0) dX6_addPump_80 rfl rfl ?_
        refine g_iconst C (2) dX6_addPump_81 rfl ?_
        refine g_callV C (q := (RX6, TX6, 29)) (rest := _) dX6_addPump_82 mm_X6_fail ml_X6_87 mv_yX6_fail ms_yX6_fail (c_X6_fail (J := mT0 J) hM 2) rfl (hM.1 0 (by decide)) rfl rfl ⟨by decide, Nat.le_of_ble_eq_true rfl, Nat.le_of_ble_eq_true rfl, Nat.le_of_ble_eq_true rfl⟩ (tk_retv ?_) tk_nothr
        exact g_ireturn C dX6_addPump_85 ⟨Nat.le_of_ble_eq_true rfl, Nat.le_of_ble_eq_true rfl⟩ (tkEnd.rf rfl rfl rfl)
      · refine g_iload_n C (i := 3) dX6_addPump_62 rfl rfl ?_
        refine g_ldc C (1000000) dX6_addPump_63 ml_X6_86 ?_
        refine g_icmp_gt C 80 dX6_addPump_65 (by decide) (fun h65 => ?_) (fun h65 => ?_)
        · rw [if_pos (Or.inr (Or.inl (Or.inr h65)))] at eR
          subst eR
          refine g_aload_n C (i := 0) dX6_addPump_80 rfl rfl ?_
          refine g_iconst C (2) dX6_addPump_81 rfl ?_
          refine g_callV C (q := (RX6, TX6, 29)) (rest := _) dX6_addPump_82 mm_X6_fail ml_X6_87 mv_yX6_fail ms_yX6_fail (c_X6_fail (J := mT0 J) hM 2) rfl (hM.1 0 (by decide)) rfl rfl ⟨by decide, Nat.le_of_ble_eq_true rfl, Nat.le_of_ble_eq_true rfl, Nat.le_of_ble_eq_true rfl⟩ (tk_retv ?_) tk_nothr
          exact g_ireturn C dX6_addPump_85 ⟨Nat.le_of_ble_eq_true rfl, Nat.le_of_ble_eq_true rfl⟩ (tkEnd.rf rfl rfl rfl)
        · refine g_iload C (i := 4) dX6_addPump_68 rfl ?_
          refine g_if_lt C 80 dX6_addPump_70 (by decide) (fun h70 => ?_) (fun h70 => ?_)
          · rw [if_pos (Or.inr (Or.inr (Or.inl h70)))] at eR
            subst eR
            refine g_aload_n C (i := 0) dX6_addPump_80 rfl rfl ?_
            refine g_iconst C (2) dX6_addPump_81 rfl ?_
            refine g_callV C (q := (RX6, TX6, 29)) (rest := _) dX6_addPump_82 mm_X6_fail ml_X6_87 mv_yX6_fail ms_yX6_fail (c_X6_fail (J := mT0 J) hM 2) rfl (hM.1 0 (by decide)) rfl rfl ⟨by decide, Nat.le_of_ble_eq_true rfl, Nat.le_of_ble_eq_true rfl, Nat.le_of_ble_eq_true rfl⟩ (tk_retv ?_) tk_nothr
            exact g_ireturn C dX6_addPump_85 ⟨Nat.le_of_ble_eq_true rfl, Nat.le_of_ble_eq_true rfl⟩ (tkEnd.rf rfl rfl rfl)
          · refine g_iload C (i := 4) dX6_addPump_73 rfl ?_
            refine g_bipush C (100) dX6_addPump_75 rfl ?_
            refine g_icmp_le C 86 dX6_addPump_77 (by decide) (fun h77 => ?_) (fun h77 => ?_)
            · rw [if_neg (by rintro (z | (z | z) | (z | z)); exact h54 z; exact h59 z; exact h65 z; exact h70 z; exact Int32.not_le.mpr z h77)] at eR
              refine g_aload_n C (i := 0) dX6_addPump_86 rfl rfl ?_
              refine g_getI C 6 7 (RX6, TX6, 29) dX6_addPump_87 (hM.1 0 (by decide)) (reg_at (k := 0) (by decide)) ml_X6_82 rfl (by decide) (Or.inl rfl) ?_
              rw [show (tk2 J 0 0 0) 0 7 = nI np from hc]
              refine g_bipush C (16) dX6_addPump_90 rfl ?_
              refine g_icmp_ne C 101 dX6_addPump_92 (by decide) (fun h92 => ?_) (fun h92 => ?_)
              · rw [if_neg (fun z => h92 (by rw [z]; rfl))] at eR
                subst eR
                have hlt : np < 16 := Nat.lt_of_le_of_ne hn (fun z => h92 (by rw [z]; rfl))
                refine g_aload_n C (i := 0) dX6_addPump_101 rfl rfl ?_
                refine g_getR C 6 8 (RX6, TX6, 29) dX6_addPump_102 (hM.1 0 (by decide)) (hM.2 0 8 5 (by decide) rfl) ml_X6_22 rfl (by decide) rfl ?_
                refine g_aload_n C (i := 0) dX6_addPump_105 rfl rfl ?_
                refine g_getI C 6 7 (RX6, TX6, 29) dX6_addPump_106 (hM.1 0 (by decide)) (reg_at (k := 0) (by decide)) ml_X6_82 rfl (by decide) (Or.inl rfl) ?_
                rw [show (tk2 J 0 0 0) 0 7 = nI np from hc]
                refine g_iload_n C (i := 1) dX6_addPump_109 rfl rfl ?_
                refine g_is C dX6_addPump_110 (hM.1 5 (by decide)) (tk2_reg (k := 5) (by decide)) rfl (by omega) (by decide) ?_
                refine g_aload_n C (i := 0) dX6_addPump_111 rfl rfl ?_
                refine g_getR C 6 9 (RX6, TX6, 29) dX6_addPump_112 (hM.1 0 (by decide)) (hM.2 0 9 6 (by decide) rfl) ml_X6_25 rfl (by decide) rfl ?_
                refine g_aload_n C (i := 0) dX6_addPump_115 rfl rfl ?_
                refine g_getI C 6 7 (RX6, TX6, 29) dX6_addPump_116 (hM.1 0 (by decide)) (reg_at (k := 0) (by decide)) ml_X6_82 rfl (by decide) (Or.inl rfl) ?_
                rw [show (tk2 (tk2 J 0 0 0) 5 np i) 0 7 = nI np from hc]
                refine g_iload_n C (i := 2) dX6_addPump_119 rfl rfl ?_
                refine g_is C dX6_addPump_120 (hM.1 6 (by decide)) (tk2_reg (k := 6) (by decide)) rfl (by omega) (by decide) ?_
                refine g_aload_n C (i := 0) dX6_addPump_121 rfl rfl ?_
                refine g_getR C 6 17 (RX6, TX6, 29) dX6_addPump_122 (hM.1 0 (by decide)) (hM.2 0 17 14 (by decide) rfl) ml_X6_51 rfl (by decide) rfl ?_
                refine g_aload_n C (i := 0) dX6_addPump_125 rfl rfl ?_
                refine g_getI C 6 7 (RX6, TX6, 29) dX6_addPump_126 (hM.1 0 (by decide)) (reg_at (k := 0) (by decide)) ml_X6_82 rfl (by decide) (Or.inl rfl) ?_
                rw [show (tk2 (tk2 (tk2 J 0 0 0) 5 np i) 6 np j) 0 7 = nI np from hc]
                refine g_iload_n C (i := 3) dX6_addPump_129 rfl rfl ?_
                refine g_is C dX6_addPump_130 (hM.1 14 (by decide)) (tk2_reg (k := 14) (by decide)) rfl (by omega) (by decide) ?_
                refine g_aload_n C (i := 0) dX6_addPump_131 rfl rfl ?_
                refine g_getR C 6 10 (RX6, TX6, 29) dX6_addPump_132 (hM.1 0 (by decide)) (hM.2 0 10 7 (by decide) rfl) ml_X6_28 rfl (by decide) rfl ?_
                refine g_aload_n C (i := 0) dX6_addPump_135 rfl rfl ?_
                refine g_getI C 6 7 (RX6, TX6, 29) dX6_addPump_136 (hM.1 0 (by decide)) (reg_at (k := 0) (by decide)) ml_X6_82 rfl (by decide) (Or.inl rfl) ?_
                rw [show (tk2 (tk2 (tk2 (tk2 J 0 0 0) 5 np i) 6 np j) 14 np rt) 0 7 = nI np from hc]
                refine g_iload C (i := 4) dX6_addPump_139 rfl ?_
                refine g_is C dX6_addPump_141 (hM.1 7 (by decide)) (tk2_reg (k := 7) (by decide)) rfl (by omega) (by decide) ?_
                refine g_aload_n C (i := 0) dX6_addPump_142 rfl rfl ?_
                refine g_getR C 6 11 (RX6, TX6, 29) dX6_addPump_143 (hM.1 0 (by decide)) (hM.2 0 11 8 (by decide) rfl) ml_X6_31 rfl (by decide) rfl ?_
                refine g_aload_n C (i := 0) dX6_addPump_146 rfl rfl ?_
                refine g_getI C 6 7 (RX6, TX6, 29) dX6_addPump_147 (hM.1 0 (by decide)) (reg_at (k := 0) (by decide)) ml_X6_82 rfl (by decide) (Or.inl rfl) ?_
                rw [show (tk2 (tk2 (tk2 (tk2 (tk2 J 0 0 0) 5 np i) 6 np j) 14 np rt) 7 np l) 0 7 = nI np from hc]
                refine g_iload C (i := 5) dX6_addPump_150 rfl ?_
                refine g_is C dX6_addPump_152 (hM.1 8 (by decide)) (tk2_reg (k := 8) (by decide)) rfl (by omega) (by decide) ?_
                refine g_aload_n C (i := 0) dX6_addPump_153 rfl rfl ?_
                refine g_getR C 6 12 (RX6, TX6, 29) dX6_addPump_154 (hM.1 0 (by decide)) (hM.2 0 12 9 (by decide) rfl) ml_X6_34 rfl (by decide) rfl ?_
                refine g_aload_n C (i := 0) dX6_addPump_157 rfl rfl ?_
                refine g_getI C 6 7 (RX6, TX6, 29) dX6_addPump_158 (hM.1 0 (by decide)) (reg_at (k := 0) (by decide)) ml_X6_82 rfl (by decide) (Or.inl rfl) ?_
                rw [show (tk2 (tk2 (tk2 (tk2 (tk2 (tk2 J 0 0 0) 5 np i) 6 np j) 14 np rt) 7 np l) 8 np c) 0 7 = nI np from hc]
                refine g_iload C (i := 6) dX6_addPump_161 rfl ?_
                refine g_zs C dX6_addPump_163 (hM.1 9 (by decide)) (tk2_reg (k := 9) (by decide)) rfl (by omega) (by decide) (by first | assumption | exact Or.inl rfl | exact Or.inr rfl) ?_
                refine g_aload_n C (i := 0) dX6_addPump_164 rfl rfl ?_
                refine g_getR C 6 18 (RX6, TX6, 29) dX6_addPump_165 (hM.1 0 (by decide)) (hM.2 0 18 15 (by decide) rfl) ml_X6_54 rfl (by decide) rfl ?_
                refine g_aload_n C (i := 0) dX6_addPump_168 rfl rfl ?_
                refine g_getI C 6 7 (RX6, TX6, 29) dX6_addPump_169 (hM.1 0 (by decide)) (reg_at (k := 0) (by decide)) ml_X6_82 rfl (by decide) (Or.inl rfl) ?_
                rw [show (tk2 (tk2 (tk2 (tk2 (tk2 (tk2 (tk2 J 0 0 0) 5 np i) 6 np j) 14 np rt) 7 np l) 8 np c) 9 np b) 0 7 = nI np from hc]
                refine g_lconst C 0 dX6_addPump_172 rfl ?_
                refine g_ls C dX6_addPump_173 (hM.1 15 (by decide)) (tk2_reg (k := 15) (by decide)) rfl (by omega) (by decide) ?_
                refine g_aload_n C (i := 0) dX6_addPump_174 rfl rfl ?_
                refine g_getR C 6 19 (RX6, TX6, 29) dX6_addPump_175 (hM.1 0 (by decide)) (hM.2 0 19 16 (by decide) rfl) ml_X6_57 rfl (by decide) rfl ?_
                refine g_aload_n C (i := 0) dX6_addPump_178 rfl rfl ?_
                refine g_getI C 6 7 (RX6, TX6, 29) dX6_addPump_179 (hM.1 0 (by decide)) (reg_at (k := 0) (by decide)) ml_X6_82 rfl (by decide) (Or.inl rfl) ?_
                rw [show (tk2 (tk2 (tk2 (tk2 (tk2 (tk2 (tk2 J 0 0 0) 5 np i) 6 np j) 14 np rt) 7 np l) 8 np c) 9 np b) 0 7 = nI np from hc]
                refine g_lconst C 0 dX6_addPump_182 rfl ?_
                refine g_ls C dX6_addPump_183 (hM.1 16 (by decide)) (tk2_reg (k := 16) (by decide)) rfl (by omega) (by decide) ?_
                refine g_aload_n C (i := 0) dX6_addPump_184 rfl rfl ?_
                refine g_getR C 6 20 (RX6, TX6, 29) dX6_addPump_185 (hM.1 0 (by decide)) (hM.2 0 20 17 (by decide) rfl) ml_X6_60 rfl (by decide) rfl ?_
                refine g_aload_n C (i := 0) dX6_addPump_188 rfl rfl ?_
                refine g_getI C 6 7 (RX6, TX6, 29) dX6_addPump_189 (hM.1 0 (by decide)) (reg_at (k := 0) (by decide)) ml_X6_82 rfl (by decide) (Or.inl rfl) ?_
                rw [show (tk2 (tk2 (tk2 (tk2 (tk2 (tk2 (tk2 J 0 0 0) 5 np i) 6 np j) 14 np rt) 7 np l) 8 np c) 9 np b) 0 7 = nI np from hc]
                refine g_lconst C 0 dX6_addPump_192 rfl ?_
                refine g_ls C dX6_addPump_193 (hM.1 17 (by decide)) (tk2_reg (k := 17) (by decide)) rfl (by omega) (by decide) ?_
                refine g_aload_n C (i := 0) dX6_addPump_194 rfl rfl ?_
                refine g_dup C dX6_addPump_195 rfl ?_
                refine g_getI C 6 7 (RX6, TX6, 29) dX6_addPump_196 (hM.1 0 (by decide)) (reg_at (k := 0) (by decide)) ml_X6_82 rfl (by decide) (Or.inl rfl) ?_
                rw [show (tk2 (tk2 (tk2 (tk2 (tk2 (tk2 (tk2 J 0 0 0) 5 np i) 6 np j) 14 np rt) 7 np l) 8 np c) 9 np b) 0 7 = nI np from hc]
                refine g_iconst C (1) dX6_addPump_199 rfl ?_
                refine g_iadd C dX6_addPump_200 ?_
                refine g_putI C 6 7 (RX6, TX6, 29) dX6_addPump_201 (hM.1 0 (by decide)) (tk2_reg (k := 0) (by decide)) ml_X6_82 rfl (by decide) rfl rfl ?_
                refine g_aload_n C (i := 0) dX6_addPump_204 rfl rfl ?_
                refine g_getI C 6 7 (RX6, TX6, 29) dX6_addPump_205 (hM.1 0 (by decide)) (reg_at (k := 0) (by decide)) ml_X6_82 rfl (by decide) (Or.inl rfl) ?_
                rw [tk2_at]
                refine g_iconst C (1) dX6_addPump_208 rfl ?_
                refine g_isub C dX6_addPump_209 ?_
                exact g_ireturn C dX6_addPump_210 ⟨Nat.le_of_ble_eq_true rfl, Nat.le_of_ble_eq_true rfl⟩ (tkEnd.rf (by rw [nI_1, nI_pred]) rfl rfl)
              · rw [if_pos ((nI_eq (b := 16) (by omega) (by omega)).mp h92)] at eR
                subst eR
                refine g_aload_n C (i := 0) dX6_addPump_95 rfl rfl ?_
                refine g_iconst C (3) dX6_addPump_96 rfl ?_
                refine g_callV C (q := (RX6, TX6, 29)) (rest := _) dX6_addPump_97 mm_X6_fail ml_X6_87 mv_yX6_fail ms_yX6_fail (c_X6_fail (J := mT0 J) hM 3) rfl (hM.1 0 (by decide)) rfl rfl ⟨by decide, Nat.le_of_ble_eq_true rfl, Nat.le_of_ble_eq_true rfl, Nat.le_of_ble_eq_true rfl⟩ (tk_retv ?_) tk_nothr
                exact g_ireturn C dX6_addPump_100 ⟨Nat.le_of_ble_eq_true rfl, Nat.le_of_ble_eq_true rfl⟩ (tkEnd.rf rfl rfl rfl)
            · rw [if_pos (Or.inr (Or.inr (Or.inr (Int32.not_le.mp h77))))] at eR
              subst eR
              refine g_aload_n C (i := 0) dX6_addPump_80 rfl rfl ?_
              refine g_iconst C (2) dX6_addPump_81 rfl ?_
              refine g_callV C (q := (RX6, TX6, 29)) (rest := _) dX6_addPump_82 mm_X6_fail ml_X6_87 mv_yX6_fail ms_yX6_fail (c_X6_fail (J := mT0 J) hM 2) rfl (hM.1 0 (by decide)) rfl rfl ⟨by decide, Nat.le_of_ble_eq_true rfl, Nat.le_of_ble_eq_true rfl, Nat.le_of_ble_eq_true rfl⟩ (tk_retv ?_) tk_nothr
              exact g_ireturn C dX6_addPump_85 ⟨Nat.le_of_ble_eq_true rfl, Nat.le_of_ble_eq_true rfl⟩ (tkEnd.rf rfl rfl rfl)
  have J31 : ¬ (¬ i = -1 ∧ off i nt) → ¬ (¬ j = -1 ∧ off j nt) → tkG X (tkQ false X 0 0 (.inl (some (.int R.1))) σ (reg r 21 R.2.1 v) (reg r 21 R.2.2 w)) 0 0 31 [some (.ref r), some (.int i), some (.int j), some (.int rt), some (.int l), some (.int c), some (.int b)] [] σ (reg r 21 (tk2 J 0 0 0) v) (reg r 21 K w) := by
    intro h1 h2
    refine g_iload C (i := 5) dX6_addPump_31 rfl ?_
    refine g_iconst C (-1) dX6_addPump_33 rfl ?_
    refine g_icmp_eq C 52 dX6_addPump_34 (by decide) (fun h34 => ?_) (fun h34 => ?_)
    · skip
      exact J52 (by rintro (z | z | z); exact h1 z; exact h2 z; exact z.1 h34)
    · refine g_aload_n C (i := 0) dX6_addPump_37 rfl rfl ?_
      refine g_iload C (i := 5) dX6_addPump_38 rfl ?_
      refine g_callV C (q := (RX6, TX6, 29)) (rest := _) dX6_addPump_40 mm_X6_isSwitch ml_X6_95 mv_yX6_isSwitch ms_yX6_isSwitch (c_X6_isSwitch (J := mT0 J) hM hs c) rfl (hM.1 0 (by decide)) rfl rfl ⟨by decide, Nat.le_of_ble_eq_true rfl, Nat.le_of_ble_eq_true rfl, Nat.le_of_ble_eq_true rfl⟩ (tk_retv ?_) tk_nothr
      refine g_if_ne C 52 dX6_addPump_43 (by decide) (fun h43 => ?_) (fun h43 => ?_)
      · skip
        exact J52 (by rintro (z | z | z); exact h1 z; exact h2 z; exact offB_nz h43 z.2)
      · skip
        exact J46 (Or.inr (Or.inr ⟨h34, offB_z h43⟩))
  have J18 : ¬ (¬ i = -1 ∧ off i nt) → tkG X (tkQ false X 0 0 (.inl (some (.int R.1))) σ (reg r 21 R.2.1 v) (reg r 21 R.2.2 w)) 0 0 18 [some (.ref r), some (.int i), some (.int j), some (.int rt), some (.int l), some (.int c), some (.int b)] [] σ (reg r 21 (tk2 J 0 0 0) v) (reg r 21 K w) := by
    intro h1
    refine g_iload_n C (i := 2) dX6_addPump_18 rfl rfl ?_
    refine g_iconst C (-1) dX6_addPump_19 rfl ?_
    refine g_icmp_eq C 31 dX6_addPump_20 (by decide) (fun h20 => ?_) (fun h20 => ?_)
    · skip
      exact J31 h1 (fun z => z.1 h20)
    · refine g_aload_n C (i := 0) dX6_addPump_23 rfl rfl ?_
      refine g_iload_n C (i := 2) dX6_addPump_24 rfl rfl ?_
      refine g_callV C (q := (RX6, TX6, 29)) (rest := _) dX6_addPump_25 mm_X6_isTank ml_X6_91 mv_yX6_isTank ms_yX6_isTank (c_X6_isTank (J := mT0 J) hM ht j) rfl (hM.1 0 (by decide)) rfl rfl ⟨by decide, Nat.le_of_ble_eq_true rfl, Nat.le_of_ble_eq_true rfl, Nat.le_of_ble_eq_true rfl⟩ (tk_retv ?_) tk_nothr
      refine g_if_eq C 46 dX6_addPump_28 (by decide) (fun h28 => ?_) (fun h28 => ?_)
      · skip
        exact J46 (Or.inr (Or.inl ⟨h20, offB_z h28⟩))
      · skip
        exact J31 h1 (fun z => offB_nz h28 z.2)
  refine g_aload_n C (i := 0) dX6_addPump_0 rfl rfl ?_
  refine g_iconst C (0) dX6_addPump_1 rfl ?_
  refine g_putI C 6 0 (RX6, TX6, 29) dX6_addPump_2 (hM.1 0 (by decide)) (tk2_reg (k := 0) (by decide)) ml_X6_72 rfl (by decide) rfl rfl ?_
  refine g_iload_n C (i := 1) dX6_addPump_5 rfl rfl ?_
  refine g_iconst C (-1) dX6_addPump_6 rfl ?_
  refine g_icmp_eq C 18 dX6_addPump_7 (by decide) (fun h7 => ?_) (fun h7 => ?_)
  · skip
    exact J18 (fun z => z.1 h7)
  · refine g_aload_n C (i := 0) dX6_addPump_10 rfl rfl ?_
    refine g_iload_n C (i := 1) dX6_addPump_11 rfl rfl ?_
    refine g_callV C (q := (RX6, TX6, 29)) (rest := _) dX6_addPump_12 mm_X6_isTank ml_X6_91 mv_yX6_isTank ms_yX6_isTank (c_X6_isTank (J := mT0 J) hM ht i) rfl (hM.1 0 (by decide)) rfl rfl ⟨by decide, Nat.le_of_ble_eq_true rfl, Nat.le_of_ble_eq_true rfl, Nat.le_of_ble_eq_true rfl⟩ (tk_retv ?_) tk_nothr
    refine g_if_eq C 46 dX6_addPump_15 (by decide) (fun h15 => ?_) (fun h15 => ?_)
    · skip
      exact J46 (Or.inl ⟨h7, offB_z h15⟩)
    · skip
      exact J18 (fun z => offB_nz h15 z.2)
def mSetLevel (nt : Nat) (i y : Int32) (q : tkI × tkL) : Int32 × (tkI × tkL) :=
  if off i nt then mFail 1 q else if bad y 0 (q.1 1 i.toNatClampNeg) then mFail 2 q else (q.1 10 i.toNatClampNeg, (tk2 (mT0 q.1) 10 i.toNatClampNeg y, q.2))
theorem c_X6_setLevel (hM : tkReg 21 mT mF σ r) {nt : Nat} (hc : J 0 1 = nI nt) (hn : nt ≤ 8) (i y : Int32) :
    tkCon false (.code yX6_setLevel cX6_setLevel 4 (some .int)) yX6_setLevel 2 [.ref r, .int i, .int y] σ (reg r 21 J v) (reg r 21 K w) 0 0 (.inl (some (.int (mSetLevel nt i y (J, K)).1))) σ (reg r 21 (mSetLevel nt i y (J, K)).2.1 v) (reg r 21 (mSetLevel nt i y (J, K)).2.2 w) := by
  refine tkCon.of (by decide) (Nat.le_of_ble_eq_true rfl) (fun X C => ?_)
  unfold mSetLevel
  dsimp only
  refine g_aload_n C (i := 0) dX6_setLevel_0 rfl rfl ?_
  refine g_iconst C (0) dX6_setLevel_1 rfl ?_
  refine g_putI C 6 0 (RX6, TX6, 29) dX6_setLevel_2 (hM.1 0 (by decide)) (tk2_reg (k := 0) (by decide)) ml_X6_72 rfl (by decide) rfl rfl ?_
  refine g_aload_n C (i := 0) dX6_setLevel_5 rfl rfl ?_
  refine g_iload_n C (i := 1) dX6_setLevel_6 rfl rfl ?_
  refine g_callV C (q := (RX6, TX6, 29)) (rest := _) dX6_setLevel_7 mm_X6_isTank ml_X6_91 mv_yX6_isTank ms_yX6_isTank (c_X6_isTank (J := mT0 J) hM hc i) rfl (hM.1 0 (by decide)) rfl rfl ⟨by decide, Nat.le_of_ble_eq_true rfl, Nat.le_of_ble_eq_true rfl, Nat.le_of_ble_eq_true rfl⟩ (tk_retv ?_) tk_nothr
  refine g_if_ne C 19 dX6_setLevel_10 (by decide) (fun h10 => ?_) (fun h10 => ?_)
  · have h := offB_nz h10
    rw [if_neg h]
    obtain ⟨j, hj, rfl⟩ := off_not (by omega) h
    rw [nI_clamp (by omega)]
    refine g_iload_n C (i := 2) dX6_setLevel_19 rfl rfl ?_
    refine g_if_lt C 33 dX6_setLevel_20 (by decide) (fun h20 => ?_) (fun h20 => ?_)
    · rw [if_pos (Or.inl h20)]
      refine g_aload_n C (i := 0) dX6_setLevel_33 rfl rfl ?_
      refine g_iconst C (2) dX6_setLevel_34 rfl ?_
      refine g_callV C (q := (RX6, TX6, 29)) (rest := _) dX6_setLevel_35 mm_X6_fail ml_X6_87 mv_yX6_fail ms_yX6_fail (c_X6_fail (J := mT0 J) hM 2) rfl (hM.1 0 (by decide)) rfl rfl ⟨by decide, Nat.le_of_ble_eq_true rfl, Nat.le_of_ble_eq_true rfl, Nat.le_of_ble_eq_true rfl⟩ (tk_retv ?_) tk_nothr
      exact g_ireturn C dX6_setLevel_38 ⟨Nat.le_of_ble_eq_true rfl, Nat.le_of_ble_eq_true rfl⟩ (tkEnd.rf rfl rfl rfl)
    · refine g_iload_n C (i := 2) dX6_setLevel_23 rfl rfl ?_
      refine g_aload_n C (i := 0) dX6_setLevel_24 rfl rfl ?_
      refine g_getR C 6 2 (RX6, TX6, 29) dX6_setLevel_25 (hM.1 0 (by decide)) (hM.2 0 2 1 (by decide) rfl) ml_X6_9 rfl (by decide) rfl ?_
      refine g_iload_n C (i := 1) dX6_setLevel_28 rfl rfl ?_
      refine g_ia C dX6_setLevel_29 (hM.1 1 (by decide)) (reg_at (k := 1) (by decide)) rfl (by omega) (by decide) ?_
      refine g_icmp_le C 39 dX6_setLevel_30 (by decide) (fun h30 => ?_) (fun h30 => ?_)
      · rw [if_neg (by rintro (z | z); exact h20 z; exact Int32.not_le.mpr z h30)]
        refine g_aload_n C (i := 0) dX6_setLevel_39 rfl rfl ?_
        refine g_getR C 6 13 (RX6, TX6, 29) dX6_setLevel_40 (hM.1 0 (by decide)) (hM.2 0 13 10 (by decide) rfl) ml_X6_38 rfl (by decide) rfl ?_
        refine g_iload_n C (i := 1) dX6_setLevel_43 rfl rfl ?_
        refine g_ia C dX6_setLevel_44 (hM.1 10 (by decide)) (reg_at (k := 10) (by decide)) rfl (by omega) (by decide) ?_
        refine g_istore_n C (i := 3) dX6_setLevel_45 rfl (by decide) ?_
        refine g_aload_n C (i := 0) dX6_setLevel_46 rfl rfl ?_
        refine g_getR C 6 13 (RX6, TX6, 29) dX6_setLevel_47 (hM.1 0 (by decide)) (hM.2 0 13 10 (by decide) rfl) ml_X6_38 rfl (by decide) rfl ?_
        refine g_iload_n C (i := 1) dX6_setLevel_50 rfl rfl ?_
        refine g_iload_n C (i := 2) dX6_setLevel_51 rfl rfl ?_
        refine g_is C dX6_setLevel_52 (hM.1 10 (by decide)) (tk2_reg (k := 10) (by decide)) rfl (by omega) (by decide) ?_
        refine g_iload_n C (i := 3) dX6_setLevel_53 rfl rfl ?_
        exact g_ireturn C dX6_setLevel_54 ⟨Nat.le_of_ble_eq_true rfl, Nat.le_of_ble_eq_true rfl⟩ (tkEnd.rf rfl rfl rfl)
      · rw [if_pos (Or.inr (Int32.not_le.mp (show ¬ y ≤ J 1 j from h30)))]
        refine g_aload_n C (i := 0) dX6_setLevel_33 rfl rfl ?_
        refine g_iconst C (2) dX6_setLevel_34 rfl ?_
        refine g_callV C (q := (RX6, TX6, 29)) (rest := _) dX6_setLevel_35 mm_X6_fail ml_X6_87 mv_yX6_fail ms_yX6_fail (c_X6_fail (J := mT0 J) hM 2) rfl (hM.1 0 (by decide)) rfl rfl ⟨by decide, Nat.le_of_ble_eq_true rfl, Nat.le_of_ble_eq_true rfl, Nat.le_of_ble_eq_true rfl⟩ (tk_retv ?_) tk_nothr
        exact g_ireturn C dX6_setLevel_38 ⟨Nat.le_of_ble_eq_true rfl, Nat.le_of_ble_eq_true rfl⟩ (tkEnd.rf rfl rfl rfl)
  · rw [if_pos (offB_z h10)]
    refine g_aload_n C (i := 0) dX6_setLevel_13 rfl rfl ?_
    refine g_iconst C (1) dX6_setLevel_14 rfl ?_
    refine g_callV C (q := (RX6, TX6, 29)) (rest := _) dX6_setLevel_15 mm_X6_fail ml_X6_87 mv_yX6_fail ms_yX6_fail (c_X6_fail (J := mT0 J) hM 1) rfl (hM.1 0 (by decide)) rfl rfl ⟨by decide, Nat.le_of_ble_eq_true rfl, Nat.le_of_ble_eq_true rfl, Nat.le_of_ble_eq_true rfl⟩ (tk_retv ?_) tk_nothr
    exact g_ireturn C dX6_setLevel_18 ⟨Nat.le_of_ble_eq_true rfl, Nat.le_of_ble_eq_true rfl⟩ (tkEnd.rf rfl rfl rfl)
def mSetLeak (nt : Nat) (i y : Int32) (q : tkI × tkL) : Int32 × (tkI × tkL) :=
  if off i nt then mFail 1 q else if bad y 0 1000000 then mFail 2 q else (q.1 11 i.toNatClampNeg, (tk2 (mT0 q.1) 11 i.toNatClampNeg y, q.2))
theorem c_X6_setLeak (hM : tkReg 21 mT mF σ r) {nt : Nat} (hc : J 0 1 = nI nt) (hn : nt ≤ 8) (i y : Int32) :
    tkCon false (.code yX6_setLeak cX6_setLeak 4 (some .int)) yX6_setLeak 2 [.ref r, .int i, .int y] σ (reg r 21 J v) (reg r 21 K w) 0 0 (.inl (some (.int (mSetLeak nt i y (J, K)).1))) σ (reg r 21 (mSetLeak nt i y (J, K)).2.1 v) (reg r 21 (mSetLeak nt i y (J, K)).2.2 w) := by
  refine tkCon.of (by decide) (Nat.le_of_ble_eq_true rfl) (fun X C => ?_)
  unfold mSetLeak
  dsimp only
  refine g_aload_n C (i := 0) dX6_setLeak_0 rfl rfl ?_
  refine g_iconst C (0) dX6_setLeak_1 rfl ?_
  refine g_putI C 6 0 (RX6, TX6, 29) dX6_setLeak_2 (hM.1 0 (by decide)) (tk2_reg (k := 0) (by decide)) ml_X6_72 rfl (by decide) rfl rfl ?_
  refine g_aload_n C (i := 0) dX6_setLeak_5 rfl rfl ?_
  refine g_iload_n C (i := 1) dX6_setLeak_6 rfl rfl ?_
  refine g_callV C (q := (RX6, TX6, 29)) (rest := _) dX6_setLeak_7 mm_X6_isTank ml_X6_91 mv_yX6_isTank ms_yX6_isTank (c_X6_isTank (J := mT0 J) hM hc i) rfl (hM.1 0 (by decide)) rfl rfl ⟨by decide, Nat.le_of_ble_eq_true rfl, Nat.le_of_ble_eq_true rfl, Nat.le_of_ble_eq_true rfl⟩ (tk_retv ?_) tk_nothr
  refine g_if_ne C 19 dX6_setLeak_10 (by decide) (fun h10 => ?_) (fun h10 => ?_)
  · have h := offB_nz h10
    rw [if_neg h]
    obtain ⟨j, hj, rfl⟩ := off_not (by omega) h
    rw [nI_clamp (by omega)]
    refine g_iload_n C (i := 2) dX6_setLeak_19 rfl rfl ?_
    refine g_if_lt C 29 dX6_setLeak_20 (by decide) (fun h20 => ?_) (fun h20 => ?_)
    · rw [if_pos (Or.inl h20)]
      refine g_aload_n C (i := 0) dX6_setLeak_29 rfl rfl ?_
      refine g_iconst C (2) dX6_setLeak_30 rfl ?_
      refine g_callV C (q := (RX6, TX6, 29)) (rest := _) dX6_setLeak_31 mm_X6_fail ml_X6_87 mv_yX6_fail ms_yX6_fail (c_X6_fail (J := mT0 J) hM 2) rfl (hM.1 0 (by decide)) rfl rfl ⟨by decide, Nat.le_of_ble_eq_true rfl, Nat.le_of_ble_eq_true rfl, Nat.le_of_ble_eq_true rfl⟩ (tk_retv ?_) tk_nothr
      exact g_ireturn C dX6_setLeak_34 ⟨Nat.le_of_ble_eq_true rfl, Nat.le_of_ble_eq_true rfl⟩ (tkEnd.rf rfl rfl rfl)
    · refine g_iload_n C (i := 2) dX6_setLeak_23 rfl rfl ?_
      refine g_ldc C (1000000) dX6_setLeak_24 ml_X6_86 ?_
      refine g_icmp_le C 35 dX6_setLeak_26 (by decide) (fun h26 => ?_) (fun h26 => ?_)
      · rw [if_neg (by rintro (z | z); exact h20 z; exact Int32.not_le.mpr z h26)]
        refine g_aload_n C (i := 0) dX6_setLeak_35 rfl rfl ?_
        refine g_getR C 6 14 (RX6, TX6, 29) dX6_setLeak_36 (hM.1 0 (by decide)) (hM.2 0 14 11 (by decide) rfl) ml_X6_41 rfl (by decide) rfl ?_
        refine g_iload_n C (i := 1) dX6_setLeak_39 rfl rfl ?_
        refine g_ia C dX6_setLeak_40 (hM.1 11 (by decide)) (reg_at (k := 11) (by decide)) rfl (by omega) (by decide) ?_
        refine g_istore_n C (i := 3) dX6_setLeak_41 rfl (by decide) ?_
        refine g_aload_n C (i := 0) dX6_setLeak_42 rfl rfl ?_
        refine g_getR C 6 14 (RX6, TX6, 29) dX6_setLeak_43 (hM.1 0 (by decide)) (hM.2 0 14 11 (by decide) rfl) ml_X6_41 rfl (by decide) rfl ?_
        refine g_iload_n C (i := 1) dX6_setLeak_46 rfl rfl ?_
        refine g_iload_n C (i := 2) dX6_setLeak_47 rfl rfl ?_
        refine g_is C dX6_setLeak_48 (hM.1 11 (by decide)) (tk2_reg (k := 11) (by decide)) rfl (by omega) (by decide) ?_
        refine g_iload_n C (i := 3) dX6_setLeak_49 rfl rfl ?_
        exact g_ireturn C dX6_setLeak_50 ⟨Nat.le_of_ble_eq_true rfl, Nat.le_of_ble_eq_true rfl⟩ (tkEnd.rf rfl rfl rfl)
      · rw [if_pos (Or.inr (Int32.not_le.mp h26))]
        refine g_aload_n C (i := 0) dX6_setLeak_29 rfl rfl ?_
        refine g_iconst C (2) dX6_setLeak_30 rfl ?_
        refine g_callV C (q := (RX6, TX6, 29)) (rest := _) dX6_setLeak_31 mm_X6_fail ml_X6_87 mv_yX6_fail ms_yX6_fail (c_X6_fail (J := mT0 J) hM 2) rfl (hM.1 0 (by decide)) rfl rfl ⟨by decide, Nat.le_of_ble_eq_true rfl, Nat.le_of_ble_eq_true rfl, Nat.le_of_ble_eq_true rfl⟩ (tk_retv ?_) tk_nothr
        exact g_ireturn C dX6_setLeak_34 ⟨Nat.le_of_ble_eq_true rfl, Nat.le_of_ble_eq_true rfl⟩ (tkEnd.rf rfl rfl rfl)
  · rw [if_pos (offB_z h10)]
    refine g_aload_n C (i := 0) dX6_setLeak_13 rfl rfl ?_
    refine g_iconst C (1) dX6_setLeak_14 rfl ?_
    refine g_callV C (q := (RX6, TX6, 29)) (rest := _) dX6_setLeak_15 mm_X6_fail ml_X6_87 mv_yX6_fail ms_yX6_fail (c_X6_fail (J := mT0 J) hM 1) rfl (hM.1 0 (by decide)) rfl rfl ⟨by decide, Nat.le_of_ble_eq_true rfl, Nat.le_of_ble_eq_true rfl, Nat.le_of_ble_eq_true rfl⟩ (tk_retv ?_) tk_nothr
    exact g_ireturn C dX6_setLeak_18 ⟨Nat.le_of_ble_eq_true rfl, Nat.le_of_ble_eq_true rfl⟩ (tkEnd.rf rfl rfl rfl)
def mSetRate (np : Nat) (i y : Int32) (q : tkI × tkL) : Int32 × (tkI × tkL) :=
  if off i np then mFail 1 q else if bad y 1 1000000 then mFail 2 q else (q.1 14 i.toNatClampNeg, (tk2 (mT0 q.1) 14 i.toNatClampNeg y, q.2))
theorem c_X6_setRate (hM : tkReg 21 mT mF σ r) {np : Nat} (hc : J 0 7 = nI np) (hn : np ≤ 16) (i y : Int32) :
    tkCon false (.code yX6_setRate cX6_setRate 4 (some .int)) yX6_setRate 2 [.ref r, .int i, .int y] σ (reg r 21 J v) (reg r 21 K w) 0 0 (.inl (some (.int (mSetRate np i y (J, K)).1))) σ (reg r 21 (mSetRate np i y (J, K)).2.1 v) (reg r 21 (mSetRate np i y (J, K)).2.2 w) := by
  refine tkCon.of (by decide) (Nat.le_of_ble_eq_true rfl) (fun X C => ?_)
  unfold mSetRate
  dsimp only
  refine g_aload_n C (i := 0) dX6_setRate_0 rfl rfl ?_
  refine g_iconst C (0) dX6_setRate_1 rfl ?_
  refine g_putI C 6 0 (RX6, TX6, 29) dX6_setRate_2 (hM.1 0 (by decide)) (tk2_reg (k := 0) (by decide)) ml_X6_72 rfl (by decide) rfl rfl ?_
  refine g_aload_n C (i := 0) dX6_setRate_5 rfl rfl ?_
  refine g_iload_n C (i := 1) dX6_setRate_6 rfl rfl ?_
  refine g_callV C (q := (RX6, TX6, 29)) (rest := _) dX6_setRate_7 mm_X6_isPump ml_X6_98 mv_yX6_isPump ms_yX6_isPump (c_X6_isPump (J := mT0 J) hM hc i) rfl (hM.1 0 (by decide)) rfl rfl ⟨by decide, Nat.le_of_ble_eq_true rfl, Nat.le_of_ble_eq_true rfl, Nat.le_of_ble_eq_true rfl⟩ (tk_retv ?_) tk_nothr
  refine g_if_ne C 19 dX6_setRate_10 (by decide) (fun h10 => ?_) (fun h10 => ?_)
  · have h := offB_nz h10
    rw [if_neg h]
    obtain ⟨j, hj, rfl⟩ := off_not (by omega) h
    rw [nI_clamp (by omega)]
    refine g_iload_n C (i := 2) dX6_setRate_19 rfl rfl ?_
    refine g_iconst C (1) dX6_setRate_20 rfl ?_
    refine g_icmp_lt C 30 dX6_setRate_21 (by decide) (fun h21 => ?_) (fun h21 => ?_)
    · rw [if_pos (Or.inl h21)]
      refine g_aload_n C (i := 0) dX6_setRate_30 rfl rfl ?_
      refine g_iconst C (2) dX6_setRate_31 rfl ?_
      refine g_callV C (q := (RX6, TX6, 29)) (rest := _) dX6_setRate_32 mm_X6_fail ml_X6_87 mv_yX6_fail ms_yX6_fail (c_X6_fail (J := mT0 J) hM 2) rfl (hM.1 0 (by decide)) rfl rfl ⟨by decide, Nat.le_of_ble_eq_true rfl, Nat.le_of_ble_eq_true rfl, Nat.le_of_ble_eq_true rfl⟩ (tk_retv ?_) tk_nothr
      exact g_ireturn C dX6_setRate_35 ⟨Nat.le_of_ble_eq_true rfl, Nat.le_of_ble_eq_true rfl⟩ (tkEnd.rf rfl rfl rfl)
    · refine g_iload_n C (i := 2) dX6_setRate_24 rfl rfl ?_
      refine g_ldc C (1000000) dX6_setRate_25 ml_X6_86 ?_
      refine g_icmp_le C 36 dX6_setRate_27 (by decide) (fun h27 => ?_) (fun h27 => ?_)
      · rw [if_neg (by rintro (z | z); exact h21 z; exact Int32.not_le.mpr z h27)]
        refine g_aload_n C (i := 0) dX6_setRate_36 rfl rfl ?_
        refine g_getR C 6 17 (RX6, TX6, 29) dX6_setRate_37 (hM.1 0 (by decide)) (hM.2 0 17 14 (by decide) rfl) ml_X6_51 rfl (by decide) rfl ?_
        refine g_iload_n C (i := 1) dX6_setRate_40 rfl rfl ?_
        refine g_ia C dX6_setRate_41 (hM.1 14 (by decide)) (reg_at (k := 14) (by decide)) rfl (by omega) (by decide) ?_
        refine g_istore_n C (i := 3) dX6_setRate_42 rfl (by decide) ?_
        refine g_aload_n C (i := 0) dX6_setRate_43 rfl rfl ?_
        refine g_getR C 6 17 (RX6, TX6, 29) dX6_setRate_44 (hM.1 0 (by decide)) (hM.2 0 17 14 (by decide) rfl) ml_X6_51 rfl (by decide) rfl ?_
        refine g_iload_n C (i := 1) dX6_setRate_47 rfl rfl ?_
        refine g_iload_n C (i := 2) dX6_setRate_48 rfl rfl ?_
        refine g_is C dX6_setRate_49 (hM.1 14 (by decide)) (tk2_reg (k := 14) (by decide)) rfl (by omega) (by decide) ?_
        refine g_iload_n C (i := 3) dX6_setRate_50 rfl rfl ?_
        exact g_ireturn C dX6_setRate_51 ⟨Nat.le_of_ble_eq_true rfl, Nat.le_of_ble_eq_true rfl⟩ (tkEnd.rf rfl rfl rfl)
      · rw [if_pos (Or.inr (Int32.not_le.mp h27))]
        refine g_aload_n C (i := 0) dX6_setRate_30 rfl rfl ?_
        refine g_iconst C (2) dX6_setRate_31 rfl ?_
        refine g_callV C (q := (RX6, TX6, 29)) (rest := _) dX6_setRate_32 mm_X6_fail ml_X6_87 mv_yX6_fail ms_yX6_fail (c_X6_fail (J := mT0 J) hM 2) rfl (hM.1 0 (by decide)) rfl rfl ⟨by decide, Nat.le_of_ble_eq_true rfl, Nat.le_of_ble_eq_true rfl, Nat.le_of_ble_eq_true rfl⟩ (tk_retv ?_) tk_nothr
        exact g_ireturn C dX6_setRate_35 ⟨Nat.le_of_ble_eq_true rfl, Nat.le_of_ble_eq_true rfl⟩ (tkEnd.rf rfl rfl rfl)
  · rw [if_pos (offB_z h10)]
    refine g_aload_n C (i := 0) dX6_setRate_13 rfl rfl ?_
    refine g_iconst C (1) dX6_setRate_14 rfl ?_
    refine g_callV C (q := (RX6, TX6, 29)) (rest := _) dX6_setRate_15 mm_X6_fail ml_X6_87 mv_yX6_fail ms_yX6_fail (c_X6_fail (J := mT0 J) hM 1) rfl (hM.1 0 (by decide)) rfl rfl ⟨by decide, Nat.le_of_ble_eq_true rfl, Nat.le_of_ble_eq_true rfl, Nat.le_of_ble_eq_true rfl⟩ (tk_retv ?_) tk_nothr
    exact g_ireturn C dX6_setRate_18 ⟨Nat.le_of_ble_eq_true rfl, Nat.le_of_ble_eq_true rfl⟩ (tkEnd.rf rfl rfl rfl)
end TKMODEL2

section TKMDEPOT
variable {σ : tkM} {r : Nat} {J v : tkI} {K w : tkL}
theorem rdS_26 (b c : Nat) (q : tkI × tkL) (J1 : tkI) : (rdS b c q J1).1 0 26 = J1 0 26 := by
  unfold rdS
  split
  · split <;> rfl
  · split
    · split <;> rfl
    · split
      · rfl
      · split
        · split <;> rfl
        · split <;> rfl
theorem mRd_26 (b : Nat) (q : tkI × tkL) : ∀ c, (mRd b c q).1 0 26 = q.1 0 26
  | 0 => rfl
  | c + 1 => by
    rw [mRd_s]
    exact (rdS_26 b c _ _).trans (mRd_26 b q c)
def mSave (dc : Nat) (q : tkI × tkL) : Int32 × (tkI × tkL) :=
  if dc = 4 then mFail 1 q else (nI (dc + 1), (tk2 (mWr (164 * dc) 164 (mT0 q.1, q.2)).1 0 26 (nI (dc + 1)), (mWr (164 * dc) 164 (mT0 q.1, q.2)).2))
def mRest (dc : Nat) (q : tkI × tkL) : Int32 × (tkI × tkL) :=
  if dc = 0 then mFail 1 q else (nI (dc - 1), mRd (164 * (dc - 1)) 164 (tk2 (tk2 (mT0 q.1) 0 26 (nI (dc - 1))) 0 28 (nI (164 * (dc - 1) + 0)), q.2))
def mNxt (nt ns np : Nat) : Nat → Nat → tkI × tkL → (tkI × tkL) × Nat
  | 0, _, q => (q, 0)
  | k + 1, i, q => if (mTick nt ns np q).2 ≤ 0 then mNxt nt ns np k (i + 1) (mTick nt ns np q).1 else ((mTick nt ns np q).1, i)
def mBack (t : (tkI × tkL) × Nat) : Int32 × (tkI × tkL) := (if t.2 = 0 then -1 else nI t.2, mRd (164 * 4) 164 (tk2 t.1.1 0 28 (nI (164 * 4 + 0)), t.1.2))
def mXNext (nt ns np : Nat) (n : Int32) (q : tkI × tkL) : Int32 × (tkI × tkL) :=
  if bad n 1 5000 then mFail 1 q else mBack (mNxt nt ns np n.toNatClampNeg 1 (mWr (164 * 4) 164 (mT0 q.1, q.2)))
theorem c_X6_save (hM : tkReg 21 mT mF σ r) {dc : Nat} (hc : J 0 26 = nI dc) (hdc : dc ≤ 4) :
    tkCon false (.code yX6_save cX6_save 1 (some .int)) yX6_save 3 [.ref r] σ (reg r 21 J v) (reg r 21 K w) 0 0 (.inl (some (.int (mSave dc (J, K)).1))) σ (reg r 21 (mSave dc (J, K)).2.1 v) (reg r 21 (mSave dc (J, K)).2.2 w) := by
  refine tkCon.of (by decide) (Nat.le_of_ble_eq_true rfl) (fun X C => ?_)
  unfold mSave
  dsimp only
  refine g_aload_n C (i := 0) dX6_save_0 rfl rfl ?_
  refine g_iconst C (0) dX6_save_1 rfl ?_
  refine g_putI C 6 0 (RX6, TX6, 29) dX6_save_2 (hM.1 0 (by decide)) (tk2_reg (k := 0) (by decide)) ml_X6_72 rfl (by decide) rfl rfl ?_
  refine g_aload_n C (i := 0) dX6_save_5 rfl rfl ?_
  refine g_getI C 6 26 (RX6, TX6, 29) dX6_save_6 (hM.1 0 (by decide)) (reg_at (k := 0) (by decide)) ml_X6_151 rfl (by decide) (Or.inl rfl) ?_
  rw [show (tk2 J 0 0 0) 0 26 = nI dc from hc]
  refine g_iconst C (4) dX6_save_9 rfl ?_
  refine g_icmp_ne C 19 dX6_save_10 (by decide) (fun h10 => ?_) (fun h10 => ?_)
  · rw [if_neg (fun z => h10 (by rw [z]; rfl))]
    have hlt : dc < 4 := Nat.lt_of_le_of_ne hdc (fun z => h10 (by rw [z]; rfl))
    refine g_aload_n C (i := 0) dX6_save_19 rfl rfl ?_
    refine g_aload_n C (i := 0) dX6_save_20 rfl rfl ?_
    refine g_getI C 6 26 (RX6, TX6, 29) dX6_save_21 (hM.1 0 (by decide)) (reg_at (k := 0) (by decide)) ml_X6_151 rfl (by decide) (Or.inl rfl) ?_
    rw [show (tk2 J 0 0 0) 0 26 = nI dc from hc]
    refine g_callV C (q := (RX6, TX6, 29)) (rest := _) dX6_save_24 mm_X6_write ml_X6_131 mv_yX6_write ms_yX6_write (c_X6_write (J := mT0 J) hM (by omega)) rfl (hM.1 0 (by decide)) rfl rfl ⟨by decide, Nat.le_of_ble_eq_true rfl, Nat.le_of_ble_eq_true rfl, Nat.le_of_ble_eq_true rfl⟩ (tk_retn ?_) tk_nothr
    have e26 : (mWr (164 * dc) 164 (mT0 J, K)).1 0 26 = nI dc := hc
    generalize mWr (164 * dc) 164 (mT0 J, K) = q at *
    obtain ⟨J1, K1⟩ := q
    dsimp only at *
    refine g_aload_n C (i := 0) dX6_save_27 rfl rfl ?_
    refine g_dup C dX6_save_28 rfl ?_
    refine g_getI C 6 26 (RX6, TX6, 29) dX6_save_29 (hM.1 0 (by decide)) (reg_at (k := 0) (by decide)) ml_X6_151 rfl (by decide) (Or.inl rfl) ?_
    rw [e26]
    refine g_iconst C (1) dX6_save_32 rfl ?_
    refine g_iadd C dX6_save_33 ?_
    rw [nI_1]
    refine g_putI C 6 26 (RX6, TX6, 29) dX6_save_34 (hM.1 0 (by decide)) (tk2_reg (k := 0) (by decide)) ml_X6_151 rfl (by decide) rfl rfl ?_
    refine g_aload_n C (i := 0) dX6_save_37 rfl rfl ?_
    refine g_getI C 6 26 (RX6, TX6, 29) dX6_save_38 (hM.1 0 (by decide)) (reg_at (k := 0) (by decide)) ml_X6_151 rfl (by decide) (Or.inl rfl) ?_
    exact g_ireturn C dX6_save_41 ⟨Nat.le_of_ble_eq_true rfl, Nat.le_of_ble_eq_true rfl⟩ (tkEnd.rf (by rw [tk2_at]) rfl rfl)
  · rw [if_pos ((nI_eq (b := 4) (by omega) (by omega)).mp h10)]
    refine g_aload_n C (i := 0) dX6_save_13 rfl rfl ?_
    refine g_iconst C (1) dX6_save_14 rfl ?_
    refine g_callV C (q := (RX6, TX6, 29)) (rest := _) dX6_save_15 mm_X6_fail ml_X6_87 mv_yX6_fail ms_yX6_fail (c_X6_fail (J := mT0 J) hM 1) rfl (hM.1 0 (by decide)) rfl rfl ⟨by decide, Nat.le_of_ble_eq_true rfl, Nat.le_of_ble_eq_true rfl, Nat.le_of_ble_eq_true rfl⟩ (tk_retv ?_) tk_nothr
    exact g_ireturn C dX6_save_18 ⟨Nat.le_of_ble_eq_true rfl, Nat.le_of_ble_eq_true rfl⟩ (tkEnd.rf rfl rfl rfl)
theorem c_X6_restore (hM : tkReg 21 mT mF σ r) {dc : Nat} (hc : J 0 26 = nI dc) (hdc : dc ≤ 4) :
    tkCon false (.code yX6_restore cX6_restore 1 (some .int)) yX6_restore 3 [.ref r] σ (reg r 21 J v) (reg r 21 K w) 0 0 (.inl (some (.int (mRest dc (J, K)).1))) σ (reg r 21 (mRest dc (J, K)).2.1 v) (reg r 21 (mRest dc (J, K)).2.2 w) := by
  refine tkCon.of (by decide) (Nat.le_of_ble_eq_true rfl) (fun X C => ?_)
  unfold mRest
  dsimp only
  refine g_aload_n C (i := 0) dX6_restore_0 rfl rfl ?_
  refine g_iconst C (0) dX6_restore_1 rfl ?_
  refine g_putI C 6 0 (RX6, TX6, 29) dX6_restore_2 (hM.1 0 (by decide)) (tk2_reg (k := 0) (by decide)) ml_X6_72 rfl (by decide) rfl rfl ?_
  refine g_aload_n C (i := 0) dX6_restore_5 rfl rfl ?_
  refine g_getI C 6 26 (RX6, TX6, 29) dX6_restore_6 (hM.1 0 (by decide)) (reg_at (k := 0) (by decide)) ml_X6_151 rfl (by decide) (Or.inl rfl) ?_
  rw [show (tk2 J 0 0 0) 0 26 = nI dc from hc]
  refine g_if_ne C 18 dX6_restore_9 (by decide) (fun h9 => ?_) (fun h9 => ?_)
  · obtain ⟨d, rfl⟩ : ∃ d, dc = d + 1 := ⟨dc - 1, by have : dc ≠ 0 := fun z => h9 (by rw [z]; rfl); omega⟩
    rw [if_neg (Nat.succ_ne_zero d), Nat.add_sub_cancel]
    refine g_aload_n C (i := 0) dX6_restore_18 rfl rfl ?_
    refine g_dup C dX6_restore_19 rfl ?_
    refine g_getI C 6 26 (RX6, TX6, 29) dX6_restore_20 (hM.1 0 (by decide)) (reg_at (k := 0) (by decide)) ml_X6_151 rfl (by decide) (Or.inl rfl) ?_
    rw [show (tk2 J 0 0 0) 0 26 = nI (d + 1) from hc]
    refine g_iconst C (1) dX6_restore_23 rfl ?_
    refine g_isub C dX6_restore_24 ?_
    rw [nI_pred]
    refine g_putI C 6 26 (RX6, TX6, 29) dX6_restore_25 (hM.1 0 (by decide)) (tk2_reg (k := 0) (by decide)) ml_X6_151 rfl (by decide) rfl rfl ?_
    refine g_aload_n C (i := 0) dX6_restore_28 rfl rfl ?_
    refine g_aload_n C (i := 0) dX6_restore_29 rfl rfl ?_
    refine g_getI C 6 26 (RX6, TX6, 29) dX6_restore_30 (hM.1 0 (by decide)) (reg_at (k := 0) (by decide)) ml_X6_151 rfl (by decide) (Or.inl rfl) ?_
    rw [tk2_at]
    have e26 := mRd_26 (164 * d) (tk2 (tk2 (mT0 J) 0 26 (nI d)) 0 28 (nI (164 * d + 0)), K) 164
    refine g_callV C (q := (RX6, TX6, 29)) (rest := _) dX6_restore_33 mm_X6_read ml_X6_134 mv_yX6_read ms_yX6_read (c_X6_read (J := tk2 (mT0 J) 0 26 (nI d)) hM (by omega)) rfl (hM.1 0 (by decide)) rfl rfl ⟨by decide, Nat.le_of_ble_eq_true rfl, Nat.le_of_ble_eq_true rfl, Nat.le_of_ble_eq_true rfl⟩ (tk_retn ?_) tk_nothr
    generalize mRd (164 * d) 164 (tk2 (tk2 (mT0 J) 0 26 (nI d)) 0 28 (nI (164 * d + 0)), K) = q at *
    obtain ⟨J1, K1⟩ := q
    have e26 : J1 0 26 = nI d := e26
    refine g_aload_n C (i := 0) dX6_restore_36 rfl rfl ?_
    refine g_getI C 6 26 (RX6, TX6, 29) dX6_restore_37 (hM.1 0 (by decide)) (reg_at (k := 0) (by decide)) ml_X6_151 rfl (by decide) (Or.inl rfl) ?_
    exact g_ireturn C dX6_restore_40 ⟨Nat.le_of_ble_eq_true rfl, Nat.le_of_ble_eq_true rfl⟩ (tkEnd.rf (by show (Sum.inl (some (Value.int (nI d))) : tkOut) = .inl (some (.int (J1 0 26))); rw [e26]) rfl rfl)
  · have h0 : dc = 0 := (nI_eq (b := 0) (by omega) (by omega)).mp h9
    rw [if_pos h0]
    refine g_aload_n C (i := 0) dX6_restore_12 rfl rfl ?_
    refine g_iconst C (1) dX6_restore_13 rfl ?_
    refine g_callV C (q := (RX6, TX6, 29)) (rest := _) dX6_restore_14 mm_X6_fail ml_X6_87 mv_yX6_fail ms_yX6_fail (c_X6_fail (J := mT0 J) hM 1) rfl (hM.1 0 (by decide)) rfl rfl ⟨by decide, Nat.le_of_ble_eq_true rfl, Nat.le_of_ble_eq_true rfl, Nat.le_of_ble_eq_true rfl⟩ (tk_retv ?_) tk_nothr
    exact g_ireturn C dX6_restore_17 ⟨Nat.le_of_ble_eq_true rfl, Nat.le_of_ble_eq_true rfl⟩ (tkEnd.rf rfl rfl rfl)
theorem c_X6_nextChange (hM : tkReg 21 mT mF σ r) {nt ns np : Nat} (hW : wM nt ns np J) (n : Int32) :
    tkCon false (.code yX6_nextChange cX6_nextChange 4 (some .int)) yX6_nextChange 5 [.ref r, .int n] σ (reg r 21 J v) (reg r 21 K w) 0 0 (.inl (some (.int (mXNext nt ns np n (J, K)).1))) σ (reg r 21 (mXNext nt ns np n (J, K)).2.1 v) (reg r 21 (mXNext nt ns np n (J, K)).2.2 w) := by
  refine tkCon.of (by decide) (Nat.le_of_ble_eq_true rfl) (fun X C => ?_)
  unfold mXNext
  dsimp only
  refine g_aload_n C (i := 0) dX6_nextChange_0 rfl rfl ?_
  refine g_iconst C (0) dX6_nextChange_1 rfl ?_
  refine g_putI C 6 0 (RX6, TX6, 29) dX6_nextChange_2 (hM.1 0 (by decide)) (tk2_reg (k := 0) (by decide)) ml_X6_72 rfl (by decide) rfl rfl ?_
  refine g_iload_n C (i := 1) dX6_nextChange_5 rfl rfl ?_
  refine g_iconst C (1) dX6_nextChange_6 rfl ?_
  refine g_icmp_lt C 17 dX6_nextChange_7 (by decide) (fun h7 => ?_) (fun h7 => ?_)
  · rw [if_pos (Or.inl h7)]
    refine g_aload_n C (i := 0) dX6_nextChange_17 rfl rfl ?_
    refine g_iconst C (1) dX6_nextChange_18 rfl ?_
    refine g_callV C (q := (RX6, TX6, 29)) (rest := _) dX6_nextChange_19 mm_X6_fail ml_X6_87 mv_yX6_fail ms_yX6_fail (c_X6_fail (J := mT0 J) hM 1) rfl (hM.1 0 (by decide)) rfl rfl ⟨by decide, Nat.le_of_ble_eq_true rfl, Nat.le_of_ble_eq_true rfl, Nat.le_of_ble_eq_true rfl⟩ (tk_retv ?_) tk_nothr
    exact g_ireturn C dX6_nextChange_22 ⟨Nat.le_of_ble_eq_true rfl, Nat.le_of_ble_eq_true rfl⟩ (tkEnd.rf rfl rfl rfl)
  · refine g_iload_n C (i := 1) dX6_nextChange_10 rfl rfl ?_
    refine g_sipush C (5000) dX6_nextChange_11 rfl ?_
    refine g_icmp_le C 23 dX6_nextChange_14 (by decide) (fun h14 => ?_) (fun h14 => ?_)
    · have hb : ¬ bad n 1 5000 := by rintro (z | z); exact h7 z; exact Int32.not_le.mpr z h14
      rw [if_neg hb]
      obtain ⟨m, h1, hm, rfl⟩ := bad_5000 (a := 1) (by omega) hb
      rw [nI_clamp (by omega)]
      have hW2 : wM nt ns np (mWr (164 * 4) 164 (mT0 J, K)).1 := hW
      obtain ⟨R, eR⟩ : ∃ R, mNxt nt ns np m 1 (mWr (164 * 4) 164 (mT0 J, K)) = R := ⟨_, rfl⟩
      rw [eR]
      have hR2 : R.2 ≤ m → R.2 < 2 ^ 31 := fun z => by omega
      have J60 : ∀ lv3, R.2 ≤ m → tkG X (tkQ false X 0 0 (.inl (some (.int (mBack R).1))) σ (reg r 21 (mBack R).2.1 v) (reg r 21 (mBack R).2.2 w)) 0 0 60 [some (.ref r), some (.int (nI m)), some (.int (nI R.2)), some (.int lv3)] [] σ (reg r 21 R.1.1 v) (reg r 21 R.1.2 w) := by
        intro lv3 hR
        clear eR
        obtain ⟨⟨J1, K1⟩, f⟩ := R
        unfold mBack
        dsimp only at *
        refine g_aload_n C (i := 0) dX6_nextChange_60 rfl rfl ?_
        refine g_iconst C (4) dX6_nextChange_61 rfl ?_
        refine g_callV C (q := (RX6, TX6, 29)) (rest := _) dX6_nextChange_62 mm_X6_read ml_X6_134 mv_yX6_read ms_yX6_read (c_X6_read (n := 4) (J := J1) (K := K1) hM (by omega)) rfl (hM.1 0 (by decide)) rfl rfl ⟨by decide, Nat.le_of_ble_eq_true rfl, Nat.le_of_ble_eq_true rfl, Nat.le_of_ble_eq_true rfl⟩ (tk_retn ?_) tk_nothr
        generalize mRd (164 * 4) 164 (tk2 J1 0 28 (nI (164 * 4 + 0)), K1) = q at *
        obtain ⟨J2, K2⟩ := q
        refine g_iload_n C (i := 2) dX6_nextChange_65 rfl rfl ?_
        refine g_if_ne C 73 dX6_nextChange_66 (by decide) (fun h66 => ?_) (fun h66 => ?_)
        · rw [if_neg (fun z => h66 (by rw [z]; rfl))]
          refine g_iload_n C (i := 2) dX6_nextChange_73 rfl rfl ?_
          exact g_ireturn C dX6_nextChange_74 ⟨Nat.le_of_ble_eq_true rfl, Nat.le_of_ble_eq_true rfl⟩ (tkEnd.rf rfl rfl rfl)
        · rw [if_pos ((nI_eq (b := 0) (by omega) (by omega)).mp h66)]
          refine g_iconst C (-1) dX6_nextChange_69 rfl ?_
          refine g_goto C 74 dX6_nextChange_70 (by decide) ?_
          exact g_ireturn C dX6_nextChange_74 ⟨Nat.le_of_ble_eq_true rfl, Nat.le_of_ble_eq_true rfl⟩ (tkEnd.rf rfl rfl rfl)
      have key : ∀ k i q, k + i = m + 1 → 1 ≤ i → wM nt ns np q.1 → mNxt nt ns np k i q = R → tkG X (tkQ false X 0 0 (.inl (some (.int (mBack R).1))) σ (reg r 21 (mBack R).2.1 v) (reg r 21 (mBack R).2.2 w)) 0 0 32 [some (.ref r), some (.int (nI m)), some (.int 0), some (.int (nI i))] [] σ (reg r 21 q.1 v) (reg r 21 q.2 w) := by
        intro k
        induction k with
        | zero =>
          intro i q hi h1i hw e
          have e : (q, 0) = R := e
          subst e
          refine g_iload_n C (i := 3) dX6_nextChange_32 rfl rfl ?_
          refine g_iload_n C (i := 1) dX6_nextChange_33 rfl rfl ?_
          refine g_icmp_gt C 60 dX6_nextChange_34 (by decide) (fun h34 => ?_) (fun h34 => ?_)
          · skip
            exact J60 _ (Nat.zero_le _)
          · exact absurd (nI_lt (by omega) (by omega)) h34
        | succ k ih =>
          intro i q hi h1i hw e
          rw [mNxt] at e
          obtain ⟨J1, K1⟩ := q
          refine g_iload_n C (i := 3) dX6_nextChange_32 rfl rfl ?_
          refine g_iload_n C (i := 1) dX6_nextChange_33 rfl rfl ?_
          refine g_icmp_gt C 60 dX6_nextChange_34 (by decide) (fun h34 => ?_) (fun h34 => ?_)
          · exact absurd h34 (nI_nlt (by omega) (by omega))
          · refine g_iload_n C (i := 2) dX6_nextChange_37 rfl rfl ?_
            refine g_if_ne C 60 dX6_nextChange_38 (by decide) (fun h38 => ?_) (fun h38 => ?_)
            · exact absurd rfl h38
            · refine g_aload_n C (i := 0) dX6_nextChange_41 rfl rfl ?_
              refine g_callV C (q := (RX6, TX6, 29)) (rest := _) dX6_nextChange_42 mm_X6_tick ml_X6_128 mv_yX6_tick ms_yX6_tick (c_X6_tick hM hw) rfl (hM.1 0 (by decide)) rfl rfl ⟨by decide, Nat.le_of_ble_eq_true rfl, Nat.le_of_ble_eq_true rfl, Nat.le_of_ble_eq_true rfl⟩ (tk_retv ?_) tk_nothr
              refine g_if_le C 52 dX6_nextChange_45 (by decide) (fun h45 => ?_) (fun h45 => ?_)
              · rw [if_pos h45] at e
                refine g_iconst C (0) dX6_nextChange_52 rfl ?_
                refine g_istore_n C (i := 2) dX6_nextChange_53 rfl (by decide) ?_
                refine g_iinc C (i := 3) (nI (i + 1)) dX6_nextChange_54 rfl (nI_1 i) (by decide) ?_
                refine g_goto C 32 dX6_nextChange_57 (by decide) ?_
                exact ih (i + 1) _ (by omega) (by omega) (wM.tick (q := (J1, K1)) hw) e
              · rw [if_neg h45] at e
                subst e
                refine g_iload_n C (i := 3) dX6_nextChange_48 rfl rfl ?_
                refine g_goto C 53 dX6_nextChange_49 (by decide) ?_
                refine g_istore_n C (i := 2) dX6_nextChange_53 rfl (by decide) ?_
                refine g_iinc C (i := 3) (nI (i + 1)) dX6_nextChange_54 rfl (nI_1 i) (by decide) ?_
                refine g_goto C 32 dX6_nextChange_57 (by decide) ?_
                refine g_iload_n C (i := 3) dX6_nextChange_32 rfl rfl ?_
                refine g_iload_n C (i := 1) dX6_nextChange_33 rfl rfl ?_
                refine g_icmp_gt C 60 dX6_nextChange_34 (by decide) (fun h34' => ?_) (fun h34' => ?_)
                · skip
                  exact J60 _ (show i ≤ m by omega)
                · refine g_iload_n C (i := 2) dX6_nextChange_37 rfl rfl ?_
                  refine g_if_ne C 60 dX6_nextChange_38 (by decide) (fun h38' => ?_) (fun h38' => ?_)
                  · skip
                    exact J60 _ (show i ≤ m by omega)
                  · exact absurd h38' (nI_ne0 (by omega) (by omega))
      refine g_aload_n C (i := 0) dX6_nextChange_23 rfl rfl ?_
      refine g_iconst C (4) dX6_nextChange_24 rfl ?_
      refine g_callV C (q := (RX6, TX6, 29)) (rest := _) dX6_nextChange_25 mm_X6_write ml_X6_131 mv_yX6_write ms_yX6_write (c_X6_write (n := 4) (J := mT0 J) hM (by omega)) rfl (hM.1 0 (by decide)) rfl rfl ⟨by decide, Nat.le_of_ble_eq_true rfl, Nat.le_of_ble_eq_true rfl, Nat.le_of_ble_eq_true rfl⟩ (tk_retn ?_) tk_nothr
      refine g_iconst C (0) dX6_nextChange_28 rfl ?_
      refine g_istore_n C (i := 2) dX6_nextChange_29 rfl (by decide) ?_
      refine g_iconst C (1) dX6_nextChange_30 rfl ?_
      refine g_istore_n C (i := 3) dX6_nextChange_31 rfl (by decide) ?_
      generalize mWr (164 * 4) 164 (mT0 J, K) = q at *
      exact key m 1 q rfl (Nat.le_refl _) hW2 eR
    · rw [if_pos (Or.inr (Int32.not_le.mp h14))]
      refine g_aload_n C (i := 0) dX6_nextChange_17 rfl rfl ?_
      refine g_iconst C (1) dX6_nextChange_18 rfl ?_
      refine g_callV C (q := (RX6, TX6, 29)) (rest := _) dX6_nextChange_19 mm_X6_fail ml_X6_87 mv_yX6_fail ms_yX6_fail (c_X6_fail (J := mT0 J) hM 1) rfl (hM.1 0 (by decide)) rfl rfl ⟨by decide, Nat.le_of_ble_eq_true rfl, Nat.le_of_ble_eq_true rfl, Nat.le_of_ble_eq_true rfl⟩ (tk_retv ?_) tk_nothr
      exact g_ireturn C dX6_nextChange_22 ⟨Nat.le_of_ble_eq_true rfl, Nat.le_of_ble_eq_true rfl⟩ (tkEnd.rf rfl rfl rfl)
end TKMDEPOT

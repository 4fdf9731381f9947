section TKMRUN
variable {σ : tkM} {r : Nat} {J v : tkI} {K w : tkL}
theorem wM.t0 {nt ns np : Nat} (h : wM nt ns np J) : wM nt ns np (mT0 J) := h
def mRun (nt ns np n : Nat) (q : tkI × tkL) : (tkI × tkL) × Int32 := itr (fun _ a => ((mTick nt ns np a.1).1, a.2 + (mTick nt ns np a.1).2)) n (q, 0)
theorem wM.run {nt ns np : Nat} {q : tkI × tkL} (h : wM nt ns np q.1) (n : Nat) : wM nt ns np (mRun nt ns np n q).1.1 :=
  itr_inv (f := fun _ a => ((mTick nt ns np a.1).1, a.2 + (mTick nt ns np a.1).2)) (a := (q, (0 : Int32))) (P := fun a : (tkI × tkL) × Int32 => wM nt ns np a.1.1) (n := n) (fun _ _ _ h => h.tick) (Nat.le_refl _) h
def mXRun (nt ns np : Nat) (n : Int32) (q : tkI × tkL) : Int32 × (tkI × tkL) :=
  if bad n 0 5000 then mFail 1 q else ((mRun nt ns np n.toNatClampNeg (mT0 q.1, q.2)).2, (mRun nt ns np n.toNatClampNeg (mT0 q.1, q.2)).1)
def mUnt (nt ns np j : Nat) (mark b : Int32) : Nat → Nat → tkI × tkL → (tkI × tkL) × Int32
  | 0, i, q => if jreach (q.1 10 j) mark b = 0 then (q, -1) else (q, nI i)
  | k + 1, i, q => if jreach (q.1 10 j) mark b = 0 then mUnt nt ns np j mark b k (i + 1) (mTick nt ns np q).1 else (q, nI i)
def mXUnt (nt ns np : Nat) (i lv b n : Int32) (q : tkI × tkL) : Int32 × (tkI × tkL) :=
  if off i nt then mFail 1 q else if bad n 0 5000 then mFail 2 q else ((mUnt nt ns np i.toNatClampNeg lv b n.toNatClampNeg 0 (mT0 q.1, q.2)).2, (mUnt nt ns np i.toNatClampNeg lv b n.toNatClampNeg 0 (mT0 q.1, q.2)).1)
theorem c_X6_run (hM : tkReg 21 mT mF σ r) {nt ns np : Nat} (hW : wM nt ns np J) (n : Int32) :
    tkCon false (.code yX6_run cX6_run 4 (some .int)) yX6_run 5 [.ref r, .int n] σ (reg r 21 J v) (reg r 21 K w) 0 0 (.inl (some (.int (mXRun nt ns np n (J, K)).1))) σ (reg r 21 (mXRun nt ns np n (J, K)).2.1 v) (reg r 21 (mXRun nt ns np n (J, K)).2.2 w) := by
  refine tkCon.of (by decide) (Nat.le_of_ble_eq_true rfl) (fun X C => ?_)
  unfold mXRun
  dsimp only
  refine g_aload_n C (i := 0) dX6_run_0 rfl rfl ?_
  refine g_iconst C (0) dX6_run_1 rfl ?_
  refine g_putI C 6 0 (RX6, TX6, 29) dX6_run_2 (hM.1 0 (by decide)) (tk2_reg (k := 0) (by decide)) ml_X6_72 rfl (by decide) rfl rfl ?_
  refine g_iload_n C (i := 1) dX6_run_5 rfl rfl ?_
  refine g_if_lt C 16 dX6_run_6 (by decide) (fun h6 => ?_) (fun h6 => ?_)
  · rw [if_pos (Or.inl h6)]
    refine g_aload_n C (i := 0) dX6_run_16 rfl rfl ?_
    refine g_iconst C (1) dX6_run_17 rfl ?_
    refine g_callV C (q := (RX6, TX6, 29)) (rest := _) dX6_run_18 mm_X6_fail ml_X6_87 mv_yX6_fail ms_yX6_fail (c_X6_fail (J := mT0 J) hM 1) rfl (hM.1 0 (by decide)) rfl rfl ⟨by decide, Nat.le_of_ble_eq_true rfl, Nat.le_of_ble_eq_true rfl, Nat.le_of_ble_eq_true rfl⟩ (tk_retv ?_) tk_nothr
    exact g_ireturn C dX6_run_21 ⟨Nat.le_of_ble_eq_true rfl, Nat.le_of_ble_eq_true rfl⟩ (tkEnd.rf rfl rfl rfl)
  · refine g_iload_n C (i := 1) dX6_run_9 rfl rfl ?_
    refine g_sipush C (5000) dX6_run_10 rfl ?_
    refine g_icmp_le C 22 dX6_run_13 (by decide) (fun h13 => ?_) (fun h13 => ?_)
    · have hb : ¬ bad n 0 5000 := by rintro (z | z); exact h6 z; exact Int32.not_le.mpr z h13
      rw [if_neg hb]
      obtain ⟨m, -, hm, rfl⟩ := bad_5000 (a := 0) (by omega) hb
      rw [nI_clamp (by omega)]
      refine g_iconst C (0) dX6_run_22 rfl ?_
      refine g_istore_n C (i := 2) dX6_run_23 rfl (by decide) ?_
      refine g_iconst C (0) dX6_run_24 rfl ?_
      refine g_istore_n C (i := 3) dX6_run_25 rfl (by decide) ?_
      obtain ⟨s, hs⟩ : ∃ s, s = fun i => mRun nt ns np i (mT0 J, K) := ⟨_, rfl⟩
      have ss : ∀ i, s (i + 1) = ((mTick nt ns np (s i).1).1, (s i).2 + (mTick nt ns np (s i).1).2) := fun i => by rw [hs]; rfl
      have s0 : s 0 = ((mT0 J, K), 0) := by rw [hs]; rfl
      have sw : ∀ i, wM nt ns np (s i).1.1 := fun i => by rw [hs]; exact wM.run (q := (mT0 J, K)) hW.t0 i
      rw [show mRun nt ns np m (mT0 J, K) = s m by rw [hs]]
      clear hs
      have key : ∀ k i, k + i = m → tkG X (tkQ false X 0 0 (.inl (some (.int (s m).2))) σ (reg r 21 (s m).1.1 v) (reg r 21 (s m).1.2 w)) 0 0 26 [some (.ref r), some (.int (nI m)), some (.int (s i).2), some (.int (nI i))] [] σ (reg r 21 (s i).1.1 v) (reg r 21 (s i).1.2 w) := by
        intro k
        induction k with
        | zero =>
          intro i hi
          have e : i = m := by omega
          subst e
          refine g_iload_n C (i := 3) dX6_run_26 rfl rfl ?_
          refine g_iload_n C (i := 1) dX6_run_27 rfl rfl ?_
          refine g_icmp_ge C 44 dX6_run_28 (by decide) (fun h28 => ?_) (fun h28 => ?_)
          · refine g_iload_n C (i := 2) dX6_run_44 rfl rfl ?_
            exact g_ireturn C dX6_run_45 ⟨Nat.le_of_ble_eq_true rfl, Nat.le_of_ble_eq_true rfl⟩ (tkEnd.rf rfl rfl rfl)
          · exact absurd (Int32.le_refl _) h28
        | succ k ih =>
          intro i hi
          have ih1 := ih (i + 1) (by omega)
          rw [ss] at ih1
          refine g_iload_n C (i := 3) dX6_run_26 rfl rfl ?_
          refine g_iload_n C (i := 1) dX6_run_27 rfl rfl ?_
          refine g_icmp_ge C 44 dX6_run_28 (by decide) (fun h28 => ?_) (fun h28 => ?_)
          · exact absurd h28 (nI_ge (by omega) (by omega))
          · refine g_iload_n C (i := 2) dX6_run_31 rfl rfl ?_
            refine g_aload_n C (i := 0) dX6_run_32 rfl rfl ?_
            refine g_callV C (q := (RX6, TX6, 29)) (rest := _) dX6_run_33 mm_X6_tick ml_X6_128 mv_yX6_tick ms_yX6_tick (c_X6_tick hM (sw i)) rfl (hM.1 0 (by decide)) rfl rfl ⟨by decide, Nat.le_of_ble_eq_true rfl, Nat.le_of_ble_eq_true rfl, Nat.le_of_ble_eq_true rfl⟩ (tk_retv ?_) tk_nothr
            refine g_iadd C dX6_run_36 ?_
            refine g_istore_n C (i := 2) dX6_run_37 rfl (by decide) ?_
            refine g_iinc C (i := 3) (nI (i + 1)) dX6_run_38 rfl (nI_1 i) (by decide) ?_
            refine g_goto C 26 dX6_run_41 (by decide) ?_
            exact ih1
      have k0 := key m 0 (by omega)
      rw [s0] at k0
      exact k0
    · rw [if_pos (Or.inr (Int32.not_le.mp h13))]
      refine g_aload_n C (i := 0) dX6_run_16 rfl rfl ?_
      refine g_iconst C (1) dX6_run_17 rfl ?_
      refine g_callV C (q := (RX6, TX6, 29)) (rest := _) dX6_run_18 mm_X6_fail ml_X6_87 mv_yX6_fail ms_yX6_fail (c_X6_fail (J := mT0 J) hM 1) rfl (hM.1 0 (by decide)) rfl rfl ⟨by decide, Nat.le_of_ble_eq_true rfl, Nat.le_of_ble_eq_true rfl, Nat.le_of_ble_eq_true rfl⟩ (tk_retv ?_) tk_nothr
      exact g_ireturn C dX6_run_21 ⟨Nat.le_of_ble_eq_true rfl, Nat.le_of_ble_eq_true rfl⟩ (tkEnd.rf rfl rfl rfl)
theorem c_X6_runUntil (hM : tkReg 21 mT mF σ r) {nt ns np : Nat} (hW : wM nt ns np J) (i lv b n : Int32) :
    tkCon false (.code yX6_runUntil cX6_runUntil 6 (some .int)) yX6_runUntil 5 [.ref r, .int i, .int lv, .int b, .int n] σ (reg r 21 J v) (reg r 21 K w) 0 0 (.inl (some (.int (mXUnt nt ns np i lv b n (J, K)).1))) σ (reg r 21 (mXUnt nt ns np i lv b n (J, K)).2.1 v) (reg r 21 (mXUnt nt ns np i lv b n (J, K)).2.2 w) := by
  refine tkCon.of (by decide) (Nat.le_of_ble_eq_true rfl) (fun X C => ?_)
  unfold mXUnt
  dsimp only
  refine g_aload_n C (i := 0) dX6_runUntil_0 rfl rfl ?_
  refine g_iconst C (0) dX6_runUntil_1 rfl ?_
  refine g_putI C 6 0 (RX6, TX6, 29) dX6_runUntil_2 (hM.1 0 (by decide)) (tk2_reg (k := 0) (by decide)) ml_X6_72 rfl (by decide) rfl rfl ?_
  refine g_aload_n C (i := 0) dX6_runUntil_5 rfl rfl ?_
  refine g_iload_n C (i := 1) dX6_runUntil_6 rfl rfl ?_
  refine g_callV C (q := (RX6, TX6, 29)) (rest := _) dX6_runUntil_7 mm_X6_isTank ml_X6_91 mv_yX6_isTank ms_yX6_isTank (c_X6_isTank (J := mT0 J) hM hW.1.1 i) rfl (hM.1 0 (by decide)) rfl rfl ⟨by decide, Nat.le_of_ble_eq_true rfl, Nat.le_of_ble_eq_true rfl, Nat.le_of_ble_eq_true rfl⟩ (tk_retv ?_) tk_nothr
  refine g_if_ne C 19 dX6_runUntil_10 (by decide) (fun h10 => ?_) (fun h10 => ?_)
  · have h := offB_nz h10
    rw [if_neg h]
    have hnt := hW.1.2
    obtain ⟨j, hj, rfl⟩ := off_not (by omega) h
    rw [nI_clamp (by omega)]
    refine g_iload C (i := 4) dX6_runUntil_19 rfl ?_
    refine g_if_lt C 32 dX6_runUntil_21 (by decide) (fun h21 => ?_) (fun h21 => ?_)
    · rw [if_pos (Or.inl h21)]
      refine g_aload_n C (i := 0) dX6_runUntil_32 rfl rfl ?_
      refine g_iconst C (2) dX6_runUntil_33 rfl ?_
      refine g_callV C (q := (RX6, TX6, 29)) (rest := _) dX6_runUntil_34 mm_X6_fail ml_X6_87 mv_yX6_fail ms_yX6_fail (c_X6_fail (J := mT0 J) hM 2) rfl (hM.1 0 (by decide)) rfl rfl ⟨by decide, Nat.le_of_ble_eq_true rfl, Nat.le_of_ble_eq_true rfl, Nat.le_of_ble_eq_true rfl⟩ (tk_retv ?_) tk_nothr
      exact g_ireturn C dX6_runUntil_37 ⟨Nat.le_of_ble_eq_true rfl, Nat.le_of_ble_eq_true rfl⟩ (tkEnd.rf rfl rfl rfl)
    · refine g_iload C (i := 4) dX6_runUntil_24 rfl ?_
      refine g_sipush C (5000) dX6_runUntil_26 rfl ?_
      refine g_icmp_le C 38 dX6_runUntil_29 (by decide) (fun h29 => ?_) (fun h29 => ?_)
      · have hb : ¬ bad n 0 5000 := by rintro (z | z); exact h21 z; exact Int32.not_le.mpr z h29
        rw [if_neg hb]
        obtain ⟨m, -, hm, rfl⟩ := bad_5000 (a := 0) (by omega) hb
        rw [nI_clamp (by omega)]
        obtain ⟨R, eR⟩ : ∃ R, mUnt nt ns np j lv b m 0 (mT0 J, K) = R := ⟨_, rfl⟩
        rw [eR]
        have key : ∀ k i J1 K1, k + i = m → wM nt ns np J1 → mUnt nt ns np j lv b k i (J1, K1) = R → tkG X (tkQ false X 0 0 (.inl (some (.int R.2))) σ (reg r 21 R.1.1 v) (reg r 21 R.1.2 w)) 0 0 41 [some (.ref r), some (.int (nI j)), some (.int lv), some (.int b), some (.int (nI m)), some (.int (nI i))] [] σ (reg r 21 J1 v) (reg r 21 K1 w) := by
          intro k
          induction k with
          | zero =>
            intro i J1 K1 hi hw e
            obtain rfl : i = m := by omega
            have J68 : jreach (J1 10 j) lv b = 0 → tkG X (tkQ false X 0 0 (.inl (some (.int R.2))) σ (reg r 21 R.1.1 v) (reg r 21 R.1.2 w)) 0 0 68 [some (.ref r), some (.int (nI j)), some (.int lv), some (.int b), some (.int (nI i)), some (.int (nI i))] [] σ (reg r 21 J1 v) (reg r 21 K1 w) := by
              intro z
              rw [mUnt, if_pos z] at e
              subst e
              refine g_iload C (i := 5) dX6_runUntil_68 rfl ?_
              refine g_iload C (i := 4) dX6_runUntil_70 rfl ?_
              refine g_icmp_ne C 77 dX6_runUntil_72 (by decide) (fun h72 => ?_) (fun h72 => ?_)
              · exact absurd rfl h72
              · refine g_iconst C (-1) dX6_runUntil_75 rfl ?_
                exact g_ireturn C dX6_runUntil_76 ⟨Nat.le_of_ble_eq_true rfl, Nat.le_of_ble_eq_true rfl⟩ (tkEnd.rf rfl rfl rfl)
            have J88 : ¬ jreach (J1 10 j) lv b = 0 → tkG X (tkQ false X 0 0 (.inl (some (.int R.2))) σ (reg r 21 R.1.1 v) (reg r 21 R.1.2 w)) 0 0 88 [some (.ref r), some (.int (nI j)), some (.int lv), some (.int b), some (.int (nI i)), some (.int (nI i))] [] σ (reg r 21 J1 v) (reg r 21 K1 w) := by
              intro z
              rw [mUnt, if_neg z] at e
              subst e
              refine g_iload C (i := 5) dX6_runUntil_88 rfl ?_
              exact g_ireturn C dX6_runUntil_90 ⟨Nat.le_of_ble_eq_true rfl, Nat.le_of_ble_eq_true rfl⟩ (tkEnd.rf rfl rfl rfl)
            refine g_iload_n C (i := 3) dX6_runUntil_41 rfl rfl ?_
            refine g_if_eq C 58 dX6_runUntil_42 (by decide) (fun h42 => ?_) (fun h42 => ?_)
            · refine g_aload_n C (i := 0) dX6_runUntil_58 rfl rfl ?_
              refine g_getR C 6 13 (RX6, TX6, 29) dX6_runUntil_59 (hM.1 0 (by decide)) (hM.2 0 13 10 (by decide) rfl) ml_X6_38 rfl (by decide) rfl ?_
              refine g_iload_n C (i := 1) dX6_runUntil_62 rfl rfl ?_
              refine g_ia C dX6_runUntil_63 (hM.1 10 (by decide)) (reg_at (k := 10) (by decide)) rfl (by omega) (by decide) ?_
              refine g_iload_n C (i := 2) dX6_runUntil_64 rfl rfl ?_
              refine g_icmp_ge C 88 dX6_runUntil_65 (by decide) (fun h65 => ?_) (fun h65 => ?_)
              · skip
                exact J88 (by unfold jreach; rw [if_pos h42, if_neg (Int32.not_lt.mpr h65)]; decide)
              · skip
                exact J68 (by unfold jreach; rw [if_pos h42, if_pos (Int32.not_le.mp h65)])
            · refine g_aload_n C (i := 0) dX6_runUntil_45 rfl rfl ?_
              refine g_getR C 6 13 (RX6, TX6, 29) dX6_runUntil_46 (hM.1 0 (by decide)) (hM.2 0 13 10 (by decide) rfl) ml_X6_38 rfl (by decide) rfl ?_
              refine g_iload_n C (i := 1) dX6_runUntil_49 rfl rfl ?_
              refine g_ia C dX6_runUntil_50 (hM.1 10 (by decide)) (reg_at (k := 10) (by decide)) rfl (by omega) (by decide) ?_
              refine g_iload_n C (i := 2) dX6_runUntil_51 rfl rfl ?_
              refine g_icmp_gt C 68 dX6_runUntil_52 (by decide) (fun h52 => ?_) (fun h52 => ?_)
              · skip
                exact J68 (by unfold jreach; rw [if_neg h42, if_pos h52])
              · refine g_goto C 88 dX6_runUntil_55 (by decide) ?_
                exact J88 (by unfold jreach; rw [if_neg h42, if_neg h52]; decide)
          | succ k ih =>
            intro i J1 K1 hi hw e
            have J68 : jreach (J1 10 j) lv b = 0 → tkG X (tkQ false X 0 0 (.inl (some (.int R.2))) σ (reg r 21 R.1.1 v) (reg r 21 R.1.2 w)) 0 0 68 [some (.ref r), some (.int (nI j)), some (.int lv), some (.int b), some (.int (nI m)), some (.int (nI i))] [] σ (reg r 21 J1 v) (reg r 21 K1 w) := by
              intro z
              rw [mUnt, if_pos z] at e
              refine g_iload C (i := 5) dX6_runUntil_68 rfl ?_
              refine g_iload C (i := 4) dX6_runUntil_70 rfl ?_
              refine g_icmp_ne C 77 dX6_runUntil_72 (by decide) (fun h72 => ?_) (fun h72 => ?_)
              · refine g_aload_n C (i := 0) dX6_runUntil_77 rfl rfl ?_
                refine g_callV C (q := (RX6, TX6, 29)) (rest := _) dX6_runUntil_78 mm_X6_tick ml_X6_128 mv_yX6_tick ms_yX6_tick (c_X6_tick hM hw) rfl (hM.1 0 (by decide)) rfl rfl ⟨by decide, Nat.le_of_ble_eq_true rfl, Nat.le_of_ble_eq_true rfl, Nat.le_of_ble_eq_true rfl⟩ (tk_retv ?_) tk_nothr
                refine g_pop C dX6_runUntil_81 rfl ?_
                refine g_iinc C (i := 5) (nI (i + 1)) dX6_runUntil_82 rfl (nI_1 i) (by decide) ?_
                refine g_goto C 41 dX6_runUntil_85 (by decide) ?_
                exact ih (i + 1) _ _ (by omega) (wM.tick (q := (J1, K1)) hw) e
              · exact absurd ((nI_eq (by omega) (by omega)).mp h72) (by omega)
            have J88 : ¬ jreach (J1 10 j) lv b = 0 → tkG X (tkQ false X 0 0 (.inl (some (.int R.2))) σ (reg r 21 R.1.1 v) (reg r 21 R.1.2 w)) 0 0 88 [some (.ref r), some (.int (nI j)), some (.int lv), some (.int b), some (.int (nI m)), some (.int (nI i))] [] σ (reg r 21 J1 v) (reg r 21 K1 w) := by
              intro z
              rw [mUnt, if_neg z] at e
              subst e
              refine g_iload C (i := 5) dX6_runUntil_88 rfl ?_
              exact g_ireturn C dX6_runUntil_90 ⟨Nat.le_of_ble_eq_true rfl, Nat.le_of_ble_eq_true rfl⟩ (tkEnd.rf rfl rfl rfl)
            refine g_iload_n C (i := 3) dX6_runUntil_41 rfl rfl ?_
            refine g_if_eq C 58 dX6_runUntil_42 (by decide) (fun h42 => ?_) (fun h42 => ?_)
            · refine g_aload_n C (i := 0) dX6_runUntil_58 rfl rfl ?_
              refine g_getR C 6 13 (RX6, TX6, 29) dX6_runUntil_59 (hM.1 0 (by decide)) (hM.2 0 13 10 (by decide) rfl) ml_X6_38 rfl (by decide) rfl ?_
              refine g_iload_n C (i := 1) dX6_runUntil_62 rfl rfl ?_
              refine g_ia C dX6_runUntil_63 (hM.1 10 (by decide)) (reg_at (k := 10) (by decide)) rfl (by omega) (by decide) ?_
              refine g_iload_n C (i := 2) dX6_runUntil_64 rfl rfl ?_
              refine g_icmp_ge C 88 dX6_runUntil_65 (by decide) (fun h65 => ?_) (fun h65 => ?_)
              · skip
                exact J88 (by unfold jreach; rw [if_pos h42, if_neg (Int32.not_lt.mpr h65)]; decide)
              · skip
                exact J68 (by unfold jreach; rw [if_pos h42, if_pos (Int32.not_le.mp h65)])
            · refine g_aload_n C (i := 0) dX6_runUntil_45 rfl rfl ?_
              refine g_getR C 6 13 (RX6, TX6, 29) dX6_runUntil_46 (hM.1 0 (by decide)) (hM.2 0 13 10 (by decide) rfl) ml_X6_38 rfl (by decide) rfl ?_
              refine g_iload_n C (i := 1) dX6_runUntil_49 rfl rfl ?_
              refine g_ia C dX6_runUntil_50 (hM.1 10 (by decide)) (reg_at (k := 10) (by decide)) rfl (by omega) (by decide) ?_
              refine g_iload_n C (i := 2) dX6_runUntil_51 rfl rfl ?_
              refine g_icmp_gt C 68 dX6_runUntil_52 (by decide) (fun h52 => ?_) (fun h52 => ?_)
              · skip
                exact J68 (by unfold jreach; rw [if_neg h42, if_pos h52])
              · refine g_goto C 88 dX6_runUntil_55 (by decide) ?_
                exact J88 (by unfold jreach; rw [if_neg h42, if_neg h52]; decide)
        refine g_iconst C (0) dX6_runUntil_38 rfl ?_
        refine g_istore C (i := 5) dX6_runUntil_39 (by decide) ?_
        exact key m 0 _ _ (by omega) hW.t0 eR
      · rw [if_pos (Or.inr (Int32.not_le.mp h29))]
        refine g_aload_n C (i := 0) dX6_runUntil_32 rfl rfl ?_
        refine g_iconst C (2) dX6_runUntil_33 rfl ?_
        refine g_callV C (q := (RX6, TX6, 29)) (rest := _) dX6_runUntil_34 mm_X6_fail ml_X6_87 mv_yX6_fail ms_yX6_fail (c_X6_fail (J := mT0 J) hM 2) rfl (hM.1 0 (by decide)) rfl rfl ⟨by decide, Nat.le_of_ble_eq_true rfl, Nat.le_of_ble_eq_true rfl, Nat.le_of_ble_eq_true rfl⟩ (tk_retv ?_) tk_nothr
        exact g_ireturn C dX6_runUntil_37 ⟨Nat.le_of_ble_eq_true rfl, Nat.le_of_ble_eq_true rfl⟩ (tkEnd.rf rfl rfl rfl)
  · rw [if_pos (offB_z h10)]
    refine g_aload_n C (i := 0) dX6_runUntil_13 rfl rfl ?_
    refine g_iconst C (1) dX6_runUntil_14 rfl ?_
    refine g_callV C (q := (RX6, TX6, 29)) (rest := _) dX6_runUntil_15 mm_X6_fail ml_X6_87 mv_yX6_fail ms_yX6_fail (c_X6_fail (J := mT0 J) hM 1) rfl (hM.1 0 (by decide)) rfl rfl ⟨by decide, Nat.le_of_ble_eq_true rfl, Nat.le_of_ble_eq_true rfl, Nat.le_of_ble_eq_true rfl⟩ (tk_retv ?_) tk_nothr
    exact g_ireturn C dX6_runUntil_18 ⟨Nat.le_of_ble_eq_true rfl, Nat.le_of_ble_eq_true rfl⟩ (tkEnd.rf rfl rfl rfl)
/-! sums over the pumps, the digest -/
def mBal (J : tkI) (K : tkL) (i : Nat) (d : Int64) : Int64 := d + (if J 5 i = -1 then K 15 i else if J 6 i = -1 then -K 15 i else 0)
def mD1 (J : tkI) (i : Nat) (d : Int64) : Int64 := (d * 31 + (J 10 i).toInt64) * 31 + (J 11 i).toInt64
def mD2 (J : tkI) (i : Nat) (d : Int64) : Int64 := d * 31 + (if J 13 i = 0 then 0 else 1)
def mD3 (J : tkI) (K : tkL) (i : Nat) (d : Int64) : Int64 := (((d * 31 + (J 14 i).toInt64) * 31 + K 15 i) * 31 + K 16 i) * 31 + K 17 i
def mDig (nt ns np : Nat) (J : tkI) (K : tkL) : Int64 :=
  itr (mD3 J K) np (itr (mD2 J) ns (itr (mD1 J) nt (((((2077 + K 0 21) * 31 + (J 0 1).toInt64) * 31 + (J 0 3).toInt64) * 31 + (J 0 7).toInt64) * 31 + (J 0 26).toInt64))) * 31 + K 0 22
theorem c_X6_balance (hM : tkReg 21 mT mF σ r) {nt ns np : Nat} (hW : wM nt ns np J) :
    tkCon false (.code yX6_balance cX6_balance 4 (some .long)) yX6_balance 2 [.ref r] σ (reg r 21 J v) (reg r 21 K w) 0 0 (.inl (some (.long (itr (mBal J K) np 0)))) σ (reg r 21 (mT0 J) v) (reg r 21 (K) w) := by
  refine tkCon.of (by decide) (Nat.le_of_ble_eq_true rfl) (fun X C => ?_)
  have hnp := hW.2.2.1
  refine g_aload_n C (i := 0) dX6_balance_0 rfl rfl ?_
  refine g_iconst C (0) dX6_balance_1 rfl ?_
  refine g_putI C 6 0 (RX6, TX6, 29) dX6_balance_2 (hM.1 0 (by decide)) (tk2_reg (k := 0) (by decide)) ml_X6_72 rfl (by decide) rfl rfl ?_
  refine g_lconst C 0 dX6_balance_5 rfl ?_
  refine g_lstore_n C (i := 1) dX6_balance_6 rfl (by decide) ?_
  refine g_iconst C (0) dX6_balance_7 rfl ?_
  refine g_istore_n C (i := 3) dX6_balance_8 rfl (by decide) ?_
  have key : ∀ k i, k + i = np → tkG X (tkQ false X 0 0 (.inl (some (.long (itr (mBal J K) np 0)))) σ (reg r 21 (mT0 J) v) (reg r 21 K w)) 0 0 9 [some (.ref r), some (.long (itr (mBal J K) i 0)), none, some (.int (nI i))] [] σ (reg r 21 (mT0 J) v) (reg r 21 K w) := by
    intro k
    induction k with
    | zero =>
      intro i hi
      obtain rfl : i = np := by omega
      refine g_iload_n C (i := 3) dX6_balance_9 rfl rfl ?_
      refine g_aload_n C (i := 0) dX6_balance_10 rfl rfl ?_
      refine g_getI C 6 7 (RX6, TX6, 29) dX6_balance_11 (hM.1 0 (by decide)) (reg_at (k := 0) (by decide)) ml_X6_82 rfl (by decide) (Or.inl rfl) ?_
      rw [hW.t0.2.2.1.1]
      refine g_icmp_ge C 66 dX6_balance_14 (by decide) (fun h14 => ?_) (fun h14 => ?_)
      · refine g_lload_n C (i := 1) dX6_balance_66 rfl rfl ?_
        exact g_lreturn C dX6_balance_67 ⟨Nat.le_of_ble_eq_true rfl, Nat.le_of_ble_eq_true rfl⟩ (tkEnd.rf rfl rfl rfl)
      · exact absurd (Int32.le_refl _) h14
    | succ k ih =>
      intro i hi
      have ih1 := ih (i + 1) (by omega)
      rw [show itr (mBal J K) (i + 1) 0 = mBal J K i (itr (mBal J K) i 0) from rfl, mBal] at ih1
      refine g_iload_n C (i := 3) dX6_balance_9 rfl rfl ?_
      refine g_aload_n C (i := 0) dX6_balance_10 rfl rfl ?_
      refine g_getI C 6 7 (RX6, TX6, 29) dX6_balance_11 (hM.1 0 (by decide)) (reg_at (k := 0) (by decide)) ml_X6_82 rfl (by decide) (Or.inl rfl) ?_
      rw [hW.t0.2.2.1.1]
      refine g_icmp_ge C 66 dX6_balance_14 (by decide) (fun h14 => ?_) (fun h14 => ?_)
      · exact absurd h14 (nI_ge (by omega) (by omega))
      · refine g_lload_n C (i := 1) dX6_balance_17 rfl rfl ?_
        refine g_aload_n C (i := 0) dX6_balance_18 rfl rfl ?_
        refine g_getR C 6 8 (RX6, TX6, 29) dX6_balance_19 (hM.1 0 (by decide)) (hM.2 0 8 5 (by decide) rfl) ml_X6_22 rfl (by decide) rfl ?_
        refine g_iload_n C (i := 3) dX6_balance_22 rfl rfl ?_
        refine g_ia C dX6_balance_23 (hM.1 5 (by decide)) (reg_at (k := 5) (by decide)) rfl (by omega) (by decide) ?_
        refine g_iconst C (-1) dX6_balance_24 rfl ?_
        refine g_icmp_ne C 37 dX6_balance_25 (by decide) (fun h25 => ?_) (fun h25 => ?_)
        · refine g_aload_n C (i := 0) dX6_balance_37 rfl rfl ?_
          refine g_getR C 6 9 (RX6, TX6, 29) dX6_balance_38 (hM.1 0 (by decide)) (hM.2 0 9 6 (by decide) rfl) ml_X6_25 rfl (by decide) rfl ?_
          refine g_iload_n C (i := 3) dX6_balance_41 rfl rfl ?_
          refine g_ia C dX6_balance_42 (hM.1 6 (by decide)) (reg_at (k := 6) (by decide)) rfl (by omega) (by decide) ?_
          refine g_iconst C (-1) dX6_balance_43 rfl ?_
          refine g_icmp_ne C 57 dX6_balance_44 (by decide) (fun h44 => ?_) (fun h44 => ?_)
          · rw [if_neg (show ¬ J 5 i = -1 from h25), if_neg (show ¬ J 6 i = -1 from h44)] at ih1
            refine g_lconst C 0 dX6_balance_57 rfl ?_
            refine g_ladd C dX6_balance_58 ?_
            refine g_lstore_n C (i := 1) dX6_balance_59 rfl (by decide) ?_
            refine g_iinc C (i := 3) (nI (i + 1)) dX6_balance_60 rfl (nI_1 i) (by decide) ?_
            refine g_goto C 9 dX6_balance_63 (by decide) ?_
            exact ih1
          · rw [if_neg (show ¬ J 5 i = -1 from h25), if_pos (show J 6 i = -1 from h44)] at ih1
            refine g_aload_n C (i := 0) dX6_balance_47 rfl rfl ?_
            refine g_getR C 6 18 (RX6, TX6, 29) dX6_balance_48 (hM.1 0 (by decide)) (hM.2 0 18 15 (by decide) rfl) ml_X6_54 rfl (by decide) rfl ?_
            refine g_iload_n C (i := 3) dX6_balance_51 rfl rfl ?_
            refine g_la C dX6_balance_52 (hM.1 15 (by decide)) (reg_at (k := 15) (by decide)) rfl (by omega) (by decide) ?_
            refine g_lneg C dX6_balance_53 ?_
            refine g_goto C 58 dX6_balance_54 (by decide) ?_
            refine g_ladd C dX6_balance_58 ?_
            refine g_lstore_n C (i := 1) dX6_balance_59 rfl (by decide) ?_
            refine g_iinc C (i := 3) (nI (i + 1)) dX6_balance_60 rfl (nI_1 i) (by decide) ?_
            refine g_goto C 9 dX6_balance_63 (by decide) ?_
            exact ih1
        · rw [if_pos (show J 5 i = -1 from h25)] at ih1
          refine g_aload_n C (i := 0) dX6_balance_28 rfl rfl ?_
          refine g_getR C 6 18 (RX6, TX6, 29) dX6_balance_29 (hM.1 0 (by decide)) (hM.2 0 18 15 (by decide) rfl) ml_X6_54 rfl (by decide) rfl ?_
          refine g_iload_n C (i := 3) dX6_balance_32 rfl rfl ?_
          refine g_la C dX6_balance_33 (hM.1 15 (by decide)) (reg_at (k := 15) (by decide)) rfl (by omega) (by decide) ?_
          refine g_goto C 58 dX6_balance_34 (by decide) ?_
          refine g_ladd C dX6_balance_58 ?_
          refine g_lstore_n C (i := 1) dX6_balance_59 rfl (by decide) ?_
          refine g_iinc C (i := 3) (nI (i + 1)) dX6_balance_60 rfl (nI_1 i) (by decide) ?_
          refine g_goto C 9 dX6_balance_63 (by decide) ?_
          exact ih1
  exact key np 0 (by omega)
theorem c_X6_digest (hM : tkReg 21 mT mF σ r) {nt ns np : Nat} (hW : wM nt ns np J) :
    tkCon false (.code yX6_digest cX6_digest 4 (some .long)) yX6_digest 2 [.ref r] σ (reg r 21 J v) (reg r 21 K w) 0 0 (.inl (some (.long (mDig nt ns np J K)))) σ (reg r 21 (mT0 J) v) (reg r 21 (K) w) := by
  refine tkCon.of (by decide) (Nat.le_of_ble_eq_true rfl) (fun X C => ?_)
  have hnt := hW.1.2
  have hns := hW.2.1.2
  have hnp := hW.2.2.1.2
  obtain ⟨R, eR⟩ : ∃ R, mDig nt ns np J K = R := ⟨_, rfl⟩
  rw [eR]
  unfold mDig at eR
  have K135 : ∀ c3, itr (mD3 J K) np c3 * 31 + K 0 22 = R → ∀ k i, k + i = np → tkG X (tkQ false X 0 0 (.inl (some (.long R))) σ (reg r 21 (mT0 J) v) (reg r 21 K w)) 0 0 135 [some (.ref r), some (.long (itr (mD3 J K) i c3)), none, some (.int (nI i))] [] σ (reg r 21 (mT0 J) v) (reg r 21 K w) := by
    intro c3 eR k
    induction k with
    | zero =>
      intro i hi
      obtain rfl : i = np := by omega
      refine g_iload_n C (i := 3) dX6_digest_135 rfl rfl ?_
      refine g_aload_n C (i := 0) dX6_digest_136 rfl rfl ?_
      refine g_getI C 6 7 (RX6, TX6, 29) dX6_digest_137 (hM.1 0 (by decide)) (reg_at (k := 0) (by decide)) ml_X6_82 rfl (by decide) (Or.inl rfl) ?_
      rw [hW.t0.2.2.1.1]
      refine g_icmp_ge C 196 dX6_digest_140 (by decide) (fun h140 => ?_) (fun h140 => ?_)
      · refine g_lload_n C (i := 1) dX6_digest_196 rfl rfl ?_
        refine g_ldc2 C (31) dX6_digest_197 ml_X6_156 ?_
        refine g_lmul C dX6_digest_200 ?_
        refine g_aload_n C (i := 0) dX6_digest_201 rfl rfl ?_
        refine g_getL C 6 22 (RX6, TX6, 29) dX6_digest_202 (hM.1 0 (by decide)) (reg_at (k := 0) (by decide)) ml_X6_108 rfl (by decide) rfl ?_
        refine g_ladd C dX6_digest_205 ?_
        rw [show itr (mD3 J K) i c3 * 31 + (K 0 22) = R from eR]
        exact g_lreturn C dX6_digest_206 ⟨Nat.le_of_ble_eq_true rfl, Nat.le_of_ble_eq_true rfl⟩ (tkEnd.rf rfl rfl rfl)
      · exact absurd (Int32.le_refl _) h140
    | succ k ih =>
      intro i hi
      have ih1 := ih (i + 1) (by omega)
      refine g_iload_n C (i := 3) dX6_digest_135 rfl rfl ?_
      refine g_aload_n C (i := 0) dX6_digest_136 rfl rfl ?_
      refine g_getI C 6 7 (RX6, TX6, 29) dX6_digest_137 (hM.1 0 (by decide)) (reg_at (k := 0) (by decide)) ml_X6_82 rfl (by decide) (Or.inl rfl) ?_
      rw [hW.t0.2.2.1.1]
      refine g_icmp_ge C 196 dX6_digest_140 (by decide) (fun h140 => ?_) (fun h140 => ?_)
      · exact absurd h140 (nI_ge (by omega) (by omega))
      · refine g_lload_n C (i := 1) dX6_digest_143 rfl rfl ?_
        refine g_ldc2 C (31) dX6_digest_144 ml_X6_156 ?_
        refine g_lmul C dX6_digest_147 ?_
        refine g_aload_n C (i := 0) dX6_digest_148 rfl rfl ?_
        refine g_getR C 6 17 (RX6, TX6, 29) dX6_digest_149 (hM.1 0 (by decide)) (hM.2 0 17 14 (by decide) rfl) ml_X6_51 rfl (by decide) rfl ?_
        refine g_iload_n C (i := 3) dX6_digest_152 rfl rfl ?_
        refine g_ia C dX6_digest_153 (hM.1 14 (by decide)) (reg_at (k := 14) (by decide)) rfl (by omega) (by decide) ?_
        refine g_i2l C dX6_digest_154 ?_
        refine g_ladd C dX6_digest_155 ?_
        refine g_ldc2 C (31) dX6_digest_156 ml_X6_156 ?_
        refine g_lmul C dX6_digest_159 ?_
        refine g_aload_n C (i := 0) dX6_digest_160 rfl rfl ?_
        refine g_getR C 6 18 (RX6, TX6, 29) dX6_digest_161 (hM.1 0 (by decide)) (hM.2 0 18 15 (by decide) rfl) ml_X6_54 rfl (by decide) rfl ?_
        refine g_iload_n C (i := 3) dX6_digest_164 rfl rfl ?_
        refine g_la C dX6_digest_165 (hM.1 15 (by decide)) (reg_at (k := 15) (by decide)) rfl (by omega) (by decide) ?_
        refine g_ladd C dX6_digest_166 ?_
        refine g_ldc2 C (31) dX6_digest_167 ml_X6_156 ?_
        refine g_lmul C dX6_digest_170 ?_
        refine g_aload_n C (i := 0) dX6_digest_171 rfl rfl ?_
        refine g_getR C 6 19 (RX6, TX6, 29) dX6_digest_172 (hM.1 0 (by decide)) (hM.2 0 19 16 (by decide) rfl) ml_X6_57 rfl (by decide) rfl ?_
        refine g_iload_n C (i := 3) dX6_digest_175 rfl rfl ?_
        refine g_la C dX6_digest_176 (hM.1 16 (by decide)) (reg_at (k := 16) (by decide)) rfl (by omega) (by decide) ?_
        refine g_ladd C dX6_digest_177 ?_
        refine g_ldc2 C (31) dX6_digest_178 ml_X6_156 ?_
        refine g_lmul C dX6_digest_181 ?_
        refine g_aload_n C (i := 0) dX6_digest_182 rfl rfl ?_
        refine g_getR C 6 20 (RX6, TX6, 29) dX6_digest_183 (hM.1 0 (by decide)) (hM.2 0 20 17 (by decide) rfl) ml_X6_60 rfl (by decide) rfl ?_
        refine g_iload_n C (i := 3) dX6_digest_186 rfl rfl ?_
        refine g_la C dX6_digest_187 (hM.1 17 (by decide)) (reg_at (k := 17) (by decide)) rfl (by omega) (by decide) ?_
        refine g_ladd C dX6_digest_188 ?_
        refine g_lstore_n C (i := 1) dX6_digest_189 rfl (by decide) ?_
        refine g_iinc C (i := 3) (nI (i + 1)) dX6_digest_190 rfl (nI_1 i) (by decide) ?_
        refine g_goto C 135 dX6_digest_193 (by decide) ?_
        exact ih1
  have K98 : ∀ c2, itr (mD3 J K) np (itr (mD2 J) ns c2) * 31 + K 0 22 = R → ∀ k i, k + i = ns → tkG X (tkQ false X 0 0 (.inl (some (.long R))) σ (reg r 21 (mT0 J) v) (reg r 21 K w)) 0 0 98 [some (.ref r), some (.long (itr (mD2 J) i c2)), none, some (.int (nI i))] [] σ (reg r 21 (mT0 J) v) (reg r 21 K w) := by
    intro c2 eR k
    induction k with
    | zero =>
      intro i hi
      obtain rfl : i = ns := by omega
      refine g_iload_n C (i := 3) dX6_digest_98 rfl rfl ?_
      refine g_aload_n C (i := 0) dX6_digest_99 rfl rfl ?_
      refine g_getI C 6 3 (RX6, TX6, 29) dX6_digest_100 (hM.1 0 (by decide)) (reg_at (k := 0) (by decide)) ml_X6_79 rfl (by decide) (Or.inl rfl) ?_
      rw [hW.t0.2.1.1]
      refine g_icmp_ge C 133 dX6_digest_103 (by decide) (fun h103 => ?_) (fun h103 => ?_)
      · refine g_iconst C (0) dX6_digest_133 rfl ?_
        refine g_istore_n C (i := 3) dX6_digest_134 rfl (by decide) ?_
        exact K135 _ eR np 0 (by omega)
      · exact absurd (Int32.le_refl _) h103
    | succ k ih =>
      intro i hi
      have ih1 := ih (i + 1) (by omega)
      refine g_iload_n C (i := 3) dX6_digest_98 rfl rfl ?_
      refine g_aload_n C (i := 0) dX6_digest_99 rfl rfl ?_
      refine g_getI C 6 3 (RX6, TX6, 29) dX6_digest_100 (hM.1 0 (by decide)) (reg_at (k := 0) (by decide)) ml_X6_79 rfl (by decide) (Or.inl rfl) ?_
      rw [hW.t0.2.1.1]
      refine g_icmp_ge C 133 dX6_digest_103 (by decide) (fun h103 => ?_) (fun h103 => ?_)
      · exact absurd h103 (nI_ge (by omega) (by omega))
      · refine g_lload_n C (i := 1) dX6_digest_106 rfl rfl ?_
        refine g_ldc2 C (31) dX6_digest_107 ml_X6_156 ?_
        refine g_lmul C dX6_digest_110 ?_
        refine g_aload_n C (i := 0) dX6_digest_111 rfl rfl ?_
        refine g_getR C 6 16 (RX6, TX6, 29) dX6_digest_112 (hM.1 0 (by decide)) (hM.2 0 16 13 (by decide) rfl) ml_X6_48 rfl (by decide) rfl ?_
        refine g_iload_n C (i := 3) dX6_digest_115 rfl rfl ?_
        refine g_za C dX6_digest_116 (hM.1 13 (by decide)) (reg_at (k := 13) (by decide)) rfl (by omega) (by decide) (fun _ => ?_)
        refine g_if_eq C 124 dX6_digest_117 (by decide) (fun h117 => ?_) (fun h117 => ?_)
        · rw [show itr (mD2 J) (i + 1) c2 = itr (mD2 J) i c2 * 31 + (if J 13 i = 0 then 0 else 1) from rfl, if_pos (show J 13 i = 0 from h117)] at ih1
          refine g_lconst C 0 dX6_digest_124 rfl ?_
          refine g_ladd C dX6_digest_125 ?_
          refine g_lstore_n C (i := 1) dX6_digest_126 rfl (by decide) ?_
          refine g_iinc C (i := 3) (nI (i + 1)) dX6_digest_127 rfl (nI_1 i) (by decide) ?_
          refine g_goto C 98 dX6_digest_130 (by decide) ?_
          exact ih1
        · rw [show itr (mD2 J) (i + 1) c2 = itr (mD2 J) i c2 * 31 + (if J 13 i = 0 then 0 else 1) from rfl, if_neg (show ¬ J 13 i = 0 from h117)] at ih1
          refine g_lconst C 1 dX6_digest_120 rfl ?_
          refine g_goto C 125 dX6_digest_121 (by decide) ?_
          refine g_ladd C dX6_digest_125 ?_
          refine g_lstore_n C (i := 1) dX6_digest_126 rfl (by decide) ?_
          refine g_iinc C (i := 3) (nI (i + 1)) dX6_digest_127 rfl (nI_1 i) (by decide) ?_
          refine g_goto C 98 dX6_digest_130 (by decide) ?_
          exact ih1
  have K56 : ∀ c1, itr (mD3 J K) np (itr (mD2 J) ns (itr (mD1 J) nt c1)) * 31 + K 0 22 = R → ∀ k i, k + i = nt → tkG X (tkQ false X 0 0 (.inl (some (.long R))) σ (reg r 21 (mT0 J) v) (reg r 21 K w)) 0 0 56 [some (.ref r), some (.long (itr (mD1 J) i c1)), none, some (.int (nI i))] [] σ (reg r 21 (mT0 J) v) (reg r 21 K w) := by
    intro c1 eR k
    induction k with
    | zero =>
      intro i hi
      obtain rfl : i = nt := by omega
      refine g_iload_n C (i := 3) dX6_digest_56 rfl rfl ?_
      refine g_aload_n C (i := 0) dX6_digest_57 rfl rfl ?_
      refine g_getI C 6 1 (RX6, TX6, 29) dX6_digest_58 (hM.1 0 (by decide)) (reg_at (k := 0) (by decide)) ml_X6_76 rfl (by decide) (Or.inl rfl) ?_
      rw [hW.t0.1.1]
      refine g_icmp_ge C 96 dX6_digest_61 (by decide) (fun h61 => ?_) (fun h61 => ?_)
      · refine g_iconst C (0) dX6_digest_96 rfl ?_
        refine g_istore_n C (i := 3) dX6_digest_97 rfl (by decide) ?_
        exact K98 _ eR ns 0 (by omega)
      · exact absurd (Int32.le_refl _) h61
    | succ k ih =>
      intro i hi
      have ih1 := ih (i + 1) (by omega)
      refine g_iload_n C (i := 3) dX6_digest_56 rfl rfl ?_
      refine g_aload_n C (i := 0) dX6_digest_57 rfl rfl ?_
      refine g_getI C 6 1 (RX6, TX6, 29) dX6_digest_58 (hM.1 0 (by decide)) (reg_at (k := 0) (by decide)) ml_X6_76 rfl (by decide) (Or.inl rfl) ?_
      rw [hW.t0.1.1]
      refine g_icmp_ge C 96 dX6_digest_61 (by decide) (fun h61 => ?_) (fun h61 => ?_)
      · exact absurd h61 (nI_ge (by omega) (by omega))
      · refine g_lload_n C (i := 1) dX6_digest_64 rfl rfl ?_
        refine g_ldc2 C (31) dX6_digest_65 ml_X6_156 ?_
        refine g_lmul C dX6_digest_68 ?_
        refine g_aload_n C (i := 0) dX6_digest_69 rfl rfl ?_
        refine g_getR C 6 13 (RX6, TX6, 29) dX6_digest_70 (hM.1 0 (by decide)) (hM.2 0 13 10 (by decide) rfl) ml_X6_38 rfl (by decide) rfl ?_
        refine g_iload_n C (i := 3) dX6_digest_73 rfl rfl ?_
        refine g_ia C dX6_digest_74 (hM.1 10 (by decide)) (reg_at (k := 10) (by decide)) rfl (by omega) (by decide) ?_
        refine g_i2l C dX6_digest_75 ?_
        refine g_ladd C dX6_digest_76 ?_
        refine g_ldc2 C (31) dX6_digest_77 ml_X6_156 ?_
        refine g_lmul C dX6_digest_80 ?_
        refine g_aload_n C (i := 0) dX6_digest_81 rfl rfl ?_
        refine g_getR C 6 14 (RX6, TX6, 29) dX6_digest_82 (hM.1 0 (by decide)) (hM.2 0 14 11 (by decide) rfl) ml_X6_41 rfl (by decide) rfl ?_
        refine g_iload_n C (i := 3) dX6_digest_85 rfl rfl ?_
        refine g_ia C dX6_digest_86 (hM.1 11 (by decide)) (reg_at (k := 11) (by decide)) rfl (by omega) (by decide) ?_
        refine g_i2l C dX6_digest_87 ?_
        refine g_ladd C dX6_digest_88 ?_
        refine g_lstore_n C (i := 1) dX6_digest_89 rfl (by decide) ?_
        refine g_iinc C (i := 3) (nI (i + 1)) dX6_digest_90 rfl (nI_1 i) (by decide) ?_
        refine g_goto C 56 dX6_digest_93 (by decide) ?_
        exact ih1
  refine g_aload_n C (i := 0) dX6_digest_0 rfl rfl ?_
  refine g_iconst C (0) dX6_digest_1 rfl ?_
  refine g_putI C 6 0 (RX6, TX6, 29) dX6_digest_2 (hM.1 0 (by decide)) (tk2_reg (k := 0) (by decide)) ml_X6_72 rfl (by decide) rfl rfl ?_
  refine g_ldc2 C (2077) dX6_digest_5 ml_X6_154 ?_
  refine g_aload_n C (i := 0) dX6_digest_8 rfl rfl ?_
  refine g_getL C 6 21 (RX6, TX6, 29) dX6_digest_9 (hM.1 0 (by decide)) (reg_at (k := 0) (by decide)) ml_X6_104 rfl (by decide) rfl ?_
  refine g_ladd C dX6_digest_12 ?_
  refine g_ldc2 C (31) dX6_digest_13 ml_X6_156 ?_
  refine g_lmul C dX6_digest_16 ?_
  refine g_aload_n C (i := 0) dX6_digest_17 rfl rfl ?_
  refine g_getI C 6 1 (RX6, TX6, 29) dX6_digest_18 (hM.1 0 (by decide)) (reg_at (k := 0) (by decide)) ml_X6_76 rfl (by decide) (Or.inl rfl) ?_
  refine g_i2l C dX6_digest_21 ?_
  refine g_ladd C dX6_digest_22 ?_
  refine g_ldc2 C (31) dX6_digest_23 ml_X6_156 ?_
  refine g_lmul C dX6_digest_26 ?_
  refine g_aload_n C (i := 0) dX6_digest_27 rfl rfl ?_
  refine g_getI C 6 3 (RX6, TX6, 29) dX6_digest_28 (hM.1 0 (by decide)) (reg_at (k := 0) (by decide)) ml_X6_79 rfl (by decide) (Or.inl rfl) ?_
  refine g_i2l C dX6_digest_31 ?_
  refine g_ladd C dX6_digest_32 ?_
  refine g_ldc2 C (31) dX6_digest_33 ml_X6_156 ?_
  refine g_lmul C dX6_digest_36 ?_
  refine g_aload_n C (i := 0) dX6_digest_37 rfl rfl ?_
  refine g_getI C 6 7 (RX6, TX6, 29) dX6_digest_38 (hM.1 0 (by decide)) (reg_at (k := 0) (by decide)) ml_X6_82 rfl (by decide) (Or.inl rfl) ?_
  refine g_i2l C dX6_digest_41 ?_
  refine g_ladd C dX6_digest_42 ?_
  refine g_ldc2 C (31) dX6_digest_43 ml_X6_156 ?_
  refine g_lmul C dX6_digest_46 ?_
  refine g_aload_n C (i := 0) dX6_digest_47 rfl rfl ?_
  refine g_getI C 6 26 (RX6, TX6, 29) dX6_digest_48 (hM.1 0 (by decide)) (reg_at (k := 0) (by decide)) ml_X6_151 rfl (by decide) (Or.inl rfl) ?_
  refine g_i2l C dX6_digest_51 ?_
  refine g_ladd C dX6_digest_52 ?_
  refine g_lstore_n C (i := 1) dX6_digest_53 rfl (by decide) ?_
  show tkG X _ _ _ 54 [some (.ref r), some (.long _), none, _] _ _ _ _
  refine g_iconst C (0) dX6_digest_54 rfl ?_
  refine g_istore_n C (i := 3) dX6_digest_55 rfl (by decide) ?_
  exact K56 _ eR nt 0 (by omega)
theorem c_X6_meanLevel (hM : tkReg 21 mT mF σ r) {nt ns np : Nat} (hW : wM nt ns np J) (i : Int32) (hne : ¬ K 0 21 = 0 → vf_n64 (FP.ddiv (FP.l2d (K 12 i.toNatClampNeg)) (FP.l2d (K 0 21)))) :
    tkCon false (.code yX6_meanLevel cX6_meanLevel 2 (some .double)) yX6_meanLevel 2 [.ref r, .int i] σ (reg r 21 J v) (reg r 21 K w) 0 0 (.inl (some (.double (if off i nt then FP.i2d 0 else if K 0 21 = 0 then FP.i2d (J 10 i.toNatClampNeg) else FP.ddiv (FP.l2d (K 12 i.toNatClampNeg)) (FP.l2d (K 0 21)))))) σ (reg r 21 (if off i nt then mTh 1 J else mT0 J) v) (reg r 21 (K) w) := by
  refine tkCon.of (by decide) (Nat.le_of_ble_eq_true rfl) (fun X C => ?_)
  have hnt := hW.1.2
  refine g_aload_n C (i := 0) dX6_meanLevel_0 rfl rfl ?_
  refine g_iconst C (0) dX6_meanLevel_1 rfl ?_
  refine g_putI C 6 0 (RX6, TX6, 29) dX6_meanLevel_2 (hM.1 0 (by decide)) (tk2_reg (k := 0) (by decide)) ml_X6_72 rfl (by decide) rfl rfl ?_
  refine g_aload_n C (i := 0) dX6_meanLevel_5 rfl rfl ?_
  refine g_iload_n C (i := 1) dX6_meanLevel_6 rfl rfl ?_
  refine g_callV C (q := (RX6, TX6, 29)) (rest := _) dX6_meanLevel_7 mm_X6_isTank ml_X6_91 mv_yX6_isTank ms_yX6_isTank (c_X6_isTank (J := mT0 J) hM hW.1.1 i) rfl (hM.1 0 (by decide)) rfl rfl ⟨by decide, Nat.le_of_ble_eq_true rfl, Nat.le_of_ble_eq_true rfl, Nat.le_of_ble_eq_true rfl⟩ (tk_retv ?_) tk_nothr
  refine g_if_ne C 20 dX6_meanLevel_10 (by decide) (fun h10 => ?_) (fun h10 => ?_)
  · have h := offB_nz h10
    rw [if_neg h, if_neg h]
    obtain ⟨j, hj, rfl⟩ := off_not (by omega) h
    rw [nI_clamp (by omega)] at hne ⊢
    refine g_aload_n C (i := 0) dX6_meanLevel_20 rfl rfl ?_
    refine g_getL C 6 21 (RX6, TX6, 29) dX6_meanLevel_21 (hM.1 0 (by decide)) (reg_at (k := 0) (by decide)) ml_X6_104 rfl (by decide) rfl ?_
    refine g_lconst C 0 dX6_meanLevel_24 rfl ?_
    refine g_lcmp C dX6_meanLevel_25 ?_
    refine g_if_ne C 39 dX6_meanLevel_26 (by decide) (fun h26 => ?_) (fun h26 => ?_)
    · have h26 : ¬ K 0 21 = 0 := fun z => h26 ((lg_cmp_eq _ _).mpr z)
      rw [if_neg h26]
      refine g_aload_n C (i := 0) dX6_meanLevel_39 rfl rfl ?_
      refine g_getR C 6 15 (RX6, TX6, 29) dX6_meanLevel_40 (hM.1 0 (by decide)) (hM.2 0 15 12 (by decide) rfl) ml_X6_44 rfl (by decide) rfl ?_
      refine g_iload_n C (i := 1) dX6_meanLevel_43 rfl rfl ?_
      refine g_la C dX6_meanLevel_44 (hM.1 12 (by decide)) (reg_at (k := 12) (by decide)) rfl (by omega) (by decide) ?_
      refine g_l2d C dX6_meanLevel_45 ?_
      refine g_aload_n C (i := 0) dX6_meanLevel_46 rfl rfl ?_
      refine g_getL C 6 21 (RX6, TX6, 29) dX6_meanLevel_47 (hM.1 0 (by decide)) (reg_at (k := 0) (by decide)) ml_X6_104 rfl (by decide) rfl ?_
      refine g_l2d C dX6_meanLevel_50 ?_
      refine g_ddiv C dX6_meanLevel_51 (hne h26) ?_
      exact g_dreturn C dX6_meanLevel_52 ⟨Nat.le_of_ble_eq_true rfl, Nat.le_of_ble_eq_true rfl⟩ (tkEnd.rf rfl rfl rfl)
    · have h26 : K 0 21 = 0 := (lg_cmp_eq _ _).mp h26
      rw [if_pos h26]
      refine g_aload_n C (i := 0) dX6_meanLevel_29 rfl rfl ?_
      refine g_getR C 6 13 (RX6, TX6, 29) dX6_meanLevel_30 (hM.1 0 (by decide)) (hM.2 0 13 10 (by decide) rfl) ml_X6_38 rfl (by decide) rfl ?_
      refine g_iload_n C (i := 1) dX6_meanLevel_33 rfl rfl ?_
      refine g_ia C dX6_meanLevel_34 (hM.1 10 (by decide)) (reg_at (k := 10) (by decide)) rfl (by omega) (by decide) ?_
      refine g_i2d C dX6_meanLevel_35 ?_
      refine g_goto C 52 dX6_meanLevel_36 (by decide) ?_
      exact g_dreturn C dX6_meanLevel_52 ⟨Nat.le_of_ble_eq_true rfl, Nat.le_of_ble_eq_true rfl⟩ (tkEnd.rf rfl rfl rfl)
  · rw [if_pos (offB_z h10), if_pos (offB_z h10)]
    refine g_aload_n C (i := 0) dX6_meanLevel_13 rfl rfl ?_
    refine g_iconst C (1) dX6_meanLevel_14 rfl ?_
    refine g_callV C (q := (RX6, TX6, 29)) (rest := _) dX6_meanLevel_15 mm_X6_fail ml_X6_87 mv_yX6_fail ms_yX6_fail (c_X6_fail (J := mT0 J) hM 1) rfl (hM.1 0 (by decide)) rfl rfl ⟨by decide, Nat.le_of_ble_eq_true rfl, Nat.le_of_ble_eq_true rfl, Nat.le_of_ble_eq_true rfl⟩ (tk_retv ?_) tk_nothr
    refine g_i2d C dX6_meanLevel_18 ?_
    exact g_dreturn C dX6_meanLevel_19 ⟨Nat.le_of_ble_eq_true rfl, Nat.le_of_ble_eq_true rfl⟩ (tkEnd.rf rfl rfl rfl)
def rMo (r : Nat) (R : Nat → Nat → Option Nat) : Nat → Nat → Option Nat := (al r 0 27 20 (al r 0 25 19 (al r 0 24 18 (al r 0 20 17 (al r 0 19 16 (al r 0 18 15 (al r 0 17 14 (al r 0 16 13 (al r 0 15 12 (al r 0 14 11 (al r 0 13 10 (al r 0 12 9 (al r 0 11 8 (al r 0 10 7 (al r 0 9 6 (al r 0 8 5 (al r 0 6 4 (al r 0 5 3 (al r 0 4 2 (al r 0 2 1 R))))))))))))))))))))
theorem c_X6_init {S : Nat → Nat × Nat} {R V : Nat → Nat → Option Nat} {I : tkI} {L : tkL} :
    tkCon false (.code yX6_init cX6_init 1 none) yX6_init 2 [.ref (r + 0)] (bM r 1 mT S R V) (reg r 1 zI I) (reg r 1 zL L) 20 1096 (.inl none) (bM r 21 mT S (rMo r R) V) (reg r 21 zI I) (reg r 21 zL L) := by
  refine tkCon.of (by decide) (Nat.le_of_ble_eq_true rfl) (fun X C => ?_)
  refine g_aload_n C (i := 0) dX6_init_0 rfl rfl ?_
  refine g_objInit C dX6_init_1 ml_X6_3 mv_objectInit mc_objectInit (by decide) (Nat.le_of_ble_eq_true rfl) ?_
  refine g_aload_n C (i := 0) dX6_init_4 rfl rfl ?_
  refine g_bipush C (8) dX6_init_5 rfl ?_
  refine b_newa_i C 8 dX6_init_7 rfl ma_int (by decide) (by decide) (by decide) (Nat.le_of_ble_eq_true rfl) (Nat.le_of_ble_eq_true rfl) ?_
  refine b_putF C (k := 0) (j := 2) (b0 := r + 1) (RX6, TX6, 29) dX6_init_9 rfl (by decide) ml_X6_9 rfl (by decide) ⟨rfl, rfl, rfl⟩ rfl ?_
  refine g_aload_n C (i := 0) dX6_init_12 rfl rfl ?_
  refine g_bipush C (10) dX6_init_13 rfl ?_
  refine b_newa_i C 10 dX6_init_15 rfl ma_int (by decide) (by decide) (by decide) (Nat.le_of_ble_eq_true rfl) (Nat.le_of_ble_eq_true rfl) ?_
  refine b_putF C (k := 0) (j := 4) (b0 := r + 2) (RX6, TX6, 29) dX6_init_17 rfl (by decide) ml_X6_13 rfl (by decide) ⟨rfl, rfl, rfl⟩ rfl ?_
  refine g_aload_n C (i := 0) dX6_init_20 rfl rfl ?_
  refine g_bipush C (10) dX6_init_21 rfl ?_
  refine b_newa_i C 10 dX6_init_23 rfl ma_int (by decide) (by decide) (by decide) (Nat.le_of_ble_eq_true rfl) (Nat.le_of_ble_eq_true rfl) ?_
  refine b_putF C (k := 0) (j := 5) (b0 := r + 3) (RX6, TX6, 29) dX6_init_25 rfl (by decide) ml_X6_16 rfl (by decide) ⟨rfl, rfl, rfl⟩ rfl ?_
  refine g_aload_n C (i := 0) dX6_init_28 rfl rfl ?_
  refine g_bipush C (10) dX6_init_29 rfl ?_
  refine b_newa_i C 10 dX6_init_31 rfl ma_int (by decide) (by decide) (by decide) (Nat.le_of_ble_eq_true rfl) (Nat.le_of_ble_eq_true rfl) ?_
  refine b_putF C (k := 0) (j := 6) (b0 := r + 4) (RX6, TX6, 29) dX6_init_33 rfl (by decide) ml_X6_19 rfl (by decide) ⟨rfl, rfl, rfl⟩ rfl ?_
  refine g_aload_n C (i := 0) dX6_init_36 rfl rfl ?_
  refine g_bipush C (16) dX6_init_37 rfl ?_
  refine b_newa_i C 16 dX6_init_39 rfl ma_int (by decide) (by decide) (by decide) (Nat.le_of_ble_eq_true rfl) (Nat.le_of_ble_eq_true rfl) ?_
  refine b_putF C (k := 0) (j := 8) (b0 := r + 5) (RX6, TX6, 29) dX6_init_41 rfl (by decide) ml_X6_22 rfl (by decide) ⟨rfl, rfl, rfl⟩ rfl ?_
  refine g_aload_n C (i := 0) dX6_init_44 rfl rfl ?_
  refine g_bipush C (16) dX6_init_45 rfl ?_
  refine b_newa_i C 16 dX6_init_47 rfl ma_int (by decide) (by decide) (by decide) (Nat.le_of_ble_eq_true rfl) (Nat.le_of_ble_eq_true rfl) ?_
  refine b_putF C (k := 0) (j := 9) (b0 := r + 6) (RX6, TX6, 29) dX6_init_49 rfl (by decide) ml_X6_25 rfl (by decide) ⟨rfl, rfl, rfl⟩ rfl ?_
  refine g_aload_n C (i := 0) dX6_init_52 rfl rfl ?_
  refine g_bipush C (16) dX6_init_53 rfl ?_
  refine b_newa_i C 16 dX6_init_55 rfl ma_int (by decide) (by decide) (by decide) (Nat.le_of_ble_eq_true rfl) (Nat.le_of_ble_eq_true rfl) ?_
  refine b_putF C (k := 0) (j := 10) (b0 := r + 7) (RX6, TX6, 29) dX6_init_57 rfl (by decide) ml_X6_28 rfl (by decide) ⟨rfl, rfl, rfl⟩ rfl ?_
  refine g_aload_n C (i := 0) dX6_init_60 rfl rfl ?_
  refine g_bipush C (16) dX6_init_61 rfl ?_
  refine b_newa_i C 16 dX6_init_63 rfl ma_int (by decide) (by decide) (by decide) (Nat.le_of_ble_eq_true rfl) (Nat.le_of_ble_eq_true rfl) ?_
  refine b_putF C (k := 0) (j := 11) (b0 := r + 8) (RX6, TX6, 29) dX6_init_65 rfl (by decide) ml_X6_31 rfl (by decide) ⟨rfl, rfl, rfl⟩ rfl ?_
  refine g_aload_n C (i := 0) dX6_init_68 rfl rfl ?_
  refine g_bipush C (16) dX6_init_69 rfl ?_
  refine b_newa_z C 16 dX6_init_71 rfl ma_boolean (by decide) (by decide) (by decide) (Nat.le_of_ble_eq_true rfl) (Nat.le_of_ble_eq_true rfl) ?_
  refine b_putF C (k := 0) (j := 12) (b0 := r + 9) (RX6, TX6, 29) dX6_init_73 rfl (by decide) ml_X6_34 rfl (by decide) ⟨rfl, rfl, rfl⟩ rfl ?_
  refine g_aload_n C (i := 0) dX6_init_76 rfl rfl ?_
  refine g_bipush C (8) dX6_init_77 rfl ?_
  refine b_newa_i C 8 dX6_init_79 rfl ma_int (by decide) (by decide) (by decide) (Nat.le_of_ble_eq_true rfl) (Nat.le_of_ble_eq_true rfl) ?_
  refine b_putF C (k := 0) (j := 13) (b0 := r + 10) (RX6, TX6, 29) dX6_init_81 rfl (by decide) ml_X6_38 rfl (by decide) ⟨rfl, rfl, rfl⟩ rfl ?_
  refine g_aload_n C (i := 0) dX6_init_84 rfl rfl ?_
  refine g_bipush C (8) dX6_init_85 rfl ?_
  refine b_newa_i C 8 dX6_init_87 rfl ma_int (by decide) (by decide) (by decide) (Nat.le_of_ble_eq_true rfl) (Nat.le_of_ble_eq_true rfl) ?_
  refine b_putF C (k := 0) (j := 14) (b0 := r + 11) (RX6, TX6, 29) dX6_init_89 rfl (by decide) ml_X6_41 rfl (by decide) ⟨rfl, rfl, rfl⟩ rfl ?_
  refine g_aload_n C (i := 0) dX6_init_92 rfl rfl ?_
  refine g_bipush C (8) dX6_init_93 rfl ?_
  refine b_newa_l C 8 dX6_init_95 rfl ma_long (by decide) (by decide) (by decide) (Nat.le_of_ble_eq_true rfl) (Nat.le_of_ble_eq_true rfl) ?_
  refine b_putF C (k := 0) (j := 15) (b0 := r + 12) (RX6, TX6, 29) dX6_init_97 rfl (by decide) ml_X6_44 rfl (by decide) ⟨rfl, rfl, rfl⟩ rfl ?_
  refine g_aload_n C (i := 0) dX6_init_100 rfl rfl ?_
  refine g_bipush C (10) dX6_init_101 rfl ?_
  refine b_newa_z C 10 dX6_init_103 rfl ma_boolean (by decide) (by decide) (by decide) (Nat.le_of_ble_eq_true rfl) (Nat.le_of_ble_eq_true rfl) ?_
  refine b_putF C (k := 0) (j := 16) (b0 := r + 13) (RX6, TX6, 29) dX6_init_105 rfl (by decide) ml_X6_48 rfl (by decide) ⟨rfl, rfl, rfl⟩ rfl ?_
  refine g_aload_n C (i := 0) dX6_init_108 rfl rfl ?_
  refine g_bipush C (16) dX6_init_109 rfl ?_
  refine b_newa_i C 16 dX6_init_111 rfl ma_int (by decide) (by decide) (by decide) (Nat.le_of_ble_eq_true rfl) (Nat.le_of_ble_eq_true rfl) ?_
  refine b_putF C (k := 0) (j := 17) (b0 := r + 14) (RX6, TX6, 29) dX6_init_113 rfl (by decide) ml_X6_51 rfl (by decide) ⟨rfl, rfl, rfl⟩ rfl ?_
  refine g_aload_n C (i := 0) dX6_init_116 rfl rfl ?_
  refine g_bipush C (16) dX6_init_117 rfl ?_
  refine b_newa_l C 16 dX6_init_119 rfl ma_long (by decide) (by decide) (by decide) (Nat.le_of_ble_eq_true rfl) (Nat.le_of_ble_eq_true rfl) ?_
  refine b_putF C (k := 0) (j := 18) (b0 := r + 15) (RX6, TX6, 29) dX6_init_121 rfl (by decide) ml_X6_54 rfl (by decide) ⟨rfl, rfl, rfl⟩ rfl ?_
  refine g_aload_n C (i := 0) dX6_init_124 rfl rfl ?_
  refine g_bipush C (16) dX6_init_125 rfl ?_
  refine b_newa_l C 16 dX6_init_127 rfl ma_long (by decide) (by decide) (by decide) (Nat.le_of_ble_eq_true rfl) (Nat.le_of_ble_eq_true rfl) ?_
  refine b_putF C (k := 0) (j := 19) (b0 := r + 16) (RX6, TX6, 29) dX6_init_129 rfl (by decide) ml_X6_57 rfl (by decide) ⟨rfl, rfl, rfl⟩ rfl ?_
  refine g_aload_n C (i := 0) dX6_init_132 rfl rfl ?_
  refine g_bipush C (16) dX6_init_133 rfl ?_
  refine b_newa_l C 16 dX6_init_135 rfl ma_long (by decide) (by decide) (by decide) (Nat.le_of_ble_eq_true rfl) (Nat.le_of_ble_eq_true rfl) ?_
  refine b_putF C (k := 0) (j := 20) (b0 := r + 17) (RX6, TX6, 29) dX6_init_137 rfl (by decide) ml_X6_60 rfl (by decide) ⟨rfl, rfl, rfl⟩ rfl ?_
  refine g_aload_n C (i := 0) dX6_init_140 rfl rfl ?_
  refine g_bipush C (30) dX6_init_141 rfl ?_
  refine b_newa_l C 30 dX6_init_143 rfl ma_long (by decide) (by decide) (by decide) (Nat.le_of_ble_eq_true rfl) (Nat.le_of_ble_eq_true rfl) ?_
  refine b_putF C (k := 0) (j := 24) (b0 := r + 18) (RX6, TX6, 29) dX6_init_145 rfl (by decide) ml_X6_63 rfl (by decide) ⟨rfl, rfl, rfl⟩ rfl ?_
  refine g_aload_n C (i := 0) dX6_init_148 rfl rfl ?_
  refine g_bipush C (30) dX6_init_149 rfl ?_
  refine b_newa_i C 30 dX6_init_151 rfl ma_int (by decide) (by decide) (by decide) (Nat.le_of_ble_eq_true rfl) (Nat.le_of_ble_eq_true rfl) ?_
  refine b_putF C (k := 0) (j := 25) (b0 := r + 19) (RX6, TX6, 29) dX6_init_153 rfl (by decide) ml_X6_66 rfl (by decide) ⟨rfl, rfl, rfl⟩ rfl ?_
  refine g_aload_n C (i := 0) dX6_init_156 rfl rfl ?_
  refine g_sipush C (820) dX6_init_157 rfl ?_
  refine b_newa_l C 820 dX6_init_160 rfl ma_long (by decide) (by decide) (by decide) (Nat.le_of_ble_eq_true rfl) (Nat.le_of_ble_eq_true rfl) ?_
  refine b_putF C (k := 0) (j := 27) (b0 := r + 20) (RX6, TX6, 29) dX6_init_162 rfl (by decide) ml_X6_69 rfl (by decide) ⟨rfl, rfl, rfl⟩ rfl ?_
  exact g_return C dX6_init_165 ⟨Nat.le_of_ble_eq_true rfl, Nat.le_of_ble_eq_true rfl⟩ (tkEnd.rf rfl rfl rfl)
end TKMRUN

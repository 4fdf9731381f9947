section TKMTICK
variable {σ : tkM} {r : Nat} {J v : tkI} {K w : tkL}
/-! the reference's tick -/
def mSh (k : Nat) (q : tkI × tkL) : tkI × tkL := (tk2 q.1 19 k (q.1 19 (k + 1)), tk2 q.2 18 k (q.2 18 (k + 1)))
def mPut (i : Int32) (s : Nat) (q : tkI × tkL) : tkI × tkL := (tk2 (tk2 q.1 19 s i) 0 23 (nI (s + 1)), tk2 (tk2 q.2 18 s (q.2 0 21)) 0 22 (q.2 0 22 + 1))
def mLog (i : Int32) (lg : Nat) (q : tkI × tkL) : tkI × tkL := if lg = 30 then mPut i 29 (itr mSh 29 (tk2 q.1 0 23 (nI 29), q.2)) else mPut i lg q
def mDue (J : tkI) (i : Nat) : Int32 := if J 10 (J 2 i).toNatClampNeg ≤ J 3 i then 1 else if J 4 i ≤ J 10 (J 2 i).toNatClampNeg then 0 else if J 13 i = 0 then 0 else 1
def mFol (i : Nat) (q : (tkI × tkL) × Int32) : (tkI × tkL) × Int32 :=
  if mDue q.1.1 i = q.1.1 13 i then q else (mLog (nI i) (q.1.1 0 23).toNatClampNeg (tk2 q.1.1 13 i (mDue q.1.1 i), q.1.2), q.2 + 1)
def mA1 (J : tkI) (i : Nat) : Int32 := if J 5 i = -1 then J 14 i else jmin (J 14 i) (J 10 (J 5 i).toNatClampNeg)
def mAmt (J : tkI) (i : Nat) : Int32 := if J 6 i = -1 then mA1 J i else jmin (mA1 J i) (J 1 (J 6 i).toNatClampNeg - J 10 (J 6 i).toNatClampNeg)
def mLv1 (m : Int32) (i : Nat) (J : tkI) : tkI := if J 5 i = -1 then J else tk2 J 10 (J 5 i).toNatClampNeg (J 10 (J 5 i).toNatClampNeg - m)
def mLv2 (m : Int32) (i : Nat) (J : tkI) : tkI := if J 6 i = -1 then J else tk2 J 10 (J 6 i).toNatClampNeg (J 10 (J 6 i).toNatClampNeg + m)
def mEnt (m : Int32) (i : Nat) (J : tkI) (K : tkL) : tkL :=
  tk2 (tk2 (tk2 K 15 i (K 15 i + m.toInt64)) 16 i (K 16 i + m.toInt64 * (J 7 i).toInt64)) 17 i (K 17 i + if J 14 i ≤ m then 0 else 1)
def mPump (i : Nat) (q : tkI × tkL) : tkI × tkL :=
  if ¬ q.1 8 i = -1 ∧ q.1 13 (q.1 8 i).toNatClampNeg = q.1 9 i then q else (mLv2 (mAmt q.1 i) i (mLv1 (mAmt q.1 i) i q.1), mEnt (mAmt q.1 i) i q.1 q.2)
def mLeak (i : Nat) (J : tkI) : tkI := tk2 J 10 i (J 10 i - jmin (J 11 i) (J 10 i))
def mSum (J : tkI) (i : Nat) (K : tkL) : tkL := tk2 K 12 i (K 12 i + (J 10 i).toInt64)
def mTick (nt ns np : Nat) (q : tkI × tkL) : (tkI × tkL) × Int32 :=
  let f := itr mFol ns (q, 0)
  let g := itr mPump np f.1
  let J2 := itr mLeak nt g.1
  ((J2, itr (mSum J2) nt (tk2 g.2 0 21 (g.2 0 21 + 1))), f.2)
/-! what stays in order -/
def wM (nt ns np : Nat) (J : tkI) : Prop := (J 0 1 = nI nt ∧ nt ≤ 8) ∧ (J 0 3 = nI ns ∧ ns ≤ 10) ∧ (J 0 7 = nI np ∧ np ≤ 16) ∧ (∀ i, i < ns → ∃ t, t < 8 ∧ J 2 i = nI t) ∧
  (∀ i, i < np → (J 5 i = -1 ∨ ∃ t, t < 8 ∧ J 5 i = nI t) ∧ (J 6 i = -1 ∨ ∃ t, t < 8 ∧ J 6 i = nI t) ∧ (J 8 i = -1 ∨ ∃ t, t < 10 ∧ J 8 i = nI t)) ∧ ∃ lg, lg ≤ 30 ∧ J 0 23 = nI lg
/-- what a tick leaves -/
def mK (J J' : tkI) : Prop := (∀ k, k ≠ 0 → k ≠ 10 → k ≠ 13 → k ≠ 19 → J' k = J k) ∧ ∀ c, c ≠ 23 → J' 0 c = J 0 c
theorem mK.rfl' (J : tkI) : mK J J := ⟨fun _ _ _ _ _ => rfl, fun _ _ => rfl⟩
theorem mK.trans {a b c : tkI} (h : mK a b) (g : mK b c) : mK a c := ⟨fun k h1 h2 h3 h4 => (g.1 k h1 h2 h3 h4).trans (h.1 k h1 h2 h3 h4), fun c h1 => (g.2 c h1).trans (h.2 c h1)⟩
theorem mK.put {J : tkI} {k i : Nat} {x : Int32} (h : (k = 0 ∧ i = 23) ∨ k = 10 ∨ k = 13 ∨ k = 19) : mK J (tk2 J k i x) :=
  ⟨fun a h1 h2 h3 h4 => by funext j; exact tk2_ne (by omega), fun c h1 => if_neg (by omega)⟩
theorem mK.itr {α : Type} {f : Nat → α → α} {g : α → tkI} (h : ∀ i a, mK (g a) (g (f i a))) : ∀ (n : Nat) (a : α), mK (g a) (g (itr f n a))
  | 0, a => mK.rfl' _
  | n + 1, a => (mK.itr h n a).trans (h n _)
theorem wM.keep {nt ns np : Nat} {J J' : tkI} (h : wM nt ns np J) (k : mK J J') (hl : ∃ lg, lg ≤ 30 ∧ J' 0 23 = nI lg) : wM nt ns np J' := by
  obtain ⟨h1, h2, h3, h4, h5, -⟩ := h
  refine ⟨⟨(k.2 1 (by decide)).trans h1.1, h1.2⟩, ⟨(k.2 3 (by decide)).trans h2.1, h2.2⟩, ⟨(k.2 7 (by decide)).trans h3.1, h3.2⟩, fun i hi => ?_, fun i hi => ?_, hl⟩
  · rw [k.1 2 (by decide) (by decide) (by decide) (by decide)]
    exact h4 i hi
  · rw [k.1 5 (by decide) (by decide) (by decide) (by decide), k.1 6 (by decide) (by decide) (by decide) (by decide), k.1 8 (by decide) (by decide) (by decide) (by decide)]
    exact h5 i hi
theorem mSh_keep (n : Nat) (q : tkI × tkL) : mK q.1 (itr mSh n q).1 := mK.itr (g := Prod.fst) (fun _ _ => mK.put (Or.inr (Or.inr (Or.inr rfl)))) n q
theorem mSh_23 (n : Nat) (q : tkI × tkL) : (itr mSh n q).1 0 23 = q.1 0 23 := by
  induction n with
  | zero => rfl
  | succ n ih => exact ih
theorem mPut_keep (i : Int32) (s : Nat) (q : tkI × tkL) : mK q.1 (mPut i s q).1 := (mK.put (Or.inr (Or.inr (Or.inr rfl)))).trans (mK.put (Or.inl ⟨rfl, rfl⟩))
theorem mLog_keep (i : Int32) (lg : Nat) (q : tkI × tkL) : mK q.1 (mLog i lg q).1 := by
  unfold mLog
  split
  · exact (mK.put (x := nI 29) (Or.inl ⟨rfl, rfl⟩)).trans ((mSh_keep 29 (tk2 q.1 0 23 (nI 29), q.2)).trans (mPut_keep _ _ _))
  · exact mPut_keep _ _ _
theorem mPut_23 (i : Int32) (s : Nat) (q : tkI × tkL) : (mPut i s q).1 0 23 = nI (s + 1) := by
  unfold mPut
  dsimp only
  exact tk2_at
theorem mLog_23 (i : Int32) {lg : Nat} (h : lg ≤ 30) (q : tkI × tkL) : ∃ l, l ≤ 30 ∧ (mLog i lg q).1 0 23 = nI l := by
  unfold mLog
  split
  · exact ⟨30, Nat.le_refl _, mPut_23 _ _ _⟩
  · exact ⟨lg + 1, by omega, mPut_23 _ _ _⟩
theorem mFol_keep (i : Nat) (q : (tkI × tkL) × Int32) : mK q.1.1 (mFol i q).1.1 := by
  unfold mFol
  split
  · exact mK.rfl' _
  · exact (mK.put (Or.inr (Or.inr (Or.inl rfl)))).trans (mLog_keep _ _ (tk2 q.1.1 13 i (mDue q.1.1 i), q.1.2))
theorem mFol_23 (i : Nat) (q : (tkI × tkL) × Int32) (h : ∃ l, l ≤ 30 ∧ q.1.1 0 23 = nI l) : ∃ l, l ≤ 30 ∧ (mFol i q).1.1 0 23 = nI l := by
  unfold mFol
  split
  · exact h
  · obtain ⟨l, h1, h2⟩ := h
    exact mLog_23 _ (by rw [h2, nI_clamp (by omega)]; exact h1) _
theorem wM.fol {nt ns np : Nat} {q : tkI × tkL} (h : wM nt ns np q.1) (i : Nat) : wM nt ns np (itr mFol i (q, 0)).1.1 :=
  h.keep (mK.itr (g := fun a : (tkI × tkL) × Int32 => a.1.1) mFol_keep i (q, 0)) (itr_inv (P := fun a : (tkI × tkL) × Int32 => ∃ l, l ≤ 30 ∧ a.1.1 0 23 = nI l) (n := i) (fun k a _ h => mFol_23 k a h) (Nat.le_refl _) h.2.2.2.2.2)
theorem mLv1_keep (m : Int32) (i : Nat) (J : tkI) : mK J (mLv1 m i J) ∧ mLv1 m i J 0 23 = J 0 23 := by
  unfold mLv1
  split
  · exact ⟨mK.rfl' _, rfl⟩
  · exact ⟨mK.put (Or.inr (Or.inl rfl)), rfl⟩
theorem mLv2_keep (m : Int32) (i : Nat) (J : tkI) : mK J (mLv2 m i J) ∧ mLv2 m i J 0 23 = J 0 23 := by
  unfold mLv2
  split
  · exact ⟨mK.rfl' _, rfl⟩
  · exact ⟨mK.put (Or.inr (Or.inl rfl)), rfl⟩
theorem mPump_keep (i : Nat) (q : tkI × tkL) : mK q.1 (mPump i q).1 ∧ (mPump i q).1 0 23 = q.1 0 23 := by
  unfold mPump
  split
  · exact ⟨mK.rfl' _, rfl⟩
  · exact ⟨(mLv1_keep _ i q.1).1.trans (mLv2_keep _ i _).1, (mLv2_keep _ i _).2.trans (mLv1_keep _ i q.1).2⟩
theorem wM.pump {nt ns np : Nat} {q : tkI × tkL} (h : wM nt ns np q.1) (i : Nat) : wM nt ns np (itr mPump i q).1 :=
  h.keep (mK.itr (g := Prod.fst) (fun i a => (mPump_keep i a).1) i q) (itr_inv (P := fun a : tkI × tkL => ∃ l, l ≤ 30 ∧ a.1 0 23 = nI l) (n := i) (fun k a _ h => by rw [(mPump_keep k a).2]; exact h) (Nat.le_refl _) h.2.2.2.2.2)
theorem wM.leak {nt ns np : Nat} {J : tkI} (h : wM nt ns np J) (i : Nat) : wM nt ns np (itr mLeak i J) :=
  h.keep (mK.itr (g := fun a => a) (fun i a => mK.put (Or.inr (Or.inl rfl))) i J) (itr_inv (f := mLeak) (P := fun a : tkI => ∃ l, l ≤ 30 ∧ a 0 23 = nI l) (n := i) (fun k a _ h => h) (Nat.le_refl _) h.2.2.2.2.2)
theorem wM.tick {nt ns np : Nat} {q : tkI × tkL} (h : wM nt ns np q.1) : wM nt ns np (mTick nt ns np q).1.1 := ((h.fol ns).pump np).leak nt
/-! the walks -/
theorem c_X6_log (hM : tkReg 21 mT mF σ r) {lg : Nat} (hc : J 0 23 = nI lg) (hlg : lg ≤ 30) (i : Int32) :
    tkCon false (.code yX6_log cX6_log 3 none) yX6_log 1 [.ref r, .int i] σ (reg r 21 J v) (reg r 21 K w) 0 0 (.inl none) σ (reg r 21 (mLog i lg (J, K)).1 v) (reg r 21 (mLog i lg (J, K)).2 w) := by
  obtain ⟨R, eR⟩ : ∃ R, mLog i lg (J, K) = R := ⟨_, rfl⟩
  rw [eR]
  unfold mLog at eR
  refine tkCon.of (by decide) (Nat.le_of_ble_eq_true rfl) (fun X C => ?_)
  have J63 : ∀ s J1 K1 lv2, s < 30 → J1 0 23 = nI s → mPut i s (J1, K1) = R → tkG X (tkQ false X 0 0 (.inl none) σ (reg r 21 R.1 v) (reg r 21 R.2 w)) 0 0 63 [some (.ref r), some (.int i), lv2] [] σ (reg r 21 J1 v) (reg r 21 K1 w) := by
    intro s J1 K1 lv2 hs h23 h
    subst h
    refine g_aload_n C (i := 0) dX6_log_63 rfl rfl ?_
    refine g_getR C 6 24 (RX6, TX6, 29) dX6_log_64 (hM.1 0 (by decide)) (hM.2 0 24 18 (by decide) rfl) ml_X6_63 rfl (by decide) rfl ?_
    refine g_aload_n C (i := 0) dX6_log_67 rfl rfl ?_
    refine g_getI C 6 23 (RX6, TX6, 29) dX6_log_68 (hM.1 0 (by decide)) (reg_at (k := 0) (by decide)) ml_X6_101 rfl (by decide) (Or.inl rfl) ?_
    refine g_aload_n C (i := 0) dX6_log_71 rfl rfl ?_
    refine g_getL C 6 21 (RX6, TX6, 29) dX6_log_72 (hM.1 0 (by decide)) (reg_at (k := 0) (by decide)) ml_X6_104 rfl (by decide) rfl ?_
    refine g_ls C dX6_log_75 (hM.1 18 (by decide)) (tk2_reg (k := 18) (by decide)) h23 (by omega) (by decide) ?_
    refine g_aload_n C (i := 0) dX6_log_76 rfl rfl ?_
    refine g_getR C 6 25 (RX6, TX6, 29) dX6_log_77 (hM.1 0 (by decide)) (hM.2 0 25 19 (by decide) rfl) ml_X6_66 rfl (by decide) rfl ?_
    refine g_aload_n C (i := 0) dX6_log_80 rfl rfl ?_
    refine g_getI C 6 23 (RX6, TX6, 29) dX6_log_81 (hM.1 0 (by decide)) (reg_at (k := 0) (by decide)) ml_X6_101 rfl (by decide) (Or.inl rfl) ?_
    refine g_iload_n C (i := 1) dX6_log_84 rfl rfl ?_
    refine g_is C dX6_log_85 (hM.1 19 (by decide)) (tk2_reg (k := 19) (by decide)) h23 (by omega) (by decide) ?_
    refine g_aload_n C (i := 0) dX6_log_86 rfl rfl ?_
    refine g_dup C dX6_log_87 rfl ?_
    refine g_getI C 6 23 (RX6, TX6, 29) dX6_log_88 (hM.1 0 (by decide)) (reg_at (k := 0) (by decide)) ml_X6_101 rfl (by decide) (Or.inl rfl) ?_
    rw [show (tk2 J1 19 s i) 0 23 = nI s from h23]
    refine g_iconst C (1) dX6_log_91 rfl ?_
    refine g_iadd C dX6_log_92 ?_
    rw [nI_1]
    refine g_putI C 6 23 (RX6, TX6, 29) dX6_log_93 (hM.1 0 (by decide)) (tk2_reg (k := 0) (by decide)) ml_X6_101 rfl (by decide) rfl rfl ?_
    refine g_aload_n C (i := 0) dX6_log_96 rfl rfl ?_
    refine g_dup C dX6_log_97 rfl ?_
    refine g_getL C 6 22 (RX6, TX6, 29) dX6_log_98 (hM.1 0 (by decide)) (reg_at (k := 0) (by decide)) ml_X6_108 rfl (by decide) rfl ?_
    refine g_lconst C 1 dX6_log_101 rfl ?_
    refine g_ladd C dX6_log_102 ?_
    refine g_putL C 6 22 (RX6, TX6, 29) dX6_log_103 (hM.1 0 (by decide)) (tk2_reg (k := 0) (by decide)) ml_X6_108 rfl (by decide) rfl rfl ?_
    exact g_return C dX6_log_106 ⟨Nat.le_of_ble_eq_true rfl, Nat.le_of_ble_eq_true rfl⟩ (tkEnd.rf rfl rfl rfl)
  refine g_aload_n C (i := 0) dX6_log_0 rfl rfl ?_
  refine g_getI C 6 23 (RX6, TX6, 29) dX6_log_1 (hM.1 0 (by decide)) (reg_at (k := 0) (by decide)) ml_X6_101 rfl (by decide) (Or.inl rfl) ?_
  rw [hc]
  refine g_bipush C (30) dX6_log_4 rfl ?_
  refine g_icmp_ne C 63 dX6_log_6 (by decide) (fun h6 => ?_) (fun h6 => ?_)
  · rw [if_neg (fun z => h6 (by rw [z]; rfl))] at eR
    have hlt : lg < 30 := Nat.lt_of_le_of_ne hlg (fun z => h6 (by rw [z]; rfl))
    skip
    exact J63 lg J K _ hlt hc eR
  · have h30 : lg = 30 := (nI_eq (b := 30) (by omega) (by omega)).mp h6
    rw [if_pos h30] at eR
    subst h30
    refine g_aload_n C (i := 0) dX6_log_9 rfl rfl ?_
    refine g_dup C dX6_log_10 rfl ?_
    refine g_getI C 6 23 (RX6, TX6, 29) dX6_log_11 (hM.1 0 (by decide)) (reg_at (k := 0) (by decide)) ml_X6_101 rfl (by decide) (Or.inl rfl) ?_
    rw [hc]
    refine g_iconst C (1) dX6_log_14 rfl ?_
    refine g_isub C dX6_log_15 ?_
    refine g_putI C 6 23 (RX6, TX6, 29) dX6_log_16 (hM.1 0 (by decide)) (tk2_reg (k := 0) (by decide)) ml_X6_101 rfl (by decide) rfl rfl ?_
    refine g_iconst C (0) dX6_log_19 rfl ?_
    refine g_istore_n C (i := 2) dX6_log_20 rfl (by decide) ?_
    rw [show nI 30 - 1 = nI 29 from nI_pred 29]
    have key : ∀ k n, k + n = 29 → tkG X (tkQ false X 0 0 (.inl none) σ (reg r 21 R.1 v) (reg r 21 R.2 w)) 0 0 21 [some (.ref r), some (.int i), some (.int (nI n))] [] σ (reg r 21 (itr mSh n (tk2 J 0 23 (nI 29), K)).1 v) (reg r 21 (itr mSh n (tk2 J 0 23 (nI 29), K)).2 w) := by
      intro k
      induction k with
      | zero =>
        intro n hn
        obtain rfl : n = 29 := by omega
        have e23 := mSh_23 29 (tk2 J 0 23 (nI 29), K)
        generalize itr mSh 29 (tk2 J 0 23 (nI 29), K) = q at *
        obtain ⟨J1, K1⟩ := q
        dsimp only at *
        rw [tk2_at] at e23
        refine g_iload_n C (i := 2) dX6_log_21 rfl rfl ?_
        refine g_aload_n C (i := 0) dX6_log_22 rfl rfl ?_
        refine g_getI C 6 23 (RX6, TX6, 29) dX6_log_23 (hM.1 0 (by decide)) (reg_at (k := 0) (by decide)) ml_X6_101 rfl (by decide) (Or.inl rfl) ?_
        rw [e23]
        refine g_icmp_ge C 63 dX6_log_26 (by decide) (fun h26 => ?_) (fun h26 => ?_)
        · skip
          exact J63 29 J1 K1 _ (by omega) e23 eR
        · exact absurd (Int32.le_refl _) h26
      | succ k ih =>
        intro n hn
        have ih1 := ih (n + 1) (by omega)
        have e23 := mSh_23 n (tk2 J 0 23 (nI 29), K)
        rw [show itr mSh (n + 1) (tk2 J 0 23 (nI 29), K) = mSh n (itr mSh n (tk2 J 0 23 (nI 29), K)) from rfl] at ih1
        generalize itr mSh n (tk2 J 0 23 (nI 29), K) = q at *
        obtain ⟨J1, K1⟩ := q
        dsimp only at *
        rw [tk2_at] at e23
        refine g_iload_n C (i := 2) dX6_log_21 rfl rfl ?_
        refine g_aload_n C (i := 0) dX6_log_22 rfl rfl ?_
        refine g_getI C 6 23 (RX6, TX6, 29) dX6_log_23 (hM.1 0 (by decide)) (reg_at (k := 0) (by decide)) ml_X6_101 rfl (by decide) (Or.inl rfl) ?_
        rw [e23]
        refine g_icmp_ge C 63 dX6_log_26 (by decide) (fun h26 => ?_) (fun h26 => ?_)
        · exact absurd h26 (nI_ge (by omega) (by omega))
        · refine g_aload_n C (i := 0) dX6_log_29 rfl rfl ?_
          refine g_getR C 6 24 (RX6, TX6, 29) dX6_log_30 (hM.1 0 (by decide)) (hM.2 0 24 18 (by decide) rfl) ml_X6_63 rfl (by decide) rfl ?_
          refine g_iload_n C (i := 2) dX6_log_33 rfl rfl ?_
          refine g_aload_n C (i := 0) dX6_log_34 rfl rfl ?_
          refine g_getR C 6 24 (RX6, TX6, 29) dX6_log_35 (hM.1 0 (by decide)) (hM.2 0 24 18 (by decide) rfl) ml_X6_63 rfl (by decide) rfl ?_
          refine g_iload_n C (i := 2) dX6_log_38 rfl rfl ?_
          refine g_iconst C (1) dX6_log_39 rfl ?_
          refine g_iadd C dX6_log_40 ?_
          refine g_la C dX6_log_41 (hM.1 18 (by decide)) (reg_at (k := 18) (by decide)) (nI_1 n) (by omega) (by decide) ?_
          refine g_ls C dX6_log_42 (hM.1 18 (by decide)) (tk2_reg (k := 18) (by decide)) rfl (by omega) (by decide) ?_
          refine g_aload_n C (i := 0) dX6_log_43 rfl rfl ?_
          refine g_getR C 6 25 (RX6, TX6, 29) dX6_log_44 (hM.1 0 (by decide)) (hM.2 0 25 19 (by decide) rfl) ml_X6_66 rfl (by decide) rfl ?_
          refine g_iload_n C (i := 2) dX6_log_47 rfl rfl ?_
          refine g_aload_n C (i := 0) dX6_log_48 rfl rfl ?_
          refine g_getR C 6 25 (RX6, TX6, 29) dX6_log_49 (hM.1 0 (by decide)) (hM.2 0 25 19 (by decide) rfl) ml_X6_66 rfl (by decide) rfl ?_
          refine g_iload_n C (i := 2) dX6_log_52 rfl rfl ?_
          refine g_iconst C (1) dX6_log_53 rfl ?_
          refine g_iadd C dX6_log_54 ?_
          refine g_ia C dX6_log_55 (hM.1 19 (by decide)) (reg_at (k := 19) (by decide)) (nI_1 n) (by omega) (by decide) ?_
          refine g_is C dX6_log_56 (hM.1 19 (by decide)) (tk2_reg (k := 19) (by decide)) rfl (by omega) (by decide) ?_
          refine g_iinc C (i := 2) (nI (n + 1)) dX6_log_57 rfl (nI_1 n) (by decide) ?_
          refine g_goto C 21 dX6_log_60 (by decide) ?_
          exact ih1
    exact key 29 0 (by omega)
theorem c_X6_turn (hM : tkReg 21 mT mF σ r) {nt ns np : Nat} (hW : wM nt ns np J) :
    tkCon false (.code yX6_turn cX6_turn 5 (some .int)) yX6_turn 2 [.ref r] σ (reg r 21 J v) (reg r 21 K w) 0 0 (.inl (some (.int (itr mFol ns ((J, K), 0)).2))) σ (reg r 21 (itr mFol ns ((J, K), 0)).1.1 v) (reg r 21 (itr mFol ns ((J, K), 0)).1.2 w) := by
  obtain ⟨s, hs⟩ : ∃ s, s = fun i => itr mFol i ((J, K), 0) := ⟨_, rfl⟩
  have inv : ∀ i, wM nt ns np (s i).1.1 := fun i => by rw [hs]; exact wM.fol (q := (J, K)) hW i
  have hsucc : ∀ i, s (i + 1) = mFol i (s i) := fun i => by rw [hs]; rfl
  have h0 : s 0 = ((J, K), 0) := by rw [hs]; rfl
  rw [show itr mFol ns ((J, K), 0) = s ns by rw [hs]]
  have hns := hW.2.1.2
  refine tkCon.of (by decide) (Nat.le_of_ble_eq_true rfl) (fun X C => ?_)
  refine g_iconst C (0) dX6_turn_0 rfl ?_
  refine g_istore_n C (i := 1) dX6_turn_1 rfl (by decide) ?_
  refine g_iconst C (0) dX6_turn_2 rfl ?_
  refine g_istore_n C (i := 2) dX6_turn_3 rfl (by decide) ?_
  have key : ∀ k i lv3 lv4, k + i = ns → tkG X (tkQ false X 0 0 (.inl (some (.int (s ns).2))) σ (reg r 21 (s ns).1.1 v) (reg r 21 (s ns).1.2 w)) 0 0 4 [some (.ref r), some (.int (s i).2), some (.int (nI i)), lv3, lv4] [] σ (reg r 21 (s i).1.1 v) (reg r 21 (s i).1.2 w) := by
    intro k
    induction k with
    | zero =>
      intro i lv3 lv4 hi
      have e : i = ns := by omega
      subst e
      refine g_iload_n C (i := 2) dX6_turn_4 rfl rfl ?_
      refine g_aload_n C (i := 0) dX6_turn_5 rfl rfl ?_
      refine g_getI C 6 3 (RX6, TX6, 29) dX6_turn_6 (hM.1 0 (by decide)) (reg_at (k := 0) (by decide)) ml_X6_79 rfl (by decide) (Or.inl rfl) ?_
      rw [(inv i).2.1.1]
      refine g_icmp_ge C 96 dX6_turn_9 (by decide) (fun h9 => ?_) (fun h9 => ?_)
      · refine g_iload_n C (i := 1) dX6_turn_96 rfl rfl ?_
        exact g_ireturn C dX6_turn_97 ⟨Nat.le_of_ble_eq_true rfl, Nat.le_of_ble_eq_true rfl⟩ (tkEnd.rf rfl rfl rfl)
      · exact absurd (Int32.le_refl _) h9
    | succ k ih =>
      intro i lv3 lv4 hi
      have hlt : i < ns := by omega
      have ih1 := ih (i + 1)
      rw [hsucc] at ih1
      have hWq := inv i
      generalize s i = q at *
      obtain ⟨⟨J1, K1⟩, n1⟩ := q
      dsimp only at *
      obtain ⟨t, ht, et⟩ := hWq.2.2.2.1 i hlt
      obtain ⟨lg, hlg, e23⟩ := hWq.2.2.2.2.2
      have etc : (J1 2 i).toNatClampNeg = t := by rw [et]; exact nI_clamp (by omega)
      have elc : (J1 0 23).toNatClampNeg = lg := by rw [e23]; exact nI_clamp (by omega)
      have J60 : ∀ lv3, tkG X (tkQ false X 0 0 (.inl (some (.int (s ns).2))) σ (reg r 21 (s ns).1.1 v) (reg r 21 (s ns).1.2 w)) 0 0 60 [some (.ref r), some (.int n1), some (.int (nI i)), lv3, some (.int (mDue J1 i))] [] σ (reg r 21 J1 v) (reg r 21 K1 w) := by
        intro lv3
        have hd : mDue J1 i = 0 ∨ mDue J1 i = 1 := by
          unfold mDue
          split
          · exact Or.inr rfl
          · split
            · exact Or.inl rfl
            · split
              · exact Or.inl rfl
              · exact Or.inr rfl
        refine g_iload C (i := 4) dX6_turn_60 rfl ?_
        refine g_aload_n C (i := 0) dX6_turn_62 rfl rfl ?_
        refine g_getR C 6 16 (RX6, TX6, 29) dX6_turn_63 (hM.1 0 (by decide)) (hM.2 0 16 13 (by decide) rfl) ml_X6_48 rfl (by decide) rfl ?_
        refine g_iload_n C (i := 2) dX6_turn_66 rfl rfl ?_
        refine g_za C dX6_turn_67 (hM.1 13 (by decide)) (reg_at (k := 13) (by decide)) rfl (by omega) (by decide) (fun _ => ?_)
        refine g_icmp_ne C 74 dX6_turn_68 (by decide) (fun h68 => ?_) (fun h68 => ?_)
        · rw [mFol, if_neg h68, elc] at ih1
          refine g_aload_n C (i := 0) dX6_turn_74 rfl rfl ?_
          refine g_getR C 6 16 (RX6, TX6, 29) dX6_turn_75 (hM.1 0 (by decide)) (hM.2 0 16 13 (by decide) rfl) ml_X6_48 rfl (by decide) rfl ?_
          refine g_iload_n C (i := 2) dX6_turn_78 rfl rfl ?_
          refine g_iload C (i := 4) dX6_turn_79 rfl ?_
          refine g_zs C dX6_turn_81 (hM.1 13 (by decide)) (tk2_reg (k := 13) (by decide)) rfl (by omega) (by decide) (by first | assumption | exact Or.inl rfl | exact Or.inr rfl) ?_
          refine g_aload_n C (i := 0) dX6_turn_82 rfl rfl ?_
          refine g_iload_n C (i := 2) dX6_turn_83 rfl rfl ?_
          refine g_callV C (q := (RX6, TX6, 29)) (rest := _) dX6_turn_84 mm_X6_log ml_X6_111 mv_yX6_log ms_yX6_log (c_X6_log hM (J := tk2 J1 13 i (mDue J1 i)) e23 hlg (nI i)) rfl (hM.1 0 (by decide)) rfl rfl ⟨by decide, Nat.le_of_ble_eq_true rfl, Nat.le_of_ble_eq_true rfl, Nat.le_of_ble_eq_true rfl⟩ (tk_retn ?_) tk_nothr
          refine g_iinc C (i := 1) _ dX6_turn_87 rfl rfl (by decide) ?_
          refine g_iinc C (i := 2) (nI (i + 1)) dX6_turn_90 rfl (nI_1 i) (by decide) ?_
          refine g_goto C 4 dX6_turn_93 (by decide) ?_
          exact ih1 _ _ (by omega)
        · rw [mFol, if_pos h68] at ih1
          refine g_goto C 90 dX6_turn_71 (by decide) ?_
          refine g_iinc C (i := 2) (nI (i + 1)) dX6_turn_90 rfl (nI_1 i) (by decide) ?_
          refine g_goto C 4 dX6_turn_93 (by decide) ?_
          exact ih1 _ _ (by omega)
      refine g_iload_n C (i := 2) dX6_turn_4 rfl rfl ?_
      refine g_aload_n C (i := 0) dX6_turn_5 rfl rfl ?_
      refine g_getI C 6 3 (RX6, TX6, 29) dX6_turn_6 (hM.1 0 (by decide)) (reg_at (k := 0) (by decide)) ml_X6_79 rfl (by decide) (Or.inl rfl) ?_
      rw [hWq.2.1.1]
      refine g_icmp_ge C 96 dX6_turn_9 (by decide) (fun h9 => ?_) (fun h9 => ?_)
      · exact absurd h9 (nI_ge hlt (by omega))
      · refine g_aload_n C (i := 0) dX6_turn_12 rfl rfl ?_
        refine g_getR C 6 13 (RX6, TX6, 29) dX6_turn_13 (hM.1 0 (by decide)) (hM.2 0 13 10 (by decide) rfl) ml_X6_38 rfl (by decide) rfl ?_
        refine g_aload_n C (i := 0) dX6_turn_16 rfl rfl ?_
        refine g_getR C 6 4 (RX6, TX6, 29) dX6_turn_17 (hM.1 0 (by decide)) (hM.2 0 4 2 (by decide) rfl) ml_X6_13 rfl (by decide) rfl ?_
        refine g_iload_n C (i := 2) dX6_turn_20 rfl rfl ?_
        refine g_ia C dX6_turn_21 (hM.1 2 (by decide)) (reg_at (k := 2) (by decide)) rfl (by omega) (by decide) ?_
        refine g_ia C dX6_turn_22 (hM.1 10 (by decide)) (reg_at (k := 10) (by decide)) et ht (by decide) ?_
        refine g_istore_n C (i := 3) dX6_turn_23 rfl (by decide) ?_
        refine g_iload_n C (i := 3) dX6_turn_24 rfl rfl ?_
        refine g_aload_n C (i := 0) dX6_turn_25 rfl rfl ?_
        refine g_getR C 6 5 (RX6, TX6, 29) dX6_turn_26 (hM.1 0 (by decide)) (hM.2 0 5 3 (by decide) rfl) ml_X6_16 rfl (by decide) rfl ?_
        refine g_iload_n C (i := 2) dX6_turn_29 rfl rfl ?_
        refine g_ia C dX6_turn_30 (hM.1 3 (by decide)) (reg_at (k := 3) (by decide)) rfl (by omega) (by decide) ?_
        refine g_icmp_le C 53 dX6_turn_31 (by decide) (fun h31 => ?_) (fun h31 => ?_)
        · have hd : mDue J1 i = 1 := by unfold mDue; rw [etc, if_pos h31]
          rw [hd] at J60
          refine g_iconst C (1) dX6_turn_53 rfl ?_
          refine g_goto C 58 dX6_turn_54 (by decide) ?_
          refine g_istore C (i := 4) dX6_turn_58 (by decide) ?_
          exact J60 _
        · refine g_iload_n C (i := 3) dX6_turn_34 rfl rfl ?_
          refine g_aload_n C (i := 0) dX6_turn_35 rfl rfl ?_
          refine g_getR C 6 6 (RX6, TX6, 29) dX6_turn_36 (hM.1 0 (by decide)) (hM.2 0 6 4 (by decide) rfl) ml_X6_19 rfl (by decide) rfl ?_
          refine g_iload_n C (i := 2) dX6_turn_39 rfl rfl ?_
          refine g_ia C dX6_turn_40 (hM.1 4 (by decide)) (reg_at (k := 4) (by decide)) rfl (by omega) (by decide) ?_
          refine g_icmp_ge C 57 dX6_turn_41 (by decide) (fun h41 => ?_) (fun h41 => ?_)
          · have hd : mDue J1 i = 0 := by unfold mDue; rw [etc, if_neg h31, if_pos h41]
            rw [hd] at J60
            refine g_iconst C (0) dX6_turn_57 rfl ?_
            refine g_istore C (i := 4) dX6_turn_58 (by decide) ?_
            exact J60 _
          · refine g_aload_n C (i := 0) dX6_turn_44 rfl rfl ?_
            refine g_getR C 6 16 (RX6, TX6, 29) dX6_turn_45 (hM.1 0 (by decide)) (hM.2 0 16 13 (by decide) rfl) ml_X6_48 rfl (by decide) rfl ?_
            refine g_iload_n C (i := 2) dX6_turn_48 rfl rfl ?_
            refine g_za C dX6_turn_49 (hM.1 13 (by decide)) (reg_at (k := 13) (by decide)) rfl (by omega) (by decide) (fun h01 => ?_)
            refine g_if_eq C 57 dX6_turn_50 (by decide) (fun h50 => ?_) (fun h50 => ?_)
            · have hd : mDue J1 i = 0 := by unfold mDue; rw [etc, if_neg h31, if_neg h41, if_pos h50]
              rw [hd] at J60
              refine g_iconst C (0) dX6_turn_57 rfl ?_
              refine g_istore C (i := 4) dX6_turn_58 (by decide) ?_
              exact J60 _
            · have hd : mDue J1 i = 1 := by unfold mDue; rw [etc, if_neg h31, if_neg h41, if_neg h50]
              rw [hd] at J60
              refine g_iconst C (1) dX6_turn_53 rfl ?_
              refine g_goto C 58 dX6_turn_54 (by decide) ?_
              refine g_istore C (i := 4) dX6_turn_58 (by decide) ?_
              exact J60 _
  exact key ns 0 _ _ (by omega) |> fun z => by rw [h0] at z; exact z
theorem c_X6_pump (hM : tkReg 21 mT mF σ r) {nt ns np i : Nat} (hW : wM nt ns np J) (hi : i < np) :
    tkCon false (.code yX6_pump cX6_pump 3 none) yX6_pump 2 [.ref r, .int (nI i)] σ (reg r 21 J v) (reg r 21 K w) 0 0 (.inl none) σ (reg r 21 (mPump i (J, K)).1 v) (reg r 21 (mPump i (J, K)).2 w) := by
  obtain ⟨-, -, ⟨hc, hnp⟩, -, h5, -⟩ := hW
  obtain ⟨hf, ht, hk⟩ := h5 i hi
  obtain ⟨R, eR⟩ : ∃ R, mPump i (J, K) = R := ⟨_, rfl⟩
  rw [eR]
  unfold mPump at eR
  dsimp only at eR
  refine tkCon.of (by decide) (Nat.le_of_ble_eq_true rfl) (fun X C => ?_)
  have J152 : ∀ J2 m, J2 7 = J 7 → J2 14 = J 14 → (J2, mEnt m i J K) = R → tkG X (tkQ false X 0 0 (.inl none) σ (reg r 21 R.1 v) (reg r 21 R.2 w)) 0 0 152 [some (.ref r), some (.int (nI i)), some (.int m)] [] σ (reg r 21 J2 v) (reg r 21 K w) := by
    intro J2 m e7 e14 h
    subst h
    unfold mEnt
    refine g_aload_n C (i := 0) dX6_pump_152 rfl rfl ?_
    refine g_getR C 6 18 (RX6, TX6, 29) dX6_pump_153 (hM.1 0 (by decide)) (hM.2 0 18 15 (by decide) rfl) ml_X6_54 rfl (by decide) rfl ?_
    refine g_iload_n C (i := 1) dX6_pump_156 rfl rfl ?_
    refine g_dup2 C dX6_pump_157 rfl rfl ?_
    refine g_la C dX6_pump_158 (hM.1 15 (by decide)) (reg_at (k := 15) (by decide)) rfl (by omega) (by decide) ?_
    refine g_iload_n C (i := 2) dX6_pump_159 rfl rfl ?_
    refine g_i2l C dX6_pump_160 ?_
    refine g_ladd C dX6_pump_161 ?_
    refine g_ls C dX6_pump_162 (hM.1 15 (by decide)) (tk2_reg (k := 15) (by decide)) rfl (by omega) (by decide) ?_
    refine g_aload_n C (i := 0) dX6_pump_163 rfl rfl ?_
    refine g_getR C 6 19 (RX6, TX6, 29) dX6_pump_164 (hM.1 0 (by decide)) (hM.2 0 19 16 (by decide) rfl) ml_X6_57 rfl (by decide) rfl ?_
    refine g_iload_n C (i := 1) dX6_pump_167 rfl rfl ?_
    refine g_dup2 C dX6_pump_168 rfl rfl ?_
    refine g_la C dX6_pump_169 (hM.1 16 (by decide)) (reg_at (k := 16) (by decide)) rfl (by omega) (by decide) ?_
    refine g_iload_n C (i := 2) dX6_pump_170 rfl rfl ?_
    refine g_i2l C dX6_pump_171 ?_
    refine g_aload_n C (i := 0) dX6_pump_172 rfl rfl ?_
    refine g_getR C 6 10 (RX6, TX6, 29) dX6_pump_173 (hM.1 0 (by decide)) (hM.2 0 10 7 (by decide) rfl) ml_X6_28 rfl (by decide) rfl ?_
    refine g_iload_n C (i := 1) dX6_pump_176 rfl rfl ?_
    refine g_ia C dX6_pump_177 (hM.1 7 (by decide)) ((reg_at (k := 7) (by decide)).trans e7) rfl (by omega) (by decide) ?_
    refine g_i2l C dX6_pump_178 ?_
    refine g_lmul C dX6_pump_179 ?_
    refine g_ladd C dX6_pump_180 ?_
    refine g_ls C dX6_pump_181 (hM.1 16 (by decide)) (tk2_reg (k := 16) (by decide)) rfl (by omega) (by decide) ?_
    refine g_aload_n C (i := 0) dX6_pump_182 rfl rfl ?_
    refine g_getR C 6 20 (RX6, TX6, 29) dX6_pump_183 (hM.1 0 (by decide)) (hM.2 0 20 17 (by decide) rfl) ml_X6_60 rfl (by decide) rfl ?_
    refine g_iload_n C (i := 1) dX6_pump_186 rfl rfl ?_
    refine g_dup2 C dX6_pump_187 rfl rfl ?_
    refine g_la C dX6_pump_188 (hM.1 17 (by decide)) (reg_at (k := 17) (by decide)) rfl (by omega) (by decide) ?_
    refine g_iload_n C (i := 2) dX6_pump_189 rfl rfl ?_
    refine g_aload_n C (i := 0) dX6_pump_190 rfl rfl ?_
    refine g_getR C 6 17 (RX6, TX6, 29) dX6_pump_191 (hM.1 0 (by decide)) (hM.2 0 17 14 (by decide) rfl) ml_X6_51 rfl (by decide) rfl ?_
    refine g_iload_n C (i := 1) dX6_pump_194 rfl rfl ?_
    refine g_ia C dX6_pump_195 (hM.1 14 (by decide)) ((reg_at (k := 14) (by decide)).trans e14) rfl (by omega) (by decide) ?_
    refine g_icmp_ge C 203 dX6_pump_196 (by decide) (fun h196 => ?_) (fun h196 => ?_)
    · rw [if_pos h196]
      refine g_lconst C 0 dX6_pump_203 rfl ?_
      refine g_ladd C dX6_pump_204 ?_
      refine g_ls C dX6_pump_205 (hM.1 17 (by decide)) (tk2_reg (k := 17) (by decide)) rfl (by omega) (by decide) ?_
      exact g_return C dX6_pump_206 ⟨Nat.le_of_ble_eq_true rfl, Nat.le_of_ble_eq_true rfl⟩ (tkEnd.rf rfl rfl rfl)
    · rw [if_neg h196]
      refine g_lconst C 1 dX6_pump_199 rfl ?_
      refine g_goto C 204 dX6_pump_200 (by decide) ?_
      refine g_ladd C dX6_pump_204 ?_
      refine g_ls C dX6_pump_205 (hM.1 17 (by decide)) (tk2_reg (k := 17) (by decide)) rfl (by omega) (by decide) ?_
      exact g_return C dX6_pump_206 ⟨Nat.le_of_ble_eq_true rfl, Nat.le_of_ble_eq_true rfl⟩ (tkEnd.rf rfl rfl rfl)
  have J127 : ∀ J1 m, J1 = mLv1 m i J → (mLv2 m i J1, mEnt m i J K) = R → tkG X (tkQ false X 0 0 (.inl none) σ (reg r 21 R.1 v) (reg r 21 R.2 w)) 0 0 127 [some (.ref r), some (.int (nI i)), some (.int m)] [] σ (reg r 21 J1 v) (reg r 21 K w) := by
    intro J1 m e1 h
    have e6 : J1 6 = J 6 := by rw [e1]; exact (mLv1_keep m i J).1.1 6 (by decide) (by decide) (by decide) (by decide)
    have e7 : J1 7 = J 7 := by rw [e1]; exact (mLv1_keep m i J).1.1 7 (by decide) (by decide) (by decide) (by decide)
    have e14 : J1 14 = J 14 := by rw [e1]; exact (mLv1_keep m i J).1.1 14 (by decide) (by decide) (by decide) (by decide)
    unfold mLv2 at h
    rw [e6] at h
    refine g_aload_n C (i := 0) dX6_pump_127 rfl rfl ?_
    refine g_getR C 6 9 (RX6, TX6, 29) dX6_pump_128 (hM.1 0 (by decide)) (hM.2 0 9 6 (by decide) rfl) ml_X6_25 rfl (by decide) rfl ?_
    refine g_iload_n C (i := 1) dX6_pump_131 rfl rfl ?_
    refine g_ia C dX6_pump_132 (hM.1 6 (by decide)) ((reg_at (k := 6) (by decide)).trans e6) rfl (by omega) (by decide) ?_
    refine g_iconst C (-1) dX6_pump_133 rfl ?_
    refine g_icmp_eq C 152 dX6_pump_134 (by decide) (fun h134 => ?_) (fun h134 => ?_)
    · rw [if_pos h134] at h
      skip
      exact J152 J1 m e7 e14 h
    · rw [if_neg h134] at h
      obtain ⟨t, ht, et⟩ := ht.resolve_left h134
      rw [et, nI_clamp (by omega)] at h
      refine g_aload_n C (i := 0) dX6_pump_137 rfl rfl ?_
      refine g_getR C 6 13 (RX6, TX6, 29) dX6_pump_138 (hM.1 0 (by decide)) (hM.2 0 13 10 (by decide) rfl) ml_X6_38 rfl (by decide) rfl ?_
      refine g_aload_n C (i := 0) dX6_pump_141 rfl rfl ?_
      refine g_getR C 6 9 (RX6, TX6, 29) dX6_pump_142 (hM.1 0 (by decide)) (hM.2 0 9 6 (by decide) rfl) ml_X6_25 rfl (by decide) rfl ?_
      refine g_iload_n C (i := 1) dX6_pump_145 rfl rfl ?_
      refine g_ia C dX6_pump_146 (hM.1 6 (by decide)) ((reg_at (k := 6) (by decide)).trans e6) rfl (by omega) (by decide) ?_
      refine g_dup2 C dX6_pump_147 rfl rfl ?_
      refine g_ia C dX6_pump_148 (hM.1 10 (by decide)) (reg_at (k := 10) (by decide)) et ht (by decide) ?_
      refine g_iload_n C (i := 2) dX6_pump_149 rfl rfl ?_
      refine g_iadd C dX6_pump_150 ?_
      refine g_is C dX6_pump_151 (hM.1 10 (by decide)) (tk2_reg (k := 10) (by decide)) et ht (by decide) ?_
      exact J152 _ m e7 e14 h
  have J102 : ∀ m, (mLv2 m i (mLv1 m i J), mEnt m i J K) = R → tkG X (tkQ false X 0 0 (.inl none) σ (reg r 21 R.1 v) (reg r 21 R.2 w)) 0 0 102 [some (.ref r), some (.int (nI i)), some (.int m)] [] σ (reg r 21 J v) (reg r 21 K w) := by
    intro m h
    refine g_aload_n C (i := 0) dX6_pump_102 rfl rfl ?_
    refine g_getR C 6 8 (RX6, TX6, 29) dX6_pump_103 (hM.1 0 (by decide)) (hM.2 0 8 5 (by decide) rfl) ml_X6_22 rfl (by decide) rfl ?_
    refine g_iload_n C (i := 1) dX6_pump_106 rfl rfl ?_
    refine g_ia C dX6_pump_107 (hM.1 5 (by decide)) (reg_at (k := 5) (by decide)) rfl (by omega) (by decide) ?_
    refine g_iconst C (-1) dX6_pump_108 rfl ?_
    refine g_icmp_eq C 127 dX6_pump_109 (by decide) (fun h109 => ?_) (fun h109 => ?_)
    · skip
      exact J127 J m (by rw [mLv1, if_pos h109]) (by rw [mLv1, if_pos h109] at h; exact h)
    · obtain ⟨t, ht, et⟩ := hf.resolve_left h109
      have e1 : mLv1 m i J = tk2 J 10 t (J 10 t - m) := by rw [mLv1, if_neg h109, et, nI_clamp (by omega)]
      refine g_aload_n C (i := 0) dX6_pump_112 rfl rfl ?_
      refine g_getR C 6 13 (RX6, TX6, 29) dX6_pump_113 (hM.1 0 (by decide)) (hM.2 0 13 10 (by decide) rfl) ml_X6_38 rfl (by decide) rfl ?_
      refine g_aload_n C (i := 0) dX6_pump_116 rfl rfl ?_
      refine g_getR C 6 8 (RX6, TX6, 29) dX6_pump_117 (hM.1 0 (by decide)) (hM.2 0 8 5 (by decide) rfl) ml_X6_22 rfl (by decide) rfl ?_
      refine g_iload_n C (i := 1) dX6_pump_120 rfl rfl ?_
      refine g_ia C dX6_pump_121 (hM.1 5 (by decide)) (reg_at (k := 5) (by decide)) rfl (by omega) (by decide) ?_
      refine g_dup2 C dX6_pump_122 rfl rfl ?_
      refine g_ia C dX6_pump_123 (hM.1 10 (by decide)) (reg_at (k := 10) (by decide)) et ht (by decide) ?_
      refine g_iload_n C (i := 2) dX6_pump_124 rfl rfl ?_
      refine g_isub C dX6_pump_125 ?_
      refine g_is C dX6_pump_126 (hM.1 10 (by decide)) (tk2_reg (k := 10) (by decide)) et ht (by decide) ?_
      exact J127 _ m e1.symm (by rw [← e1]; exact h)
  have J64 : (mLv2 (mAmt J i) i (mLv1 (mAmt J i) i J), mEnt (mAmt J i) i J K) = R → tkG X (tkQ false X 0 0 (.inl none) σ (reg r 21 R.1 v) (reg r 21 R.2 w)) 0 0 64 [some (.ref r), some (.int (nI i)), some (.int (mA1 J i))] [] σ (reg r 21 J v) (reg r 21 K w) := by
    intro h
    refine g_aload_n C (i := 0) dX6_pump_64 rfl rfl ?_
    refine g_getR C 6 9 (RX6, TX6, 29) dX6_pump_65 (hM.1 0 (by decide)) (hM.2 0 9 6 (by decide) rfl) ml_X6_25 rfl (by decide) rfl ?_
    refine g_iload_n C (i := 1) dX6_pump_68 rfl rfl ?_
    refine g_ia C dX6_pump_69 (hM.1 6 (by decide)) (reg_at (k := 6) (by decide)) rfl (by omega) (by decide) ?_
    refine g_iconst C (-1) dX6_pump_70 rfl ?_
    refine g_icmp_eq C 102 dX6_pump_71 (by decide) (fun h71 => ?_) (fun h71 => ?_)
    · rw [mAmt, if_pos h71] at h
      skip
      exact J102 _ h
    · obtain ⟨t, ht, et⟩ := ht.resolve_left h71
      rw [mAmt, if_neg h71, et, nI_clamp (by omega)] at h
      refine g_iload_n C (i := 2) dX6_pump_74 rfl rfl ?_
      refine g_aload_n C (i := 0) dX6_pump_75 rfl rfl ?_
      refine g_getR C 6 2 (RX6, TX6, 29) dX6_pump_76 (hM.1 0 (by decide)) (hM.2 0 2 1 (by decide) rfl) ml_X6_9 rfl (by decide) rfl ?_
      refine g_aload_n C (i := 0) dX6_pump_79 rfl rfl ?_
      refine g_getR C 6 9 (RX6, TX6, 29) dX6_pump_80 (hM.1 0 (by decide)) (hM.2 0 9 6 (by decide) rfl) ml_X6_25 rfl (by decide) rfl ?_
      refine g_iload_n C (i := 1) dX6_pump_83 rfl rfl ?_
      refine g_ia C dX6_pump_84 (hM.1 6 (by decide)) (reg_at (k := 6) (by decide)) rfl (by omega) (by decide) ?_
      refine g_ia C dX6_pump_85 (hM.1 1 (by decide)) (reg_at (k := 1) (by decide)) et ht (by decide) ?_
      refine g_aload_n C (i := 0) dX6_pump_86 rfl rfl ?_
      refine g_getR C 6 13 (RX6, TX6, 29) dX6_pump_87 (hM.1 0 (by decide)) (hM.2 0 13 10 (by decide) rfl) ml_X6_38 rfl (by decide) rfl ?_
      refine g_aload_n C (i := 0) dX6_pump_90 rfl rfl ?_
      refine g_getR C 6 9 (RX6, TX6, 29) dX6_pump_91 (hM.1 0 (by decide)) (hM.2 0 9 6 (by decide) rfl) ml_X6_25 rfl (by decide) rfl ?_
      refine g_iload_n C (i := 1) dX6_pump_94 rfl rfl ?_
      refine g_ia C dX6_pump_95 (hM.1 6 (by decide)) (reg_at (k := 6) (by decide)) rfl (by omega) (by decide) ?_
      refine g_ia C dX6_pump_96 (hM.1 10 (by decide)) (reg_at (k := 10) (by decide)) et ht (by decide) ?_
      refine g_isub C dX6_pump_97 ?_
      refine g_min C dX6_pump_98 ml_X6_115 (by decide) (Nat.le_of_ble_eq_true rfl) (Nat.le_of_ble_eq_true rfl) (Nat.le_of_ble_eq_true rfl) ?_
      refine g_istore_n C (i := 2) dX6_pump_101 rfl (by decide) ?_
      exact J102 _ h
  have J31 : ¬ (¬ J 8 i = -1 ∧ J 13 (J 8 i).toNatClampNeg = J 9 i) → tkG X (tkQ false X 0 0 (.inl none) σ (reg r 21 R.1 v) (reg r 21 R.2 w)) 0 0 31 [some (.ref r), some (.int (nI i)), none] [] σ (reg r 21 J v) (reg r 21 K w) := by
    intro h
    rw [if_neg h] at eR
    refine g_aload_n C (i := 0) dX6_pump_31 rfl rfl ?_
    refine g_getR C 6 17 (RX6, TX6, 29) dX6_pump_32 (hM.1 0 (by decide)) (hM.2 0 17 14 (by decide) rfl) ml_X6_51 rfl (by decide) rfl ?_
    refine g_iload_n C (i := 1) dX6_pump_35 rfl rfl ?_
    refine g_ia C dX6_pump_36 (hM.1 14 (by decide)) (reg_at (k := 14) (by decide)) rfl (by omega) (by decide) ?_
    refine g_istore_n C (i := 2) dX6_pump_37 rfl (by decide) ?_
    refine g_aload_n C (i := 0) dX6_pump_38 rfl rfl ?_
    refine g_getR C 6 8 (RX6, TX6, 29) dX6_pump_39 (hM.1 0 (by decide)) (hM.2 0 8 5 (by decide) rfl) ml_X6_22 rfl (by decide) rfl ?_
    refine g_iload_n C (i := 1) dX6_pump_42 rfl rfl ?_
    refine g_ia C dX6_pump_43 (hM.1 5 (by decide)) (reg_at (k := 5) (by decide)) rfl (by omega) (by decide) ?_
    refine g_iconst C (-1) dX6_pump_44 rfl ?_
    refine g_icmp_eq C 64 dX6_pump_45 (by decide) (fun h45 => ?_) (fun h45 => ?_)
    · rw [show J 14 i = mA1 J i by rw [mA1, if_pos h45]]
      skip
      exact J64 eR
    · obtain ⟨t, ht, et⟩ := hf.resolve_left h45
      have e1 : mA1 J i = jmin (J 14 i) (J 10 t) := by rw [mA1, if_neg h45, et, nI_clamp (by omega)]
      rw [e1] at J64
      refine g_iload_n C (i := 2) dX6_pump_48 rfl rfl ?_
      refine g_aload_n C (i := 0) dX6_pump_49 rfl rfl ?_
      refine g_getR C 6 13 (RX6, TX6, 29) dX6_pump_50 (hM.1 0 (by decide)) (hM.2 0 13 10 (by decide) rfl) ml_X6_38 rfl (by decide) rfl ?_
      refine g_aload_n C (i := 0) dX6_pump_53 rfl rfl ?_
      refine g_getR C 6 8 (RX6, TX6, 29) dX6_pump_54 (hM.1 0 (by decide)) (hM.2 0 8 5 (by decide) rfl) ml_X6_22 rfl (by decide) rfl ?_
      refine g_iload_n C (i := 1) dX6_pump_57 rfl rfl ?_
      refine g_ia C dX6_pump_58 (hM.1 5 (by decide)) (reg_at (k := 5) (by decide)) rfl (by omega) (by decide) ?_
      refine g_ia C dX6_pump_59 (hM.1 10 (by decide)) (reg_at (k := 10) (by decide)) et ht (by decide) ?_
      refine g_min C dX6_pump_60 ml_X6_115 (by decide) (Nat.le_of_ble_eq_true rfl) (Nat.le_of_ble_eq_true rfl) (Nat.le_of_ble_eq_true rfl) ?_
      refine g_istore_n C (i := 2) dX6_pump_63 rfl (by decide) ?_
      exact J64 eR
  refine g_aload_n C (i := 0) dX6_pump_0 rfl rfl ?_
  refine g_getR C 6 11 (RX6, TX6, 29) dX6_pump_1 (hM.1 0 (by decide)) (hM.2 0 11 8 (by decide) rfl) ml_X6_31 rfl (by decide) rfl ?_
  refine g_iload_n C (i := 1) dX6_pump_4 rfl rfl ?_
  refine g_ia C dX6_pump_5 (hM.1 8 (by decide)) (reg_at (k := 8) (by decide)) rfl (by omega) (by decide) ?_
  refine g_iconst C (-1) dX6_pump_6 rfl ?_
  refine g_icmp_eq C 31 dX6_pump_7 (by decide) (fun h7 => ?_) (fun h7 => ?_)
  · skip
    exact J31 (fun z => z.1 h7)
  · obtain ⟨t, ht, et⟩ := hk.resolve_left h7
    have etc : (J 8 i).toNatClampNeg = t := by rw [et]; exact nI_clamp (by omega)
    rw [etc] at eR J31
    refine g_aload_n C (i := 0) dX6_pump_10 rfl rfl ?_
    refine g_getR C 6 16 (RX6, TX6, 29) dX6_pump_11 (hM.1 0 (by decide)) (hM.2 0 16 13 (by decide) rfl) ml_X6_48 rfl (by decide) rfl ?_
    refine g_aload_n C (i := 0) dX6_pump_14 rfl rfl ?_
    refine g_getR C 6 11 (RX6, TX6, 29) dX6_pump_15 (hM.1 0 (by decide)) (hM.2 0 11 8 (by decide) rfl) ml_X6_31 rfl (by decide) rfl ?_
    refine g_iload_n C (i := 1) dX6_pump_18 rfl rfl ?_
    refine g_ia C dX6_pump_19 (hM.1 8 (by decide)) (reg_at (k := 8) (by decide)) rfl (by omega) (by decide) ?_
    refine g_za C dX6_pump_20 (hM.1 13 (by decide)) (reg_at (k := 13) (by decide)) et ht (by decide) (fun _ => ?_)
    refine g_aload_n C (i := 0) dX6_pump_21 rfl rfl ?_
    refine g_getR C 6 12 (RX6, TX6, 29) dX6_pump_22 (hM.1 0 (by decide)) (hM.2 0 12 9 (by decide) rfl) ml_X6_34 rfl (by decide) rfl ?_
    refine g_iload_n C (i := 1) dX6_pump_25 rfl rfl ?_
    refine g_za C dX6_pump_26 (hM.1 9 (by decide)) (reg_at (k := 9) (by decide)) rfl (by omega) (by decide) (fun _ => ?_)
    refine g_icmp_ne C 31 dX6_pump_27 (by decide) (fun h27 => ?_) (fun h27 => ?_)
    · skip
      exact J31 (fun z => h27 z.2)
    · rw [if_pos ⟨h7, h27⟩] at eR
      subst eR
      exact g_return C dX6_pump_30 ⟨Nat.le_of_ble_eq_true rfl, Nat.le_of_ble_eq_true rfl⟩ (tkEnd.rf rfl rfl rfl)
theorem c_X6_tick (hM : tkReg 21 mT mF σ r) {nt ns np : Nat} (hW : wM nt ns np J) :
    tkCon false (.code yX6_tick cX6_tick 3 (some .int)) yX6_tick 3 [.ref r] σ (reg r 21 J v) (reg r 21 K w) 0 0 (.inl (some (.int (mTick nt ns np (J, K)).2))) σ (reg r 21 (mTick nt ns np (J, K)).1.1 v) (reg r 21 (mTick nt ns np (J, K)).1.2 w) := by
  have hW1 : wM nt ns np (itr mFol ns ((J, K), 0)).1.1 := wM.fol (q := (J, K)) hW ns
  have hnt := hW.1.2
  have hnp := hW.2.2.1.2
  unfold mTick
  dsimp only
  refine tkCon.of (by decide) (Nat.le_of_ble_eq_true rfl) (fun X C => ?_)
  refine g_aload_n C (i := 0) dX6_tick_0 rfl rfl ?_
  refine g_callV C (q := (RX6, TX6, 29)) (rest := _) dX6_tick_1 mm_X6_turn ml_X6_121 mv_yX6_turn ms_yX6_turn (c_X6_turn hM hW) rfl (hM.1 0 (by decide)) rfl rfl ⟨by decide, Nat.le_of_ble_eq_true rfl, Nat.le_of_ble_eq_true rfl, Nat.le_of_ble_eq_true rfl⟩ (tk_retv ?_) tk_nothr
  generalize itr mFol ns ((J, K), 0) = f at *
  obtain ⟨⟨J1, K1⟩, n1⟩ := f
  dsimp only at *
  refine g_istore_n C (i := 1) dX6_tick_4 rfl (by decide) ?_
  refine g_iconst C (0) dX6_tick_5 rfl ?_
  refine g_istore_n C (i := 2) dX6_tick_6 rfl (by decide) ?_
  have hg0 := fun i => wM.pump (q := (J1, K1)) hW1 i
  obtain ⟨g, hg⟩ : ∃ g, g = fun i => itr mPump i (J1, K1) := ⟨_, rfl⟩
  have gs : ∀ i, g (i + 1) = mPump i (g i) := fun i => by rw [hg]; rfl
  have g0 : g 0 = (J1, K1) := by rw [hg]; rfl
  have gw : ∀ i, wM nt ns np (g i).1 := fun i => by rw [hg]; exact hg0 i
  rw [show itr mPump np (J1, K1) = g np by rw [hg]]
  clear hg hg0
  obtain ⟨a, ha⟩ : ∃ a, a = fun i => itr mLeak i (g np).1 := ⟨_, rfl⟩
  have as : ∀ i, a (i + 1) = mLeak i (a i) := fun i => by rw [ha]; rfl
  have a0 : a 0 = (g np).1 := by rw [ha]; rfl
  have aw : ∀ i, wM nt ns np (a i) := fun i => by rw [ha]; exact (gw np).leak i
  rw [show itr mLeak nt (g np).1 = a nt by rw [ha]]
  obtain ⟨b, hb⟩ : ∃ b, b = fun i => itr (mSum (a nt)) i (tk2 (g np).2 0 21 ((g np).2 0 21 + 1)) := ⟨_, rfl⟩
  have bs : ∀ i, b (i + 1) = mSum (a nt) i (b i) := fun i => by rw [hb]; rfl
  have b0 : b 0 = tk2 (g np).2 0 21 ((g np).2 0 21 + 1) := by rw [hb]; rfl
  rw [show itr (mSum (a nt)) nt (tk2 (g np).2 0 21 ((g np).2 0 21 + 1)) = b nt by rw [hb]]
  clear ha hb
  have K3 : ∀ k i, k + i = nt → tkG X (tkQ false X 0 0 (.inl (some (.int n1))) σ (reg r 21 (a nt) v) (reg r 21 (b nt) w)) 0 0 78 [some (.ref r), some (.int n1), some (.int (nI i))] [] σ (reg r 21 (a nt) v) (reg r 21 (b i) w) := by
    intro k
    induction k with
    | zero =>
      intro i hi
      have e : i = nt := by omega
      subst e
      refine g_iload_n C (i := 2) dX6_tick_78 rfl rfl ?_
      refine g_aload_n C (i := 0) dX6_tick_79 rfl rfl ?_
      refine g_getI C 6 1 (RX6, TX6, 29) dX6_tick_80 (hM.1 0 (by decide)) (reg_at (k := 0) (by decide)) ml_X6_76 rfl (by decide) (Or.inl rfl) ?_
      rw [(aw i).1.1]
      refine g_icmp_ge C 108 dX6_tick_83 (by decide) (fun h83 => ?_) (fun h83 => ?_)
      · refine g_iload_n C (i := 1) dX6_tick_108 rfl rfl ?_
        exact g_ireturn C dX6_tick_109 ⟨Nat.le_of_ble_eq_true rfl, Nat.le_of_ble_eq_true rfl⟩ (tkEnd.rf rfl rfl rfl)
      · exact absurd (Int32.le_refl _) h83
    | succ k ih =>
      intro i hi
      have ih1 := ih (i + 1) (by omega)
      rw [bs] at ih1
      refine g_iload_n C (i := 2) dX6_tick_78 rfl rfl ?_
      refine g_aload_n C (i := 0) dX6_tick_79 rfl rfl ?_
      refine g_getI C 6 1 (RX6, TX6, 29) dX6_tick_80 (hM.1 0 (by decide)) (reg_at (k := 0) (by decide)) ml_X6_76 rfl (by decide) (Or.inl rfl) ?_
      rw [(aw nt).1.1]
      refine g_icmp_ge C 108 dX6_tick_83 (by decide) (fun h83 => ?_) (fun h83 => ?_)
      · exact absurd h83 (nI_ge (by omega) (by omega))
      · refine g_aload_n C (i := 0) dX6_tick_86 rfl rfl ?_
        refine g_getR C 6 15 (RX6, TX6, 29) dX6_tick_87 (hM.1 0 (by decide)) (hM.2 0 15 12 (by decide) rfl) ml_X6_44 rfl (by decide) rfl ?_
        refine g_iload_n C (i := 2) dX6_tick_90 rfl rfl ?_
        refine g_dup2 C dX6_tick_91 rfl rfl ?_
        refine g_la C dX6_tick_92 (hM.1 12 (by decide)) (reg_at (k := 12) (by decide)) rfl (by omega) (by decide) ?_
        refine g_aload_n C (i := 0) dX6_tick_93 rfl rfl ?_
        refine g_getR C 6 13 (RX6, TX6, 29) dX6_tick_94 (hM.1 0 (by decide)) (hM.2 0 13 10 (by decide) rfl) ml_X6_38 rfl (by decide) rfl ?_
        refine g_iload_n C (i := 2) dX6_tick_97 rfl rfl ?_
        refine g_ia C dX6_tick_98 (hM.1 10 (by decide)) (reg_at (k := 10) (by decide)) rfl (by omega) (by decide) ?_
        refine g_i2l C dX6_tick_99 ?_
        refine g_ladd C dX6_tick_100 ?_
        refine g_ls C dX6_tick_101 (hM.1 12 (by decide)) (tk2_reg (k := 12) (by decide)) rfl (by omega) (by decide) ?_
        refine g_iinc C (i := 2) (nI (i + 1)) dX6_tick_102 rfl (nI_1 i) (by decide) ?_
        refine g_goto C 78 dX6_tick_105 (by decide) ?_
        exact ih1
  have K2 : ∀ k i, k + i = nt → tkG X (tkQ false X 0 0 (.inl (some (.int n1))) σ (reg r 21 (a nt) v) (reg r 21 (b nt) w)) 0 0 28 [some (.ref r), some (.int n1), some (.int (nI i))] [] σ (reg r 21 (a i) v) (reg r 21 (g np).2 w) := by
    intro k
    induction k with
    | zero =>
      intro i hi
      have e : i = nt := by omega
      subst e
      have k3 := K3 i 0 (by omega)
      rw [b0] at k3
      refine g_iload_n C (i := 2) dX6_tick_28 rfl rfl ?_
      refine g_aload_n C (i := 0) dX6_tick_29 rfl rfl ?_
      refine g_getI C 6 1 (RX6, TX6, 29) dX6_tick_30 (hM.1 0 (by decide)) (reg_at (k := 0) (by decide)) ml_X6_76 rfl (by decide) (Or.inl rfl) ?_
      rw [(aw i).1.1]
      refine g_icmp_ge C 66 dX6_tick_33 (by decide) (fun h33 => ?_) (fun h33 => ?_)
      · refine g_aload_n C (i := 0) dX6_tick_66 rfl rfl ?_
        refine g_dup C dX6_tick_67 rfl ?_
        refine g_getL C 6 21 (RX6, TX6, 29) dX6_tick_68 (hM.1 0 (by decide)) (reg_at (k := 0) (by decide)) ml_X6_104 rfl (by decide) rfl ?_
        refine g_lconst C 1 dX6_tick_71 rfl ?_
        refine g_ladd C dX6_tick_72 ?_
        refine g_putL C 6 21 (RX6, TX6, 29) dX6_tick_73 (hM.1 0 (by decide)) (tk2_reg (k := 0) (by decide)) ml_X6_104 rfl (by decide) rfl rfl ?_
        refine g_iconst C (0) dX6_tick_76 rfl ?_
        refine g_istore_n C (i := 2) dX6_tick_77 rfl (by decide) ?_
        exact k3
      · exact absurd (Int32.le_refl _) h33
    | succ k ih =>
      intro i hi
      have ih1 := ih (i + 1) (by omega)
      rw [as] at ih1
      refine g_iload_n C (i := 2) dX6_tick_28 rfl rfl ?_
      refine g_aload_n C (i := 0) dX6_tick_29 rfl rfl ?_
      refine g_getI C 6 1 (RX6, TX6, 29) dX6_tick_30 (hM.1 0 (by decide)) (reg_at (k := 0) (by decide)) ml_X6_76 rfl (by decide) (Or.inl rfl) ?_
      rw [(aw i).1.1]
      refine g_icmp_ge C 66 dX6_tick_33 (by decide) (fun h33 => ?_) (fun h33 => ?_)
      · exact absurd h33 (nI_ge (by omega) (by omega))
      · refine g_aload_n C (i := 0) dX6_tick_36 rfl rfl ?_
        refine g_getR C 6 13 (RX6, TX6, 29) dX6_tick_37 (hM.1 0 (by decide)) (hM.2 0 13 10 (by decide) rfl) ml_X6_38 rfl (by decide) rfl ?_
        refine g_iload_n C (i := 2) dX6_tick_40 rfl rfl ?_
        refine g_dup2 C dX6_tick_41 rfl rfl ?_
        refine g_ia C dX6_tick_42 (hM.1 10 (by decide)) (reg_at (k := 10) (by decide)) rfl (by omega) (by decide) ?_
        refine g_aload_n C (i := 0) dX6_tick_43 rfl rfl ?_
        refine g_getR C 6 14 (RX6, TX6, 29) dX6_tick_44 (hM.1 0 (by decide)) (hM.2 0 14 11 (by decide) rfl) ml_X6_41 rfl (by decide) rfl ?_
        refine g_iload_n C (i := 2) dX6_tick_47 rfl rfl ?_
        refine g_ia C dX6_tick_48 (hM.1 11 (by decide)) (reg_at (k := 11) (by decide)) rfl (by omega) (by decide) ?_
        refine g_aload_n C (i := 0) dX6_tick_49 rfl rfl ?_
        refine g_getR C 6 13 (RX6, TX6, 29) dX6_tick_50 (hM.1 0 (by decide)) (hM.2 0 13 10 (by decide) rfl) ml_X6_38 rfl (by decide) rfl ?_
        refine g_iload_n C (i := 2) dX6_tick_53 rfl rfl ?_
        refine g_ia C dX6_tick_54 (hM.1 10 (by decide)) (reg_at (k := 10) (by decide)) rfl (by omega) (by decide) ?_
        refine g_min C dX6_tick_55 ml_X6_115 (by decide) (Nat.le_of_ble_eq_true rfl) (Nat.le_of_ble_eq_true rfl) (Nat.le_of_ble_eq_true rfl) ?_
        refine g_isub C dX6_tick_58 ?_
        refine g_is C dX6_tick_59 (hM.1 10 (by decide)) (tk2_reg (k := 10) (by decide)) rfl (by omega) (by decide) ?_
        refine g_iinc C (i := 2) (nI (i + 1)) dX6_tick_60 rfl (nI_1 i) (by decide) ?_
        refine g_goto C 28 dX6_tick_63 (by decide) ?_
        exact ih1
  have K1' : ∀ k i, k + i = np → tkG X (tkQ false X 0 0 (.inl (some (.int n1))) σ (reg r 21 (a nt) v) (reg r 21 (b nt) w)) 0 0 7 [some (.ref r), some (.int n1), some (.int (nI i))] [] σ (reg r 21 (g i).1 v) (reg r 21 (g i).2 w) := by
    intro k
    induction k with
    | zero =>
      intro i hi
      have e : i = np := by omega
      subst e
      have k2 := K2 nt 0 (by omega)
      rw [a0] at k2
      refine g_iload_n C (i := 2) dX6_tick_7 rfl rfl ?_
      refine g_aload_n C (i := 0) dX6_tick_8 rfl rfl ?_
      refine g_getI C 6 7 (RX6, TX6, 29) dX6_tick_9 (hM.1 0 (by decide)) (reg_at (k := 0) (by decide)) ml_X6_82 rfl (by decide) (Or.inl rfl) ?_
      rw [(gw i).2.2.1.1]
      refine g_icmp_ge C 26 dX6_tick_12 (by decide) (fun h12 => ?_) (fun h12 => ?_)
      · refine g_iconst C (0) dX6_tick_26 rfl ?_
        refine g_istore_n C (i := 2) dX6_tick_27 rfl (by decide) ?_
        exact k2
      · exact absurd (Int32.le_refl _) h12
    | succ k ih =>
      intro i hi
      have ih1 := ih (i + 1) (by omega)
      rw [gs] at ih1
      refine g_iload_n C (i := 2) dX6_tick_7 rfl rfl ?_
      refine g_aload_n C (i := 0) dX6_tick_8 rfl rfl ?_
      refine g_getI C 6 7 (RX6, TX6, 29) dX6_tick_9 (hM.1 0 (by decide)) (reg_at (k := 0) (by decide)) ml_X6_82 rfl (by decide) (Or.inl rfl) ?_
      rw [(gw i).2.2.1.1]
      refine g_icmp_ge C 26 dX6_tick_12 (by decide) (fun h12 => ?_) (fun h12 => ?_)
      · exact absurd h12 (nI_ge (by omega) (by omega))
      · refine g_aload_n C (i := 0) dX6_tick_15 rfl rfl ?_
        refine g_iload_n C (i := 2) dX6_tick_16 rfl rfl ?_
        refine g_callV C (q := (RX6, TX6, 29)) (rest := _) dX6_tick_17 mm_X6_pump ml_X6_125 mv_yX6_pump ms_yX6_pump (c_X6_pump hM (gw i) (by omega)) rfl (hM.1 0 (by decide)) rfl rfl ⟨by decide, Nat.le_of_ble_eq_true rfl, Nat.le_of_ble_eq_true rfl, Nat.le_of_ble_eq_true rfl⟩ (tk_retn ?_) tk_nothr
        refine g_iinc C (i := 2) (nI (i + 1)) dX6_tick_20 rfl (nI_1 i) (by decide) ?_
        refine g_goto C 7 dX6_tick_23 (by decide) ?_
        exact ih1
  have k1 := K1' np 0 (by omega)
  rw [g0] at k1
  exact k1
end TKMTICK

section TKLMATH
/-- the law's rows that no tick writes, beside those of the plain plant -/
def lSt (J M : tkI) : Prop := (eqR 3 (M 1) (J 0) ∧ eqR 3 (M 11) (J 2)) ∧ (eqR 2 (M 2) (J 4) ∧ eqR 2 (M 3) (J 5) ∧ eqR 2 (M 4) (J 6)) ∧
  (eqR 4 (M 5) (J 8) ∧ eqR 4 (M 6) (J 9) ∧ eqR 4 (M 14) (J 10) ∧ eqR 4 (M 8) (J 11) ∧ eqR 4 (M 9) (J 12) ∧ ∀ k, k < 4 → M 7 k = 2)
/-- their bounds -/
def lB (M : tkI) : Prop := (∀ j, j < 3 → 0 ≤ (M 11 j).toInt ∧ (M 11 j).toInt ≤ 1000000) ∧ (∀ i, i < 2 → ∃ t, t < 3 ∧ M 2 i = nI t) ∧
  ∀ i, i < 4 → end_ 3 (M 5 i) ∧ end_ 3 (M 6 i) ∧ (M 8 i = -1 ∨ ∃ t, t < 2 ∧ M 8 i = nI t) ∧ M 5 i ≠ M 6 i ∧ 1 ≤ (M 14 i).toInt
def lR (a b : tkI × tkL) : Prop := lSt a.1 b.1 ∧ lB b.1 ∧ (eqR 3 (b.1 10) (a.1 1) ∧ lvB 3 (b.1 10) (b.1 1)) ∧ (eqR 2 (b.1 13) (a.1 7) ∧ ∀ i, i < 2 → b.1 13 i = 0 ∨ b.1 13 i = 1) ∧
  eqR 3 (b.2 12) (a.2 3) ∧ eqR 4 (b.2 15) (a.2 13) ∧ (∀ k, k < 4 → b.2 16 k = 2 * a.2 13 k) ∧ eqR 4 (b.2 17) (a.2 14)
def lK (J J' : tkI) : Prop := ∀ r, r ≠ 1 → r ≠ 7 → J' r = J r
def mK9 (M M' : tkI) : Prop := ∀ r, r ≠ 0 → r ≠ 10 → r ≠ 13 → r ≠ 19 → M' r = M r
theorem lSt.keep {J J' M M' : tkI} (h : lSt J M) (hx : lK J J') (hm : mK9 M M') : lSt J' M' := by
  unfold lSt at *
  rw [hx 0 (by decide) (by decide), hx 2 (by decide) (by decide), hx 4 (by decide) (by decide), hx 5 (by decide) (by decide), hx 6 (by decide) (by decide), hx 8 (by decide) (by decide), hx 9 (by decide) (by decide), hx 10 (by decide) (by decide), hx 11 (by decide) (by decide), hx 12 (by decide) (by decide),
    hm 1 (by decide) (by decide) (by decide) (by decide), hm 11 (by decide) (by decide) (by decide) (by decide), hm 2 (by decide) (by decide) (by decide) (by decide), hm 3 (by decide) (by decide) (by decide) (by decide), hm 4 (by decide) (by decide) (by decide) (by decide), hm 5 (by decide) (by decide) (by decide) (by decide), hm 6 (by decide) (by decide) (by decide) (by decide), hm 14 (by decide) (by decide) (by decide) (by decide), hm 8 (by decide) (by decide) (by decide) (by decide), hm 9 (by decide) (by decide) (by decide) (by decide), hm 7 (by decide) (by decide) (by decide) (by decide)]
  exact h
theorem lB.keep {M M' : tkI} (h : lB M) (hm : mK9 M M') : lB M' := by
  unfold lB at *
  rw [hm 11 (by decide) (by decide) (by decide) (by decide), hm 2 (by decide) (by decide) (by decide) (by decide), hm 5 (by decide) (by decide) (by decide) (by decide), hm 6 (by decide) (by decide) (by decide) (by decide), hm 8 (by decide) (by decide) (by decide) (by decide), hm 14 (by decide) (by decide) (by decide) (by decide)]
  exact h
theorem x_neg {x : Int32} {n : Nat} (hn : n ≤ 8) (h : x = -1 ∨ ∃ t, t < n ∧ x = nI t) : x < 0 ↔ x = -1 := by
  rcases h with h | ⟨t, ht, h⟩
  · exact ⟨fun _ => h, fun _ => by rw [h]; decide⟩
  · exact ⟨fun z => absurd z (by rw [h]; exact nI_pos (by omega)), fun z => by rw [z]; decide⟩
theorem mLog_22 (i : Int32) (lg : Nat) (q : tkI × tkL) : (mLog i lg q).2 0 22 = q.2 0 22 + 1 := by
  have e : ∀ s q1, (mPut i s q1).2 0 22 = q1.2 0 22 + 1 := fun s q1 => by
    show tk2 (tk2 q1.2 18 s (q1.2 0 21)) 0 22 (q1.2 0 22 + 1) 0 22 = _
    exact tk2_at
  unfold mLog
  split
  · rw [e, mSh_K _ _ (by decide)]
  · exact e _ _
/-! the switches -/
def lF2 (J0 : tkI) (m0 : tkI × tkL) (c0 : Int32) (i : Nat) (a : tkI × Int32) (b : (tkI × tkL) × Int32) : Prop :=
  ∃ d, d ≤ i ∧ b.2 = nI d ∧ a.2 = c0 + nI d ∧ b.1.2 0 22 = m0.2 0 22 + lN d ∧ b.1.2 0 21 = m0.2 0 21 ∧ (∀ r, r ≠ 0 → r ≠ 13 → r ≠ 19 → b.1.1 r = m0.1 r) ∧ (∀ r, r ≠ 0 → r ≠ 18 → b.1.2 r = m0.2 r) ∧ (∀ r, r ≠ 7 → a.1 r = J0 r) ∧
    eqR 2 (b.1.1 13) (a.1 7) ∧ ∀ i, i < 2 → b.1.1 13 i = 0 ∨ b.1.1 13 i = 1
theorem lF2.step {J0 : tkI} {K0 : tkL} {m0 : tkI × tkL} {c0 : Int32} (h : lR (J0, K0) m0) {i : Nat} (hi : i < 2) {a : tkI × Int32} {b : (tkI × tkL) × Int32} (p : lF2 J0 m0 c0 i a b) : lF2 J0 m0 c0 (i + 1) (lFol i a) (mFol i b) := by
  obtain ⟨qa, n1⟩ := a
  obtain ⟨mb, n2⟩ := b
  obtain ⟨d, hd, e1, e2, e3, e4, e5, e6, e7, e8, e9⟩ := p
  obtain ⟨hS, hB, ⟨hLv, hlb⟩, hOn, -⟩ := h
  dsimp only at *
  have hdue : mDue mb.1 i = lDue qa i := by
    obtain ⟨t, ht, et⟩ := hB.2.1 i hi
    have etc : (m0.1 2 i).toNatClampNeg = t := by rw [et]; exact nI_clamp (by omega)
    have hz : (if mb.1 13 i = 0 then (0 : Int32) else 1) = mb.1 13 i := by rcases e9 i hi with z | z <;> rw [z] <;> decide
    unfold mDue lDue
    rw [hz, e5 10 (by decide) (by decide) (by decide), e5 2 (by decide) (by decide) (by decide), e5 3 (by decide) (by decide) (by decide), e5 4 (by decide) (by decide) (by decide), e7 1 (by decide), e7 4 (by decide), e7 5 (by decide), e7 6 (by decide),
      ← hS.2.1.1 i hi, ← hS.2.1.2.1 i hi, ← hS.2.1.2.2 i hi, etc, hLv t ht, e8 i hi]
  have hb : lDue qa i = 0 ∨ lDue qa i = 1 := by
    rw [← hdue]
    unfold mDue
    split
    · exact Or.inr rfl
    · split
      · exact Or.inl rfl
      · split
        · exact Or.inl rfl
        · exact Or.inr rfl
  have k1 : (lFol i (qa, n1)).1 = tk2 qa 7 i (lDue qa i) := rfl
  have k2 : (lFol i (qa, n1)).2 = n1 + if lDue qa i = qa 7 i then 0 else 1 := rfl
  have k7 : ∀ r, r ≠ 7 → tk2 qa 7 i (lDue qa i) r = J0 r := fun r hr => by
    rw [← e7 r hr]
    funext j
    exact tk2_ne hr
  unfold lF2
  rw [k1, k2]
  unfold mFol
  dsimp only
  rw [hdue, e8 i hi]
  by_cases h1 : lDue qa i = qa 7 i
  · rw [if_pos h1, if_pos h1]
    refine ⟨d, by omega, e1, by rw [Int32.add_zero]; exact e2, e3, e4, e5, e6, k7, fun j hj => ?_, e9⟩
    by_cases e : j = i
    · rw [e, tk2_at, h1]
      exact e8 i hi
    · rw [show tk2 qa 7 i (lDue qa i) 7 j = qa 7 j from if_neg (fun z => e z.2)]
      exact e8 j hj
  · rw [if_neg h1, if_neg h1]
    dsimp only
    have jJ : ∀ k, k ≠ 0 → k ≠ 19 → (mLog (nI i) (mb.1 0 23).toNatClampNeg (tk2 mb.1 13 i (lDue qa i), mb.2)).1 k = tk2 mb.1 13 i (lDue qa i) k := fun k x y => mLog_J _ _ _ x y
    have kK : ∀ k, k ≠ 0 → k ≠ 18 → (mLog (nI i) (mb.1 0 23).toNatClampNeg (tk2 mb.1 13 i (lDue qa i), mb.2)).2 k = mb.2 k := fun k x y => mLog_K _ _ _ x y
    have k21 := mLog_21 (nI i) (mb.1 0 23).toNatClampNeg (tk2 mb.1 13 i (lDue qa i), mb.2)
    have k22 := mLog_22 (nI i) (mb.1 0 23).toNatClampNeg (tk2 mb.1 13 i (lDue qa i), mb.2)
    generalize mLog (nI i) (mb.1 0 23).toNatClampNeg (tk2 mb.1 13 i (lDue qa i), mb.2) = y at *
    dsimp only at *
    refine ⟨d + 1, by omega, by rw [e1, nI_1], by rw [e2, Int32.add_assoc, nI_1], by rw [k22, e3, Int64.add_assoc, lN_1], k21.trans e4, fun r r0 r13 r19 => ?_, fun r r0 r18 => (kK r r0 r18).trans (e6 r r0 r18), k7, fun j hj => ?_, fun j hj => ?_⟩
    · rw [jJ r r0 r19, ← e5 r r0 r13 r19]
      funext j
      exact tk2_ne r13
    · rw [jJ 13 (by decide) (by decide)]
      by_cases e : j = i
      · rw [e, tk2_at, tk2_at]
      · rw [show tk2 qa 7 i (lDue qa i) 7 j = qa 7 j from if_neg (fun z => e z.2), show tk2 mb.1 13 i (lDue qa i) 13 j = mb.1 13 j from if_neg (fun z => e z.2)]
        exact e8 j hj
    · rw [jJ 13 (by decide) (by decide)]
      by_cases e : j = i
      · rw [e, tk2_at]
        exact hb
      · rw [show tk2 mb.1 13 i (lDue qa i) 13 j = mb.1 13 j from if_neg (fun z => e z.2)]
        exact e9 j hj
/-! the pumps -/
theorem lAmt_eq {J : tkI} {i : Nat} (h8 : J 8 i < 0 ↔ J 8 i = -1) (h9 : J 9 i < 0 ↔ J 9 i = -1) : lAmt J i = amt (J 8 i) (J 9 i) (J 10 i) (J 1) (J 0) := by
  unfold lAmt lA1 amt
  simp only [h8, h9]
theorem lMv_1 {J : tkI} {m : Int32} {i : Nat} (h8 : J 8 i < 0 ↔ J 8 i = -1) (h9 : J 9 i < 0 ↔ J 9 i = -1) : lMv2 m i (lMv1 m i J) 1 = mv2 (J 9 i) m (mv1 (J 8 i) m (J 1)) := by
  unfold lMv1 lMv2 mv1 mv2
  simp only [h8]
  funext j
  by_cases a : J 8 i = -1
  · simp only [a, if_true, h9]
    by_cases b : J 9 i = -1
    · simp [b]
    · simp [b, tk2]
  · simp only [a, if_false]
    have e9 : ∀ x y, tk2 J 1 x y 9 i = J 9 i := fun x y => tk2_ne (by decide)
    simp only [e9, h9]
    by_cases b : J 9 i = -1
    · simp [b, tk2]
    · simp [b, tk2]
theorem lEnt_13 (m : Int32) (k : Nat) (J : tkI) (K : tkL) (j : Nat) : lEnt m k J K 13 j = if j = k then K 13 k + m.toInt64 else K 13 j := by
  unfold lEnt
  simp [tk2]
theorem lEnt_14 (m : Int32) (k : Nat) (J : tkI) (K : tkL) (j : Nat) : lEnt m k J K 14 j = if j = k then K 14 k + (if J 10 k ≤ m then 0 else 1) else K 14 j := by
  unfold lEnt
  simp [tk2]
theorem lEnt_3 (m : Int32) (k : Nat) (J : tkI) (K : tkL) : lEnt m k J K 3 = K 3 := by
  unfold lEnt
  funext j
  simp [tk2]
theorem lR.pump {a b : tkI × tkL} (h : lR a b) {i : Nat} (hi : i < 4) : lR (lPump i a) (mPump i b) := by
  obtain ⟨hS, hB, ⟨hLv, hlb⟩, ⟨hOn, hO1⟩, h12, h15, h16, h17⟩ := h
  obtain ⟨f5, f6, f8, fne, fr⟩ := hB.2.2 i hi
  obtain ⟨s5, s6, s14, s8, s9, s7⟩ := hS.2.2
  have e8 := s5 i hi
  have e9 := s6 i hi
  have e10 := s14 i hi
  have e11 := s8 i hi
  have e12 := s9 i hi
  have n8 : a.1 8 i < 0 ↔ a.1 8 i = -1 := by rw [← e8]; exact x_neg (by decide) f5
  have n9 : a.1 9 i < 0 ↔ a.1 9 i = -1 := by rw [← e9]; exact x_neg (by decide) f6
  have n11 : a.1 11 i < 0 ↔ a.1 11 i = -1 := by rw [← e11]; exact x_neg (by decide) f8
  have hoff : (¬ a.1 11 i < 0 ∧ a.1 7 (a.1 11 i).toNatClampNeg = a.1 12 i) ↔ (¬ b.1 8 i = -1 ∧ b.1 13 (b.1 8 i).toNatClampNeg = b.1 9 i) := by
    rw [n11, ← e11, ← e12]
    refine and_congr_right fun z => ?_
    obtain ⟨t, ht, et⟩ := f8.resolve_left z
    rw [et, nI_clamp (by omega), hOn t ht]
  unfold lPump mPump
  by_cases h0 : ¬ b.1 8 i = -1 ∧ b.1 13 (b.1 8 i).toNatClampNeg = b.1 9 i
  · rw [if_pos h0, if_pos (hoff.mpr h0)]
    exact ⟨hS, hB, ⟨hLv, hlb⟩, ⟨hOn, hO1⟩, h12, h15, h16, h17⟩
  · rw [if_neg h0, if_neg (fun z => h0 (hoff.mp z))]
    have eA : lAmt a.1 i = mAmt b.1 i := by
      rw [lAmt_eq n8 n9, mAmt_eq, ← e8, ← e9, ← e10]
      exact (amt_congr (by decide) f5 f6 hLv hS.1.1).symm
    have hmv := mv_B (fr := b.1 5 i) (to := b.1 6 i) (rt := b.1 14 i) (by decide) f5 f6 fne hlb fr
    rw [← mAmt_eq] at hmv
    rw [eA]
    generalize mAmt b.1 i = m at *
    have l1 := lMv_1 (m := m) n8 n9
    have l2 := mLv_10 m i b.1
    have kl : ∀ r, r ≠ 1 → lMv2 m i (lMv1 m i a.1) r = a.1 r := fun r hr => (lMv2_keep _ _ _ hr).trans (lMv1_keep _ _ _ hr)
    have km : ∀ r, r ≠ 10 → mLv2 m i (mLv1 m i b.1) r = b.1 r := fun r hr => mLv_J m i b.1 hr
    generalize lMv2 m i (lMv1 m i a.1) = J at *
    generalize mLv2 m i (mLv1 m i b.1) = M at *
    have m9 : mK9 b.1 M := fun r _ r10 _ _ => km r r10
    refine ⟨hS.keep (fun r r1 _ => kl r r1) m9, hB.keep m9, ⟨?_, ?_⟩, ⟨?_, ?_⟩, ?_, fun j hj => ?_, fun j hj => ?_, fun j hj => ?_⟩
    · dsimp only
      rw [l1, l2, ← e8, ← e9]
      exact mv2_congr (by decide) f6 (mv1_congr (by decide) f5 hLv)
    · dsimp only
      rw [l2, km 1 (by decide)]
      exact hmv.2
    · dsimp only
      rw [km 13 (by decide), kl 7 (by decide)]
      exact hOn
    · dsimp only
      rw [km 13 (by decide)]
      exact hO1
    · dsimp only
      rw [lEnt_3, mEnt_K _ _ _ _ (by decide) (by decide) (by decide)]
      exact h12
    · dsimp only
      rw [lEnt_13, mEnt_15, h15 i hi, h15 j hj]
    · dsimp only
      rw [lEnt_13, mEnt_16, s7 i hi, h16 i hi, h16 j hj]
      by_cases e : j = i
      · rw [if_pos e, if_pos e, Int64.mul_add, Int64.mul_comm m.toInt64]
        rfl
      · rw [if_neg e, if_neg e]
    · dsimp only
      rw [lEnt_14, mEnt_17, kl 10 (by decide), ← e10, h17 i hi, h17 j hj]
/-! leaks and sums -/
theorem jmax_Z (x y : Int32) : (jmax x y).toInt = max x.toInt y.toInt := by
  unfold jmax
  split <;> (rename_i h; rw [Int32.lt_iff_toInt_lt] at h; omega)
theorem lLeak_at (q : tkI × tkL) : ∀ n, (∀ j, (itr lLeak n q).1 1 j = if j < n then jmax (q.1 1 j - q.1 2 j) 0 else q.1 1 j) ∧ (∀ j, (itr lLeak n q).2 3 j = if j < n then q.2 3 j + (jmax (q.1 1 j - q.1 2 j) 0).toInt64 else q.2 3 j) ∧ (∀ k, k ≠ 1 → (itr lLeak n q).1 k = q.1 k) ∧ ∀ k, k ≠ 3 → (itr lLeak n q).2 k = q.2 k
  | 0 => ⟨fun j => by rw [if_neg (Nat.not_lt_zero j)]; rfl, fun j => by rw [if_neg (Nat.not_lt_zero j)]; rfl, fun k _ => rfl, fun k _ => rfl⟩
  | n + 1 => by
    obtain ⟨h1, h2, h3, h4⟩ := lLeak_at q n
    rw [itr_s]
    generalize itr lLeak n q = a at *
    unfold lLeak
    refine ⟨fun j => ?_, fun j => ?_, fun k hk => ?_, fun k hk => ?_⟩
    · dsimp only
      by_cases e : j = n
      · subst e
        rw [tk2_at, h1 j, if_neg (Nat.lt_irrefl j), h3 2 (by decide), if_pos (Nat.lt_succ_self j)]
      · rw [show ∀ x, tk2 a.1 1 n x 1 j = a.1 1 j from fun x => if_neg (fun z => e z.2), h1 j]
        by_cases h : j < n
        · rw [if_pos h, if_pos (by omega)]
        · rw [if_neg h, if_neg (by omega)]
    · dsimp only
      by_cases e : j = n
      · subst e
        rw [tk2_at, tk2_at, h2 j, if_neg (Nat.lt_irrefl j), h1 j, if_neg (Nat.lt_irrefl j), h3 2 (by decide), if_pos (Nat.lt_succ_self j)]
      · rw [show ∀ x, tk2 a.2 3 n x 3 j = a.2 3 j from fun x => if_neg (fun z => e z.2), h2 j]
        by_cases h : j < n
        · rw [if_pos h, if_pos (by omega)]
        · rw [if_neg h, if_neg (by omega)]
    · rw [← h3 k hk]
      funext j
      exact tk2_ne hk
    · rw [← h4 k hk]
      funext j
      exact tk2_ne hk
/-- one tick of the law beside one of the plain plant -/
theorem lR.tick {a m : tkI × tkL} (h : lR a m) (c0 : Int32) : lR (lTick (a, c0)).1 (mTick 3 2 4 m).1 ∧ ∃ d, d ≤ 2 ∧ (mTick 3 2 4 m).2 = nI d ∧ (lTick (a, c0)).2 = c0 + nI d ∧ (mTick 3 2 4 m).1.2 0 22 = m.2 0 22 + lN d ∧ (mTick 3 2 4 m).1.2 0 21 = m.2 0 21 + 1 := by
  obtain ⟨J0, K0⟩ := a
  have hf := itr_rel (f := lFol) (g := mFol) (n := 2) (P := lF2 J0 m c0) (fun i a b hi hp => hp.step h hi) (k := 2) (Nat.le_refl _) (a := (J0, c0)) (b := (m, 0)) ⟨0, Nat.le_refl _, rfl, (Int32.add_zero _).symm, (Int64.add_zero _).symm, rfl, fun _ _ _ _ => rfl, fun _ _ _ => rfl, fun _ _ => rfl, h.2.2.2.1.1, h.2.2.2.1.2⟩
  unfold lTick mTick
  dsimp only
  generalize itr lFol 2 (J0, c0) = f at *
  generalize itr mFol 2 (m, 0) = g at *
  obtain ⟨d, hd, e1, e2, e3, e4, e5, e6, e7, e8, e9⟩ := hf
  have hR : lR (f.1, K0) g.1 := by
    obtain ⟨hS, hB, ⟨hLv, hlb⟩, ⟨hOn, hO1⟩, h12, h15, h16, h17⟩ := h
    have m9 : mK9 m.1 g.1.1 := fun r r0 _ r13 r19 => e5 r r0 r13 r19
    refine ⟨hS.keep (fun r _ r7 => e7 r r7) m9, hB.keep m9, ⟨?_, ?_⟩, ⟨e8, e9⟩, ?_, ?_, ?_, ?_⟩
    · dsimp only
      rw [e5 10 (by decide) (by decide) (by decide), e7 1 (by decide)]
      exact hLv
    · rw [e5 10 (by decide) (by decide) (by decide), e5 1 (by decide) (by decide) (by decide)]
      exact hlb
    · rw [e6 12 (by decide) (by decide)]
      exact h12
    · rw [e6 15 (by decide) (by decide)]
      exact h15
    · rw [e6 16 (by decide) (by decide)]
      exact h16
    · rw [e6 17 (by decide) (by decide)]
      exact h17
  have m0 : ∀ (i : Nat) (b : tkI × tkL), (mPump i b).2 0 = b.2 0 := fun i b => by
    unfold mPump
    split
    · rfl
    · exact mEnt_K (k := 0) (mAmt b.1 i) i b.1 b.2 (by decide) (by decide) (by decide)
  have p0 : (itr mPump 4 g.1).2 0 = g.1.2 0 := itr_keep (g := fun b : tkI × tkL => b.2 0) m0 4 g.1
  have hp := itr_rel (f := lPump) (g := mPump) (n := 4) (P := fun _ a b => lR a b) (fun i a b hi hp => hp.pump hi) (k := 4) (Nat.le_refl _) (a := (f.1, K0)) (b := g.1) hR
  generalize itr lPump 4 (f.1, K0) = x at *
  generalize itr mPump 4 g.1 = y at *
  obtain ⟨hS, hB, ⟨hLv, hlb⟩, ⟨hOn, hO1⟩, h12, h15, h16, h17⟩ := hp
  obtain ⟨a1, a2, a3, a4⟩ := lLeak_at x 3
  obtain ⟨l1, l2⟩ := mLeak_at y.1 3
  obtain ⟨u1, u2⟩ := mSum_at (itr mLeak 3 y.1) (tk2 y.2 0 21 (y.2 0 21 + 1)) 3
  generalize itr (mSum (itr mLeak 3 y.1)) 3 (tk2 y.2 0 21 (y.2 0 21 + 1)) = K at *
  generalize itr mLeak 3 y.1 = J at *
  generalize itr lLeak 3 x = r at *
  have m9 : mK9 y.1 J := fun r _ r10 _ _ => l2 r r10
  have lv : ∀ j, j < 3 → J 10 j = r.1 1 j ∧ 0 ≤ (J 10 j).toInt ∧ (J 10 j).toInt ≤ (y.1 1 j).toInt := fun j hj => by
    obtain ⟨b1, b2, b3⟩ := hlb j hj
    obtain ⟨b4, b5⟩ := hB.1 j hj
    have z0 : (0 : Int32).toInt = 0 := by decide
    have q1 : (J 10 j).toInt = (y.1 10 j).toInt - min (y.1 11 j).toInt (y.1 10 j).toInt := by
      rw [l1 j, if_pos hj, i32_sub (by rw [jmin_Z]; omega) (by rw [jmin_Z]; omega), jmin_Z]
    have q2 : (r.1 1 j).toInt = max ((y.1 10 j).toInt - (y.1 11 j).toInt) 0 := by
      rw [a1 j, if_pos hj, ← hLv j hj, ← hS.1.2 j hj, jmax_Z, i32_sub (by omega) (by omega), z0]
    exact ⟨Int32.toInt_inj.mp (by rw [q1, q2]; omega), by rw [q1]; omega, by rw [q1]; omega⟩
  have ul : ∀ k, k ≠ 12 → k ≠ 0 → K k = y.2 k := fun k h12 h0 => by
    rw [u2 k h12]
    funext j
    exact tk2_ne h0
  refine ⟨⟨hS.keep (fun r r1 _ => a3 r r1) m9, hB.keep m9, ⟨fun j hj => (lv j hj).1, fun j hj => ⟨(lv j hj).2.1, ?_, ?_⟩⟩, ⟨?_, ?_⟩, fun j hj => ?_, ?_, ?_, ?_⟩, d, hd, e1, e2, ?_, ?_⟩
  · dsimp only
    rw [l2 1 (by decide)]
    exact (lv j hj).2.2
  · dsimp only
    rw [l2 1 (by decide)]
    exact (hlb j hj).2.2
  · dsimp only
    rw [l2 13 (by decide), a3 7 (by decide)]
    exact hOn
  · dsimp only
    rw [l2 13 (by decide)]
    exact hO1
  · dsimp only
    rw [u1 j, if_pos hj, (lv j hj).1, a1 j, if_pos hj, a2 j, if_pos hj, show tk2 y.2 0 21 (y.2 0 21 + 1) 12 j = y.2 12 j from tk2_ne (by decide), h12 j hj]
  · dsimp only
    rw [ul 15 (by decide) (by decide), a4 13 (by decide)]
    exact h15
  · dsimp only
    rw [ul 16 (by decide) (by decide), a4 13 (by decide)]
    exact h16
  · dsimp only
    rw [ul 17 (by decide) (by decide), a4 14 (by decide)]
    exact h17
  · rw [u2 0 (by decide), show tk2 y.2 0 21 (y.2 0 21 + 1) 0 22 = y.2 0 22 from if_neg (fun z => absurd z.2 (by decide)), p0, e3]
  · rw [u2 0 (by decide), tk2_at, p0, e4]
/-- n ticks -/
theorem lR.ticks {a m : tkI × tkL} (h : lR a m) : ∀ n, lR (lTks n (a, 0)).1 (mTk 3 2 4 n m) ∧ ∃ D, D ≤ 2 * n ∧ (mRun 3 2 4 n m).2 = nI D ∧ (lTks n (a, 0)).2 = nI D ∧ (mTk 3 2 4 n m).2 0 22 = m.2 0 22 + lN D ∧ (mTk 3 2 4 n m).2 0 21 = m.2 0 21 + lN n
  | 0 => ⟨h, 0, Nat.le_refl _, rfl, rfl, (Int64.add_zero _).symm, (Int64.add_zero _).symm⟩
  | n + 1 => by
    obtain ⟨h1, D, hD, e1, e2, e3, e4⟩ := lR.ticks h n
    obtain ⟨g1, d, hd, f1, f2, f3, f4⟩ := h1.tick (lTks n (a, 0)).2
    refine ⟨g1, D + d, by omega, ?_, ?_, ?_, ?_⟩
    · rw [mRun_2, e1, f1, nI_add]
    · rw [show (lTks (n + 1) (a, 0)).2 = (lTick ((lTks n (a, 0)).1, (lTks n (a, 0)).2)).2 from rfl, f2, e2, nI_add]
    · rw [show mTk 3 2 4 (n + 1) m = (mTick 3 2 4 (mTk 3 2 4 n m)).1 from rfl, f3, e3, Int64.add_assoc, lN_add]
    · rw [show mTk 3 2 4 (n + 1) m = (mTick 3 2 4 (mTk 3 2 4 n m)).1 from rfl, f4, e4, Int64.add_assoc, lN_1]
end TKLMATH

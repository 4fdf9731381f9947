section TKRUNS
/-- n ticks of the reference -/
def mTk (nt ns np n : Nat) (m : tkI × tkL) : tkI × tkL := itr (fun _ a => (mTick nt ns np a).1) n m
theorem mTk_add (nt ns np a : Nat) (m : tkI × tkL) : ∀ b, mTk nt ns np (a + b) m = mTk nt ns np b (mTk nt ns np a m)
  | 0 => rfl
  | b + 1 => congrArg (fun x => (mTick nt ns np x).1) (mTk_add nt ns np a m b)
theorem mTk_1 (nt ns np : Nat) (m : tkI × tkL) : mTk nt ns np 1 m = (mTick nt ns np m).1 := rfl
theorem wTr.lv2 {nt ns np : Nat} {I : tkI} (hB : wBS nt ns np I) (h : wTr nt np I) : lv2 nt I := by
  obtain ⟨f, t0, t1, t2, t3⟩ := h
  refine ⟨fun j hj => ?_, fun j hj => ?_⟩
  · obtain ⟨v1, v2, v3⟩ := t1 np (Nat.le_refl _) j hj
    obtain ⟨-, -, w1, w2⟩ := hB.1 j hj
    rw [t3 j hj, i32_sub (by rw [jmin_Z]; omega) (by rw [jmin_Z]; omega), jmin_Z]
    omega
  · rw [t0 j hj]
    exact t1 0 (Nat.zero_le _) j hj
theorem bulk_zero {nt ns np c : Nat} {q m : tkI × tkL} (h : wRel nt ns np c q m) : wRel nt ns np c (bulk nt np 0 q) m ∧ ∀ j, j < nt → (bulk nt np 0 q).1 3 j = q.1 3 j := by
  obtain ⟨b3, bI, b5, b19, b20, b21, b4, bL⟩ := bulk_rows nt np 0 q
  have z : (nI 0).toInt64 = 0 := by decide
  have st := steps_eq (k := 0) (by omega)
  have st : (nI 0).toInt64 * (nI 0 + 1).toInt64 / 2 = 0 := st
  have e3 : ∀ j, j < nt → (bulk nt np 0 q).1 3 j = q.1 3 j := fun j hj => by rw [b3 j, if_pos hj, nI_0, Int32.mul_zero, Int32.add_zero]
  refine ⟨h.congr (fun r a3 _ _ _ _ _ _ => bI r a3) e3 (fun j hj => by rw [bI 11 (by decide)]) (bI 27 (by decide)) (fun j hj => ?_) (fun j hj => ?_) (fun j hj => ?_) (fun j hj => ?_) ?_ (bL 25 (by decide) (by decide) (by decide) (by decide) (by decide)) (bL 26 (by decide) (by decide) (by decide) (by decide) (by decide)), e3⟩
  · rw [b5 j, if_pos hj, st, z, Int64.mul_zero, Int64.mul_zero, Int64.add_zero, Int64.add_zero]
  · rw [b19 j, z, Int64.mul_zero, Int64.add_zero, ite_self]
  · rw [b20 j, z, Int64.mul_zero, Int64.zero_mul, Int64.add_zero, ite_self]
  · rw [b21 j, z, ite_self, Int64.add_zero, ite_self]
  · rw [b4, z, Int64.add_zero]
def cAll (nt ns np : Nat) (I : tkI) (κ : Nat) : Prop := (∀ i, i < ns → cSw I i κ) ∧ (∀ i, i < np → cPu I i κ) ∧ ∀ j, j < nt → cTk I j κ
theorem bulk_many {nt ns np c r : Nat} {q m : tkI × tkL} (hr : r ≤ 5000) (hc : c + 10 < 2 ^ 62) (h : wRel nt ns np c q m) (hT : wTr nt np q.1) (hC : ∀ κ, κ ≤ r → cAll nt ns np q.1 κ) :
    ∀ k, k ≤ r → (∀ i, i < k → (mTick nt ns np (mTk nt ns np i m)).2 = 0) ∧ wRel nt ns np c (bulk nt np k q) (mTk nt ns np k m) ∧ ∀ j, j < nt → ((bulk nt np k q).1 3 j).toInt = (q.1 3 j).toInt + k * dr q.1 j
  | 0, _ => by
    obtain ⟨h1, h2⟩ := bulk_zero h
    refine ⟨fun i hi => absurd hi (Nat.not_lt_zero i), h1, fun j hj => ?_⟩
    rw [h2 j hj]
    show _ = _ + (0 : Int) * _
    rw [Int.zero_mul, Int.add_zero]
  | k + 1, hk => by
    obtain ⟨h1, h2, h3⟩ := bulk_many hr hc h hT hC k (by omega)
    obtain ⟨g1, g2, g3⟩ := bulk_next (by omega) hc hT (hC (k + 1) hk) h2 h3
    refine ⟨fun i hi => ?_, g2, g3⟩
    by_cases e : i = k
    · rw [e]; exact g1
    · exact h1 i (by omega)
/-- the step over many ticks: r of them, each without a change -/
theorem last_rel {nt ns np c lim : Nat} {q m : tkI × tkL} (hl : lim ≤ 5000) (hc : c + 10 < 2 ^ 62) (h : wRel nt ns np c q m) (hT : wTr nt np q.1) :
    ∃ r, r ≤ lim ∧ (sLast nt ns np (nI lim) q).2 = nI r ∧ wRel nt ns np c (sLast nt ns np (nI lim) q).1 (mTk nt ns np r m) ∧ (∀ i, i < r → (mTick nt ns np (mTk nt ns np i m)).2 = 0) ∧
      ∀ κ, κ ≤ r → ∀ j, j < nt → ((mTk nt ns np κ m).1 10 j).toInt = (q.1 3 j).toInt + κ * dr q.1 j := by
  have hB := h.1.2.2
  obtain ⟨r, h1, h2, h3⟩ := stp.steady hB (hT.lv2 hB) h.1.1.1.2.2 lim (by omega)
  have e : sLast nt ns np (nI lim) q = if 0 < nI r then (bulk nt np r q, nI r) else (q, 0) := by
    unfold sLast
    dsimp only
    rw [h2]
    rfl
  rw [e]
  by_cases h0 : 0 < r
  · rw [if_pos (show (0 : Int32) < nI r from nI_lt (a := 0) h0 (by omega))]
    have hm := bulk_many (r := r) (by omega) hc h hT (h3 h0)
    refine ⟨r, h1, rfl, (hm r (Nat.le_refl _)).2.1, (hm r (Nat.le_refl _)).1, fun κ hκ j hj => ?_⟩
    obtain ⟨-, g2, g3⟩ := hm κ hκ
    rw [← g3 j hj]
    exact congrArg Int32.toInt (g2.2.1.1 j hj).symm
  · obtain rfl : r = 0 := by omega
    rw [if_neg (show ¬ (0 : Int32) < nI 0 from nI_nlt (a := 0) (b := 0) (Nat.le_refl _) (by omega))]
    refine ⟨0, Nat.zero_le _, rfl, h, fun i hi => absurd hi (Nat.not_lt_zero i), fun κ hκ j hj => ?_⟩
    obtain rfl : κ = 0 := by omega
    show (m.1 10 j).toInt = (q.1 3 j).toInt + (0 : Int) * _
    rw [Int.zero_mul, Int.add_zero]
    exact congrArg Int32.toInt (h.2.1.1 j hj).symm
/-! run -/
theorem mRun_1 (nt ns np : Nat) (m : tkI × tkL) : ∀ n, (mRun nt ns np n m).1 = mTk nt ns np n m
  | 0 => rfl
  | n + 1 => by
    show (mTick nt ns np (mRun nt ns np n m).1).1 = (mTick nt ns np (mTk nt ns np n m)).1
    rw [mRun_1 nt ns np m n]
theorem mRun_2 (nt ns np n : Nat) (m : tkI × tkL) : (mRun nt ns np (n + 1) m).2 = (mRun nt ns np n m).2 + (mTick nt ns np (mTk nt ns np n m)).2 := by
  rw [← mRun_1]
  rfl
theorem mRun_skip (nt ns np n : Nat) (m : tkI × tkL) : ∀ r, (∀ i, i < r → (mTick nt ns np (mTk nt ns np i (mTk nt ns np n m))).2 = 0) → (mRun nt ns np (n + r) m).2 = (mRun nt ns np n m).2
  | 0, _ => rfl
  | r + 1, h => by
    rw [show n + (r + 1) = n + r + 1 from rfl, mRun_2, mRun_skip nt ns np n m r (fun i hi => h i (by omega)), mTk_add, h r (by omega), Int32.add_zero]
theorem adv_rel {nt ns np n : Nat} {m0 : tkI × tkL} (hn : n ≤ 5000) : ∀ (k i c : Nat) (q : tkI × tkL) (cnt : Int32), n ≤ i + k → i ≤ n → c + 10 * (n - i) + 10 < 2 ^ 62 → wRel nt ns np c q (mTk nt ns np i m0) → cnt = (mRun nt ns np i m0).2 →
    (sAdv nt ns np (nI n) k (nI i) (q, cnt)).2 = (mRun nt ns np n m0).2 ∧ ∃ c', c ≤ c' ∧ c' ≤ c + 10 * (n - i) ∧ wRel nt ns np c' (sAdv nt ns np (nI n) k (nI i) (q, cnt)).1 (mTk nt ns np n m0) := by
  intro k
  induction k with
  | zero =>
    intro i c q cnt h1 h2 h3 h4 h5
    obtain rfl : i = n := by omega
    exact ⟨h5, c, Nat.le_refl _, by omega, h4⟩
  | succ k ih =>
    intro i c q cnt h1 h2 h3 h4 h5
    unfold sAdv
    by_cases hlt : i < n
    · rw [if_pos (nI_lt hlt (by omega))]
      dsimp only
      obtain ⟨e, c1, g1, g2, g3⟩ := h4.tick (by omega)
      have hT := h4.trace (by omega)
      generalize sTick nt ns np q = t at *
      have el : nI n - nI i - 1 = nI (n - i - 1) := by
        rw [pk_sub (by omega), show (1 : Int32) = nI 1 from rfl, pk_sub (by omega)]
      rw [el]
      obtain ⟨r, r1, r2, r3, r4, -⟩ := last_rel (lim := n - i - 1) (by omega) (by omega) g3 hT
      rw [r2, nI_add, nI_1]
      have em : mTk nt ns np (i + r + 1) m0 = mTk nt ns np r (mTick nt ns np (mTk nt ns np i m0)).1 := by
        rw [show i + r + 1 = (i + 1) + r by omega, mTk_add]
        rfl
      rw [← em] at r3
      obtain ⟨a1, c2, a2, a3, a4⟩ := ih (i + r + 1) c1 _ (cnt + t.2) (by omega) (by omega) (by omega) r3 (by
        rw [show i + r + 1 = (i + 1) + r by omega, mRun_skip nt ns np (i + 1) m0 r r4, mRun_2, h5, e])
      exact ⟨a1, c2, by omega, by omega, a4⟩
    · obtain rfl : i = n := by omega
      rw [if_neg (nI_nlt (Nat.le_refl _) (by omega))]
      exact ⟨h5, c, Nat.le_refl _, by omega, h4⟩
/-! until a level is reached -/
theorem reach_Z {x mark b : Int32} : jreach x mark b = 0 ↔ (b = 0 ∧ x.toInt < mark.toInt) ∨ (¬ b = 0 ∧ mark.toInt < x.toInt) := by
  unfold jreach
  by_cases h : b = 0
  · rw [if_pos h]
    by_cases h2 : x < mark
    · rw [if_pos h2]
      exact ⟨fun _ => Or.inl ⟨h, Int32.lt_iff_toInt_lt.mp h2⟩, fun _ => rfl⟩
    · rw [if_neg h2]
      exact ⟨fun z => absurd z (by decide), fun z => by rcases z with z | z; exact absurd (Int32.lt_iff_toInt_lt.mpr z.2) h2; exact absurd h z.1⟩
  · rw [if_neg h]
    by_cases h2 : mark < x
    · rw [if_pos h2]
      exact ⟨fun _ => Or.inr ⟨h, Int32.lt_iff_toInt_lt.mp h2⟩, fun _ => rfl⟩
    · rw [if_neg h2]
      exact ⟨fun z => absurd z (by decide), fun z => by rcases z with z | z; exact absurd z.1 h; exact absurd (Int32.lt_iff_toInt_lt.mpr z.2) h2⟩
theorem i64_sub1 {x y : Int32} : (x.toInt64 - y.toInt64 - 1).toInt = x.toInt - y.toInt - 1 := by
  have h1 := x.le_toInt
  have h2 := x.toInt_lt
  have h3 := y.le_toInt
  have h4 := y.toInt_lt
  have e1 : (x.toInt64 - y.toInt64).toInt = x.toInt - y.toInt := by
    rw [Int64.toInt_sub, Int32.toInt_toInt64, Int32.toInt_toInt64]
    exact Int.bmod_eq_of_le (by omega) (by omega)
  rw [Int64.toInt_sub, e1, show (1 : Int64).toInt = 1 by decide]
  exact Int.bmod_eq_of_le (by omega) (by omega)
/-- for so many ticks a level isn't reached -/
theorem stp.short {nt j : Nat} {I : tkI} (h2 : lv2 nt I) (hj : j < nt) (mark b : Int32) : stp (sShort j mark b I) (fun κ => ∀ x : Int32, x.toInt = (I 3 j).toInt + κ * dr I j → jreach x mark b = 0) := by
  obtain ⟨d1, -, -, d4⟩ := lv2_dr h2 hj
  unfold sShort
  by_cases h : b = 0
  · simp only [h, if_true]
    refine (stp.jtw i64_sub1 d4).mono fun κ z x e => reach_Z.mpr (Or.inl ⟨rfl, ?_⟩)
    rw [Int.mul_neg] at z
    omega
  · simp only [h, if_false]
    refine (stp.jtw i64_sub1 d1).mono fun κ z x e => reach_Z.mpr (Or.inr ⟨h, ?_⟩)
    omega
theorem mUnt_s {nt ns np j k i : Nat} {mark b : Int32} {m : tkI × tkL} (h : jreach (m.1 10 j) mark b = 0) : mUnt nt ns np j mark b (k + 1) i m = mUnt nt ns np j mark b k (i + 1) (mTick nt ns np m).1 := if_pos h
theorem mUnt_skip (nt ns np j : Nat) (mark b : Int32) : ∀ (r k i : Nat) (m : tkI × tkL), (∀ κ, κ < r → jreach ((mTk nt ns np κ m).1 10 j) mark b = 0) → mUnt nt ns np j mark b (k + r) i m = mUnt nt ns np j mark b k (i + r) (mTk nt ns np r m)
  | 0, _, _, _, _ => rfl
  | r + 1, k, i, m, h => by
    have h0 : jreach (m.1 10 j) mark b = 0 := h 0 (by omega)
    rw [show k + (r + 1) = (k + r) + 1 from rfl, mUnt_s h0, mUnt_skip nt ns np j mark b r k (i + 1) (mTick nt ns np m).1 (fun κ hκ => by
      have z := h (κ + 1) (by omega)
      rw [Nat.add_comm κ 1, mTk_add] at z
      exact z)]
    rw [show i + 1 + r = i + (r + 1) by omega, show r + 1 = 1 + r by omega, mTk_add]
    rfl
theorem unt_rel {nt ns np n j : Nat} {mark b : Int32} (hn : n ≤ 5000) (hj : j < nt) : ∀ (k i c : Nat) (q m : tkI × tkL), n ≤ i + k → i ≤ n → c + 10 * (n - i) + 10 < 2 ^ 62 → wRel nt ns np c q m → jreach (q.1 3 j) mark b = 0 →
    (sUnt nt ns np j mark b (nI n) k (nI (i + 1)) q).2 = (mUnt nt ns np j mark b (n - i) i m).2 ∧ ∃ c', c ≤ c' ∧ c' ≤ c + 10 * (n - i) ∧ wRel nt ns np c' (sUnt nt ns np j mark b (nI n) k (nI (i + 1)) q).1 (mUnt nt ns np j mark b (n - i) i m).1 := by
  intro k
  induction k with
  | zero =>
    intro i c q m h1 h2 h3 h4 h5
    obtain rfl : i = n := by omega
    have h6 : jreach (m.1 10 j) mark b = 0 := by rw [← h4.2.1.1 j hj]; exact h5
    rw [Nat.sub_self]
    unfold mUnt sUnt
    rw [if_pos h6]
    exact ⟨rfl, c, Nat.le_refl _, by omega, h4⟩
  | succ k ih =>
    intro i c q m h1 h2 h3 h4 h5
    have h6 : jreach (m.1 10 j) mark b = 0 := by rw [← h4.2.1.1 j hj]; exact h5
    unfold sUnt
    by_cases hlt : i < n
    · rw [if_neg (nI_nlt (a := n) (b := i + 1) (by omega) (by omega))]
      dsimp only
      obtain ⟨e, c1, g1, g2, g3⟩ := h4.tick (by omega)
      have hT := h4.trace (by omega)
      have eM : mUnt nt ns np j mark b (n - i) i m = mUnt nt ns np j mark b (n - (i + 1)) (i + 1) (mTick nt ns np m).1 := by
        rw [show n - i = (n - (i + 1)) + 1 by omega]
        conv => lhs; unfold mUnt
        rw [if_pos h6]
      rw [eM]
      generalize sTick nt ns np q = t at *
      generalize (mTick nt ns np m).1 = m1 at *
      have h7 := g3.2.1.1 j hj
      by_cases hr : jreach (t.1.1 3 j) mark b = 0
      · rw [if_pos hr]
        have hB := g3.1.2.2
        obtain ⟨L1, l1, l2, l3⟩ := stp.short (hT.lv2 hB) hj mark b (n - (i + 1)) (by omega)
        have el : nI n - nI (i + 1) = nI (n - (i + 1)) := pk_sub (by omega)
        rw [el, l2]
        obtain ⟨r, r1, r2, r3, -, r5⟩ := last_rel (lim := L1) (by omega) (by omega) g3 hT
        rw [r2, nI_add, nI_1]
        have hnr : ∀ κ, κ ≤ r → jreach ((mTk nt ns np κ m1).1 10 j) mark b = 0 := fun κ hκ => by
          by_cases h0 : 0 < L1
          · exact l3 h0 κ (by omega) _ (r5 κ hκ j hj)
          · obtain rfl : κ = 0 := by omega
            show jreach (m1.1 10 j) mark b = 0
            rw [← h7]
            exact hr
        have es := mUnt_skip nt ns np j mark b r (n - (i + 1 + r)) (i + 1) m1 (fun κ hκ => hnr κ (by omega))
        rw [show n - (i + 1 + r) + r = n - (i + 1) by omega] at es
        rw [es, show i + 1 + r + 1 = (i + 1 + r) + 1 from rfl]
        obtain ⟨a1, c2, a2, a3, a4⟩ := ih (i + 1 + r) c1 _ _ (by omega) (by omega) (by omega) r3 (by rw [r3.2.1.1 j hj]; exact hnr r (Nat.le_refl _))
        exact ⟨a1, c2, by omega, by omega, a4⟩
      · rw [if_neg hr]
        have hr2 : ¬ jreach (m1.1 10 j) mark b = 0 := by rw [← h7]; exact hr
        have eM2 : mUnt nt ns np j mark b (n - (i + 1)) (i + 1) m1 = (m1, nI (i + 1)) := by
          cases n - (i + 1) with
          | zero => unfold mUnt; rw [if_neg hr2]
          | succ y => unfold mUnt; rw [if_neg hr2]
        rw [eM2]
        exact ⟨rfl, c1, g1, by omega, g3⟩
    · obtain rfl : i = n := by omega
      rw [if_pos (nI_lt (Nat.lt_succ_self _) (by omega)), Nat.sub_self]
      unfold mUnt
      rw [if_pos h6]
      exact ⟨rfl, c, Nat.le_refl _, by omega, h4⟩
theorem until_rel {nt ns np n j c : Nat} {mark b : Int32} {q m : tkI × tkL} (hn : n ≤ 5000) (hj : j < nt) (hc : c + 10 * n + 10 < 2 ^ 62) (h : wRel nt ns np c q m) :
    (sUntil nt ns np j mark b (nI n) n q).2 = (mUnt nt ns np j mark b n 0 m).2 ∧ ∃ c', c ≤ c' ∧ c' ≤ c + 10 * n ∧ wRel nt ns np c' (sUntil nt ns np j mark b (nI n) n q).1 (mUnt nt ns np j mark b n 0 m).1 := by
  unfold sUntil
  by_cases hr : jreach (q.1 3 j) mark b = 0
  · rw [if_pos hr]
    exact unt_rel hn hj n 0 c q m (by omega) (by omega) (by omega) h hr
  · rw [if_neg hr]
    have hr2 : ¬ jreach (m.1 10 j) mark b = 0 := by rw [← h.2.1.1 j hj]; exact hr
    have eM2 : mUnt nt ns np j mark b n 0 m = (m, nI 0) := by
      cases n with
      | zero => unfold mUnt; rw [if_neg hr2]
      | succ y => unfold mUnt; rw [if_neg hr2]
    rw [eM2]
    exact ⟨nI_0.symm, c, Nat.le_refl _, by omega, h⟩
/-! the next change -/
theorem mNxt_s {nt ns np k i : Nat} {m : tkI × tkL} (h : (mTick nt ns np m).2 ≤ 0) : mNxt nt ns np (k + 1) i m = mNxt nt ns np k (i + 1) (mTick nt ns np m).1 := if_pos h
theorem mNxt_skip (nt ns np : Nat) : ∀ (r k i : Nat) (m : tkI × tkL), (∀ κ, κ < r → (mTick nt ns np (mTk nt ns np κ m)).2 = 0) → mNxt nt ns np (k + r) i m = mNxt nt ns np k (i + r) (mTk nt ns np r m)
  | 0, _, _, _, _ => rfl
  | r + 1, k, i, m, h => by
    have h0 : (mTick nt ns np m).2 = 0 := h 0 (by omega)
    rw [show k + (r + 1) = (k + r) + 1 from rfl, mNxt_s (show (mTick nt ns np m).2 ≤ 0 by rw [h0]; exact Int32.le_refl _), mNxt_skip nt ns np r k (i + 1) (mTick nt ns np m).1 (fun κ hκ => by
      have z := h (κ + 1) (by omega)
      rw [Nat.add_comm κ 1, mTk_add] at z
      exact z)]
    rw [show i + 1 + r = i + (r + 1) by omega, show r + 1 = 1 + r by omega, mTk_add]
    rfl
theorem next_rel {nt ns np n : Nat} (hn : n ≤ 5000) : ∀ (k i c : Nat) (q m : tkI × tkL), 1 ≤ i → n + 1 ≤ i + k → i ≤ n + 1 → c + 10 * (n + 1 - i) + 10 < 2 ^ 62 → wRel nt ns np c q m →
    (sNext nt ns np (nI n) k (nI i) q).2 = if (mNxt nt ns np (n + 1 - i) i m).2 = 0 then -1 else nI (mNxt nt ns np (n + 1 - i) i m).2 := by
  intro k
  induction k with
  | zero =>
    intro i c q m h0 h1 h2 h3 h4
    obtain rfl : i = n + 1 := by omega
    rw [Nat.sub_self]
    rfl
  | succ k ih =>
    intro i c q m h0 h1 h2 h3 h4
    unfold sNext
    by_cases hlt : i ≤ n
    · rw [if_neg (nI_nlt (a := n) (b := i) hlt (by omega))]
      dsimp only
      obtain ⟨e, c1, g1, g2, g3⟩ := h4.tick (by omega)
      have hT := h4.trace (by omega)
      rw [show n + 1 - i = (n - i) + 1 by omega]
      conv => rhs; unfold mNxt
      rw [← e]
      generalize sTick nt ns np q = t at *
      generalize (mTick nt ns np m).1 = m1 at *
      by_cases hr : t.2 ≤ 0
      · rw [if_pos hr, if_pos hr]
        have el : nI n - nI i = nI (n - i) := pk_sub hlt
        rw [el]
        obtain ⟨r, r1, r2, r3, r4, -⟩ := last_rel (lim := n - i) (by omega) (by omega) g3 hT
        rw [r2, nI_add, nI_1]
        have es := mNxt_skip nt ns np r (n - i - r) (i + 1) m1 r4
        rw [show n - i - r + r = n - i by omega] at es
        rw [es, show i + 1 + r = i + r + 1 by omega, show n - i - r = n + 1 - (i + r + 1) by omega]
        exact ih (i + r + 1) c1 _ _ (by omega) (by omega) (by omega) (by omega) r3
      · rw [if_neg hr, if_neg hr]
        dsimp only
        rw [if_neg (by omega)]
    · obtain rfl : i = n + 1 := by omega
      rw [if_pos (nI_lt (Nat.lt_succ_self _) (by omega)), Nat.sub_self]
      rfl
end TKRUNS

section TKRUNS
/-- n ticks of the reference -/
def mTk (nt ns np n : Nat) (m : tkI × tkL) : tkI × tkL := itr (fun _ a => (mTick nt ns np a).1) n m
theorem mTk_add (nt ns np a : Nat) (m : tkI × tkL) : ∀ b, mTk nt ns np (a + b) m = mTk nt ns np b (mTk nt ns np a m)
  | 0 => rfl
  | b + 1 => congrArg (fun x => (mTick nt ns np x).1) (mTk_add nt ns np a m b)
theorem mTk_1 (nt ns np : Nat) (m : tkI × tkL) : mTk nt ns np 1 m = (mTick nt ns np m).1 := rfl
theorem wTr.lv2 {nt ns np : Nat} {I : tkI} (hB : wBS nt ns np I) (h : wTr nt np I) : lv2 nt I := by
  obtain ⟨f, t0, t1, t2, t3⟩ := h
  refine ⟨fun j hj => ?_, fun j hj => ?_⟩
  · obtain ⟨v1, v2, v3⟩ := t1 np (Nat.le_refl _) j hj
    obtain ⟨-, -, w1, w2⟩ := hB.1 j hj
    rw [t3 j hj, i32_sub (by rw [jmin_Z]; omega) (by rw [jmin_Z]; omega), jmin_Z]
    omega
  · rw [t0 j hj]
    exact t1 0 (Nat.zero_le _) j hj
theorem bulk_zero {nt ns np c : Nat} {q m : tkI × tkL} (h : wRel nt ns np c q m) : wRel nt ns np c (bulk nt np 0 q) m ∧ ∀ j, j < nt → (bulk nt np 0 q).1 3 j = q.1 3 j := by
  obtain ⟨b3, bI, b5, b19, b20, b21, b4, bL⟩ := bulk_rows nt np 0 q
  have z : (nI 0).toInt64 = 0 := by decide
  have st := steps_eq (k := 0) (by omega)
  have st : (nI 0).toInt64 * (nI 0 + 1).toInt64 / 2 = 0 := st
  have e3 : ∀ j, j < nt → (bulk nt np 0 q).1 3 j = q.1 3 j := fun j hj => by rw [b3 j, if_pos hj, nI_0, Int32.mul_zero, Int32.add_zero]
  refine ⟨h.congr (fun r a3 _ _ _ _ _ _ => bI r a3) e3 (fun j hj => by rw [bI 11 (by decide)]) (bI 27 (by decide)) (fun j hj => ?_) (fun j hj => ?_) (fun j hj => ?_) (fun j hj => ?_) ?_ (bL 25 (by decide) (by decide) (by decide) (by decide) (by decide)) (bL 26 (by decide) (by decide) (by decide) (by decide) (by decide)), e3⟩
  · rw [b5 j, if_pos hj, st, z, Int64.mul_zero, Int64.mul_zero, Int64.add_zero, Int64.add_zero]
  · rw [b19 j, z, Int64.mul_zero, Int64.add_zero, ite_self]
  · rw [b20 j, z, Int64.mul_zero, Int64.zero_mul, Int64.add_zero, ite_self]
  · rw [b21 j, z, ite_self, Int64.add_zero, ite_self]
  · rw [b4, z, Int64.add_zero]
def cAll (nt ns np : Nat) (I : tkI) (κ : Nat) : Prop := (∀ i, i < ns → cSw I i κ) ∧ (∀ i, i < np → cPu I i κ) ∧ ∀ j, j < nt → cTk I j κ
theorem bulk_many {nt ns np c r : Nat} {q m : tkI × tkL} (hr : r ≤ 5000) (hc : c + 10 < 2 ^ 62) (h : wRel nt ns np c q m) (hT : wTr nt np q.1) (hC : ∀ κ, κ ≤ r → cAll nt ns np q.1 κ) :
    ∀ k, k ≤ r → (∀ i, i < k → (mTick nt ns np (mTk nt ns np i m)).2 = 0) ∧ wRel nt ns np c (bulk nt np k q) (mTk nt ns np k m) ∧ ∀ j, j < nt → ((bulk nt np k q).1 3 j).toInt = (q.1 3 j).toInt + k * dr q.1 j
  | 0, _ => by
    obtain ⟨h1, h2⟩ := bulk_zero h
    refine ⟨fun i hi => absurd hi (Nat.not_lt_zero i), h1, fun j hj => ?_⟩
    rw [h2 j hj]
    show _ = _ + (0 : Int) * _
    rw [Int.zero_mul, Int.add_zero]
  | k + 1, hk => by
    obtain ⟨h1, h2, h3⟩ := bulk_many hr hc h hT hC k (by omega)
    obtain ⟨g1, g2, g3⟩ := bulk_next (by omega) hc hT (hC (k + 1) hk) h2 h3
    refine ⟨fun i hi => ?_, g2, g3⟩
    by_cases e : i = k
    · rw [e]; exact g1
    · exact h1 i (by omega)
/-- the step over many ticks: r of them, each without a change -/
theorem last_rel {nt ns np c lim : Nat} {q m : tkI × tkL} (hl : lim ≤ 5000) (hc : c + 10 < 2 ^ 62) (h : wRel nt ns np c q m) (hT : wTr nt np q.1) :
    ∃ r, r ≤ lim ∧ (sLast nt ns np (nI lim) q).2 = nI r ∧ wRel nt ns np c (sLast nt ns np (nI lim) q).1 (mTk nt ns np r m) ∧ (∀ i, i < r → (mTick nt ns np (mTk nt ns np i m)).2 = 0) ∧
      ∀ κ, κ ≤ r → ∀ j, j < nt → ((mTk nt ns np κ m).1 10 j).toInt = (q.1 3 j).toInt + κ * dr q.1 j := by
  have hB := h.1.2.2
  obtain ⟨r, h1, h2, h3⟩ := stp.steady hB (hT.lv2 hB) h.1.1.1.2.2 lim (by omega)
  have e : sLast nt ns np (nI lim) q = if 0 < nI r then (bulk nt np r q, nI r) else (q, 0) := by
    unfold sLast
    dsimp only
    rw [h2]
    rfl
  rw [e]
  by_cases h0 : 0 < r
  · rw [if_pos (show (0 : Int32) < nI r from nI_lt (a := 0) h0 (by omega))]
    have hm := bulk_many (r := r) (by omega) hc h hT (h3 h0)
    refine ⟨r, h1, rfl, (hm r (Nat.le_refl _)).2.1, (hm r (Nat.le_refl _)).1, fun κ hκ j hj => ?_⟩
    obtain ⟨-, g2, g3⟩ := hm κ hκ
    rw [← g3 j hj]
    exact congrArg Int32.toInt (g2.2.1.1 j hj).symm
  · obtain rfl : r = 0 := by omega
    rw [if_neg (show ¬ (0 : Int32) < nI 0 from nI_nlt (a := 0) (b := 0) (Nat.le_refl _) (by omega))]
    refine ⟨0, Nat.zero_le _, rfl, h, fun i hi => absurd hi (Nat.not_lt_zero i), fun κ hκ j hj => ?_⟩
    obtain rfl : κ = 0 := by omega
    show (m.1 10 j).toInt = (q.1 3 j).toInt + (0 : Int) * _
    rw [Int.zero_mul, Int.add_zero]
    exact congrArg Int32.toInt (h.2.1.1 j hj).symm
/-! run -/
theorem mRun_1 (nt ns np : Nat) (m : tkI × tkL) : ∀ n, (mRun nt ns np n m).1 = mTk nt ns np n m
  | 0 => rfl
  | n + 1 => by
    show (mTick nt ns np (mRun nt ns np n m).1).1 = (mTick nt ns np (mTk nt ns np n m)).1
    rw [mRun_1 nt ns np m n]
theorem mRun_2 (nt ns np n : Nat) (m : tkI × tkL) : (mRun nt ns np (n + 1) m).2 = (mRun nt ns np n m).2 + (mTick nt ns np (mTk nt ns np n m)).2 := by
  rw [← mRun_1]
  rfl
theorem mRun_skip (nt ns np n : Nat) (m : tkI × tkL) : ∀ r, (∀ i, i < r → (mTick nt ns np (mTk nt ns np i (mTk nt ns np n m))).2 = 0) → (mRun nt ns np (n + r) m).2 = (mRun nt ns np n m).2
  | 0, _ => rfl
  | r + 1, h => by
    rw [show n + (r + 1) = n + r + 1 from rfl, mRun_2, mRun_skip nt ns np n m r (fun i hi => h i (by omega)), mTk_add, h r (by omega), Int32.add_zero]
theorem adv_rel {nt ns np n : Nat} {m0 : tkI × tkL} (hn : n ≤ 5000) : ∀ (k i c : Nat) (q : tkI × tkL) (cnt : Int32), n ≤ i + k → i ≤ n → c + 10 * (n - i) + 10 < 2 ^ 62 → wRel nt ns np c q (mTk nt ns np i m0) → cnt = (mRun nt ns np i m0).2 →
    (sAdv nt ns np (nI n) k (nI i) (q, cnt)).2 = (mRun nt ns np n m0).2 ∧ ∃ c', c ≤ c' ∧ c' ≤ c + 10 * (n - i) ∧ wRel nt ns np c' (sAdv nt ns np (nI n) k (nI i) (q, cnt)).1 (mTk nt ns np n m0) := by
  intro k
  induction k with
  | zero =>
    intro i c q cnt h1 h2 h3 h4 h5
    obtain rfl : i = n := by omega
    exact ⟨h5, c, Nat.le_refl _, by omega, h4⟩
  | succ k ih =>
    intro i c q cnt h1 h2 h3 h4 h5
    unfold sAdv
    by_cases hlt : i < n
    · rw [if_pos (nI_lt hlt (by omega))]
      dsimp only
      obtain ⟨e, c1, g1, g2, g3⟩ := h4.tick (by omega)
      have hT := h4.trace (by omega)
      generalize sTick nt ns np q = t at *
      have el : nI n - nI i - 1 = nI (n - i - 1) := by
        rw [pk_sub (by omega), show (1 : Int32) = nI 1 from rfl, pk_sub (by omega)]
      rw [el]
      obtain ⟨r, r1, r2, r3, r4, -⟩ := last_rel (lim := n - i - 1) (by omega) (by omega) g3 hT
      rw [r2, nI_add, nI_1]
      have em : mTk nt ns np (i + r + 1) m0 = mTk nt ns np r (mTick nt ns np (mTk nt ns np i m0)).1 := by
        rw [show i + r + 1 = (i + 1) + r by omega, mTk_add]
        rfl
      rw [← em] at r3
      obtain ⟨a1, c2, a2, a3, a4⟩ := ih (i + r + 1) c1 _ (cnt + t.2) (by omega) (by omega) (by omega) r3 (by
        rw [show i + r + 1 = (i + 1) + r by omega, mRun_skip nt ns np (i + 1) m0 r r4, mRun_2, h5, e])
      exact ⟨a1, c2, by omega, by omega, a4⟩
    · obtain rfl : i = n := by omega
      rw [if_neg (nI_nlt (Nat.le_refl _) (by omega))]
      exact ⟨h5, c, Nat.le_refl _, by omega, h4⟩
end TKRUNS

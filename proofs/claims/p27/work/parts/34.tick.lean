section TKTICKSIM
theorem wLg.keep {c : Nat} {q m q' m' : tkI × tkL} (h : wLg c q m) (h27 : q'.1 27 = q.1 27) (h25 : q'.2 25 = q.2 25) (h26 : q'.2 26 = q.2 26) (k22 : m'.2 0 22 = m.2 0 22) (k18 : m'.2 18 = m.2 18) (j23 : m'.1 0 23 = m.1 0 23) (j19 : m'.1 19 = m.1 19) : wLg c q' m' := by
  unfold wLg
  rw [h27, h25, h26, k22, k18, j23, j19]
  exact h
theorem mLv_J (a : Int32) (i : Nat) (J : tkI) {k : Nat} (h : k ≠ 10) : mLv2 a i (mLv1 a i J) k = J k := by
  unfold mLv1 mLv2
  funext j
  split <;> split <;> simp [tk2, h]
theorem mEnt_K (a : Int32) (i : Nat) (J : tkI) (K : tkL) {k : Nat} (h15 : k ≠ 15) (h16 : k ≠ 16) (h17 : k ≠ 17) : mEnt a i J K k = K k := by
  unfold mEnt
  funext j
  rw [tk2_ne h17, tk2_ne h16, tk2_ne h15]
theorem mEnt_15 (a : Int32) (i : Nat) (J : tkI) (K : tkL) (j : Nat) : mEnt a i J K 15 j = if j = i then K 15 i + a.toInt64 else K 15 j := by
  unfold mEnt
  simp [tk2]
theorem mEnt_16 (a : Int32) (i : Nat) (J : tkI) (K : tkL) (j : Nat) : mEnt a i J K 16 j = if j = i then K 16 i + a.toInt64 * (J 7 i).toInt64 else K 16 j := by
  unfold mEnt
  simp [tk2]
theorem mEnt_17 (a : Int32) (i : Nat) (J : tkI) (K : tkL) (j : Nat) : mEnt a i J K 17 j = if j = i then K 17 i + (if J 14 i ≤ a then 0 else 1) else K 17 j := by
  unfold mEnt
  simp [tk2]
theorem sEnter_19 (t : Int32) (i : Nat) (I : tkI) (L : tkL) (j : Nat) : sEnter t i I L 19 j = if j = i then L 19 i + (I 22 i).toInt64 * t.toInt64 else L 19 j := by
  unfold sEnter
  split <;> simp [tk2]
theorem sEnter_20 (t : Int32) (i : Nat) (I : tkI) (L : tkL) (j : Nat) : sEnter t i I L 20 j = if j = i then L 20 i + (I 22 i).toInt64 * t.toInt64 * (I 16 i).toInt64 else L 20 j := by
  unfold sEnter
  split <;> simp [tk2]
theorem sEnter_21 (t : Int32) (i : Nat) (I : tkI) (L : tkL) (j : Nat) : sEnter t i I L 21 j = if j = i then L 21 i + (if I 15 i ≤ I 22 i then 0 else t.toInt64) else L 21 j := by
  unfold sEnter
  by_cases h : I 15 i ≤ I 22 i
  · simp only [h, if_true, Int64.add_zero]
    by_cases e : j = i
    · simp [tk2, e]
    · simp [tk2, e]
  · simp only [h, if_false]
    simp [tk2]
theorem act_iff {I J : tkI} {i : Nat} (e17 : J 8 i = I 17 i) (e18 : J 9 i = I 18 i) (e11 : ¬ I 17 i = -1 → J 13 (I 17 i).toNatClampNeg = I 11 (I 17 i).toNatClampNeg) : sAct I i = 0 ↔ ¬ J 8 i = -1 ∧ J 13 (J 8 i).toNatClampNeg = J 9 i := by
  unfold sAct
  rw [e17, e18]
  by_cases h : I 17 i = -1
  · rw [if_pos h]
    exact ⟨fun z => absurd z (by decide), fun z => absurd h z.1⟩
  · rw [if_neg h, e11 h]
    by_cases h2 : I 11 (I 17 i).toNatClampNeg = I 18 i
    · rw [if_pos h2]
      exact ⟨fun _ => ⟨h, h2⟩, fun _ => rfl⟩
    · rw [if_neg h2]
      exact ⟨fun z => absurd z (by decide), fun z => absurd z.2 h2⟩
theorem wRel.lvB {nt ns np c : Nat} {q m : tkI × tkL} (h : wRel nt ns np c q m) : lvB nt (q.1 3) (q.1 2) := fun j hj => ⟨(h.2.1.2 j hj).1, (h.2.1.2 j hj).2, (h.1.2.2.1 j hj).2.1⟩
theorem wSS.act {nt ns np i : Nat} {I J : tkI} (h : wSS nt ns np I J) (hOn : wOn ns I J) (hi : i < np) : sAct I i = 0 ↔ ¬ J 8 i = -1 ∧ J 13 (J 8 i).toNatClampNeg = J 9 i := by
  obtain ⟨-, -, hk, -⟩ := h.2.2.2.2 i hi
  have hns := h.1.2.1.2.2
  refine act_iff (h.2.1.2.2.2.2.2.2.1 i hi).symm (h.2.1.2.2.2.2.2.2.2 i hi).symm (fun z => ?_)
  obtain ⟨t, ht, et⟩ := hk.resolve_left z
  rw [et, nI_clamp (by omega)]
  exact (hOn.1 t ht).symm
theorem wSS.amt {nt ns np i : Nat} {I J : tkI} (h : wSS nt ns np I J) (hL : eqR nt (I 3) (J 10)) (hi : i < np) : mAmt J i = amt (I 13 i) (I 14 i) (I 15 i) (I 3) (I 2) := by
  obtain ⟨hf, ht, -⟩ := h.2.2.2.2 i hi
  obtain ⟨⟨e2, -⟩, -, e13, e14, e15, -⟩ := h.2.1
  rw [mAmt_eq, ← e13 i hi, ← e14 i hi, ← e15 i hi]
  exact (amt_congr h.1.1.2.2 hf ht hL e2).symm
theorem wRel.pump {nt ns np c i : Nat} {q m : tkI × tkL} (h : wRel nt ns np c q m) (hi : i < np) : wRel nt ns np c (sMv i q) (mPump i m) := by
  have hB := h.lvB
  obtain ⟨hS, hLv, hOn, hSm, hLd, hTm, hLg⟩ := h
  have ha := hS.act hOn hi
  have eA := hS.amt hLv.1 hi
  have hn := hS.1.1.2.2
  obtain ⟨hf, ht, -, hne, hr, -⟩ := hS.2.2.2.2 i hi
  obtain ⟨-, -, e13, e14, e15, e16, -, -⟩ := hS.2.1
  unfold sMv mPump
  by_cases h0 : sAct q.1 i = 0
  · rw [if_pos h0, if_pos (ha.mp h0)]
    exact ⟨hS, hLv, hOn, hSm, hLd, hTm, hLg⟩
  · rw [if_neg h0, if_neg (fun z => h0 (ha.mpr z)), eA]
    have kx : xK q.1 (sMove i q.1) := fun k h3 h6 h11 h22 h23 h24 h27 => sMove_keep i q.1 h3 h22 h23 h24
    have x3 := sMove_3 i q.1
    have x22 := sMove_22 i q.1
    have xr : ∀ k, k ≠ 3 → k ≠ 22 → k ≠ 23 → k ≠ 24 → sMove i q.1 k = q.1 k := fun k a b d e => sMove_keep i q.1 a b d e
    have hmv := mv_B (fr := q.1 13 i) (to := q.1 14 i) (rt := q.1 15 i) hn hf ht hne hB hr
    have km : mK m.1 (mLv2 (amt (q.1 13 i) (q.1 14 i) (q.1 15 i) (q.1 3) (q.1 2)) i (mLv1 (amt (q.1 13 i) (q.1 14 i) (q.1 15 i) (q.1 3) (q.1 2)) i m.1)) := (mLv1_keep _ i _).1.trans (mLv2_keep _ i _).1
    generalize sMove i q.1 = I1 at *
    generalize amt (q.1 13 i) (q.1 14 i) (q.1 15 i) (q.1 3) (q.1 2) = a at *
    have el : ∀ k, k ≠ 19 → k ≠ 20 → k ≠ 21 → sEnter 1 i I1 q.2 k = q.2 k := fun k a b d => sEnter_25 1 i I1 q.2 a b d
    have one : (1 : Int32).toInt64 = 1 := by decide
    refine ⟨hS.keep kx km, ?_, ?_, ?_, ⟨fun j hj => ?_, fun j hj => ?_, fun j hj => ?_⟩, ?_, ?_⟩
    · refine ⟨?_, fun j hj => ?_⟩
      · dsimp only
        rw [x3, mLv_10, ← e13 i hi, ← e14 i hi]
        exact mv2_congr hn ht (mv1_congr hn hf hLv.1)
      · dsimp only
        rw [x3, xr 2 (by decide) (by decide) (by decide) (by decide)]
        exact ⟨(hmv.2 j hj).1, (hmv.2 j hj).2.1⟩
    · unfold wOn
      dsimp only
      rw [xr 11 (by decide) (by decide) (by decide) (by decide), mLv_J _ _ _ (by decide)]
      exact hOn
    · unfold wSm
      dsimp only
      rw [el 5 (by decide) (by decide) (by decide), mEnt_K _ _ _ _ (by decide) (by decide) (by decide)]
      exact hSm
    · dsimp only
      rw [sEnter_19, mEnt_15, x22, one, Int64.mul_one, hLd.1 i hi, hLd.1 j hj]
    · dsimp only
      rw [sEnter_20, mEnt_16, x22, one, Int64.mul_one, xr 16 (by decide) (by decide) (by decide) (by decide), e16 i hi, hLd.2.1 i hi, hLd.2.1 j hj]
    · dsimp only
      rw [sEnter_21, mEnt_17, x22, one, xr 15 (by decide) (by decide) (by decide) (by decide), e15 i hi, hLd.2.2 i hi, hLd.2.2 j hj]
    · unfold wTm
      dsimp only
      rw [el 0 (by decide) (by decide) (by decide), mEnt_K _ _ _ _ (by decide) (by decide) (by decide)]
      exact hTm
    · exact hLg.keep (xr 27 (by decide) (by decide) (by decide) (by decide)) (el 25 (by decide) (by decide) (by decide)) (el 26 (by decide) (by decide) (by decide)) (congrFun (mEnt_K (k := 0) a i m.1 m.2 (by decide) (by decide) (by decide)) 22) (mEnt_K (k := 18) a i m.1 m.2 (by decide) (by decide) (by decide)) (congrFun (mLv_J (k := 0) a i m.1 (by decide)) 23) (mLv_J (k := 19) a i m.1 (by decide))
/-! leaks and sums -/
theorem mLeak_at (J : tkI) : ∀ n, (∀ j, itr mLeak n J 10 j = if j < n then J 10 j - jmin (J 11 j) (J 10 j) else J 10 j) ∧ ∀ k, k ≠ 10 → itr mLeak n J k = J k
  | 0 => ⟨fun j => by rw [if_neg (Nat.not_lt_zero j)]; rfl, fun k _ => rfl⟩
  | n + 1 => by
    obtain ⟨h1, h2⟩ := mLeak_at J n
    rw [itr_s]
    generalize itr mLeak n J = A at *
    unfold mLeak
    refine ⟨fun j => ?_, fun k hk => ?_⟩
    · by_cases e : j = n
      · subst e
        rw [tk2_at, h1 j, if_neg (Nat.lt_irrefl j), h2 11 (by decide), if_pos (Nat.lt_succ_self j)]
      · rw [show ∀ x, tk2 A 10 n x 10 j = A 10 j from fun x => if_neg (fun z => e z.2), h1 j]
        by_cases h : j < n
        · rw [if_pos h, if_pos (by omega)]
        · rw [if_neg h, if_neg (by omega)]
    · rw [← h2 k hk]
      funext j
      exact tk2_ne hk
theorem mSum_at (J : tkI) (K : tkL) : ∀ n, (∀ j, itr (mSum J) n K 12 j = if j < n then K 12 j + (J 10 j).toInt64 else K 12 j) ∧ ∀ k, k ≠ 12 → itr (mSum J) n K k = K k
  | 0 => ⟨fun j => by rw [if_neg (Nat.not_lt_zero j)]; rfl, fun k _ => rfl⟩
  | n + 1 => by
    obtain ⟨h1, h2⟩ := mSum_at J K n
    rw [itr_s]
    unfold mSum
    refine ⟨fun j => ?_, fun k hk => ?_⟩
    · by_cases e : j = n
      · subst e
        rw [tk2_at, show itr (fun i K => tk2 K 12 i (K 12 i + (J 10 i).toInt64)) j K = itr (mSum J) j K from rfl, h1 j, if_neg (Nat.lt_irrefl j), if_pos (Nat.lt_succ_self j)]
      · rw [show ∀ x, tk2 (itr (fun i K => tk2 K 12 i (K 12 i + (J 10 i).toInt64)) n K) 12 n x 12 j = itr (mSum J) n K 12 j from fun x => if_neg (fun z => e z.2), h1 j]
        by_cases h : j < n
        · rw [if_pos h, if_pos (by omega)]
        · rw [if_neg h, if_neg (by omega)]
    · rw [← h2 k hk]
      funext j
      exact tk2_ne hk
theorem sLeak_at (q : tkI × tkL) : ∀ n, (∀ j, (itr sLeak n q).1 3 j = if j < n then q.1 3 j - jmin (q.1 4 j) (q.1 3 j) else q.1 3 j) ∧ (∀ j, (itr sLeak n q).2 5 j = if j < n then q.2 5 j + (q.1 3 j - jmin (q.1 4 j) (q.1 3 j)).toInt64 else q.2 5 j) ∧ (∀ k, k ≠ 3 → (itr sLeak n q).1 k = q.1 k) ∧ ∀ k, k ≠ 5 → (itr sLeak n q).2 k = q.2 k
  | 0 => ⟨fun j => by rw [if_neg (Nat.not_lt_zero j)]; rfl, fun j => by rw [if_neg (Nat.not_lt_zero j)]; rfl, fun k _ => rfl, fun k _ => rfl⟩
  | n + 1 => by
    obtain ⟨h1, h2, h3, h4⟩ := sLeak_at q n
    rw [itr_s]
    generalize itr sLeak n q = a at *
    unfold sLeak
    refine ⟨fun j => ?_, fun j => ?_, fun k hk => ?_, fun k hk => ?_⟩
    · dsimp only
      by_cases e : j = n
      · subst e
        rw [tk2_at, h1 j, if_neg (Nat.lt_irrefl j), h3 4 (by decide), if_pos (Nat.lt_succ_self j)]
      · rw [show ∀ x, tk2 a.1 3 n x 3 j = a.1 3 j from fun x => if_neg (fun z => e z.2), h1 j]
        by_cases h : j < n
        · rw [if_pos h, if_pos (by omega)]
        · rw [if_neg h, if_neg (by omega)]
    · dsimp only
      by_cases e : j = n
      · subst e
        rw [tk2_at, tk2_at, h2 j, if_neg (Nat.lt_irrefl j), h1 j, if_neg (Nat.lt_irrefl j), h3 4 (by decide), if_pos (Nat.lt_succ_self j)]
      · rw [show ∀ x, tk2 a.2 5 n x 5 j = a.2 5 j from fun x => if_neg (fun z => e z.2), h2 j]
        by_cases h : j < n
        · rw [if_pos h, if_pos (by omega)]
        · rw [if_neg h, if_neg (by omega)]
    · rw [← h3 k hk]
      funext j
      exact tk2_ne hk
    · rw [← h4 k hk]
      funext j
      exact tk2_ne hk
/-- one tick on either side -/
theorem wRel.tick {nt ns np c : Nat} {q m : tkI × tkL} (h : wRel nt ns np c q m) (hc : c + 10 < 2 ^ 62) :
    (sTick nt ns np q).2 = (mTick nt ns np m).2 ∧ ∃ c', c ≤ c' ∧ c' ≤ c + 10 ∧ wRel nt ns np c' (sTick nt ns np q).1 (mTick nt ns np m).1 := by
  have hns := h.1.1.2.1.2.2
  have h0 : wRel nt ns np c (sBef q.1, q.2) m := h
  have hf := itr_rel (f := sFol (q.2 0 4)) (g := mFol) (n := ns) (P := fun i a b => a.2 = b.2 ∧ ∃ c', c ≤ c' ∧ c' ≤ c + i ∧ wRel nt ns np c' a.1 b.1 ∧ a.1.2 0 4 = q.2 0 4) (fun i a b hi hp => by
    obtain ⟨qa, n1⟩ := a
    obtain ⟨mb, n2⟩ := b
    obtain ⟨e, c', h1, h2, h3, h4⟩ := hp
    dsimp only at e h3 h4
    subst e
    obtain ⟨e1, c2, g1, g2, g3, g4⟩ := h3.fol (by omega) hi n1 (q.2 0 4) h4.symm
    exact ⟨e1, c2, by omega, by omega, g3, g4.trans h4⟩) (k := ns) (Nat.le_refl _) (a := ((sBef q.1, q.2), 0)) (b := (m, 0)) ⟨rfl, c, Nat.le_refl _, by omega, h0, rfl⟩
  unfold sTick mTick
  dsimp only
  generalize itr (sFol (q.2 0 4)) ns ((sBef q.1, q.2), 0) = f at *
  generalize itr mFol ns (m, 0) = g at *
  obtain ⟨e, c', h1, h2, h3, -⟩ := hf
  refine ⟨e, c', h1, by omega, ?_⟩
  have hp := itr_rel (f := sMv) (g := mPump) (n := np) (P := fun _ a b => wRel nt ns np c' a b) (fun i a b hi hp => hp.pump hi) (k := np) (Nat.le_refl _) (a := f.1) (b := g.1) h3
  generalize itr sMv np f.1 = a at *
  generalize itr mPump np g.1 = b at *
  have hB := hp.lvB
  obtain ⟨hS, hLv, hOn, hSm, hLd, hTm, hLg⟩ := hp
  obtain ⟨s1, s2, s3, s4⟩ := sLeak_at a nt
  obtain ⟨l1, l2⟩ := mLeak_at b.1 nt
  obtain ⟨u1, u2⟩ := mSum_at (itr mLeak nt b.1) (tk2 b.2 0 21 (b.2 0 21 + 1)) nt
  have mk : mK b.1 (itr mLeak nt b.1) := ⟨fun k _ h10 _ _ => l2 k h10, fun c _ => congrFun (l2 0 (by decide)) c⟩
  generalize itr (mSum (itr mLeak nt b.1)) nt (tk2 b.2 0 21 (b.2 0 21 + 1)) = K at *
  generalize itr mLeak nt b.1 = J at *
  generalize itr sLeak nt a = r at *
  obtain ⟨I, L⟩ := r
  dsimp only at *
  have xl : ∀ k, k ≠ 5 → k ≠ 0 → tk2 L 0 4 (L 0 4 + 1) k = a.2 k := fun k h5 h0 => by
    rw [← s4 k h5]
    funext j
    exact tk2_ne h0
  have ul : ∀ k, k ≠ 12 → k ≠ 0 → K k = b.2 k := fun k h12 h0 => by
    rw [u2 k h12]
    funext j
    exact tk2_ne h0
  refine ⟨hS.keep (fun k h3 _ _ _ _ _ _ => s3 k h3) mk, ⟨fun j hj => ?_, fun j hj => ?_⟩, ?_, ?_, ⟨?_, ?_, ?_⟩, ?_, ?_⟩
  · dsimp only
    rw [s1 j, l1 j, if_pos hj, if_pos hj, hLv.1 j hj, hS.2.1.1.2 j hj]
  · dsimp only
    obtain ⟨b1, b2, b3⟩ := hB j hj
    obtain ⟨-, -, b4, b5⟩ := hS.2.2.1 j hj
    have e := jmin_Z (a.1 4 j) (a.1 3 j)
    rw [s1 j, if_pos hj, s3 2 (by decide), i32_sub (by omega) (by omega), e]
    omega
  · unfold wOn
    dsimp only
    rw [s3 11 (by decide), l2 13 (by decide)]
    exact hOn
  · intro j hj
    dsimp only
    rw [show tk2 L 0 4 (L 0 4 + 1) 5 j = L 5 j from tk2_ne (by decide), s2 j, u1 j, if_pos hj, if_pos hj, l1 j, if_pos hj, hLv.1 j hj, hS.2.1.1.2 j hj, hSm j hj]
    rw [show tk2 b.2 0 21 (b.2 0 21 + 1) 12 j = b.2 12 j from tk2_ne (by decide)]
  · dsimp only
    rw [xl 19 (by decide) (by decide), ul 15 (by decide) (by decide)]
    exact hLd.1
  · dsimp only
    rw [xl 20 (by decide) (by decide), ul 16 (by decide) (by decide)]
    exact hLd.2.1
  · dsimp only
    rw [xl 21 (by decide) (by decide), ul 17 (by decide) (by decide)]
    exact hLd.2.2
  · unfold wTm
    dsimp only
    rw [tk2_at, u2 0 (by decide), tk2_at, s4 0 (by decide), show a.2 0 4 = b.2 0 21 from hTm]
  · exact hLg.keep (s3 27 (by decide)) (xl 25 (by decide) (by decide)) (xl 26 (by decide) (by decide)) ((congrFun (u2 0 (by decide)) 22).trans rfl) (ul 18 (by decide) (by decide)) (congrFun (l2 0 (by decide)) 23) (l2 19 (by decide))
end TKTICKSIM

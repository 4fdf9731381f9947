section TKSTEP
/-! what a tick of the reference leaves -/
theorem mFol_K (i : Nat) (a : (tkI × tkL) × Int32) : (mFol i a).1.2 20 = a.1.2 20 ∧ (mFol i a).1.2 0 21 = a.1.2 0 21 := by
  unfold mFol
  split
  · exact ⟨rfl, rfl⟩
  · exact ⟨mLog_K _ _ _ (by decide) (by decide), mLog_21 _ _ _⟩
theorem mPump_K (i : Nat) (a : tkI × tkL) : (mPump i a).2 20 = a.2 20 ∧ (mPump i a).2 0 21 = a.2 0 21 := by
  unfold mPump
  split
  · exact ⟨rfl, rfl⟩
  · exact ⟨mEnt_K (k := 20) (mAmt a.1 i) i a.1 a.2 (by decide) (by decide) (by decide), congrFun (mEnt_K (k := 0) (mAmt a.1 i) i a.1 a.2 (by decide) (by decide) (by decide)) 21⟩
theorem mTick_keep (nt ns np : Nat) (q : tkI × tkL) : mK q.1 (mTick nt ns np q).1.1 ∧ (mTick nt ns np q).1.2 20 = q.2 20 ∧ (mTick nt ns np q).1.2 0 21 = q.2 0 21 + 1 := by
  have f1 : mK q.1 (itr mFol ns (q, 0)).1.1 := mK.itr (g := fun a : (tkI × tkL) × Int32 => a.1.1) mFol_keep ns (q, 0)
  have f2 : (itr mFol ns (q, 0)).1.2 20 = q.2 20 := itr_keep (g := fun a : (tkI × tkL) × Int32 => a.1.2 20) (fun i a => (mFol_K i a).1) ns (q, 0)
  have f3 : (itr mFol ns (q, 0)).1.2 0 21 = q.2 0 21 := itr_keep (g := fun a : (tkI × tkL) × Int32 => a.1.2 0 21) (fun i a => (mFol_K i a).2) ns (q, 0)
  unfold mTick
  dsimp only
  generalize itr mFol ns (q, 0) = f at *
  have g1 : mK f.1.1 (itr mPump np f.1).1 := mK.itr (g := fun a : tkI × tkL => a.1) (fun i a => (mPump_keep i a).1) np f.1
  have g2 : (itr mPump np f.1).2 20 = f.1.2 20 := itr_keep (g := fun a : tkI × tkL => a.2 20) (fun i a => (mPump_K i a).1) np f.1
  have g3 : (itr mPump np f.1).2 0 21 = f.1.2 0 21 := itr_keep (g := fun a : tkI × tkL => a.2 0 21) (fun i a => (mPump_K i a).2) np f.1
  generalize itr mPump np f.1 = g at *
  obtain ⟨-, l2⟩ := mLeak_at g.1 nt
  obtain ⟨-, u2⟩ := mSum_at (itr mLeak nt g.1) (tk2 g.2 0 21 (g.2 0 21 + 1)) nt
  have mk : mK g.1 (itr mLeak nt g.1) := ⟨fun k _ h10 _ _ => l2 k h10, fun c _ => congrFun (l2 0 (by decide)) c⟩
  refine ⟨(f1.trans g1).trans mk, ?_, ?_⟩
  · rw [u2 20 (by decide), ← f2, ← g2]
    funext j
    exact tk2_ne (by decide)
  · rw [u2 0 (by decide), tk2_at, g3, f3]
theorem mTk_keep (nt ns np : Nat) (m : tkI × tkL) : ∀ n, mK m.1 (mTk nt ns np n m).1 ∧ (mTk nt ns np n m).2 20 = m.2 20 ∧ (mTk nt ns np n m).2 0 21 = m.2 0 21 + lN n
  | 0 => ⟨mK.rfl' _, rfl, (Int64.add_zero _).symm⟩
  | n + 1 => by
    obtain ⟨h1, h2, h3⟩ := mTk_keep nt ns np m n
    obtain ⟨g1, g2, g3⟩ := mTick_keep nt ns np (mTk nt ns np n m)
    refine ⟨h1.trans g1, g2.trans h2, ?_⟩
    show (mTick nt ns np (mTk nt ns np n m)).1.2 0 21 = _
    rw [g3, h3, Int64.add_assoc, lN_1]
theorem mUnt_tk (nt ns np j : Nat) (mark b : Int32) : ∀ (k i : Nat) (m : tkI × tkL), ∃ r, r ≤ k ∧ (mUnt nt ns np j mark b k i m).1 = mTk nt ns np r m
  | 0, i, m => by
    refine ⟨0, Nat.le_refl _, ?_⟩
    unfold mUnt
    split <;> rfl
  | k + 1, i, m => by
    unfold mUnt
    split
    · obtain ⟨r, h1, h2⟩ := mUnt_tk nt ns np j mark b k (i + 1) (mTick nt ns np m).1
      exact ⟨r + 1, by omega, by rw [h2, show r + 1 = 1 + r by omega, mTk_add]; rfl⟩
    · exact ⟨0, Nat.zero_le _, rfl⟩
theorem mNxt_tk (nt ns np : Nat) : ∀ (k i : Nat) (m : tkI × tkL), ∃ r, r ≤ k ∧ (mNxt nt ns np k i m).1 = mTk nt ns np r m
  | 0, i, m => ⟨0, Nat.le_refl _, rfl⟩
  | k + 1, i, m => by
    unfold mNxt
    split
    · obtain ⟨r, h1, h2⟩ := mNxt_tk nt ns np k (i + 1) (mTick nt ns np m).1
      exact ⟨r + 1, by omega, by rw [h2, show r + 1 = 1 + r by omega, mTk_add]; rfl⟩
    · exact ⟨1, by omega, rfl⟩
/-! one call on either side -/
/-- the relation behind a call, and what the depots lean on -/
def stepR (nt ns np : Nat) (m : tkI × tkL) (nt2 ns2 np2 c2 : Nat) (q' m' : tkI × tkL) : Prop :=
  wRel nt2 ns2 np2 c2 q' m' ∧ (nt ≤ nt2 ∧ ns ≤ ns2 ∧ np ≤ np2) ∧ (∀ j, j < nt → m'.1 1 j = m.1 1 j) ∧ (∀ k j, 2 ≤ k → k ≤ 4 → j < ns → m'.1 k j = m.1 k j) ∧ (∀ k j, 5 ≤ k → k ≤ 9 → j < np → m'.1 k j = m.1 k j) ∧
  m'.1 0 26 = m.1 0 26 ∧ ∀ y, y < 656 → m'.2 20 y = m.2 20 y
/-- but for the mark of refusal -/
def z0 (J J' : tkI) : Prop := ∀ k j, ¬ (k = 0 ∧ j = 0) → J' k j = J k j
theorem z0.t0 (J : tkI) : z0 J (mT0 J) := fun _ _ h => tk2_o h
theorem z0.th (c : Int32) (J : tkI) : z0 J (mTh c J) := fun _ _ h => (tk2_o h).trans (tk2_o h)
theorem z0.t1 (c : Int32) (J : tkI) : z0 J (tk2 J 0 0 c) := fun _ _ h => tk2_o h
theorem mTh_0 (c : Int32) (J : tkI) : mTh c J 0 0 = c := tk2_at
theorem mT0_0 (J : tkI) : mT0 J 0 0 = 0 := tk2_at
theorem wRel.z0 {nt ns np c : Nat} {q m : tkI × tkL} {J : tkI} (h : wRel nt ns np c q m) (hz : z0 m.1 J) : wRel nt ns np c q (J, m.2) :=
  h.mcongr (fun k j hr => hz k j (fun z => by unfold rlI at hr; omega)) (fun _ _ _ => rfl)
theorem stepR.z0 {nt ns np c : Nat} {q m : tkI × tkL} {J : tkI} (h : wRel nt ns np c q m) (hz : z0 m.1 J) : stepR nt ns np m nt ns np c q (J, m.2) :=
  ⟨h.z0 hz, ⟨Nat.le_refl _, Nat.le_refl _, Nat.le_refl _⟩, fun j _ => hz 1 j (by omega), fun k j _ _ _ => hz k j (by omega), fun k j _ _ _ => hz k j (by omega), hz 0 26 (by omega), fun _ _ => rfl⟩
theorem stepR.fail {nt ns np c : Nat} {q m : tkI × tkL} (h : wRel nt ns np c q m) (e : Int32) : stepR nt ns np m nt ns np c q (mFail e m).2 := stepR.z0 h (z0.th e m.1)
theorem eqR.put {n : Nat} {f g f' g' : Nat → Int32} (h : eqR n f g) (i : Nat) (x : Int32) (hf : ∀ j, f' j = if j = i then x else f j) (hg : ∀ j, g' j = if j = i then x else g j) : eqR n f' g' := fun j hj => by
  rw [hf j, hg j, h j hj]
theorem eqR.push {α : Type} {n : Nat} {f g f' g' : Nat → α} (h : eqR n f g) (x : α) (hf : ∀ j, f' j = if j = n then x else f j) (hg : ∀ j, g' j = if j = n then x else g j) : eqR (n + 1) f' g' := fun j hj => by
  rw [hf j, hg j]
  by_cases e : j = n
  · rw [if_pos e, if_pos e]
  · rw [if_neg e, if_neg e, h j (by omega)]
theorem bad_Z {x a b : Int32} : ¬ bad x a b ↔ a.toInt ≤ x.toInt ∧ x.toInt ≤ b.toInt := by
  constructor
  · intro h
    constructor
    · refine Int.not_lt.mp fun z => h (Or.inl (Int32.lt_iff_toInt_lt.mpr z))
    · refine Int.not_lt.mp fun z => h (Or.inr (Int32.lt_iff_toInt_lt.mpr z))
  · rintro ⟨h1, h2⟩ (z | z)
    · have := Int32.lt_iff_toInt_lt.mp z
      omega
    · have := Int32.lt_iff_toInt_lt.mp z
      omega
theorem wBS.mono {nt ns np nt2 ns2 np2 : Nat} {I : tkI} (h : wBS nt ns np I) (h1 : ∀ j, nt ≤ j → j < nt2 → 1 ≤ (I 2 j).toInt ∧ (I 2 j).toInt ≤ 1000000000 ∧ 0 ≤ (I 4 j).toInt ∧ (I 4 j).toInt ≤ 1000000)
    (h2 : ∀ i, ns ≤ i → i < ns2 → (∃ t, t < nt2 ∧ I 8 i = nI t) ∧ I 9 i < I 10 i ∧ 0 ≤ (I 9 i).toInt ∧ (I 10 i).toInt ≤ 1000000000)
    (h3 : ∀ i, np ≤ i → i < np2 → (I 13 i = -1 ∨ ∃ t, t < nt2 ∧ I 13 i = nI t) ∧ (I 14 i = -1 ∨ ∃ t, t < nt2 ∧ I 14 i = nI t) ∧ (I 17 i = -1 ∨ ∃ t, t < ns2 ∧ I 17 i = nI t) ∧ I 13 i ≠ I 14 i ∧ 1 ≤ (I 15 i).toInt ∧ (I 15 i).toInt ≤ 1000000)
    (e1 : nt ≤ nt2) (e2 : ns ≤ ns2) : wBS nt2 ns2 np2 I := by
  obtain ⟨a, b, d⟩ := h
  refine ⟨fun j hj => ?_, fun i hi => ?_, fun i hi => ?_⟩
  · by_cases z : j < nt
    · exact a j z
    · exact h1 j (by omega) hj
  · by_cases z : i < ns
    · obtain ⟨⟨t, ht, et⟩, r⟩ := b i z
      exact ⟨⟨t, by omega, et⟩, r⟩
    · exact h2 i (by omega) hi
  · by_cases z : i < np
    · obtain ⟨x1, x2, x3, r⟩ := d i z
      exact ⟨x1.imp id (fun ⟨t, a, b⟩ => ⟨t, by omega, b⟩), x2.imp id (fun ⟨t, a, b⟩ => ⟨t, by omega, b⟩), x3.imp id (fun ⟨t, a, b⟩ => ⟨t, by omega, b⟩), r⟩
    · exact h3 i (by omega) hi
end TKSTEP

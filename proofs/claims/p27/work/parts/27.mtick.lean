section TKMTICK
theorem itr_s {α : Type} (f : Nat → α → α) (n : Nat) (a : α) : itr f (n + 1) a = f n (itr f n a) := rfl
def mSh (k : Nat) (q : tkI × tkL) : tkI × tkL := (tk2 q.1 19 k (q.1 19 (k + 1)), tk2 q.2 18 k (q.2 18 (k + 1)))
def mPut (i : Int32) (s : Nat) (q : tkI × tkL) : tkI × tkL := (tk2 (tk2 q.1 19 s i) 0 23 (nI (s + 1)), tk2 (tk2 q.2 18 s (q.2 0 21)) 0 22 (q.2 0 22 + 1))
def mLog (i : Int32) (lg : Nat) (q : tkI × tkL) : tkI × tkL := if lg = 30 then mPut i 29 (itr mSh 29 (tk2 q.1 0 23 (nI 29), q.2)) else mPut i lg q
def mDue (J : tkI) (i : Nat) : Int32 := if J 10 (J 2 i).toNatClampNeg ≤ J 3 i then 1 else if J 4 i ≤ J 10 (J 2 i).toNatClampNeg then 0 else if J 13 i = 0 then 0 else 1
def mFol (i : Nat) (q : (tkI × tkL) × Int32) : (tkI × tkL) × Int32 :=
  if mDue q.1.1 i = q.1.1 13 i then q else (mLog (nI i) (q.1.1 0 23).toNatClampNeg (tk2 q.1.1 13 i (mDue q.1.1 i), q.1.2), q.2 + 1)
def mA1 (J : tkI) (i : Nat) : Int32 := if J 5 i = -1 then J 14 i else jmin (J 14 i) (J 10 (J 5 i).toNatClampNeg)
def mAmt (J : tkI) (i : Nat) : Int32 := if J 6 i = -1 then mA1 J i else jmin (mA1 J i) (J 1 (J 6 i).toNatClampNeg - J 10 (J 6 i).toNatClampNeg)
def mLv1 (m : Int32) (i : Nat) (J : tkI) : tkI := if J 5 i = -1 then J else tk2 J 10 (J 5 i).toNatClampNeg (J 10 (J 5 i).toNatClampNeg - m)
def mLv2 (m : Int32) (i : Nat) (J : tkI) : tkI := if J 6 i = -1 then J else tk2 J 10 (J 6 i).toNatClampNeg (J 10 (J 6 i).toNatClampNeg + m)
def mEnt (m : Int32) (i : Nat) (J : tkI) (K : tkL) : tkL :=
  tk2 (tk2 (tk2 K 15 i (K 15 i + m.toInt64)) 16 i (K 16 i + m.toInt64 * (J 7 i).toInt64)) 17 i (K 17 i + if J 14 i ≤ m then 0 else 1)
def mPump (i : Nat) (q : tkI × tkL) : tkI × tkL :=
  if ¬ q.1 8 i = -1 ∧ q.1 13 (q.1 8 i).toNatClampNeg = q.1 9 i then q else (mLv2 (mAmt q.1 i) i (mLv1 (mAmt q.1 i) i q.1), mEnt (mAmt q.1 i) i q.1 q.2)
def mLeak (i : Nat) (J : tkI) : tkI := tk2 J 10 i (J 10 i - jmin (J 11 i) (J 10 i))
def mSum (J : tkI) (i : Nat) (K : tkL) : tkL := tk2 K 12 i (K 12 i + (J 10 i).toInt64)
def mTick (nt ns np : Nat) (q : tkI × tkL) : (tkI × tkL) × Int32 :=
  let f := itr mFol ns (q, 0)
  let g := itr mPump np f.1
  let J2 := itr mLeak nt g.1
  ((J2, itr (mSum J2) nt (tk2 g.2 0 21 (g.2 0 21 + 1))), f.2)
/-- what a tick leaves -/
def mK (J J' : tkI) : Prop := (∀ k, k ≠ 0 → k ≠ 10 → k ≠ 13 → k ≠ 19 → J' k = J k) ∧ ∀ c, c ≠ 23 → J' 0 c = J 0 c
theorem mK.rfl' (J : tkI) : mK J J := ⟨fun _ _ _ _ _ => rfl, fun _ _ => rfl⟩
theorem mK.trans {a b c : tkI} (h : mK a b) (g : mK b c) : mK a c := ⟨fun k h1 h2 h3 h4 => (g.1 k h1 h2 h3 h4).trans (h.1 k h1 h2 h3 h4), fun c h1 => (g.2 c h1).trans (h.2 c h1)⟩
theorem mK.put {J : tkI} {k i : Nat} {x : Int32} (h : (k = 0 ∧ i = 23) ∨ k = 10 ∨ k = 13 ∨ k = 19) : mK J (tk2 J k i x) :=
  ⟨fun a h1 h2 h3 h4 => by funext j; exact tk2_ne (by omega), fun c h1 => if_neg (by omega)⟩
theorem mK.itr {α : Type} {f : Nat → α → α} {g : α → tkI} (h : ∀ i a, mK (g a) (g (f i a))) : ∀ (n : Nat) (a : α), mK (g a) (g (itr f n a))
  | 0, a => mK.rfl' _
  | n + 1, a => (mK.itr h n a).trans (h n _)
theorem mSh_keep (n : Nat) (q : tkI × tkL) : mK q.1 (itr mSh n q).1 := mK.itr (g := Prod.fst) (fun _ _ => mK.put (Or.inr (Or.inr (Or.inr rfl)))) n q
theorem mPut_keep (i : Int32) (s : Nat) (q : tkI × tkL) : mK q.1 (mPut i s q).1 := (mK.put (Or.inr (Or.inr (Or.inr rfl)))).trans (mK.put (Or.inl ⟨rfl, rfl⟩))
theorem mLog_keep (i : Int32) (lg : Nat) (q : tkI × tkL) : mK q.1 (mLog i lg q).1 := by
  unfold mLog
  split
  · exact (mK.put (x := nI 29) (Or.inl ⟨rfl, rfl⟩)).trans ((mSh_keep 29 (tk2 q.1 0 23 (nI 29), q.2)).trans (mPut_keep _ _ _))
  · exact mPut_keep _ _ _
theorem mLv1_keep (m : Int32) (i : Nat) (J : tkI) : mK J (mLv1 m i J) ∧ mLv1 m i J 0 23 = J 0 23 := by
  unfold mLv1
  split
  · exact ⟨mK.rfl' _, rfl⟩
  · exact ⟨mK.put (Or.inr (Or.inl rfl)), rfl⟩
theorem mLv2_keep (m : Int32) (i : Nat) (J : tkI) : mK J (mLv2 m i J) ∧ mLv2 m i J 0 23 = J 0 23 := by
  unfold mLv2
  split
  · exact ⟨mK.rfl' _, rfl⟩
  · exact ⟨mK.put (Or.inr (Or.inl rfl)), rfl⟩
def mRun (nt ns np n : Nat) (q : tkI × tkL) : (tkI × tkL) × Int32 := itr (fun _ a => ((mTick nt ns np a.1).1, a.2 + (mTick nt ns np a.1).2)) n (q, 0)
end TKMTICK

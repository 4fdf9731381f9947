section TKREL
/-! how the program's plant and the reference stand to each other -/
def eqR {α : Type} (n : Nat) (f g : Nat → α) : Prop := ∀ i, i < n → f i = g i
def wCt (nt ns np : Nat) (I J : tkI) : Prop := (I 1 0 = nI nt ∧ J 0 1 = nI nt ∧ nt ≤ 8) ∧ (I 7 0 = nI ns ∧ J 0 3 = nI ns ∧ ns ≤ 10) ∧ (I 12 0 = nI np ∧ J 0 7 = nI np ∧ np ≤ 16)
def wSt (nt ns np : Nat) (I J : tkI) : Prop := (eqR nt (I 2) (J 1) ∧ eqR nt (I 4) (J 11)) ∧ (eqR ns (I 8) (J 2) ∧ eqR ns (I 9) (J 3) ∧ eqR ns (I 10) (J 4)) ∧
  (eqR np (I 13) (J 5) ∧ eqR np (I 14) (J 6) ∧ eqR np (I 15) (J 14) ∧ eqR np (I 16) (J 7) ∧ eqR np (I 17) (J 8) ∧ eqR np (I 18) (J 9))
/-- the bounds of what a tick leaves -/
def wBS (nt ns np : Nat) (I : tkI) : Prop := (∀ j, j < nt → 1 ≤ (I 2 j).toInt ∧ (I 2 j).toInt ≤ 1000000000 ∧ 0 ≤ (I 4 j).toInt ∧ (I 4 j).toInt ≤ 1000000) ∧
  (∀ i, i < ns → (∃ t, t < nt ∧ I 8 i = nI t) ∧ I 9 i < I 10 i ∧ 0 ≤ (I 9 i).toInt ∧ (I 10 i).toInt ≤ 1000000000) ∧
  ∀ i, i < np → (I 13 i = -1 ∨ ∃ t, t < nt ∧ I 13 i = nI t) ∧ (I 14 i = -1 ∨ ∃ t, t < nt ∧ I 14 i = nI t) ∧ (I 17 i = -1 ∨ ∃ t, t < ns ∧ I 17 i = nI t) ∧ I 13 i ≠ I 14 i ∧ 1 ≤ (I 15 i).toInt ∧ (I 15 i).toInt ≤ 1000000
def wSS (nt ns np : Nat) (I J : tkI) : Prop := wCt nt ns np I J ∧ wSt nt ns np I J ∧ wBS nt ns np I
def wLv (nt : Nat) (I J : tkI) : Prop := eqR nt (I 3) (J 10) ∧ ∀ j, j < nt → 0 ≤ (I 3 j).toInt ∧ (I 3 j).toInt ≤ (I 2 j).toInt
def wOn (ns : Nat) (I J : tkI) : Prop := eqR ns (I 11) (J 13) ∧ ∀ i, i < ns → I 11 i = 0 ∨ I 11 i = 1
def wSm (nt : Nat) (L K : tkL) : Prop := eqR nt (L 5) (K 12)
def wLd (np : Nat) (L K : tkL) : Prop := eqR np (L 19) (K 15) ∧ eqR np (L 20) (K 16) ∧ eqR np (L 21) (K 17)
def wTm (L K : tkL) : Prop := L 0 4 = K 0 21
def wLg (c : Nat) (q m : tkI × tkL) : Prop := q.2 25 0 = lN c ∧ m.2 0 22 = lN c ∧ m.1 0 23 = nI (min c 30) ∧
  ∀ k, k < min c 30 → q.2 26 ((c - min c 30 + k) % 30) = m.2 18 k ∧ q.1 27 ((c - min c 30 + k) % 30) = m.1 19 k
def wRel (nt ns np c : Nat) (q m : tkI × tkL) : Prop := wSS nt ns np q.1 m.1 ∧ wLv nt q.1 m.1 ∧ wOn ns q.1 m.1 ∧ wSm nt q.2 m.2 ∧ wLd np q.2 m.2 ∧ wTm q.2 m.2 ∧ wLg c q m
/-- what the program's ticks leave -/
def xK (I I' : tkI) : Prop := ∀ k, k ≠ 3 → k ≠ 6 → k ≠ 11 → k ≠ 22 → k ≠ 23 → k ≠ 24 → k ≠ 27 → I' k = I k
theorem xK.rfl' (I : tkI) : xK I I := fun _ _ _ _ _ _ _ _ => rfl
theorem xK.trans {a b c : tkI} (h : xK a b) (g : xK b c) : xK a c := fun k h1 h2 h3 h4 h5 h6 h7 => (g k h1 h2 h3 h4 h5 h6 h7).trans (h k h1 h2 h3 h4 h5 h6 h7)
theorem wSS.keep {nt ns np : Nat} {I J I' J' : tkI} (h : wSS nt ns np I J) (hx : xK I I') (hm : mK J J') : wSS nt ns np I' J' := by
  have x : ∀ k, k ≠ 3 ∧ k ≠ 6 ∧ k ≠ 11 ∧ k ≠ 22 ∧ k ≠ 23 ∧ k ≠ 24 ∧ k ≠ 27 → I' k = I k := fun k z => hx k z.1 z.2.1 z.2.2.1 z.2.2.2.1 z.2.2.2.2.1 z.2.2.2.2.2.1 z.2.2.2.2.2.2
  have m : ∀ k, k ≠ 0 ∧ k ≠ 10 ∧ k ≠ 13 ∧ k ≠ 19 → J' k = J k := fun k z => hm.1 k z.1 z.2.1 z.2.2.1 z.2.2.2
  unfold wSS wCt wSt wBS at *
  rw [x 1 (by decide), x 7 (by decide), x 12 (by decide), x 2 (by decide), x 4 (by decide), x 8 (by decide), x 9 (by decide), x 10 (by decide), x 13 (by decide), x 14 (by decide), x 15 (by decide), x 16 (by decide), x 17 (by decide), x 18 (by decide),
    hm.2 1 (by decide), hm.2 3 (by decide), hm.2 7 (by decide), m 1 (by decide), m 11 (by decide), m 2 (by decide), m 3 (by decide), m 4 (by decide), m 5 (by decide), m 6 (by decide), m 14 (by decide), m 7 (by decide), m 8 (by decide), m 9 (by decide)]
  exact h
theorem itr_rel {α β : Type} {f : Nat → α → α} {g : Nat → β → β} {P : Nat → α → β → Prop} {n : Nat} (hs : ∀ i a b, i < n → P i a b → P (i + 1) (f i a) (g i b)) : ∀ {k : Nat} {a : α} {b : β}, k ≤ n → P 0 a b → P k (itr f k a) (itr g k b)
  | 0, _, _, _, h => h
  | k + 1, a, b, hk, h => hs k _ _ hk (itr_rel hs (Nat.le_of_succ_le hk) h)
/-! the log -/
theorem mSh_18 (q : tkI × tkL) : ∀ n k, (itr mSh n q).2 18 k = if k < n then q.2 18 (k + 1) else q.2 18 k
  | 0, k => by rw [if_neg (Nat.not_lt_zero k)]; rfl
  | n + 1, k => by
    rw [itr_s]
    show tk2 (itr mSh n q).2 18 n ((itr mSh n q).2 18 (n + 1)) 18 k = _
    by_cases h : k = n
    · subst h
      rw [tk2_at, mSh_18 q k (k + 1), if_neg (by omega), if_pos (by omega)]
    · rw [show tk2 (itr mSh n q).2 18 n ((itr mSh n q).2 18 (n + 1)) 18 k = (itr mSh n q).2 18 k from if_neg (fun z => h z.2), mSh_18 q n k]
      by_cases h2 : k < n
      · rw [if_pos h2, if_pos (by omega)]
      · rw [if_neg h2, if_neg (by omega)]
theorem mSh_19 (q : tkI × tkL) : ∀ n k, (itr mSh n q).1 19 k = if k < n then q.1 19 (k + 1) else q.1 19 k
  | 0, k => by rw [if_neg (Nat.not_lt_zero k)]; rfl
  | n + 1, k => by
    rw [itr_s]
    show tk2 (itr mSh n q).1 19 n ((itr mSh n q).1 19 (n + 1)) 19 k = _
    by_cases h : k = n
    · subst h
      rw [tk2_at, mSh_19 q k (k + 1), if_neg (by omega), if_pos (by omega)]
    · rw [show tk2 (itr mSh n q).1 19 n ((itr mSh n q).1 19 (n + 1)) 19 k = (itr mSh n q).1 19 k from if_neg (fun z => h z.2), mSh_19 q n k]
      by_cases h2 : k < n
      · rw [if_pos h2, if_pos (by omega)]
      · rw [if_neg h2, if_neg (by omega)]
/-- the reference's longs: a note leaves all but the log's -/
theorem mSh_K (n : Nat) (q : tkI × tkL) {k : Nat} (h : k ≠ 18) : (itr mSh n q).2 k = q.2 k :=
  itr_keep (g := fun a : tkI × tkL => a.2 k) (fun i a => by funext j; exact tk2_ne h) n q
theorem mLog_K (i : Int32) (lg : Nat) (q : tkI × tkL) {k : Nat} (h0 : k ≠ 0) (h : k ≠ 18) : (mLog i lg q).2 k = q.2 k := by
  have e : ∀ s q1, (mPut i s q1).2 k = q1.2 k := fun s q1 => by
    funext j
    exact (tk2_ne h0).trans (tk2_ne h)
  unfold mLog
  split
  · rw [e, mSh_K _ _ h]
  · exact e _ _
theorem mLog_21 (i : Int32) (lg : Nat) (q : tkI × tkL) : (mLog i lg q).2 0 21 = q.2 0 21 := by
  have e : ∀ s q1, (mPut i s q1).2 0 21 = q1.2 0 21 := fun s q1 => rfl
  unfold mLog
  split
  · rw [e, mSh_K _ _ (by decide)]
  · exact e _ _
theorem note_log {c : Nat} {q m : tkI × tkL} (h : wLg c q m) (hc : c < 2 ^ 62) (ht : wTm q.2 m.2) (i : Int32) : wLg (c + 1) (sNote (q.2 0 4) i q) (mLog i (min c 30) m) := by
  obtain ⟨h1, h2, h3, h4⟩ := h
  have hs : lgSlot (q.2 25 0) = c % 30 := by rw [h1]; exact lgSlot_lN (by omega)
  unfold sNote
  rw [hs]
  have ht : q.2 0 4 = m.2 0 21 := ht
  by_cases h30 : c < 30
  · have e : min c 30 = c := by omega
    have e1 : min (c + 1) 30 = c + 1 := by omega
    rw [e] at h3 h4 ⊢
    unfold mLog
    rw [if_neg (by omega)]
    refine ⟨?_, ?_, ?_, fun k hk => ?_⟩
    · show tk2 (tk2 q.2 26 (c % 30) (q.2 0 4)) 25 0 (q.2 25 0 + 1) 25 0 = _
      rw [tk2_at, h1, lN_1]
    · show tk2 (tk2 m.2 18 c (m.2 0 21)) 0 22 (m.2 0 22 + 1) 0 22 = _
      rw [tk2_at, h2, lN_1]
    · show tk2 (tk2 m.1 19 c i) 0 23 (nI (c + 1)) 0 23 = _
      rw [tk2_at, e1]
    · rw [e1] at hk ⊢
      rw [show (c + 1 - (c + 1) + k) % 30 = k by omega]
      have hk4 := h4 k
      rw [show (c - c + k) % 30 = k by omega] at hk4
      show tk2 q.2 26 (c % 30) (q.2 0 4) 26 k = tk2 m.2 18 c (m.2 0 21) 18 k ∧ tk2 q.1 27 (c % 30) i 27 k = tk2 m.1 19 c i 19 k
      rw [show c % 30 = c by omega]
      by_cases hkc : k = c
      · subst hkc
        rw [tk2_at, tk2_at, tk2_at, tk2_at]
        exact ⟨ht, rfl⟩
      · have hne : ∀ (α : Type) (f : Nat → Nat → α) a x, tk2 f a c x a k = f a k := fun α f a x => if_neg (fun z => hkc z.2)
        rw [hne, hne, hne, hne]
        exact hk4 (by omega)
  · have e : min c 30 = 30 := by omega
    have e1 : min (c + 1) 30 = 30 := by omega
    rw [e] at h3 h4 ⊢
    unfold mLog
    rw [if_pos rfl]
    have k18 := mSh_18 (tk2 m.1 0 23 (nI 29), m.2) 29
    have k19 := mSh_19 (tk2 m.1 0 23 (nI 29), m.2) 29
    have k0 : (itr mSh 29 (tk2 m.1 0 23 (nI 29), m.2)).2 0 = m.2 0 := mSh_K 29 (tk2 m.1 0 23 (nI 29), m.2) (by decide)
    generalize itr mSh 29 (tk2 m.1 0 23 (nI 29), m.2) = p at *
    obtain ⟨J1, K1⟩ := p
    dsimp only at k18 k19 k0 ⊢
    refine ⟨?_, ?_, ?_, fun k hk => ?_⟩
    · show tk2 (tk2 q.2 26 (c % 30) (q.2 0 4)) 25 0 (q.2 25 0 + 1) 25 0 = _
      rw [tk2_at, h1, lN_1]
    · show tk2 (tk2 K1 18 29 (K1 0 21)) 0 22 (K1 0 22 + 1) 0 22 = _
      rw [tk2_at, k0, h2, lN_1]
    · show tk2 (tk2 J1 19 29 i) 0 23 (nI (29 + 1)) 0 23 = _
      rw [tk2_at, e1]
    · rw [e1] at hk ⊢
      have hk4 := h4 (k + 1)
      show tk2 q.2 26 (c % 30) (q.2 0 4) 26 ((c + 1 - 30 + k) % 30) = tk2 K1 18 29 (K1 0 21) 18 k ∧ tk2 q.1 27 (c % 30) i 27 ((c + 1 - 30 + k) % 30) = tk2 J1 19 29 i 19 k
      by_cases hkc : k = 29
      · subst hkc
        rw [show (c + 1 - 30 + 29) % 30 = c % 30 by omega, tk2_at, tk2_at, tk2_at, tk2_at, k0]
        exact ⟨ht, rfl⟩
      · have hne : ∀ (α : Type) (f : Nat → Nat → α) a x, tk2 f a 29 x a k = f a k := fun α f a x => if_neg (fun z => hkc z.2)
        have hne2 : ∀ (α : Type) (f : Nat → Nat → α) a x, tk2 f a (c % 30) x a ((c + 1 - 30 + k) % 30) = f a ((c + 1 - 30 + k) % 30) := fun α f a x => if_neg (fun z => by have := z.2; omega)
        rw [hne, hne, hne2, hne2, k18 k, k19 k, if_pos (show k < 29 by omega), if_pos (show k < 29 by omega), show (c + 1 - 30 + k) % 30 = (c - 30 + (k + 1)) % 30 by omega]
        exact hk4 (by omega)
/-! the switches follow -/
theorem due_eq {I J : tkI} {i : Nat} (e2 : J 2 i = I 8 i) (e3 : J 3 i = I 9 i) (e4 : J 4 i = I 10 i) (e13 : J 13 i = I 11 i) (e10 : J 10 (I 8 i).toNatClampNeg = I 3 (I 8 i).toNatClampNeg) (hlt : I 9 i < I 10 i) : mDue J i = sDue I i := by
  unfold mDue sDue
  rw [e2, e3, e4, e13, e10]
  generalize I 3 (I 8 i).toNatClampNeg = x
  rw [Int32.lt_iff_toInt_lt] at hlt
  by_cases h0 : I 11 i = 0
  · rw [if_pos h0, if_pos h0]
    by_cases h1 : x ≤ I 9 i
    · rw [if_pos h1, if_neg (Int32.not_lt.mpr h1)]
    · rw [if_neg h1, if_pos (Int32.not_le.mp h1)]
      split <;> rfl
  · rw [if_neg h0, if_neg h0]
    by_cases h1 : x ≤ I 9 i
    · have h2 : ¬ I 10 i ≤ x := fun z => by
        rw [Int32.le_iff_toInt_le] at h1 z
        omega
      rw [if_pos h1, if_neg h2]
    · rw [if_neg h1]
end TKREL

section TKSIM
theorem i32_sub {x y : Int32} (h1 : -2147483648 ≤ x.toInt - y.toInt) (h2 : x.toInt - y.toInt ≤ 2147483647) : (x - y).toInt = x.toInt - y.toInt := by
  rw [Int32.toInt_sub]
  exact Int.bmod_eq_of_le (by omega) (by omega)
theorem i32_add {x y : Int32} (h1 : -2147483648 ≤ x.toInt + y.toInt) (h2 : x.toInt + y.toInt ≤ 2147483647) : (x + y).toInt = x.toInt + y.toInt := by
  rw [Int32.toInt_add]
  exact Int.bmod_eq_of_le (by omega) (by omega)
theorem jmin_Z (x y : Int32) : (jmin x y).toInt = min x.toInt y.toInt := by
  unfold jmin
  split <;> (rename_i h; rw [Int32.lt_iff_toInt_lt] at h; omega)
theorem mLog_J (i : Int32) (lg : Nat) (q : tkI × tkL) {k : Nat} (h0 : k ≠ 0) (h : k ≠ 19) : (mLog i lg q).1 k = q.1 k := by
  have e : ∀ s q1, (mPut i s q1).1 k = q1.1 k := fun s q1 => by
    funext j
    exact (tk2_ne h0).trans (tk2_ne h)
  unfold mLog
  split
  · rw [e, itr_keep (g := fun a : tkI × tkL => a.1 k) (fun i a => by funext j; exact tk2_ne h)]
    funext j
    exact tk2_ne h0
  · exact e _ _
theorem sNote_I (now : Int64) (i : Int32) (q : tkI × tkL) {k : Nat} (h : k ≠ 27) : (sNote now i q).1 k = q.1 k := by
  unfold sNote
  funext j
  exact tk2_ne h
theorem wRel.fol {nt ns np c i : Nat} {q m : tkI × tkL} (h : wRel nt ns np c q m) (hc : c < 2 ^ 62) (hi : i < ns) (n : Int32) (now : Int64) (hn : now = q.2 0 4) :
    (sFol now i (q, n)).2 = (mFol i (m, n)).2 ∧ ∃ c', c ≤ c' ∧ c' ≤ c + 1 ∧ wRel nt ns np c' (sFol now i (q, n)).1 (mFol i (m, n)).1 ∧ (sFol now i (q, n)).1.2 0 4 = q.2 0 4 := by
  obtain ⟨hS, hLv, hOn, hSm, hLd, hTm, hLg⟩ := h
  obtain ⟨⟨t, ht, et⟩, hlt, -, -⟩ := hS.2.2.2.1 i hi
  have hnt := hS.1.1.2.2
  have etc : (q.1 8 i).toNatClampNeg = t := by rw [et]; exact nI_clamp (by omega)
  have hd : mDue m.1 i = sDue q.1 i := due_eq (hS.2.1.2.1.1 i hi).symm (hS.2.1.2.1.2.1 i hi).symm (hS.2.1.2.1.2.2 i hi).symm (hOn.1 i hi).symm (by rw [etc]; exact (hLv.1 t ht).symm) hlt
  unfold sFol mFol
  dsimp only
  rw [hd, ← hOn.1 i hi]
  by_cases h1 : sDue q.1 i = q.1 11 i
  · rw [if_pos h1, if_pos h1]
    exact ⟨rfl, c, Nat.le_refl _, by omega, ⟨hS, hLv, hOn, hSm, hLd, hTm, hLg⟩, rfl⟩
  · rw [if_neg h1, if_neg h1]
    have elc : (m.1 0 23).toNatClampNeg = min c 30 := by rw [hLg.2.2.1]; exact nI_clamp (by omega)
    rw [elc, hn]
    have hb := sDue_01 q.1 i
    generalize sDue q.1 i = d at *
    have hLg' : wLg c (tk2 q.1 11 i d, q.2) (tk2 m.1 13 i d, m.2) := hLg
    have hl := note_log hLg' hc hTm (nI i)
    have jK := mLog_keep (nI i) (min c 30) (tk2 m.1 13 i d, m.2)
    have jJ : ∀ k, k ≠ 0 → k ≠ 19 → (mLog (nI i) (min c 30) (tk2 m.1 13 i d, m.2)).1 k = tk2 m.1 13 i d k := fun k a b => mLog_J _ _ _ a b
    have kK : ∀ k, k ≠ 0 → k ≠ 18 → (mLog (nI i) (min c 30) (tk2 m.1 13 i d, m.2)).2 k = m.2 k := fun k a b => mLog_K _ _ _ a b
    have k21 := mLog_21 (nI i) (min c 30) (tk2 m.1 13 i d, m.2)
    generalize mLog (nI i) (min c 30) (tk2 m.1 13 i d, m.2) = p at *
    have xx : ∀ k, k ≠ 11 → k ≠ 27 → (sNote (q.2 0 4) (nI i) (tk2 q.1 11 i d, q.2)).1 k = q.1 k := fun k a b => by
      funext j
      exact (tk2_ne b).trans (tk2_ne a)
    have x11 : (sNote (q.2 0 4) (nI i) (tk2 q.1 11 i d, q.2)).1 11 = tk2 q.1 11 i d 11 := by
      exact sNote_I _ _ _ (by decide)
    have xl : ∀ k, k ≠ 25 → k ≠ 26 → (sNote (q.2 0 4) (nI i) (tk2 q.1 11 i d, q.2)).2 k = q.2 k := fun k a b => by
      funext j
      exact (tk2_ne a).trans (tk2_ne b)
    generalize sNote (q.2 0 4) (nI i) (tk2 q.1 11 i d, q.2) = y at *
    have m10 : p.1 10 = m.1 10 := (jJ 10 (by decide) (by decide)).trans (by funext j; exact tk2_ne (by decide))
    refine ⟨rfl, c + 1, by omega, Nat.le_refl _, ⟨hS.keep (fun k _ _ h11 _ _ _ h27 => xx k h11 h27) ((mK.put (Or.inr (Or.inr (Or.inl rfl)))).trans jK), ?_, ?_, ?_, ?_, ?_, hl⟩, by rw [xl 0 (by decide) (by decide)]⟩
    · unfold wLv
      rw [m10, xx 3 (by decide) (by decide), xx 2 (by decide) (by decide)]
      exact hLv
    · unfold wOn
      rw [x11, jJ 13 (by decide) (by decide)]
      refine ⟨fun j hj => ?_, fun j hj => ?_⟩
      · by_cases e : j = i
        · rw [e, tk2_at, tk2_at]
        · rw [show tk2 q.1 11 i d 11 j = q.1 11 j from if_neg (fun z => e z.2), show tk2 m.1 13 i d 13 j = m.1 13 j from if_neg (fun z => e z.2)]
          exact hOn.1 j hj
      · by_cases e : j = i
        · rw [e, tk2_at]
          exact hb
        · rw [show tk2 q.1 11 i d 11 j = q.1 11 j from if_neg (fun z => e z.2)]
          exact hOn.2 j hj
    · unfold wSm
      rw [xl 5 (by decide) (by decide), kK 12 (by decide) (by decide)]
      exact hSm
    · unfold wLd
      rw [xl 19 (by decide) (by decide), xl 20 (by decide) (by decide), xl 21 (by decide) (by decide), kK 15 (by decide) (by decide), kK 16 (by decide) (by decide), kK 17 (by decide) (by decide)]
      exact hLd
    · unfold wTm
      rw [xl 0 (by decide) (by decide), k21]
      exact hTm
/-! the pumps -/
def amt (fr to rt : Int32) (f cp : Nat → Int32) : Int32 := if to = -1 then (if fr = -1 then rt else jmin rt (f fr.toNatClampNeg)) else jmin (if fr = -1 then rt else jmin rt (f fr.toNatClampNeg)) (cp to.toNatClampNeg - f to.toNatClampNeg)
def mv1 (fr m : Int32) (f : Nat → Int32) : Nat → Int32 := if fr = -1 then f else fun j => if j = fr.toNatClampNeg then f fr.toNatClampNeg - m else f j
def mv2 (to m : Int32) (f : Nat → Int32) : Nat → Int32 := if to = -1 then f else fun j => if j = to.toNatClampNeg then f to.toNatClampNeg + m else f j
theorem sMove_22 (i : Nat) (I : tkI) : sMove i I 22 i = amt (I 13 i) (I 14 i) (I 15 i) (I 3) (I 2) := tk2_at
theorem sMove_3 (i : Nat) (I : tkI) : sMove i I 3 = mv2 (I 14 i) (amt (I 13 i) (I 14 i) (I 15 i) (I 3) (I 2)) (mv1 (I 13 i) (amt (I 13 i) (I 14 i) (I 15 i) (I 3) (I 2)) (I 3)) := by
  have e : sMove i I = tk2 (if I 14 i = -1 then (if I 13 i = -1 then I else tk2 (tk2 I 3 (I 13 i).toNatClampNeg (I 3 (I 13 i).toNatClampNeg - amt (I 13 i) (I 14 i) (I 15 i) (I 3) (I 2))) 23 i (tk2 I 3 (I 13 i).toNatClampNeg (I 3 (I 13 i).toNatClampNeg - amt (I 13 i) (I 14 i) (I 15 i) (I 3) (I 2)) 3 (I 13 i).toNatClampNeg)) else
    (fun I1 : tkI => tk2 (tk2 I1 3 (I 14 i).toNatClampNeg (I1 3 (I 14 i).toNatClampNeg + amt (I 13 i) (I 14 i) (I 15 i) (I 3) (I 2))) 24 i (tk2 I1 3 (I 14 i).toNatClampNeg (I1 3 (I 14 i).toNatClampNeg + amt (I 13 i) (I 14 i) (I 15 i) (I 3) (I 2)) 2 (I 14 i).toNatClampNeg - tk2 I1 3 (I 14 i).toNatClampNeg (I1 3 (I 14 i).toNatClampNeg + amt (I 13 i) (I 14 i) (I 15 i) (I 3) (I 2)) 3 (I 14 i).toNatClampNeg))
      (if I 13 i = -1 then I else tk2 (tk2 I 3 (I 13 i).toNatClampNeg (I 3 (I 13 i).toNatClampNeg - amt (I 13 i) (I 14 i) (I 15 i) (I 3) (I 2))) 23 i (tk2 I 3 (I 13 i).toNatClampNeg (I 3 (I 13 i).toNatClampNeg - amt (I 13 i) (I 14 i) (I 15 i) (I 3) (I 2)) 3 (I 13 i).toNatClampNeg))) 22 i (amt (I 13 i) (I 14 i) (I 15 i) (I 3) (I 2)) := rfl
  rw [e]
  generalize amt (I 13 i) (I 14 i) (I 15 i) (I 3) (I 2) = a
  unfold mv1 mv2
  funext j
  by_cases h14 : I 14 i = -1 <;> by_cases h13 : I 13 i = -1 <;> simp [tk2, h13, h14]
theorem mLv_10 (a : Int32) (i : Nat) (J : tkI) : mLv2 a i (mLv1 a i J) 10 = mv2 (J 6 i) a (mv1 (J 5 i) a (J 10)) := by
  unfold mLv1 mLv2 mv1 mv2
  funext j
  by_cases h14 : J 6 i = -1 <;> by_cases h13 : J 5 i = -1 <;> simp [tk2, h13, h14]
theorem mAmt_eq (J : tkI) (i : Nat) : mAmt J i = amt (J 5 i) (J 6 i) (J 14 i) (J 10) (J 1) := rfl
/-- an end of a pump: outside, or a tank -/
def end_ (nt : Nat) (x : Int32) : Prop := x = -1 ∨ ∃ t, t < nt ∧ x = nI t
theorem end_.at {nt : Nat} {x : Int32} (hn : nt ≤ 8) (h : end_ nt x) (h1 : ¬ x = -1) : x.toNatClampNeg < nt := by
  obtain ⟨t, ht, rfl⟩ := h.resolve_left h1
  rw [nI_clamp (by omega)]
  exact ht
theorem amt_congr {nt : Nat} {fr to rt : Int32} {f g cp cp' : Nat → Int32} (hn : nt ≤ 8) (h1 : end_ nt fr) (h2 : end_ nt to) (hf : eqR nt f g) (hc : eqR nt cp cp') : amt fr to rt f cp = amt fr to rt g cp' := by
  unfold amt
  by_cases a : fr = -1 <;> by_cases b : to = -1
  · simp only [a, b, if_true]
  · simp only [a, b, if_true, if_false]
    rw [hf _ (h2.at hn b), hc _ (h2.at hn b)]
  · simp only [a, b, if_true, if_false]
    rw [hf _ (h1.at hn a)]
  · simp only [a, b, if_false]
    rw [hf _ (h2.at hn b), hc _ (h2.at hn b), hf _ (h1.at hn a)]
theorem mv1_congr {nt : Nat} {fr a : Int32} {f g : Nat → Int32} (hn : nt ≤ 8) (h1 : end_ nt fr) (hf : eqR nt f g) : eqR nt (mv1 fr a f) (mv1 fr a g) := by
  intro j hj
  unfold mv1
  by_cases h : fr = -1
  · simp only [h, if_true]
    exact hf j hj
  · simp only [h, if_false]
    rw [hf _ (h1.at hn h), hf j hj]
theorem mv2_congr {nt : Nat} {fr a : Int32} {f g : Nat → Int32} (hn : nt ≤ 8) (h1 : end_ nt fr) (hf : eqR nt f g) : eqR nt (mv2 fr a f) (mv2 fr a g) := by
  intro j hj
  unfold mv2
  by_cases h : fr = -1
  · simp only [h, if_true]
    exact hf j hj
  · simp only [h, if_false]
    rw [hf _ (h1.at hn h), hf j hj]
/-- levels within their tanks -/
def lvB (nt : Nat) (f cp : Nat → Int32) : Prop := ∀ j, j < nt → 0 ≤ (f j).toInt ∧ (f j).toInt ≤ (cp j).toInt ∧ (cp j).toInt ≤ 1000000000
theorem amt_Z {nt : Nat} {fr to rt : Int32} {f cp : Nat → Int32} (hn : nt ≤ 8) (h2 : end_ nt to) (hb : lvB nt f cp) :
    (amt fr to rt f cp).toInt = if to = -1 then (if fr = -1 then rt.toInt else min rt.toInt (f fr.toNatClampNeg).toInt) else min (if fr = -1 then rt.toInt else min rt.toInt (f fr.toNatClampNeg).toInt) ((cp to.toNatClampNeg).toInt - (f to.toNatClampNeg).toInt) := by
  unfold amt
  have e1 : (if fr = -1 then rt else jmin rt (f fr.toNatClampNeg)).toInt = if fr = -1 then rt.toInt else min rt.toInt (f fr.toNatClampNeg).toInt := by
    split
    · rfl
    · exact jmin_Z _ _
  by_cases b : to = -1
  · rw [if_pos b, if_pos b, e1]
  · obtain ⟨z1, z2, z3⟩ := hb _ (h2.at hn b)
    rw [if_neg b, if_neg b, jmin_Z, e1, i32_sub (by omega) (by omega)]
theorem mv_Z {nt : Nat} {fr to a : Int32} {f cp : Nat → Int32} (hn : nt ≤ 8) (h1 : end_ nt fr) (h2 : end_ nt to) (hne : fr ≠ to) (hb : lvB nt f cp) (ha0 : 0 ≤ a.toInt) (ha1 : ¬ fr = -1 → a.toInt ≤ (f fr.toNatClampNeg).toInt) (ha2 : ¬ to = -1 → a.toInt ≤ (cp to.toNatClampNeg).toInt - (f to.toNatClampNeg).toInt) {j : Nat} (hj : j < nt) :
    (mv2 to a (mv1 fr a f) j).toInt = (f j).toInt - (if ¬ fr = -1 ∧ j = fr.toNatClampNeg then a.toInt else 0) + (if ¬ to = -1 ∧ j = to.toNatClampNeg then a.toInt else 0) := by
  have hst : ¬ fr = -1 → ¬ to = -1 → fr.toNatClampNeg ≠ to.toNatClampNeg := by
    intro a b e
    obtain ⟨s, hs, rfl⟩ := h1.resolve_left a
    obtain ⟨t, ht, rfl⟩ := h2.resolve_left b
    rw [nI_clamp (by omega), nI_clamp (by omega)] at e
    exact hne (by rw [e])
  obtain ⟨z1, z2, z3⟩ := hb j hj
  unfold mv1 mv2
  by_cases p : fr = -1 <;> by_cases r : to = -1
  · simp only [p, r, if_true, not_true_eq_false, false_and, if_false]
    omega
  · simp only [p, r, if_true, not_true_eq_false, false_and, if_false, not_false_eq_true, true_and]
    have := ha2 r
    by_cases e : j = to.toNatClampNeg
    · subst e
      simp only [if_true]
      rw [i32_add (by omega) (by omega)]
      omega
    · simp only [e, if_false]
      omega
  · simp only [p, r, if_true, not_true_eq_false, false_and, if_false, not_false_eq_true, true_and]
    have := ha1 p
    by_cases e : j = fr.toNatClampNeg
    · subst e
      simp only [if_true]
      rw [i32_sub (by omega) (by omega)]
      omega
    · simp only [e, if_false]
      omega
  · simp only [p, r, if_false, not_false_eq_true, true_and]
    have w1 := ha1 p
    have w2 := ha2 r
    have w3 := hst p r
    by_cases e : j = to.toNatClampNeg
    · subst e
      have e2 : ¬ to.toNatClampNeg = fr.toNatClampNeg := fun z => w3 z.symm
      simp only [e2, if_true, if_false]
      rw [i32_add (by omega) (by omega)]
      omega
    · by_cases e2 : j = fr.toNatClampNeg
      · subst e2
        simp only [e, if_true, if_false]
        rw [i32_sub (by omega) (by omega)]
        omega
      · simp only [e, e2, if_false]
        omega
theorem mv_B {nt : Nat} {fr to rt : Int32} {f cp : Nat → Int32} (hn : nt ≤ 8) (h1 : end_ nt fr) (h2 : end_ nt to) (hne : fr ≠ to) (hb : lvB nt f cp) (hr : 1 ≤ rt.toInt) :
    (0 ≤ (amt fr to rt f cp).toInt ∧ (amt fr to rt f cp).toInt ≤ rt.toInt ∧ (¬ fr = -1 → (amt fr to rt f cp).toInt ≤ (f fr.toNatClampNeg).toInt) ∧ (¬ to = -1 → (amt fr to rt f cp).toInt ≤ (cp to.toNatClampNeg).toInt - (f to.toNatClampNeg).toInt)) ∧
    lvB nt (mv2 to (amt fr to rt f cp) (mv1 fr (amt fr to rt f cp) f)) cp := by
  have e := amt_Z (fr := fr) (rt := rt) hn h2 hb
  have k : 0 ≤ (amt fr to rt f cp).toInt ∧ (amt fr to rt f cp).toInt ≤ rt.toInt ∧ (¬ fr = -1 → (amt fr to rt f cp).toInt ≤ (f fr.toNatClampNeg).toInt) ∧ (¬ to = -1 → (amt fr to rt f cp).toInt ≤ (cp to.toNatClampNeg).toInt - (f to.toNatClampNeg).toInt) := by
    generalize (amt fr to rt f cp).toInt = a at e ⊢
    by_cases p : fr = -1 <;> by_cases r : to = -1
    · simp only [p, r, if_true] at e
      exact ⟨by omega, by omega, fun z => absurd p z, fun z => absurd r z⟩
    · simp only [p, r, if_true, if_false] at e
      have := hb _ (h2.at hn r)
      exact ⟨by omega, by omega, fun z => absurd p z, fun z => by omega⟩
    · simp only [p, r, if_true, if_false] at e
      have := hb _ (h1.at hn p)
      exact ⟨by omega, by omega, fun z => by omega, fun z => absurd r z⟩
    · simp only [p, r, if_false] at e
      have := hb _ (h1.at hn p)
      have := hb _ (h2.at hn r)
      exact ⟨by omega, by omega, fun z => by omega, fun z => by omega⟩
  refine ⟨k, fun j hj => ?_⟩
  rw [mv_Z hn h1 h2 hne hb k.1 k.2.2.1 k.2.2.2 hj]
  obtain ⟨z1, z2, z3⟩ := hb j hj
  generalize (amt fr to rt f cp).toInt = a at *
  obtain ⟨k0, k1, k2, k3⟩ := k
  have hst : ¬ fr = -1 → ¬ to = -1 → fr.toNatClampNeg ≠ to.toNatClampNeg := by
    intro a b e
    obtain ⟨s, hs, rfl⟩ := h1.resolve_left a
    obtain ⟨t, ht, rfl⟩ := h2.resolve_left b
    rw [nI_clamp (by omega), nI_clamp (by omega)] at e
    exact hne (by rw [e])
  by_cases p : ¬ fr = -1 ∧ j = fr.toNatClampNeg
  · rw [if_pos p]
    have := k2 p.1
    rw [← p.2] at this
    by_cases r : ¬ to = -1 ∧ j = to.toNatClampNeg
    · exact absurd (p.2.symm.trans r.2) (hst p.1 r.1)
    · rw [if_neg r]
      omega
  · rw [if_neg p]
    by_cases r : ¬ to = -1 ∧ j = to.toNatClampNeg
    · rw [if_pos r]
      have := k3 r.1
      rw [← r.2] at this
      omega
    · rw [if_neg r]
      omega
end TKSIM

section TKBULKB
theorem nI_l1 {k : Nat} (hk : k ≤ 5000) : (nI (k + 1)).toInt64 = (nI k).toInt64 + 1 := by
  rw [nI_l (by omega), nI_l (by omega), lN_1]
theorem i32_lin {x y : Int32} {k : Nat} (h1 : -2147483648 ≤ x.toInt + k * y.toInt) (h2 : x.toInt + k * y.toInt ≤ 2147483647) : (x + y * nI k).toInt = x.toInt + k * y.toInt := by
  have e : x + y * nI k = Int32.ofInt (x.toInt + k * y.toInt) := by
    rw [Int32.ofInt_add, Int32.ofInt_mul, Int32.ofInt_toInt, Int32.ofInt_toInt, Int32.mul_comm]
    rfl
  rw [e]
  exact Int32.toInt_ofInt_of_le (by omega) (by omega)
/-- no switch changes -/
theorem fol_same {q : tkI × tkL} {now : Int64} {ns : Nat} (h : ∀ i, i < ns → sDue q.1 i = q.1 11 i) : ∀ n, n ≤ ns → itr (sFol now) n (q, 0) = (q, 0)
  | 0, _ => rfl
  | n + 1, hn => by
    rw [itr_s, fol_same h n (by omega)]
    unfold sFol
    dsimp only
    exact if_pos (h n (by omega))
theorem due_same {nt ns np i κ : Nat} {I I' : tkI} (hB : wBS nt ns np I) (hn : nt ≤ 8) (hOn : I 11 i = 0 ∨ I 11 i = 1) (hi : i < ns) (hC : cSw I i κ)
    (h8 : I' 8 = I 8) (h9 : I' 9 = I 9) (h10 : I' 10 = I 10) (h11 : I' 11 = I 11) (h3 : ∀ j, j < nt → (I' 3 j).toInt = (I 6 j).toInt + κ * dr I j) : sDue I' i = I' 11 i := by
  obtain ⟨⟨t, ht, et⟩, -, -, -⟩ := hB.2.1 i hi
  have etc : (I 8 i).toNatClampNeg = t := by rw [et]; exact nI_clamp (by omega)
  obtain ⟨c1, c2⟩ := hC
  unfold sDue
  rw [h8, h9, h10, h11]
  rw [etc] at c1 c2 ⊢
  have e3 := h3 t ht
  rcases hOn with h | h
  · have c1 := c1 h
    rw [if_pos h, h, if_pos]
    rw [Int32.lt_iff_toInt_lt]
    omega
  · have h0 : ¬ I 11 i = 0 := by rw [h]; decide
    have c2 := c2 h0
    rw [Int.mul_neg] at c2
    rw [if_neg h0, h, if_neg]
    rw [Int32.le_iff_toInt_le]
    omega
/-- the pumps of a tick that starts κ drifts on -/
def pTr (nt κ : Nat) (I : tkI) (M : tkL) (f : Nat → Int32) (i : Nat) (a : tkI × tkL) : Prop :=
  (∀ k, k ≠ 3 → k ≠ 6 → k ≠ 22 → k ≠ 23 → k ≠ 24 → a.1 k = I k) ∧ (∀ j, j < nt → (a.1 3 j).toInt = (f j).toInt + κ * dr I j) ∧ lvB nt (a.1 3) (I 2) ∧
  (∀ j, a.2 19 j = if j < i ∧ ¬ sAct I j = 0 then M 19 j + (I 22 j).toInt64 else M 19 j) ∧
  (∀ j, a.2 20 j = if j < i ∧ ¬ sAct I j = 0 then M 20 j + (I 22 j).toInt64 * (I 16 j).toInt64 else M 20 j) ∧
  (∀ j, a.2 21 j = if j < i ∧ ¬ sAct I j = 0 then M 21 j + (if I 15 j ≤ I 22 j then 0 else 1) else M 21 j) ∧
  ∀ k, k ≠ 19 → k ≠ 20 → k ≠ 21 → a.2 k = M k
theorem row_skip {c : Prop} [Decidable c] {i j : Nat} {x y : Int64} (h : ¬ (j = i ∧ c)) : (if j < i + 1 ∧ c then x else y) = if j < i ∧ c then x else y := by
  by_cases z : j < i ∧ c
  · rw [if_pos z, if_pos ⟨by omega, z.2⟩]
  · rw [if_neg z, if_neg (fun y => z ⟨by have := y.1; by_cases e : j = i; exact absurd ⟨e, y.2⟩ h; omega, y.2⟩)]
theorem pTr.step {nt ns np κ i : Nat} {I : tkI} {M : tkL} {f f' : Nat → Int32} {a : tkI × tkL} (hB : wBS nt ns np I) (hn : nt ≤ 8) (hi : i < np) (hf : lvB nt f (I 2)) (hT : trStep I i f f') (hC : cPu I i κ) (h : pTr nt κ I M f i a) : pTr nt κ I M f' (i + 1) (sMv i a) := by
  obtain ⟨h1, h2, h3, h4, h5, h6, h7⟩ := h
  obtain ⟨hfr, hto, -, hne, hr, -⟩ := hB.2.2 i hi
  have hA : sAct a.1 i = sAct I i := sAct_congr (h1 17 (by decide) (by decide) (by decide) (by decide) (by decide)) (h1 18 (by decide) (by decide) (by decide) (by decide) (by decide)) (h1 11 (by decide) (by decide) (by decide) (by decide) (by decide)) i
  unfold sMv
  rw [hA]
  by_cases h0 : sAct I i = 0
  · rw [if_pos h0]
    have ef : f' = f := by unfold trStep at hT; rw [if_pos h0] at hT; exact hT
    subst ef
    have sk : ∀ j, ¬ (j = i ∧ ¬ sAct I j = 0) := fun j z => z.2 (by rw [z.1]; exact h0)
    exact ⟨h1, h2, h3, fun j => (h4 j).trans (row_skip (sk j)).symm, fun j => (h5 j).trans (row_skip (sk j)).symm, fun j => (h6 j).trans (row_skip (sk j)).symm, h7⟩
  · rw [if_neg h0]
    obtain ⟨s1, s2⟩ := shift_amt (g := a.1 3) hn hfr hto hne hr hf h3 h0 hT hC h2
    have e13 := h1 13 (by decide) (by decide) (by decide) (by decide) (by decide)
    have e14 := h1 14 (by decide) (by decide) (by decide) (by decide) (by decide)
    have e15 := h1 15 (by decide) (by decide) (by decide) (by decide) (by decide)
    have e16 := h1 16 (by decide) (by decide) (by decide) (by decide) (by decide)
    have e2 := h1 2 (by decide) (by decide) (by decide) (by decide) (by decide)
    have x22 := sMove_22 i a.1
    have x3 := sMove_3 i a.1
    rw [e13, e14, e15, e2, s1] at x22 x3
    have hmv := (mv_B (fr := I 13 i) (to := I 14 i) (rt := I 15 i) hn hfr hto hne h3 hr).2
    rw [s1] at hmv
    have xr : ∀ k, k ≠ 3 → k ≠ 22 → k ≠ 23 → k ≠ 24 → sMove i a.1 k = a.1 k := fun k p q r s => sMove_keep i a.1 p q r s
    have one : (1 : Int32).toInt64 = 1 := by decide
    have z16 := (xr 16 (by decide) (by decide) (by decide) (by decide)).trans e16
    have z15 := (xr 15 (by decide) (by decide) (by decide) (by decide)).trans e15
    generalize sMove i a.1 = I1 at *
    refine ⟨fun k k3 k6 k22 k23 k24 => (xr k k3 k22 k23 k24).trans (h1 k k3 k6 k22 k23 k24), fun j hj => ?_, ?_, fun j => ?_, fun j => ?_, fun j => ?_, fun k k19 k20 k21 => (sEnter_25 1 i I1 a.2 k19 k20 k21).trans (h7 k k19 k20 k21)⟩
    · dsimp only
      rw [x3]
      exact s2 j hj
    · dsimp only
      rw [x3]
      exact hmv
    · dsimp only
      rw [sEnter_19, x22, one, Int64.mul_one]
      by_cases e : j = i
      · subst e
        rw [if_pos (show j = j from rfl), if_pos (show j < j + 1 ∧ ¬ sAct I j = 0 from ⟨Nat.lt_succ_self _, h0⟩), h4, if_neg (show ¬ (j < j ∧ ¬ sAct I j = 0) from fun z => Nat.lt_irrefl _ z.1)]
      · rw [if_neg e, h4 j]
        exact (row_skip (fun z => e z.1)).symm
    · dsimp only
      rw [sEnter_20, x22, z16, one, Int64.mul_one]
      by_cases e : j = i
      · subst e
        rw [if_pos (show j = j from rfl), if_pos (show j < j + 1 ∧ ¬ sAct I j = 0 from ⟨Nat.lt_succ_self _, h0⟩), h5, if_neg (show ¬ (j < j ∧ ¬ sAct I j = 0) from fun z => Nat.lt_irrefl _ z.1)]
      · rw [if_neg e, h5 j]
        exact (row_skip (fun z => e z.1)).symm
    · dsimp only
      rw [sEnter_21, x22, z15, one]
      by_cases e : j = i
      · subst e
        rw [if_pos (show j = j from rfl), if_pos (show j < j + 1 ∧ ¬ sAct I j = 0 from ⟨Nat.lt_succ_self _, h0⟩), h6, if_neg (show ¬ (j < j ∧ ¬ sAct I j = 0) from fun z => Nat.lt_irrefl _ z.1)]
      · rw [if_neg e, h6 j]
        exact (row_skip (fun z => e z.1)).symm
theorem pTr.all {nt ns np κ : Nat} {I : tkI} {M : tkL} {f : Nat → Nat → Int32} {a : tkI × tkL} (hB : wBS nt ns np I) (hn : nt ≤ 8) (hf : ∀ i, i ≤ np → lvB nt (f i) (I 2)) (hT : ∀ i, i < np → trStep I i (f i) (f (i + 1))) (hC : ∀ i, i < np → cPu I i κ) (h : pTr nt κ I M (f 0) 0 a) : ∀ i, i ≤ np → pTr nt κ I M (f i) i (itr sMv i a)
  | 0, _ => h
  | i + 1, hi => by
    rw [itr_s]
    exact pTr.step hB hn (by omega) (hf i (by omega)) (hT i (by omega)) (hC i (by omega)) (pTr.all hB hn hf hT hC h i (by omega))
/-- a leak in a tick that starts κ drifts on -/
theorem leak_shift {l x g lk X d b : Int} (hx : l = x - min lk x) (hd : d = l - b) (hb : 0 ≤ b) (hX0 : 0 ≤ l + X) (hXd : d ≤ 0 → X ≤ 0) (hg : g = x + X) : g - min lk g = l + X := by
  omega
theorem wBS.rows {nt ns np : Nat} {I I' : tkI} (h : wBS nt ns np I) (hx : xK I I') : wBS nt ns np I' := by
  have x : ∀ k, k ≠ 3 ∧ k ≠ 6 ∧ k ≠ 11 ∧ k ≠ 22 ∧ k ≠ 23 ∧ k ≠ 24 ∧ k ≠ 27 → I' k = I k := fun k z => hx k z.1 z.2.1 z.2.2.1 z.2.2.2.1 z.2.2.2.2.1 z.2.2.2.2.2.1 z.2.2.2.2.2.2
  unfold wBS at *
  rw [x 2 (by decide), x 4 (by decide), x 8 (by decide), x 9 (by decide), x 10 (by decide), x 13 (by decide), x 14 (by decide), x 15 (by decide), x 17 (by decide)]
  exact h
theorem bulk_next {nt ns np c k : Nat} {q m : tkI × tkL} (hk : k + 1 ≤ 5000) (hc : c + 10 < 2 ^ 62) (hT : wTr nt np q.1)
    (hC : (∀ i, i < ns → cSw q.1 i (k + 1)) ∧ (∀ i, i < np → cPu q.1 i (k + 1)) ∧ ∀ j, j < nt → cTk q.1 j (k + 1)) (h : wRel nt ns np c (bulk nt np k q) m)
    (hl : ∀ j, j < nt → ((bulk nt np k q).1 3 j).toInt = (q.1 3 j).toInt + k * dr q.1 j) :
    (mTick nt ns np m).2 = 0 ∧ wRel nt ns np c (bulk nt np (k + 1) q) (mTick nt ns np m).1 ∧ ∀ j, j < nt → ((bulk nt np (k + 1) q).1 3 j).toInt = (q.1 3 j).toInt + (k + 1 : Nat) * dr q.1 j := by
  obtain ⟨e1, c', g1, g2, g3⟩ := h.tick hc
  obtain ⟨b3, bI, b5, b19, b20, b21, b4, bL⟩ := bulk_rows nt np k q
  obtain ⟨d3, dI, d5, d19, d20, d21, d4, dL⟩ := bulk_rows nt np (k + 1) q
  obtain ⟨f, t0, t1, t2, t3⟩ := hT
  have hn : nt ≤ 8 := h.1.1.1.2.2
  have hB : wBS nt ns np q.1 := h.1.2.2.rows (fun k a _ _ _ _ _ _ => (bI k a).symm)
  have hOn : ∀ i, i < ns → q.1 11 i = 0 ∨ q.1 11 i = 1 := fun i hi => by have z := h.2.2.1.2 i hi; rw [bI 11 (by decide)] at z; exact z
  have hLv := h.2.1.2
  have h25 : (bulk nt np k q).2 25 0 = lN c := h.2.2.2.2.2.2.1
  generalize bulk nt np k q = P at *
  have s6 : ∀ k, k ≠ 6 → sBef P.1 k = P.1 k := fun k z => sBef_keep P.1 z
  have r2 : P.1 2 = q.1 2 := bI 2 (by decide)
  have sh : ∀ j, j < nt → (P.1 3 j).toInt = (f 0 j).toInt + (k + 1 : Nat) * dr q.1 j := fun j hj => by
    rw [hl j hj, nmul_succ, ← t0 j hj]
    unfold dr
    omega
  have hfol : itr (sFol (P.2 0 4)) ns ((sBef P.1, P.2), 0) = ((sBef P.1, P.2), 0) := fol_same (q := (sBef P.1, P.2)) (ns := ns) (fun i hi => due_same (I' := sBef P.1) hB hn (hOn i hi) hi (hC.1 i hi) ((s6 8 (by decide)).trans (bI 8 (by decide))) ((s6 9 (by decide)).trans (bI 9 (by decide))) ((s6 10 (by decide)).trans (bI 10 (by decide))) ((s6 11 (by decide)).trans (bI 11 (by decide))) (fun j hj => by
    rw [s6 3 (by decide), sh j hj, t0 j hj])) ns (Nat.le_refl _)
  have hp := pTr.all (a := (sBef P.1, P.2)) (M := P.2) hB hn t1 t2 hC.2.1 ⟨fun r a3 a6 _ _ _ => (s6 r a6).trans (bI r a3), fun j hj => by dsimp only; rw [s6 3 (by decide)]; exact sh j hj, by
      dsimp only
      rw [s6 3 (by decide), ← r2]
      exact h.lvB, fun j => by rw [if_neg (fun z => Nat.not_lt_zero j z.1)], fun j => by rw [if_neg (fun z => Nat.not_lt_zero j z.1)], fun j => by rw [if_neg (fun z => Nat.not_lt_zero j z.1)], fun _ _ _ _ => rfl⟩ np (Nat.le_refl _)
  unfold sTick at e1 g3
  dsimp only at e1 g3
  rw [hfol] at e1 g3
  dsimp only at e1 g3
  generalize itr sMv np (sBef P.1, P.2) = a at *
  obtain ⟨p1, p2, p3, p4, p5, p6, p7⟩ := hp
  obtain ⟨l1, l2, l3, l4⟩ := sLeak_at a nt
  generalize itr sLeak nt a = r at *
  have lvl : ∀ j, j < nt → (a.1 3 j - jmin (a.1 4 j) (a.1 3 j)).toInt = (q.1 3 j).toInt + (k + 1 : Nat) * dr q.1 j := fun j hj => by
    obtain ⟨b1, b2, b3'⟩ := p3 j hj
    obtain ⟨v1, v2, v3⟩ := t1 np (Nat.le_refl _) j hj
    obtain ⟨u1, u2, u3⟩ := t1 0 (Nat.zero_le _) j hj
    obtain ⟨-, -, w1, w2⟩ := hB.1 j hj
    have e4 : a.1 4 = q.1 4 := p1 4 (by decide) (by decide) (by decide) (by decide) (by decide)
    have hc3 := hC.2.2 j hj
    unfold cTk at hc3
    have e3 : (q.1 3 j).toInt = (f np j).toInt - min (q.1 4 j).toInt (f np j).toInt := by
      rw [t3 j hj, i32_sub (by rw [jmin_Z]; omega) (by rw [jmin_Z]; omega), jmin_Z]
    rw [e4, i32_sub (by rw [jmin_Z]; omega) (by rw [jmin_Z]; omega), jmin_Z]
    refine leak_shift (x := (f np j).toInt) (d := dr q.1 j) (b := (f 0 j).toInt) e3 (by unfold dr; rw [t0 j hj]) u1 hc3 (fun z => ?_) (p2 j hj)
    have := Int.mul_nonneg (show (0 : Int) ≤ ((k + 1 : Nat) : Int) by omega) (show (0 : Int) ≤ -dr q.1 j by omega)
    rw [Int.mul_neg] at this
    omega
  have lvb : ∀ j, j < nt → -1000000000 ≤ (q.1 3 j).toInt + (k + 1 : Nat) * dr q.1 j ∧ (q.1 3 j).toInt + (k + 1 : Nat) * dr q.1 j ≤ 1000000000 := fun j hj => by
    rw [← lvl j hj]
    have e := g3.2.1.2 j hj
    have e2 := g3.1.2.2.1 j hj
    dsimp only at e e2
    rw [l1 j, if_pos hj] at e
    omega
  have h2 : lv2 nt q.1 := by
    refine ⟨fun j hj => ?_, fun j hj => ?_⟩
    · obtain ⟨v1, v2, v3⟩ := t1 np (Nat.le_refl _) j hj
      obtain ⟨-, -, w1, w2⟩ := hB.1 j hj
      rw [t3 j hj, i32_sub (by rw [jmin_Z]; omega) (by rw [jmin_Z]; omega), jmin_Z]
      omega
    · rw [t0 j hj]
      exact t1 0 (Nat.zero_le _) j hj
  have new : ∀ j, j < nt → (q.1 3 j + (q.1 3 j - q.1 6 j) * nI (k + 1)).toInt = (q.1 3 j).toInt + (k + 1 : Nat) * dr q.1 j := fun j hj => by
    have b := lvb j hj
    rw [← (lv2_dr h2 hj).1] at b ⊢
    exact i32_lin (by omega) (by omega)
  have eqc : c' = c := by
    have e := g3.2.2.2.2.2.2.1
    dsimp only at e
    rw [tk_time25, l4 25 (by decide), p7 25 (by decide) (by decide) (by decide), h25] at e
    have e := congrArg Int64.toInt e
    rw [pk_lT (by omega), pk_lT (by omega)] at e
    omega
  subst eqc
  refine ⟨e1.symm, g3.congr (fun r a3 a6 a11 a22 a23 a24 _ => ?_) (fun j hj => ?_) (fun j hj => ?_) ?_ (fun j hj => ?_) (fun j hj => ?_) (fun j hj => ?_) (fun j hj => ?_) ?_ ?_ ?_, fun j hj => ?_⟩
  · dsimp only
    rw [dI r a3, l3 r a3, p1 r a3 a6 a22 a23 a24]
  · dsimp only
    rw [d3 j, if_pos hj, l1 j, if_pos hj]
    refine Int32.toInt_inj.mp ?_
    rw [new j hj, lvl j hj]
  · dsimp only
    rw [dI 11 (by decide), l3 11 (by decide), p1 11 (by decide) (by decide) (by decide) (by decide) (by decide)]
  · dsimp only
    rw [dI 27 (by decide), l3 27 (by decide), p1 27 (by decide) (by decide) (by decide) (by decide) (by decide)]
  · dsimp only
    rw [tk2_ne (by decide), d5 j, if_pos hj, l2 j, if_pos hj, p7 5 (by decide) (by decide) (by decide), b5 j, if_pos hj, i64_of (a.1 3 j - _), lvl j hj, i64_of (q.1 3 j), i64_of (q.1 3 j - q.1 6 j), (lv2_dr h2 hj).1, steps_eq (by omega), steps_eq (by omega), nI_l (by omega), nI_l (by omega)]
    exact (sum_step (q.2 5 j) _ _ k).symm
  · dsimp only
    rw [tk2_ne (by decide), d19 j, l4 19 (by decide), p4 j, b19 j]
    by_cases z : j < np ∧ ¬ sAct q.1 j = 0
    · rw [if_pos z, if_pos z, if_pos z, nI_l1 (by omega), Int64.mul_add, Int64.mul_one, Int64.add_assoc]
    · rw [if_neg z, if_neg z, if_neg z]
  · dsimp only
    rw [tk2_ne (by decide), d20 j, l4 20 (by decide), p5 j, b20 j]
    by_cases z : j < np ∧ ¬ sAct q.1 j = 0
    · rw [if_pos z, if_pos z, if_pos z, nI_l1 (by omega), Int64.mul_add, Int64.mul_one, Int64.add_mul, Int64.add_assoc]
    · rw [if_neg z, if_neg z, if_neg z]
  · dsimp only
    rw [tk2_ne (by decide), d21 j, l4 21 (by decide), p6 j, b21 j]
    by_cases z : j < np ∧ ¬ sAct q.1 j = 0
    · rw [if_pos z, if_pos z, if_pos z, nI_l1 (by omega), Int64.add_assoc]
      by_cases y : q.1 15 j ≤ q.1 22 j
      · rw [if_pos y, if_pos y, if_pos y]
        rfl
      · rw [if_neg y, if_neg y, if_neg y]
    · rw [if_neg z, if_neg z, if_neg z]
  · dsimp only
    rw [tk2_at, d4, l4 0 (by decide), p7 0 (by decide) (by decide) (by decide), b4, nI_l1 (by omega), Int64.add_assoc]
  · dsimp only
    funext j
    rw [tk2_ne (by decide), dL 25 (by decide) (by decide) (by decide) (by decide) (by decide), l4 25 (by decide), p7 25 (by decide) (by decide) (by decide), bL 25 (by decide) (by decide) (by decide) (by decide) (by decide)]
  · dsimp only
    funext j
    rw [tk2_ne (by decide), dL 26 (by decide) (by decide) (by decide) (by decide) (by decide), l4 26 (by decide), p7 26 (by decide) (by decide) (by decide), bL 26 (by decide) (by decide) (by decide) (by decide) (by decide)]
  · rw [d3 j, if_pos hj]
    exact new j hj
end TKBULKB

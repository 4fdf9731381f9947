section TKBULK
/-- k more ticks like the last one, in one step -/
def bulk (nt np k : Nat) (q : tkI × tkL) : tkI × tkL :=
  ((itr (sRep (nI k)) nt (q.1, itr (sPrep q.1 (nI k)) np q.2)).1, tk2 (itr (sRep (nI k)) nt (q.1, itr (sPrep q.1 (nI k)) np q.2)).2 0 4 ((itr (sRep (nI k)) nt (q.1, itr (sPrep q.1 (nI k)) np q.2)).2 0 4 + (nI k).toInt64))
theorem sRep_at (t : Int32) (q : tkI × tkL) : ∀ n, (∀ j, (itr (sRep t) n q).1 3 j = if j < n then q.1 3 j + (q.1 3 j - q.1 6 j) * t else q.1 3 j) ∧
    (∀ j, (itr (sRep t) n q).2 5 j = if j < n then q.2 5 j + ((q.1 3 j).toInt64 * t.toInt64 + (q.1 3 j - q.1 6 j).toInt64 * (t.toInt64 * (t + 1).toInt64 / 2)) else q.2 5 j) ∧ (∀ k, k ≠ 3 → (itr (sRep t) n q).1 k = q.1 k) ∧ ∀ k, k ≠ 5 → (itr (sRep t) n q).2 k = q.2 k
  | 0 => ⟨fun j => by rw [if_neg (Nat.not_lt_zero j)]; rfl, fun j => by rw [if_neg (Nat.not_lt_zero j)]; rfl, fun k _ => rfl, fun k _ => rfl⟩
  | n + 1 => by
    obtain ⟨h1, h2, h3, h4⟩ := sRep_at t q n
    rw [itr_s]
    generalize itr (sRep t) n q = a at *
    unfold sRep
    refine ⟨fun j => ?_, fun j => ?_, fun k hk => ?_, fun k hk => ?_⟩
    · dsimp only
      by_cases e : j = n
      · subst e
        rw [tk2_at, h1 j, if_neg (Nat.lt_irrefl j), h3 6 (by decide), if_pos (Nat.lt_succ_self j)]
      · rw [show ∀ x, tk2 a.1 3 n x 3 j = a.1 3 j from fun x => if_neg (fun z => e z.2), h1 j]
        by_cases h : j < n
        · rw [if_pos h, if_pos (by omega)]
        · rw [if_neg h, if_neg (by omega)]
    · dsimp only
      by_cases e : j = n
      · subst e
        rw [tk2_at, h2 j, if_neg (Nat.lt_irrefl j), h1 j, if_neg (Nat.lt_irrefl j), h3 6 (by decide), if_pos (Nat.lt_succ_self j)]
      · rw [show ∀ x, tk2 a.2 5 n x 5 j = a.2 5 j from fun x => if_neg (fun z => e z.2), h2 j]
        by_cases h : j < n
        · rw [if_pos h, if_pos (by omega)]
        · rw [if_neg h, if_neg (by omega)]
    · rw [← h3 k hk]
      funext j
      exact tk2_ne hk
    · rw [← h4 k hk]
      funext j
      exact tk2_ne hk
theorem sPrep_at (I : tkI) (t : Int32) (L : tkL) : ∀ n, (∀ j, itr (sPrep I t) n L 19 j = if j < n ∧ ¬ sAct I j = 0 then L 19 j + (I 22 j).toInt64 * t.toInt64 else L 19 j) ∧
    (∀ j, itr (sPrep I t) n L 20 j = if j < n ∧ ¬ sAct I j = 0 then L 20 j + (I 22 j).toInt64 * t.toInt64 * (I 16 j).toInt64 else L 20 j) ∧
    (∀ j, itr (sPrep I t) n L 21 j = if j < n ∧ ¬ sAct I j = 0 then L 21 j + (if I 15 j ≤ I 22 j then 0 else t.toInt64) else L 21 j)
  | 0 => ⟨fun j => by rw [if_neg (fun z => Nat.not_lt_zero j z.1)]; rfl, fun j => by rw [if_neg (fun z => Nat.not_lt_zero j z.1)]; rfl, fun j => by rw [if_neg (fun z => Nat.not_lt_zero j z.1)]; rfl⟩
  | n + 1 => by
    obtain ⟨h1, h2, h3⟩ := sPrep_at I t L n
    rw [itr_s]
    generalize itr (sPrep I t) n L = a at *
    unfold sPrep
    by_cases h0 : sAct I n = 0
    · rw [if_pos h0]
      have e : ∀ j, (j < n + 1 ∧ ¬ sAct I j = 0) ↔ (j < n ∧ ¬ sAct I j = 0) := fun j => ⟨fun z => ⟨by
        have : j ≠ n := fun y => z.2 (by rw [y]; exact h0)
        omega, z.2⟩, fun z => ⟨by omega, z.2⟩⟩
      simp only [e]
      exact ⟨h1, h2, h3⟩
    · rw [if_neg h0]
      refine ⟨fun j => ?_, fun j => ?_, fun j => ?_⟩
      · rw [sEnter_19]
        by_cases e : j = n
        · subst e
          rw [if_pos rfl, if_pos (show j < j + 1 ∧ ¬ sAct I j = 0 from ⟨Nat.lt_succ_self _, h0⟩), h1, if_neg (show ¬ (j < j ∧ ¬ sAct I j = 0) from fun z => Nat.lt_irrefl _ z.1)]
        · rw [if_neg e, h1]
          by_cases z : j < n ∧ ¬ sAct I j = 0
          · rw [if_pos z, if_pos (show j < n + 1 ∧ ¬ sAct I j = 0 from ⟨by omega, z.2⟩)]
          · rw [if_neg z, if_neg (show ¬ (j < n + 1 ∧ ¬ sAct I j = 0) from fun y => z ⟨by omega, y.2⟩)]
      · rw [sEnter_20]
        by_cases e : j = n
        · subst e
          rw [if_pos rfl, if_pos (show j < j + 1 ∧ ¬ sAct I j = 0 from ⟨Nat.lt_succ_self _, h0⟩), h2, if_neg (show ¬ (j < j ∧ ¬ sAct I j = 0) from fun z => Nat.lt_irrefl _ z.1)]
        · rw [if_neg e, h2]
          by_cases z : j < n ∧ ¬ sAct I j = 0
          · rw [if_pos z, if_pos (show j < n + 1 ∧ ¬ sAct I j = 0 from ⟨by omega, z.2⟩)]
          · rw [if_neg z, if_neg (show ¬ (j < n + 1 ∧ ¬ sAct I j = 0) from fun y => z ⟨by omega, y.2⟩)]
      · rw [sEnter_21]
        by_cases e : j = n
        · subst e
          rw [if_pos rfl, if_pos (show j < j + 1 ∧ ¬ sAct I j = 0 from ⟨Nat.lt_succ_self _, h0⟩), h3, if_neg (show ¬ (j < j ∧ ¬ sAct I j = 0) from fun z => Nat.lt_irrefl _ z.1)]
        · rw [if_neg e, h3]
          by_cases z : j < n ∧ ¬ sAct I j = 0
          · rw [if_pos z, if_pos (show j < n + 1 ∧ ¬ sAct I j = 0 from ⟨by omega, z.2⟩)]
          · rw [if_neg z, if_neg (show ¬ (j < n + 1 ∧ ¬ sAct I j = 0) from fun y => z ⟨by omega, y.2⟩)]
/-- the rows of the bulk -/
theorem bulk_rows (nt np k : Nat) (q : tkI × tkL) : (∀ j, (bulk nt np k q).1 3 j = if j < nt then q.1 3 j + (q.1 3 j - q.1 6 j) * nI k else q.1 3 j) ∧ (∀ r, r ≠ 3 → (bulk nt np k q).1 r = q.1 r) ∧
    (∀ j, (bulk nt np k q).2 5 j = if j < nt then q.2 5 j + ((q.1 3 j).toInt64 * (nI k).toInt64 + (q.1 3 j - q.1 6 j).toInt64 * ((nI k).toInt64 * (nI k + 1).toInt64 / 2)) else q.2 5 j) ∧
    (∀ j, (bulk nt np k q).2 19 j = if j < np ∧ ¬ sAct q.1 j = 0 then q.2 19 j + (q.1 22 j).toInt64 * (nI k).toInt64 else q.2 19 j) ∧
    (∀ j, (bulk nt np k q).2 20 j = if j < np ∧ ¬ sAct q.1 j = 0 then q.2 20 j + (q.1 22 j).toInt64 * (nI k).toInt64 * (q.1 16 j).toInt64 else q.2 20 j) ∧
    (∀ j, (bulk nt np k q).2 21 j = if j < np ∧ ¬ sAct q.1 j = 0 then q.2 21 j + (if q.1 15 j ≤ q.1 22 j then 0 else (nI k).toInt64) else q.2 21 j) ∧
    (bulk nt np k q).2 0 4 = q.2 0 4 + (nI k).toInt64 ∧ ∀ r, r ≠ 0 → r ≠ 5 → r ≠ 19 → r ≠ 20 → r ≠ 21 → (bulk nt np k q).2 r = q.2 r := by
  obtain ⟨h1, h2, h3, h4⟩ := sRep_at (nI k) (q.1, itr (sPrep q.1 (nI k)) np q.2) nt
  obtain ⟨g1, g2, g3⟩ := sPrep_at q.1 (nI k) q.2 np
  have g4 : ∀ r, r ≠ 19 → r ≠ 20 → r ≠ 21 → itr (sPrep q.1 (nI k)) np q.2 r = q.2 r := fun r a b c => itr_keep (g := fun a : tkL => a r) (fun i x => sPrep_L q.1 _ i x a b c) np q.2
  unfold bulk
  generalize itr (sRep (nI k)) nt (q.1, itr (sPrep q.1 (nI k)) np q.2) = a at *
  generalize itr (sPrep q.1 (nI k)) np q.2 = b at *
  dsimp only at *
  refine ⟨h1, h3, fun j => ?_, fun j => ?_, fun j => ?_, fun j => ?_, ?_, fun r a0 a5 a19 a20 a21 => ?_⟩
  · rw [tk2_ne (by decide), h2 j, g4 5 (by decide) (by decide) (by decide)]
  · rw [tk2_ne (by decide), h4 19 (by decide), g1]
  · rw [tk2_ne (by decide), h4 20 (by decide), g2]
  · rw [tk2_ne (by decide), h4 21 (by decide), g3]
  · rw [tk2_at, h4 0 (by decide), g4 0 (by decide) (by decide) (by decide)]
  · rw [← g4 r a19 a20 a21, ← h4 r a5]
    funext j
    exact tk2_ne a0
theorem wRel.congr {nt ns np c : Nat} {q q' m : tkI × tkL} (h : wRel nt ns np c q m) (hx : xK q.1 q'.1) (h3 : eqR nt (q'.1 3) (q.1 3)) (h11 : eqR ns (q'.1 11) (q.1 11)) (h27 : q'.1 27 = q.1 27) (l5 : eqR nt (q'.2 5) (q.2 5))
    (l19 : eqR np (q'.2 19) (q.2 19)) (l20 : eqR np (q'.2 20) (q.2 20)) (l21 : eqR np (q'.2 21) (q.2 21)) (l0 : q'.2 0 4 = q.2 0 4) (l25 : q'.2 25 = q.2 25) (l26 : q'.2 26 = q.2 26) : wRel nt ns np c q' m := by
  obtain ⟨hS, hLv, hOn, hSm, hLd, hTm, hLg⟩ := h
  have e2 : q'.1 2 = q.1 2 := hx 2 (by decide) (by decide) (by decide) (by decide) (by decide) (by decide) (by decide)
  refine ⟨hS.keep hx (mK.rfl' _), ⟨fun j hj => (h3 j hj).trans (hLv.1 j hj), fun j hj => ?_⟩, ⟨fun j hj => (h11 j hj).trans (hOn.1 j hj), fun j hj => ?_⟩, fun j hj => (l5 j hj).trans (hSm j hj), ⟨fun j hj => (l19 j hj).trans (hLd.1 j hj), fun j hj => (l20 j hj).trans (hLd.2.1 j hj), fun j hj => (l21 j hj).trans (hLd.2.2 j hj)⟩, l0.trans hTm, hLg.keep h27 l25 l26 rfl rfl rfl rfl⟩
  · rw [h3 j hj, e2]
    exact hLv.2 j hj
  · rw [h11 j hj]
    exact hOn.2 j hj
/-! arithmetic -/
theorem i64_of (x : Int32) : x.toInt64 = Int64.ofInt x.toInt := by
  refine Int64.toInt_inj.mp ?_
  have h1 := x.le_toInt
  have h2 := x.toInt_lt
  rw [Int32.toInt_toInt64, Int64.toInt_ofInt_of_le (by omega) (by omega)]
theorem lN_of (n : Nat) : Int64.ofInt (n : Int) = lN n := rfl
theorem steps_eq {k : Nat} (hk : k ≤ 5000) : (nI k).toInt64 * (nI k + 1).toInt64 / 2 = lN (k * (k + 1) / 2) := by
  have h1 : k * (k + 1) ≤ 5000 * 5001 := Nat.mul_le_mul hk (by omega)
  rw [nI_1, nI_l (by omega), nI_l (by omega), lN_mul]
  refine Int64.toInt_inj.mp ?_
  rw [Int64.toInt_div_of_ne_right _ _ (by decide), lN_toInt (by omega), lN_toInt (by omega), show (2 : Int64).toInt = 2 by decide, Int.tdiv_eq_ediv_of_nonneg (by omega)]
  omega
theorem tri (k : Nat) : (k + 1) * (k + 1 + 1) / 2 = k * (k + 1) / 2 + (k + 1) := by
  have : (k + 1) * (k + 1 + 1) = k * (k + 1) + 2 * (k + 1) := by
    rw [Nat.mul_add (k + 1) (k + 1) 1, Nat.add_mul k 1 (k + 1)]
    omega
  omega
theorem sum_step (S : Int64) (lv d : Int) (k : Nat) : S + (Int64.ofInt lv * lN k + Int64.ofInt d * lN (k * (k + 1) / 2)) + Int64.ofInt (lv + (k + 1 : Nat) * d) = S + (Int64.ofInt lv * lN (k + 1) + Int64.ofInt d * lN ((k + 1) * (k + 1 + 1) / 2)) := by
  rw [tri, ← lN_add (k * (k + 1) / 2) (k + 1), Int64.ofInt_add, Int64.ofInt_mul, lN_of, ← lN_1 k]
  rw [Int64.mul_comm (lN k + 1) (Int64.ofInt d), Int64.mul_add (a := Int64.ofInt d) (b := lN (k * (k + 1) / 2)), Int64.mul_add (a := Int64.ofInt lv), Int64.mul_one]
  ac_rfl
theorem nmul_succ (k : Nat) (d : Int) : ((k + 1 : Nat) : Int) * d = k * d + d := by
  rw [show ((k + 1 : Nat) : Int) = (k : Int) + 1 by omega, Int.add_mul, Int.one_mul]
/-- the levels in a tick that starts shifted by κ drifts -/
theorem shift_amt {nt : Nat} {I : tkI} {i κ : Nat} {f f' g : Nat → Int32} (hn : nt ≤ 8) (h1 : end_ nt (I 13 i)) (h2 : end_ nt (I 14 i)) (hne : I 13 i ≠ I 14 i) (hr : 1 ≤ (I 15 i).toInt) (hf : lvB nt f (I 2)) (hg : lvB nt g (I 2)) (h0 : ¬ sAct I i = 0) (hT : trStep I i f f') (hC : cPu I i κ) (hs : ∀ j, j < nt → (g j).toInt = (f j).toInt + κ * dr I j) :
    amt (I 13 i) (I 14 i) (I 15 i) g (I 2) = I 22 i ∧ ∀ j, j < nt → (mv2 (I 14 i) (I 22 i) (mv1 (I 13 i) (I 22 i) g) j).toInt = (f' j).toInt + κ * dr I j := by
  unfold trStep at hT
  rw [if_neg h0] at hT
  obtain ⟨t1, t2, t3, t4⟩ := hT
  obtain ⟨c1, c2, c3⟩ := hC h0
  obtain ⟨⟨a0, a1, a2, a3⟩, -⟩ := mv_B (fr := I 13 i) (to := I 14 i) (rt := I 15 i) hn h1 h2 hne hf hr
  have eF := amt_Z (fr := I 13 i) (rt := I 15 i) hn h2 hf
  have eG := amt_Z (fr := I 13 i) (rt := I 15 i) hn h2 hg
  have zF := fun j (hj : j < nt) => mv_Z (fr := I 13 i) (to := I 14 i) (a := amt (I 13 i) (I 14 i) (I 15 i) f (I 2)) hn h1 h2 hne hf a0 a2 a3 hj
  rw [← t2] at a0 a1 a2 a3 eF zF
  rw [← t1] at zF
  have z0 : (0 : Int32).toInt = 0 := by decide
  have hst : ¬ I 13 i = -1 → ¬ I 14 i = -1 → (I 13 i).toNatClampNeg ≠ (I 14 i).toNatClampNeg := by
    intro a b e
    obtain ⟨s, hs, es⟩ := h1.resolve_left a
    obtain ⟨t, ht, et⟩ := h2.resolve_left b
    rw [es, et, nI_clamp (by omega), nI_clamp (by omega)] at e
    exact hne (by rw [es, et, e])
  have s23 : ¬ I 13 i = -1 → (I 23 i).toInt = (f (I 13 i).toNatClampNeg).toInt - (I 22 i).toInt := fun p => by
    rw [t3 p, zF _ (h1.at hn p), if_pos ⟨p, rfl⟩, if_neg (fun z => hst p z.1 z.2)]
    omega
  have s24 : ¬ I 14 i = -1 → (I 24 i).toInt = (I 2 (I 14 i).toNatClampNeg).toInt - (f (I 14 i).toNatClampNeg).toInt - (I 22 i).toInt := fun p => by
    have e := zF _ (h2.at hn p)
    rw [if_neg (fun z => hst z.1 p z.2.symm), if_pos ⟨p, rfl⟩] at e
    have b := hf _ (h2.at hn p)
    have := a3 p
    rw [t4 p, i32_sub (by omega) (by omega), e]
    omega
  have eA : amt (I 13 i) (I 14 i) (I 15 i) g (I 2) = I 22 i := by
    refine Int32.toInt_inj.mp ?_
    rw [eG]
    by_cases p : I 13 i = -1
    · by_cases r : I 14 i = -1
      · rw [if_pos r, if_pos p]
        rw [if_pos r, if_pos p] at eF
        exact eF.symm
      · rw [if_neg r, if_pos p]
        have := c2 r
        have e4 := s24 r
        have b := a3 r
        rw [hs _ (h2.at hn r)]
        rcases c3 with c | c | c
        · rw [← c] at a1 ⊢
          rw [Int.mul_neg] at this
          omega
        · exact absurd p c.1
        · rw [c.2.1, z0] at e4
          rw [c.2.2, Int.mul_zero]
          omega
    · by_cases r : I 14 i = -1
      · rw [if_pos r, if_neg p]
        have := c1 p
        have e3 := s23 p
        have b := a2 p
        rw [hs _ (h1.at hn p)]
        rcases c3 with c | c | c
        · rw [← c] at a1 ⊢
          omega
        · rw [c.2.1, z0] at e3
          rw [c.2.2, Int.mul_zero]
          omega
        · exact absurd r c.1
      · rw [if_neg r, if_neg p]
        have w1 := c1 p
        have w2 := c2 r
        have e3 := s23 p
        have e4 := s24 r
        have b := a2 p
        have b3 := a3 r
        rw [hs _ (h1.at hn p), hs _ (h2.at hn r)]
        rw [Int.mul_neg] at w2
        rcases c3 with c | c | c
        · rw [← c] at a1 ⊢
          omega
        · rw [c.2.1, z0] at e3
          rw [c.2.2, Int.mul_zero]
          omega
        · rw [c.2.1, z0] at e4
          rw [c.2.2, Int.mul_zero]
          omega
  refine ⟨eA, fun j hj => ?_⟩
  obtain ⟨⟨g0, g1, g2, g3⟩, -⟩ := mv_B (fr := I 13 i) (to := I 14 i) (rt := I 15 i) hn h1 h2 hne hg hr
  rw [eA] at g0 g1 g2 g3
  rw [mv_Z hn h1 h2 hne hg g0 g2 g3 hj, zF j hj, hs j hj]
  omega
end TKBULK

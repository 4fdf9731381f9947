section TKBULK
/-- k more ticks like the last one, in one step -/
def bulk (nt np k : Nat) (q : tkI × tkL) : tkI × tkL :=
  ((itr (sRep (nI k)) nt (q.1, itr (sPrep q.1 (nI k)) np q.2)).1, tk2 (itr (sRep (nI k)) nt (q.1, itr (sPrep q.1 (nI k)) np q.2)).2 0 4 ((itr (sRep (nI k)) nt (q.1, itr (sPrep q.1 (nI k)) np q.2)).2 0 4 + (nI k).toInt64))
theorem sRep_at (t : Int32) (q : tkI × tkL) : ∀ n, (∀ j, (itr (sRep t) n q).1 3 j = if j < n then q.1 3 j + (q.1 3 j - q.1 6 j) * t else q.1 3 j) ∧
    (∀ j, (itr (sRep t) n q).2 5 j = if j < n then q.2 5 j + ((q.1 3 j).toInt64 * t.toInt64 + (q.1 3 j - q.1 6 j).toInt64 * (t.toInt64 * (t + 1).toInt64 / 2)) else q.2 5 j) ∧ (∀ k, k ≠ 3 → (itr (sRep t) n q).1 k = q.1 k) ∧ ∀ k, k ≠ 5 → (itr (sRep t) n q).2 k = q.2 k
  | 0 => ⟨fun j => by rw [if_neg (Nat.not_lt_zero j)]; rfl, fun j => by rw [if_neg (Nat.not_lt_zero j)]; rfl, fun k _ => rfl, fun k _ => rfl⟩
  | n + 1 => by
    obtain ⟨h1, h2, h3, h4⟩ := sRep_at t q n
    rw [itr_s]
    generalize itr (sRep t) n q = a at *
    unfold sRep
    refine ⟨fun j => ?_, fun j => ?_, fun k hk => ?_, fun k hk => ?_⟩
    · dsimp only
      by_cases e : j = n
      · subst e
        rw [tk2_at, h1 j, if_neg (Nat.lt_irrefl j), h3 6 (by decide), if_pos (Nat.lt_succ_self j)]
      · rw [show ∀ x, tk2 a.1 3 n x 3 j = a.1 3 j from fun x => if_neg (fun z => e z.2), h1 j]
        by_cases h : j < n
        · rw [if_pos h, if_pos (by omega)]
        · rw [if_neg h, if_neg (by omega)]
    · dsimp only
      by_cases e : j = n
      · subst e
        rw [tk2_at, h2 j, if_neg (Nat.lt_irrefl j), h1 j, if_neg (Nat.lt_irrefl j), h3 6 (by decide), if_pos (Nat.lt_succ_self j)]
      · rw [show ∀ x, tk2 a.2 5 n x 5 j = a.2 5 j from fun x => if_neg (fun z => e z.2), h2 j]
        by_cases h : j < n
        · rw [if_pos h, if_pos (by omega)]
        · rw [if_neg h, if_neg (by omega)]
    · rw [← h3 k hk]
      funext j
      exact tk2_ne hk
    · rw [← h4 k hk]
      funext j
      exact tk2_ne hk
theorem sPrep_at (I : tkI) (t : Int32) (L : tkL) : ∀ n, (∀ j, itr (sPrep I t) n L 19 j = if j < n ∧ ¬ sAct I j = 0 then L 19 j + (I 22 j).toInt64 * t.toInt64 else L 19 j) ∧
    (∀ j, itr (sPrep I t) n L 20 j = if j < n ∧ ¬ sAct I j = 0 then L 20 j + (I 22 j).toInt64 * t.toInt64 * (I 16 j).toInt64 else L 20 j) ∧
    (∀ j, itr (sPrep I t) n L 21 j = if j < n ∧ ¬ sAct I j = 0 then L 21 j + (if I 15 j ≤ I 22 j then 0 else t.toInt64) else L 21 j)
  | 0 => ⟨fun j => by rw [if_neg (fun z => Nat.not_lt_zero j z.1)]; rfl, fun j => by rw [if_neg (fun z => Nat.not_lt_zero j z.1)]; rfl, fun j => by rw [if_neg (fun z => Nat.not_lt_zero j z.1)]; rfl⟩
  | n + 1 => by
    obtain ⟨h1, h2, h3⟩ := sPrep_at I t L n
    rw [itr_s]
    generalize itr (sPrep I t) n L = a at *
    unfold sPrep
    by_cases h0 : sAct I n = 0
    · rw [if_pos h0]
      have e : ∀ j, (j < n + 1 ∧ ¬ sAct I j = 0) ↔ (j < n ∧ ¬ sAct I j = 0) := fun j => ⟨fun z => ⟨by
        have : j ≠ n := fun y => z.2 (by rw [y]; exact h0)
        omega, z.2⟩, fun z => ⟨by omega, z.2⟩⟩
      simp only [e]
      exact ⟨h1, h2, h3⟩
    · rw [if_neg h0]
      refine ⟨fun j => ?_, fun j => ?_, fun j => ?_⟩
      · rw [sEnter_19]
        by_cases e : j = n
        · subst e
          rw [if_pos rfl, if_pos (show j < j + 1 ∧ ¬ sAct I j = 0 from ⟨Nat.lt_succ_self _, h0⟩), h1, if_neg (show ¬ (j < j ∧ ¬ sAct I j = 0) from fun z => Nat.lt_irrefl _ z.1)]
        · rw [if_neg e, h1]
          by_cases z : j < n ∧ ¬ sAct I j = 0
          · rw [if_pos z, if_pos (show j < n + 1 ∧ ¬ sAct I j = 0 from ⟨by omega, z.2⟩)]
          · rw [if_neg z, if_neg (show ¬ (j < n + 1 ∧ ¬ sAct I j = 0) from fun y => z ⟨by omega, y.2⟩)]
      · rw [sEnter_20]
        by_cases e : j = n
        · subst e
          rw [if_pos rfl, if_pos (show j < j + 1 ∧ ¬ sAct I j = 0 from ⟨Nat.lt_succ_self _, h0⟩), h2, if_neg (show ¬ (j < j ∧ ¬ sAct I j = 0) from fun z => Nat.lt_irrefl _ z.1)]
        · rw [if_neg e, h2]
          by_cases z : j < n ∧ ¬ sAct I j = 0
          · rw [if_pos z, if_pos (show j < n + 1 ∧ ¬ sAct I j = 0 from ⟨by omega, z.2⟩)]
          · rw [if_neg z, if_neg (show ¬ (j < n + 1 ∧ ¬ sAct I j = 0) from fun y => z ⟨by omega, y.2⟩)]
      · rw [sEnter_21]
        by_cases e : j = n
        · subst e
          rw [if_pos rfl, if_pos (show j < j + 1 ∧ ¬ sAct I j = 0 from ⟨Nat.lt_succ_self _, h0⟩), h3, if_neg (show ¬ (j < j ∧ ¬ sAct I j = 0) from fun z => Nat.lt_irrefl _ z.1)]
        · rw [if_neg e, h3]
          by_cases z : j < n ∧ ¬ sAct I j = 0
          · rw [if_pos z, if_pos (show j < n + 1 ∧ ¬ sAct I j = 0 from ⟨by omega, z.2⟩)]
          · rw [if_neg z, if_neg (show ¬ (j < n + 1 ∧ ¬ sAct I j = 0) from fun y => z ⟨by omega, y.2⟩)]
/-- the rows of the bulk -/
theorem bulk_rows (nt np k : Nat) (q : tkI × tkL) : (∀ j, (bulk nt np k q).1 3 j = if j < nt then q.1 3 j + (q.1 3 j - q.1 6 j) * nI k else q.1 3 j) ∧ (∀ r, r ≠ 3 → (bulk nt np k q).1 r = q.1 r) ∧
    (∀ j, (bulk nt np k q).2 5 j = if j < nt then q.2 5 j + ((q.1 3 j).toInt64 * (nI k).toInt64 + (q.1 3 j - q.1 6 j).toInt64 * ((nI k).toInt64 * (nI k + 1).toInt64 / 2)) else q.2 5 j) ∧
    (∀ j, (bulk nt np k q).2 19 j = if j < np ∧ ¬ sAct q.1 j = 0 then q.2 19 j + (q.1 22 j).toInt64 * (nI k).toInt64 else q.2 19 j) ∧
    (∀ j, (bulk nt np k q).2 20 j = if j < np ∧ ¬ sAct q.1 j = 0 then q.2 20 j + (q.1 22 j).toInt64 * (nI k).toInt64 * (q.1 16 j).toInt64 else q.2 20 j) ∧
    (∀ j, (bulk nt np k q).2 21 j = if j < np ∧ ¬ sAct q.1 j = 0 then q.2 21 j + (if q.1 15 j ≤ q.1 22 j then 0 else (nI k).toInt64) else q.2 21 j) ∧
    (bulk nt np k q).2 0 4 = q.2 0 4 + (nI k).toInt64 ∧ ∀ r, r ≠ 0 → r ≠ 5 → r ≠ 19 → r ≠ 20 → r ≠ 21 → (bulk nt np k q).2 r = q.2 r := by
  obtain ⟨h1, h2, h3, h4⟩ := sRep_at (nI k) (q.1, itr (sPrep q.1 (nI k)) np q.2) nt
  obtain ⟨g1, g2, g3⟩ := sPrep_at q.1 (nI k) q.2 np
  have g4 : ∀ r, r ≠ 19 → r ≠ 20 → r ≠ 21 → itr (sPrep q.1 (nI k)) np q.2 r = q.2 r := fun r a b c => itr_keep (g := fun a : tkL => a r) (fun i x => sPrep_L q.1 _ i x a b c) np q.2
  unfold bulk
  generalize itr (sRep (nI k)) nt (q.1, itr (sPrep q.1 (nI k)) np q.2) = a at *
  generalize itr (sPrep q.1 (nI k)) np q.2 = b at *
  dsimp only at *
  refine ⟨h1, h3, fun j => ?_, fun j => ?_, fun j => ?_, fun j => ?_, ?_, fun r a0 a5 a19 a20 a21 => ?_⟩
  · rw [tk2_ne (by decide), h2 j, g4 5 (by decide) (by decide) (by decide)]
  · rw [tk2_ne (by decide), h4 19 (by decide), g1]
  · rw [tk2_ne (by decide), h4 20 (by decide), g2]
  · rw [tk2_ne (by decide), h4 21 (by decide), g3]
  · rw [tk2_at, h4 0 (by decide), g4 0 (by decide) (by decide) (by decide)]
  · rw [← g4 r a19 a20 a21, ← h4 r a5]
    funext j
    exact tk2_ne a0
theorem wRel.congr {nt ns np c : Nat} {q q' m : tkI × tkL} (h : wRel nt ns np c q m) (hx : xK q.1 q'.1) (h3 : eqR nt (q'.1 3) (q.1 3)) (h11 : eqR ns (q'.1 11) (q.1 11)) (h27 : q'.1 27 = q.1 27) (l5 : eqR nt (q'.2 5) (q.2 5))
    (l19 : eqR np (q'.2 19) (q.2 19)) (l20 : eqR np (q'.2 20) (q.2 20)) (l21 : eqR np (q'.2 21) (q.2 21)) (l0 : q'.2 0 4 = q.2 0 4) (l25 : q'.2 25 = q.2 25) (l26 : q'.2 26 = q.2 26) : wRel nt ns np c q' m := by
  obtain ⟨hS, hLv, hOn, hSm, hLd, hTm, hLg⟩ := h
  have e2 : q'.1 2 = q.1 2 := hx 2 (by decide) (by decide) (by decide) (by decide) (by decide) (by decide) (by decide)
  refine ⟨hS.keep hx (mK.rfl' _), ⟨fun j hj => (h3 j hj).trans (hLv.1 j hj), fun j hj => ?_⟩, ⟨fun j hj => (h11 j hj).trans (hOn.1 j hj), fun j hj => ?_⟩, fun j hj => (l5 j hj).trans (hSm j hj), ⟨fun j hj => (l19 j hj).trans (hLd.1 j hj), fun j hj => (l20 j hj).trans (hLd.2.1 j hj), fun j hj => (l21 j hj).trans (hLd.2.2 j hj)⟩, l0.trans hTm, hLg.keep h27 l25 l26 rfl rfl rfl rfl⟩
  · rw [h3 j hj, e2]
    exact hLv.2 j hj
  · rw [h11 j hj]
    exact hOn.2 j hj
/-! arithmetic -/
theorem i64_of (x : Int32) : x.toInt64 = Int64.ofInt x.toInt := by
  refine Int64.toInt_inj.mp ?_
  have h1 := x.le_toInt
  have h2 := x.toInt_lt
  rw [Int32.toInt_toInt64, Int64.toInt_ofInt_of_le (by omega) (by omega)]
theorem lN_of (n : Nat) : Int64.ofInt (n : Int) = lN n := rfl
theorem steps_eq {k : Nat} (hk : k ≤ 5000) : (nI k).toInt64 * (nI k + 1).toInt64 / 2 = lN (k * (k + 1) / 2) := by
  have h1 : k * (k + 1) ≤ 5000 * 5001 := Nat.mul_le_mul hk (by omega)
  rw [nI_1, nI_l (by omega), nI_l (by omega), lN_mul]
  refine Int64.toInt_inj.mp ?_
  rw [Int64.toInt_div_of_ne_right _ _ (by decide), lN_toInt (by omega), lN_toInt (by omega), show (2 : Int64).toInt = 2 by decide, Int.tdiv_eq_ediv_of_nonneg (by omega)]
  omega
theorem tri (k : Nat) : (k + 1) * (k + 1 + 1) / 2 = k * (k + 1) / 2 + (k + 1) := by
  have : (k + 1) * (k + 1 + 1) = k * (k + 1) + 2 * (k + 1) := by
    rw [Nat.mul_add (k + 1) (k + 1) 1, Nat.add_mul k 1 (k + 1)]
    omega
  omega
theorem sum_step (S : Int64) (lv d : Int) (k : Nat) : S + (Int64.ofInt lv * lN k + Int64.ofInt d * lN (k * (k + 1) / 2)) + Int64.ofInt (lv + (k + 1 : Nat) * d) = S + (Int64.ofInt lv * lN (k + 1) + Int64.ofInt d * lN ((k + 1) * (k + 1 + 1) / 2)) := by
  rw [tri, ← lN_add (k * (k + 1) / 2) (k + 1), Int64.ofInt_add, Int64.ofInt_mul, lN_of, ← lN_1 k]
  rw [Int64.mul_add (Int64.ofInt d), Int64.mul_add (Int64.ofInt lv) (lN k) 1, Int64.mul_one, Int64.mul_comm (lN k + 1) (Int64.ofInt d)]
  ac_rfl
end TKBULK

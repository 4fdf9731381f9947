section TKSNAP
/-! where a cell of the reference is kept in a depot; 164: nowhere -/
def ixI (k j : Nat) : Nat :=
  if k = 0 then (if j = 1 then 0 else if j = 3 then 1 else if j = 7 then 2 else if j = 23 then 5 else 164)
  else if k = 10 then (if j < 8 then 6 + 3 * j else 164)
  else if k = 11 then (if j < 8 then 7 + 3 * j else 164)
  else if k = 13 then (if j < 10 then 30 + j else 164)
  else if k = 14 then (if j < 16 then 40 + 4 * j else 164)
  else if k = 19 then (if j < 30 then 105 + 2 * j else 164) else 164
def ixL (k j : Nat) : Nat :=
  if k = 0 then (if j = 21 then 3 else if j = 22 then 4 else 164)
  else if k = 12 then (if j < 8 then 8 + 3 * j else 164)
  else if k = 15 then (if j < 16 then 41 + 4 * j else 164)
  else if k = 16 then (if j < 16 then 42 + 4 * j else 164)
  else if k = 17 then (if j < 16 then 43 + 4 * j else 164)
  else if k = 18 then (if j < 30 then 104 + 2 * j else 164) else 164
def vaI (k : Nat) (x : Int64) : Int32 := if k = 13 then (if x = 1 then 1 else 0) else x.toInt32
/-- what a reading of the numbers g leaves -/
def snJ (J : tkI) (g : Nat → Int64) : tkI := fun k j => if ixI k j < 164 then vaI k (g (ixI k j)) else J k j
def snK (K : tkL) (g : Nat → Int64) : tkL := fun k j => if ixL k j < 164 then g (ixL k j) else K k j
theorem tk2_o {α : Type} {f : Nat → Nat → α} {a i b j : Nat} {x : α} (h : ¬ (b = a ∧ j = i)) : tk2 f a i x b j = f b j := if_neg h
/-- one step writes one cell -/
theorem rdS_at (b c : Nat) (q : tkI × tkL) (J1 : tkI) (hc : c < 164) :
    (∀ k j, (rdS b c q J1).1 k j = if ixI k j = c then vaI k (q.2 20 (b + c)) else J1 k j) ∧ ∀ k j, (rdS b c q J1).2 k j = if ixL k j = c then q.2 20 (b + c) else q.2 k j := by
  have wI : ∀ (a i : Nat) (x : Int32), (∀ k j, ixI k j = c ↔ (k = a ∧ j = i)) → vaI a (q.2 20 (b + c)) = x → ∀ k j, tk2 J1 a i x k j = if ixI k j = c then vaI k (q.2 20 (b + c)) else J1 k j := by
    intro a i x h hx k j
    by_cases e : k = a ∧ j = i
    · rw [if_pos ((h k j).mpr e), e.1, e.2, tk2_at, hx]
    · rw [if_neg (fun z => e ((h k j).mp z)), tk2_o e]
  have wL : ∀ (a i : Nat), (∀ k j, ixL k j = c ↔ (k = a ∧ j = i)) → ∀ k j, tk2 q.2 a i (q.2 20 (b + c)) k j = if ixL k j = c then q.2 20 (b + c) else q.2 k j := by
    intro a i h k j
    by_cases e : k = a ∧ j = i
    · rw [if_pos ((h k j).mpr e), e.1, e.2, tk2_at]
    · rw [if_neg (fun z => e ((h k j).mp z)), tk2_o e]
  have nI_ : (∀ k j, ixI k j ≠ c) → ∀ k j, J1 k j = if ixI k j = c then vaI k (q.2 20 (b + c)) else J1 k j := fun h k j => (if_neg (h k j)).symm
  have nL_ : (∀ k j, ixL k j ≠ c) → ∀ k j, q.2 k j = if ixL k j = c then q.2 20 (b + c) else q.2 k j := fun h k j => (if_neg (h k j)).symm
  unfold rdS
  by_cases h6 : c < 6
  · rw [if_pos h6]
    have hcc : c = 0 ∨ c = 1 ∨ c = 2 ∨ c = 3 ∨ c = 4 ∨ c = 5 := by omega
    rcases hcc with rfl | rfl | rfl | rfl | rfl | rfl
    · exact ⟨wI 0 1 _ (fun k j => by unfold ixI; (repeat' split) <;> omega) rfl, nL_ (fun k j => by unfold ixL; (repeat' split) <;> omega)⟩
    · exact ⟨wI 0 3 _ (fun k j => by unfold ixI; (repeat' split) <;> omega) rfl, nL_ (fun k j => by unfold ixL; (repeat' split) <;> omega)⟩
    · exact ⟨wI 0 7 _ (fun k j => by unfold ixI; (repeat' split) <;> omega) rfl, nL_ (fun k j => by unfold ixL; (repeat' split) <;> omega)⟩
    · exact ⟨nI_ (fun k j => by unfold ixI; (repeat' split) <;> omega), wL 0 21 (fun k j => by unfold ixL; (repeat' split) <;> omega)⟩
    · exact ⟨nI_ (fun k j => by unfold ixI; (repeat' split) <;> omega), wL 0 22 (fun k j => by unfold ixL; (repeat' split) <;> omega)⟩
    · exact ⟨wI 0 23 _ (fun k j => by unfold ixI; (repeat' split) <;> omega) rfl, nL_ (fun k j => by unfold ixL; (repeat' split) <;> omega)⟩
  · rw [if_neg h6]
    by_cases h30 : c < 30
    · rw [if_pos h30]
      have hm : (c - 6) % 3 = 0 ∨ (c - 6) % 3 = 1 ∨ (c - 6) % 3 = 2 := by omega
      rcases hm with e | e | e
      · rw [e]
        exact ⟨wI 10 _ _ (fun k j => by unfold ixI; (repeat' split) <;> omega) rfl, nL_ (fun k j => by unfold ixL; (repeat' split) <;> omega)⟩
      · rw [e]
        exact ⟨wI 11 _ _ (fun k j => by unfold ixI; (repeat' split) <;> omega) rfl, nL_ (fun k j => by unfold ixL; (repeat' split) <;> omega)⟩
      · rw [e]
        exact ⟨nI_ (fun k j => by unfold ixI; (repeat' split) <;> omega), wL 12 _ (fun k j => by unfold ixL; (repeat' split) <;> omega)⟩
    · rw [if_neg h30]
      by_cases h40 : c < 40
      · rw [if_pos h40]
        exact ⟨wI 13 _ _ (fun k j => by unfold ixI; (repeat' split) <;> omega) rfl, nL_ (fun k j => by unfold ixL; (repeat' split) <;> omega)⟩
      · rw [if_neg h40]
        by_cases h104 : c < 104
        · rw [if_pos h104]
          have hm : (c - 40) % 4 = 0 ∨ (c - 40) % 4 = 1 ∨ (c - 40) % 4 = 2 ∨ (c - 40) % 4 = 3 := by omega
          rcases hm with e | e | e | e
          · rw [e]
            exact ⟨wI 14 _ _ (fun k j => by unfold ixI; (repeat' split) <;> omega) rfl, nL_ (fun k j => by unfold ixL; (repeat' split) <;> omega)⟩
          · rw [e]
            exact ⟨nI_ (fun k j => by unfold ixI; (repeat' split) <;> omega), wL 15 _ (fun k j => by unfold ixL; (repeat' split) <;> omega)⟩
          · rw [e]
            exact ⟨nI_ (fun k j => by unfold ixI; (repeat' split) <;> omega), wL 16 _ (fun k j => by unfold ixL; (repeat' split) <;> omega)⟩
          · rw [e]
            exact ⟨nI_ (fun k j => by unfold ixI; (repeat' split) <;> omega), wL 17 _ (fun k j => by unfold ixL; (repeat' split) <;> omega)⟩
        · rw [if_neg h104]
          have hm : (c - 104) % 2 = 0 ∨ (c - 104) % 2 = 1 := by omega
          rcases hm with e | e
          · rw [e]
            exact ⟨nI_ (fun k j => by unfold ixI; (repeat' split) <;> omega), wL 18 _ (fun k j => by unfold ixL; (repeat' split) <;> omega)⟩
          · rw [e]
            exact ⟨wI 19 _ _ (fun k j => by unfold ixI; (repeat' split) <;> omega) rfl, nL_ (fun k j => by unfold ixL; (repeat' split) <;> omega)⟩
theorem ixL_20 (j : Nat) : ixL 20 j = 164 := rfl
theorem ixI_28 : ixI 0 28 = 164 := rfl
/-- a reading of n numbers -/
theorem mRd_at (b : Nat) (q : tkI × tkL) : ∀ n, n ≤ 164 → (∀ k j, ¬ (k = 0 ∧ j = 28) → (mRd b n q).1 k j = if ixI k j < n then vaI k (q.2 20 (b + ixI k j)) else q.1 k j) ∧
    (∀ k j, (mRd b n q).2 k j = if ixL k j < n then q.2 20 (b + ixL k j) else q.2 k j)
  | 0, _ => ⟨fun k j _ => by rw [if_neg (Nat.not_lt_zero _)]; rfl, fun k j => by rw [if_neg (Nat.not_lt_zero _)]; rfl⟩
  | n + 1, hn => by
    obtain ⟨h1, h2⟩ := mRd_at b q n (by omega)
    have h20 : (mRd b n q).2 20 (b + n) = q.2 20 (b + n) := by rw [h2, ixL_20, if_neg (by omega)]
    rw [mRd_s]
    obtain ⟨g1, g2⟩ := rdS_at b n (mRd b n q) (tk2 (mRd b n q).1 0 28 (nI (b + n + 1))) (by omega)
    unfold rdStep
    refine ⟨fun k j hkj => ?_, fun k j => ?_⟩
    · rw [g1 k j, h20, tk2_o hkj, h1 k j hkj]
      by_cases e : ixI k j = n
      · rw [if_pos e, if_pos (by omega), e]
      · rw [if_neg e]
        by_cases e2 : ixI k j < n
        · rw [if_pos e2, if_pos (by omega)]
        · rw [if_neg e2, if_neg (by omega)]
    · rw [g2 k j, h20, h2 k j]
      by_cases e : ixL k j = n
      · rw [if_pos e, if_pos (by omega), e]
      · rw [if_neg e]
        by_cases e2 : ixL k j < n
        · rw [if_pos e2, if_pos (by omega)]
        · rw [if_neg e2, if_neg (by omega)]
theorem mRd_all (b : Nat) (q : tkI × tkL) : (∀ k j, ¬ (k = 0 ∧ j = 28) → (mRd b 164 q).1 k j = snJ q.1 (fun c => q.2 20 (b + c)) k j) ∧ ∀ k j, (mRd b 164 q).2 k j = snK q.2 (fun c => q.2 20 (b + c)) k j := mRd_at b q 164 (Nat.le_refl _)
/-- the numbers of a cell -/
theorem ser_I {J : tkI} {K : tkL} {k j : Nat} (h : ixI k j < 164) : ser J K (ixI k j) = if k = 13 then (if J 13 j = 0 then 0 else 1) else (J k j).toInt64 := by
  by_cases k0 : k = 0
  · subst k0
    have hj : j = 1 ∨ j = 3 ∨ j = 7 ∨ j = 23 := by unfold ixI at h; (repeat' split at h) <;> omega
    rw [if_neg (by decide)]
    rcases hj with rfl | rfl | rfl | rfl
    · rw [show ixI 0 1 = 0 from rfl]; rfl
    · rw [show ixI 0 3 = 1 from rfl]; rfl
    · rw [show ixI 0 7 = 2 from rfl]; rfl
    · rw [show ixI 0 23 = 5 from rfl]; rfl
  by_cases k10 : k = 10
  · subst k10
    have h8 : j < 8 := by unfold ixI at h; (repeat' split at h) <;> omega
    rw [if_neg (by decide), show ixI 10 j = 6 + 3 * j from if_pos h8]
    exact ser_10 J K h8
  by_cases k11 : k = 11
  · subst k11
    have h8 : j < 8 := by unfold ixI at h; (repeat' split at h) <;> omega
    rw [if_neg (by decide), show ixI 11 j = 7 + 3 * j from if_pos h8]
    exact ser_11 J K h8
  by_cases k13 : k = 13
  · subst k13
    have h8 : j < 10 := by unfold ixI at h; (repeat' split at h) <;> omega
    rw [if_pos rfl, show ixI 13 j = 30 + j from if_pos h8]
    exact ser_13 J K h8
  by_cases k14 : k = 14
  · subst k14
    have h8 : j < 16 := by unfold ixI at h; (repeat' split at h) <;> omega
    rw [if_neg (by decide), show ixI 14 j = 40 + 4 * j from if_pos h8]
    exact ser_14 J K h8
  by_cases k19 : k = 19
  · subst k19
    have h8 : j < 30 := by unfold ixI at h; (repeat' split at h) <;> omega
    rw [if_neg (by decide), show ixI 19 j = 105 + 2 * j from if_pos h8]
    exact ser_19 J K h8
  exfalso
  unfold ixI at h
  rw [if_neg k0, if_neg k10, if_neg k11, if_neg k13, if_neg k14, if_neg k19] at h
  exact Nat.lt_irrefl _ h
theorem ser_L {J : tkI} {K : tkL} {k j : Nat} (h : ixL k j < 164) : ser J K (ixL k j) = K k j := by
  by_cases k0 : k = 0
  · subst k0
    have hj : j = 21 ∨ j = 22 := by unfold ixL at h; (repeat' split at h) <;> omega
    rcases hj with rfl | rfl <;> rfl
  by_cases k12 : k = 12
  · subst k12
    have h8 : j < 8 := by unfold ixL at h; (repeat' split at h) <;> omega
    rw [show ixL 12 j = 8 + 3 * j from if_pos h8]
    exact ser_12 J K h8
  by_cases k15 : k = 15
  · subst k15
    have h8 : j < 16 := by unfold ixL at h; (repeat' split at h) <;> omega
    rw [show ixL 15 j = 41 + 4 * j from if_pos h8]
    exact ser_15 J K h8
  by_cases k16 : k = 16
  · subst k16
    have h8 : j < 16 := by unfold ixL at h; (repeat' split at h) <;> omega
    rw [show ixL 16 j = 42 + 4 * j from if_pos h8]
    exact ser_16 J K h8
  by_cases k17 : k = 17
  · subst k17
    have h8 : j < 16 := by unfold ixL at h; (repeat' split at h) <;> omega
    rw [show ixL 17 j = 43 + 4 * j from if_pos h8]
    exact ser_17 J K h8
  by_cases k18 : k = 18
  · subst k18
    have h8 : j < 30 := by unfold ixL at h; (repeat' split at h) <;> omega
    rw [show ixL 18 j = 104 + 2 * j from if_pos h8]
    exact ser_18 J K h8
  exfalso
  unfold ixL at h
  rw [if_neg k0, if_neg k12, if_neg k15, if_neg k16, if_neg k17, if_neg k18] at h
  exact Nat.lt_irrefl _ h
theorem i32_64 (x : Int32) : x.toInt64.toInt32 = x := by simp
/-- what is read of what was written -/
theorem snJ_ser {J0 J : tkI} {K0 : tkL} {g : Nat → Int64} (hg : ∀ c, c < 164 → g c = ser J0 K0 c) {k j : Nat} (h : ixI k j < 164) (h13 : k = 13 → J0 13 j = 0 ∨ J0 13 j = 1) : snJ J g k j = J0 k j := by
  unfold snJ vaI
  rw [if_pos h, hg _ h, ser_I h]
  by_cases e : k = 13
  · rw [if_pos e, if_pos e]
    subst e
    rcases h13 rfl with z | z
    · rw [z]; decide
    · rw [z]; decide
  · rw [if_neg e, if_neg e]
    exact i32_64 _
theorem snK_ser {J0 : tkI} {K0 K : tkL} {g : Nat → Int64} (hg : ∀ c, c < 164 → g c = ser J0 K0 c) {k j : Nat} (h : ixL k j < 164) : snK K g k j = K0 k j := by
  unfold snK
  rw [if_pos h, hg _ h, ser_L h]
end TKSNAP
section TKCONG
/-- the cells of the reference that the relation speaks of -/
def rlI (nt ns np k j : Nat) : Prop := (k = 0 ∧ (j = 1 ∨ j = 3 ∨ j = 7 ∨ j = 23)) ∨ ((k = 1 ∨ k = 10 ∨ k = 11) ∧ j < nt) ∨ ((k = 2 ∨ k = 3 ∨ k = 4 ∨ k = 13) ∧ j < ns) ∨ ((k = 5 ∨ k = 6 ∨ k = 7 ∨ k = 8 ∨ k = 9 ∨ k = 14) ∧ j < np) ∨ (k = 19 ∧ j < 30)
def rlL (nt np k j : Nat) : Prop := (k = 0 ∧ (j = 21 ∨ j = 22)) ∨ (k = 12 ∧ j < nt) ∨ ((k = 15 ∨ k = 16 ∨ k = 17) ∧ j < np) ∨ (k = 18 ∧ j < 30)
theorem wRel.mcongr {nt ns np c : Nat} {q m m' : tkI × tkL} (h : wRel nt ns np c q m) (hJ : ∀ k j, rlI nt ns np k j → m'.1 k j = m.1 k j) (hK : ∀ k j, rlL nt np k j → m'.2 k j = m.2 k j) : wRel nt ns np c q m' := by
  obtain ⟨⟨⟨⟨a1, a2, a3⟩, ⟨b1, b2, b3⟩, ⟨d1, d2, d3⟩⟩, ⟨⟨t2, t4⟩, ⟨s8, s9, s10⟩, p13, p14, p15, p16, p17, p18⟩, hB⟩, ⟨l1, l2⟩, ⟨o1, o2⟩, hSm, ⟨k1, k2, k3⟩, hTm, g1, g2, g3, g4⟩ := h
  have T : ∀ k j, (k = 1 ∨ k = 10 ∨ k = 11) → j < nt → m'.1 k j = m.1 k j := fun k j a b => hJ k j (Or.inr (Or.inl ⟨a, b⟩))
  have S : ∀ k j, (k = 2 ∨ k = 3 ∨ k = 4 ∨ k = 13) → j < ns → m'.1 k j = m.1 k j := fun k j a b => hJ k j (Or.inr (Or.inr (Or.inl ⟨a, b⟩)))
  have P : ∀ k j, (k = 5 ∨ k = 6 ∨ k = 7 ∨ k = 8 ∨ k = 9 ∨ k = 14) → j < np → m'.1 k j = m.1 k j := fun k j a b => hJ k j (Or.inr (Or.inr (Or.inr (Or.inl ⟨a, b⟩))))
  have Z : ∀ j, (j = 1 ∨ j = 3 ∨ j = 7 ∨ j = 23) → m'.1 0 j = m.1 0 j := fun j a => hJ 0 j (Or.inl ⟨rfl, a⟩)
  refine ⟨⟨⟨⟨a1, (Z 1 (by omega)).trans a2, a3⟩, ⟨b1, (Z 3 (by omega)).trans b2, b3⟩, ⟨d1, (Z 7 (by omega)).trans d2, d3⟩⟩, ⟨⟨fun j hj => (t2 j hj).trans (T 1 j (by omega) hj).symm, fun j hj => (t4 j hj).trans (T 11 j (by omega) hj).symm⟩, ⟨fun j hj => (s8 j hj).trans (S 2 j (by omega) hj).symm, fun j hj => (s9 j hj).trans (S 3 j (by omega) hj).symm, fun j hj => (s10 j hj).trans (S 4 j (by omega) hj).symm⟩,
      fun j hj => (p13 j hj).trans (P 5 j (by omega) hj).symm, fun j hj => (p14 j hj).trans (P 6 j (by omega) hj).symm, fun j hj => (p15 j hj).trans (P 14 j (by omega) hj).symm, fun j hj => (p16 j hj).trans (P 7 j (by omega) hj).symm, fun j hj => (p17 j hj).trans (P 8 j (by omega) hj).symm, fun j hj => (p18 j hj).trans (P 9 j (by omega) hj).symm⟩, hB⟩,
    ⟨fun j hj => (l1 j hj).trans (T 10 j (by omega) hj).symm, l2⟩, ⟨fun j hj => (o1 j hj).trans (S 13 j (by omega) hj).symm, o2⟩, fun j hj => (hSm j hj).trans (hK 12 j (Or.inr (Or.inl ⟨rfl, hj⟩))).symm,
    ⟨fun j hj => (k1 j hj).trans (hK 15 j (Or.inr (Or.inr (Or.inl ⟨by omega, hj⟩)))).symm, fun j hj => (k2 j hj).trans (hK 16 j (Or.inr (Or.inr (Or.inl ⟨by omega, hj⟩)))).symm, fun j hj => (k3 j hj).trans (hK 17 j (Or.inr (Or.inr (Or.inl ⟨by omega, hj⟩)))).symm⟩,
    hTm.trans (hK 0 21 (Or.inl ⟨rfl, by omega⟩)).symm, g1, (hK 0 22 (Or.inl ⟨rfl, by omega⟩)).trans g2, (Z 23 (by omega)).trans g3, fun k hk => ⟨(g4 k hk).1.trans (hK 18 k (Or.inr (Or.inr (Or.inr ⟨rfl, by omega⟩)))).symm, (g4 k hk).2.trans (hJ 19 k (Or.inr (Or.inr (Or.inr (Or.inr ⟨rfl, by omega⟩))))).symm⟩⟩
/-- the program's side: only the core counts -/
theorem wRel.core {nt ns np c : Nat} {q s m : tkI × tkL} (h : wRel nt ns np c s m) (e : cEq q s) : wRel nt ns np c q m := by
  obtain ⟨⟨⟨⟨a1, a2, a3⟩, ⟨b1, b2, b3⟩, ⟨d1, d2, d3⟩⟩, ⟨⟨t2, t4⟩, ⟨s8, s9, s10⟩, p13, p14, p15, p16, p17, p18⟩, hB1, hB2, hB3⟩, ⟨l1, l2⟩, ⟨o1, o2⟩, hSm, ⟨k1, k2, k3⟩, hTm, g1, g2, g3, g4⟩ := h
  obtain ⟨e1, e2, e3⟩ := e
  have T2 : ∀ j, j < nt → q.1 2 j = s.1 2 j := fun j hj => e1 2 j (by show j < 8; omega)
  have T3 : ∀ j, j < nt → q.1 3 j = s.1 3 j := fun j hj => e1 3 j (by show j < 8; omega)
  have T4 : ∀ j, j < nt → q.1 4 j = s.1 4 j := fun j hj => e1 4 j (by show j < 8; omega)
  have S8 : ∀ j, j < ns → q.1 8 j = s.1 8 j := fun j hj => e1 8 j (by show j < 10; omega)
  have S9 : ∀ j, j < ns → q.1 9 j = s.1 9 j := fun j hj => e1 9 j (by show j < 10; omega)
  have S10 : ∀ j, j < ns → q.1 10 j = s.1 10 j := fun j hj => e1 10 j (by show j < 10; omega)
  have S11 : ∀ j, j < ns → q.1 11 j = s.1 11 j := fun j hj => e1 11 j (by show j < 10; omega)
  have P13 : ∀ j, j < np → q.1 13 j = s.1 13 j := fun j hj => e1 13 j (by show j < 16; omega)
  have P14 : ∀ j, j < np → q.1 14 j = s.1 14 j := fun j hj => e1 14 j (by show j < 16; omega)
  have P15 : ∀ j, j < np → q.1 15 j = s.1 15 j := fun j hj => e1 15 j (by show j < 16; omega)
  have P16 : ∀ j, j < np → q.1 16 j = s.1 16 j := fun j hj => e1 16 j (by show j < 16; omega)
  have P17 : ∀ j, j < np → q.1 17 j = s.1 17 j := fun j hj => e1 17 j (by show j < 16; omega)
  have P18 : ∀ j, j < np → q.1 18 j = s.1 18 j := fun j hj => e1 18 j (by show j < 16; omega)
  refine ⟨⟨⟨⟨(e1 1 0 (by decide)).trans a1, a2, a3⟩, ⟨(e1 7 0 (by decide)).trans b1, b2, b3⟩, ⟨(e1 12 0 (by decide)).trans d1, d2, d3⟩⟩, ⟨⟨fun j hj => (T2 j hj).trans (t2 j hj), fun j hj => (T4 j hj).trans (t4 j hj)⟩, ⟨fun j hj => (S8 j hj).trans (s8 j hj), fun j hj => (S9 j hj).trans (s9 j hj), fun j hj => (S10 j hj).trans (s10 j hj)⟩,
      fun j hj => (P13 j hj).trans (p13 j hj), fun j hj => (P14 j hj).trans (p14 j hj), fun j hj => (P15 j hj).trans (p15 j hj), fun j hj => (P16 j hj).trans (p16 j hj), fun j hj => (P17 j hj).trans (p17 j hj), fun j hj => (P18 j hj).trans (p18 j hj)⟩, fun j hj => ?_, fun j hj => ?_, fun j hj => ?_⟩,
    ⟨fun j hj => (T3 j hj).trans (l1 j hj), fun j hj => ?_⟩, ⟨fun j hj => (S11 j hj).trans (o1 j hj), fun j hj => ?_⟩, fun j hj => (e2 5 j (by show j < 8; omega)).trans (hSm j hj), ⟨fun j hj => (e2 19 j (by show j < 16; omega)).trans (k1 j hj), fun j hj => (e2 20 j (by show j < 16; omega)).trans (k2 j hj), fun j hj => (e2 21 j (by show j < 16; omega)).trans (k3 j hj)⟩,
    e3.trans hTm, (e2 25 0 (by decide)).trans g1, g2, g3, fun k hk => ⟨(e2 26 _ (by show _ < 30; omega)).trans (g4 k hk).1, (e1 27 _ (by show _ < 30; omega)).trans (g4 k hk).2⟩⟩
  · rw [T2 j hj, T4 j hj]
    exact hB1 j hj
  · rw [S8 j hj, S9 j hj, S10 j hj]
    exact hB2 j hj
  · rw [P13 j hj, P14 j hj, P15 j hj, P17 j hj]
    exact hB3 j hj
  · rw [T3 j hj, T2 j hj]
    exact l2 j hj
  · rw [S11 j hj]
    exact o2 j hj
/-- what the reference's methods ask of a state -/
theorem wRel.wM {nt ns np c : Nat} {q m : tkI × tkL} (h : wRel nt ns np c q m) : wM nt ns np m.1 := by
  obtain ⟨⟨⟨⟨a1, a2, a3⟩, ⟨b1, b2, b3⟩, ⟨d1, d2, d3⟩⟩, ⟨-, ⟨s8, -⟩, p13, p14, -, -, p17, -⟩, hB1, hB2, hB3⟩, -, -, -, -, -, -, -, g3, -⟩ := h
  refine ⟨⟨a2, a3⟩, ⟨b2, b3⟩, ⟨d2, d3⟩, fun i hi => ?_, fun i hi => ?_, min c 30, by omega, g3⟩
  · rw [← s8 i hi]
    obtain ⟨⟨t, ht, et⟩, -⟩ := hB2 i hi
    exact ⟨t, by omega, et⟩
  · rw [← p13 i hi, ← p14 i hi, ← p17 i hi]
    obtain ⟨x1, x2, x3, -⟩ := hB3 i hi
    exact ⟨x1.imp id (fun ⟨t, a, b⟩ => ⟨t, by omega, b⟩), x2.imp id (fun ⟨t, a, b⟩ => ⟨t, by omega, b⟩), x3.imp id (fun ⟨t, a, b⟩ => ⟨t, by omega, b⟩)⟩
theorem wRel.wAll {nt ns np c b : Nat} {q m : tkI × tkL} (h : wRel nt ns np c q m) (hb : c ≤ b) : wAll nt ns np b q := by
  obtain ⟨⟨⟨⟨a1, a2, a3⟩, ⟨b1, b2, b3⟩, ⟨d1, d2, d3⟩⟩, -, hB1, hB2, hB3⟩, -, -, -, -, -, g1, -⟩ := h
  refine ⟨⟨a1, a3⟩, ⟨b1, b3, fun i hi => ?_⟩, ⟨d1, d3, fun i hi => ?_⟩, c, hb, g1⟩
  · obtain ⟨⟨t, ht, et⟩, -⟩ := hB2 i hi
    exact ⟨t, by omega, et⟩
  · obtain ⟨x1, x2, x3, -⟩ := hB3 i hi
    exact ⟨x1.imp id (fun ⟨t, a, b⟩ => ⟨t, by omega, b⟩), x2.imp id (fun ⟨t, a, b⟩ => ⟨t, by omega, b⟩), x3.imp id (fun ⟨t, a, b⟩ => ⟨t, by omega, b⟩)⟩
/-- the reference's state, as a depot's numbers give it back over the statics of J -/
def SN (nt ns np c : Nat) (q : tkI × tkL) (J : tkI) (g : Nat → Int64) : Prop := wRel nt ns np c q (snJ J g, snK zL g)
theorem ixI_rl {nt ns np k j : Nat} (h1 : nt ≤ 8) (h2 : ns ≤ 10) (h3 : np ≤ 16) (h : rlI nt ns np k j) : ixI k j < 164 ∨ ((k = 1 ∧ j < nt) ∨ ((k = 2 ∨ k = 3 ∨ k = 4) ∧ j < ns) ∨ ((k = 5 ∨ k = 6 ∨ k = 7 ∨ k = 8 ∨ k = 9) ∧ j < np)) := by
  rcases h with ⟨rfl, rfl | rfl | rfl | rfl⟩ | ⟨rfl | rfl | rfl, h⟩ | ⟨rfl | rfl | rfl | rfl, h⟩ | ⟨rfl | rfl | rfl | rfl | rfl | rfl, h⟩ | ⟨rfl, h⟩
  · exact Or.inl (by decide)
  · exact Or.inl (by decide)
  · exact Or.inl (by decide)
  · exact Or.inl (by decide)
  · exact Or.inr (Or.inl ⟨rfl, h⟩)
  · exact Or.inl (by show (if j < 8 then 6 + 3 * j else 164) < 164; rw [if_pos (by omega)]; omega)
  · exact Or.inl (by show (if j < 8 then 7 + 3 * j else 164) < 164; rw [if_pos (by omega)]; omega)
  · exact Or.inr (Or.inr (Or.inl ⟨by omega, h⟩))
  · exact Or.inr (Or.inr (Or.inl ⟨by omega, h⟩))
  · exact Or.inr (Or.inr (Or.inl ⟨by omega, h⟩))
  · exact Or.inl (by show (if j < 10 then 30 + j else 164) < 164; rw [if_pos (by omega)]; omega)
  · exact Or.inr (Or.inr (Or.inr ⟨by omega, h⟩))
  · exact Or.inr (Or.inr (Or.inr ⟨by omega, h⟩))
  · exact Or.inr (Or.inr (Or.inr ⟨by omega, h⟩))
  · exact Or.inr (Or.inr (Or.inr ⟨by omega, h⟩))
  · exact Or.inr (Or.inr (Or.inr ⟨by omega, h⟩))
  · exact Or.inl (by show (if j < 16 then 40 + 4 * j else 164) < 164; rw [if_pos (by omega)]; omega)
  · exact Or.inl (by show (if j < 30 then 105 + 2 * j else 164) < 164; rw [if_pos h]; omega)
theorem ixL_rl {nt np k j : Nat} (h1 : nt ≤ 8) (h3 : np ≤ 16) (h : rlL nt np k j) : ixL k j < 164 := by
  rcases h with ⟨rfl, rfl | rfl⟩ | ⟨rfl, h⟩ | ⟨rfl | rfl | rfl, h⟩ | ⟨rfl, h⟩
  · decide
  · decide
  · show (if j < 8 then 8 + 3 * j else 164) < 164
    rw [if_pos (by omega)]; omega
  · show (if j < 16 then 41 + 4 * j else 164) < 164
    rw [if_pos (by omega)]; omega
  · show (if j < 16 then 42 + 4 * j else 164) < 164
    rw [if_pos (by omega)]; omega
  · show (if j < 16 then 43 + 4 * j else 164) < 164
    rw [if_pos (by omega)]; omega
  · show (if j < 30 then 104 + 2 * j else 164) < 164
    rw [if_pos h]; omega
theorem ixI_st {k j : Nat} (h : k = 1 ∨ k = 2 ∨ k = 3 ∨ k = 4 ∨ k = 5 ∨ k = 6 ∨ k = 7 ∨ k = 8 ∨ k = 9) : ¬ ixI k j < 164 := by
  rcases h with rfl | rfl | rfl | rfl | rfl | rfl | rfl | rfl | rfl <;> exact Nat.lt_irrefl 164
/-- what is written is related -/
theorem SN.save {nt ns np c : Nat} {q : tkI × tkL} {J J' : tkI} {K : tkL} {g : Nat → Int64} (h : wRel nt ns np c q (J, K)) (hg : ∀ x, x < 164 → g x = ser J K x) (hJ : ∀ k j, 1 ≤ k → k ≤ 9 → J' k j = J k j) : SN nt ns np c q J' g := by
  have h1 := h.1.1.1.2.2
  have h2 := h.1.1.2.1.2.2
  have h3 := h.1.1.2.2.2.2
  have hOn := h.2.2.1
  refine h.mcongr (fun k j hr => ?_) (fun k j hr => snK_ser hg (ixL_rl h1 h3 hr))
  rcases ixI_rl h1 h2 h3 hr with z | z
  · refine snJ_ser hg z (fun e => ?_)
    subst e
    have hj : j < ns := by
      unfold rlI at hr
      omega
    have e : q.1 11 j = J 13 j := hOn.1 j hj
    rw [← e]
    exact hOn.2 j hj
  · show (if ixI k j < 164 then vaI k (g (ixI k j)) else J' k j) = J k j
    rw [if_neg (ixI_st (by omega))]
    exact hJ k j (by omega) (by omega)
/-- statics above the counts don't matter -/
theorem SN.keep {nt ns np c : Nat} {q q' : tkI × tkL} {J J' : tkI} {g g' : Nat → Int64} (h : SN nt ns np c q J g) (hq : cEq q' q) (hg : ∀ x, x < 164 → g' x = g x)
    (h1 : ∀ j, j < nt → J' 1 j = J 1 j) (h2 : ∀ k j, 2 ≤ k → k ≤ 4 → j < ns → J' k j = J k j) (h3 : ∀ k j, 5 ≤ k → k ≤ 9 → j < np → J' k j = J k j) : SN nt ns np c q' J' g' := by
  have a1 := h.1.1.1.2.2
  have a2 := h.1.1.2.1.2.2
  have a3 := h.1.1.2.2.2.2
  refine (wRel.mcongr h (fun k j hr => ?_) (fun k j hr => ?_)).core hq
  · show (if ixI k j < 164 then vaI k (g' (ixI k j)) else J' k j) = if ixI k j < 164 then vaI k (g (ixI k j)) else J k j
    rcases ixI_rl a1 a2 a3 hr with z | z
    · rw [if_pos z, if_pos z, hg _ z]
    · rw [if_neg (ixI_st (by omega)), if_neg (ixI_st (by omega))]
      rcases z with z | z | z
      · obtain ⟨rfl, z⟩ := z
        exact h1 j z
      · exact h2 k j (by omega) (by omega) z.2
      · exact h3 k j (by omega) (by omega) z.2
  · show (if ixL k j < 164 then g' (ixL k j) else zL k j) = if ixL k j < 164 then g (ixL k j) else zL k j
    rw [if_pos (ixL_rl a1 a3 hr), if_pos (ixL_rl a1 a3 hr), hg _ (ixL_rl a1 a3 hr)]
/-- what is read is related -/
theorem SN.read {nt ns np c b : Nat} {q m : tkI × tkL} (h : SN nt ns np c q m.1 (fun x => m.2 20 (b + x))) : wRel nt ns np c q (mRd b 164 m) := by
  have a1 := h.1.1.1.2.2
  have a3 := h.1.1.2.2.2.2
  obtain ⟨r1, r2⟩ := mRd_all b m
  refine wRel.mcongr h (fun k j hr => r1 k j (fun z => ?_)) (fun k j hr => ?_)
  · unfold rlI at hr
    omega
  · rw [r2 k j]
    show (if ixL k j < 164 then m.2 20 (b + ixL k j) else m.2 k j) = if ixL k j < 164 then m.2 20 (b + ixL k j) else zL k j
    rw [if_pos (ixL_rl a1 a3 hr), if_pos (ixL_rl a1 a3 hr)]
theorem SN.le {nt ns np c : Nat} {q : tkI × tkL} {J : tkI} {g : Nat → Int64} (h : SN nt ns np c q J g) : nt ≤ 8 ∧ ns ≤ 10 ∧ np ≤ 16 := ⟨h.1.1.1.2.2, h.1.1.2.1.2.2, h.1.1.2.2.2.2⟩
end TKCONG

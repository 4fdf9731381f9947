section TKSTEADY
theorem nTw_ok {a b : Int} {m κ : Nat} (h0 : 0 < nTw a b m) (hk : κ ≤ nTw a b m) : 0 ≤ a + κ * b := by
  unfold nTw at *
  by_cases ha : 0 ≤ a
  · rw [if_pos ha] at h0 hk
    by_cases hb : b < 0
    · rw [if_pos hb] at h0 hk
      have h1 : (κ : Int) ≤ a / -b := by
        have := Int.ediv_nonneg ha (show (0 : Int) ≤ -b by omega)
        omega
      have h2 : (κ : Int) * -b ≤ a / -b * -b := Int.mul_le_mul_of_nonneg_right h1 (by omega)
      have h3 : a / -b * -b ≤ a := Int.ediv_mul_le a (by omega)
      have h4 : (κ : Int) * -b = -(κ * b) := Int.mul_neg _ _
      omega
    · have : 0 ≤ (κ : Int) * b := Int.mul_nonneg (by omega) (by omega)
      omega
  · rw [if_neg ha] at h0
    omega
/-- a limit of the form f: at most the limit, and if above 0, C holds for all ticks within -/
def stp (f : Int32 → Int32) (C : Nat → Prop) : Prop := ∀ m, m < 2 ^ 31 → ∃ r, r ≤ m ∧ f (nI m) = nI r ∧ (0 < r → ∀ κ, κ ≤ r → C κ)
theorem stp.itr {f : Nat → Int32 → Int32} {C : Nat → Nat → Prop} : ∀ {n : Nat}, (∀ i, i < n → stp (f i) (C i)) → stp (itr f n) (fun κ => ∀ i, i < n → C i κ)
  | 0, _ => fun m _ => ⟨m, Nat.le_refl _, rfl, fun _ κ _ i hi => absurd hi (Nat.not_lt_zero i)⟩
  | n + 1, h => fun m hm => by
    obtain ⟨r, h1, h2, h3⟩ := stp.itr (n := n) (fun i hi => h i (Nat.lt_succ_of_lt hi)) m hm
    obtain ⟨s, g1, g2, g3⟩ := h n (Nat.lt_succ_self n) r (by omega)
    refine ⟨s, by omega, ?_, fun h0 κ hκ i hi => ?_⟩
    · rw [itr_s, h2, g2]
    · by_cases e : i = n
      · subst e
        exact g3 h0 κ hκ
      · exact h3 (by omega) κ (by omega) i (by omega)
theorem stp.comp {f g : Int32 → Int32} {C D : Nat → Prop} (hf : stp f C) (hg : stp g D) : stp (fun x => g (f x)) (fun κ => C κ ∧ D κ) := fun m hm => by
  obtain ⟨r, h1, h2, h3⟩ := hf m hm
  obtain ⟨s, g1, g2, g3⟩ := hg r (by omega)
  exact ⟨s, by omega, by dsimp only; rw [h2, g2], fun h0 κ hκ => ⟨h3 (by omega) κ (by omega), g3 h0 κ hκ⟩⟩
theorem stp.jtw {a : Int64} {b : Int32} {A B : Int} (ha : a.toInt = A) (hb : b.toInt = B) : stp (jtw a b.toInt64) (fun κ => 0 ≤ A + κ * B) := fun m hm =>
  ⟨_, nTw_le _ _ _, jtw_val hm, fun h0 κ hκ => by rw [← ha, ← hb]; exact nTw_ok h0 hκ⟩
theorem stp.pos {f : Int32 → Int32} {C : Nat → Prop} (hf : stp f C) : stp (fun st => if 0 < st then f st else st) C := fun m hm => by
  by_cases h : 0 < m
  · obtain ⟨r, h1, h2, h3⟩ := hf m hm
    exact ⟨r, h1, by dsimp only; rw [if_pos (show (0 : Int32) < nI m from nI_lt (a := 0) h hm), h2], h3⟩
  · obtain rfl : m = 0 := by omega
    exact ⟨0, Nat.le_refl _, by dsimp only; rw [if_neg (show ¬ (0 : Int32) < nI 0 from nI_nlt (a := 0) (b := 0) (Nat.le_refl _) (by omega))], fun z => absurd z (Nat.lt_irrefl _)⟩
theorem stp.triv {f : Int32 → Int32} (hf : ∀ x, f x = x) : stp f (fun _ => True) := fun m hm => ⟨m, Nat.le_refl _, hf _, fun _ _ _ => trivial⟩
theorem stp.mono {f : Int32 → Int32} {C D : Nat → Prop} (hf : stp f C) (h : ∀ κ, C κ → D κ) : stp f D := fun m hm => by
  obtain ⟨r, h1, h2, h3⟩ := hf m hm
  exact ⟨r, h1, h2, fun h0 κ hκ => h κ (h3 h0 κ hκ)⟩
theorem i32_neg {x : Int32} (h : -2147483647 ≤ x.toInt) (h2 : x.toInt ≤ 2147483647) : (-x).toInt = -x.toInt := by
  rw [Int32.toInt_neg]
  exact Int.bmod_eq_of_le (by omega) (by omega)
/-- a tank's drift in the last tick -/
def dr (I : tkI) (j : Nat) : Int := (I 3 j).toInt - (I 6 j).toInt
/-- levels before and behind the last tick -/
def lv2 (nt : Nat) (I : tkI) : Prop := lvB nt (I 3) (I 2) ∧ lvB nt (I 6) (I 2)
theorem lv2_dr {nt : Nat} {I : tkI} (h : lv2 nt I) {j : Nat} (hj : j < nt) : (I 3 j - I 6 j).toInt = dr I j ∧ -1000000000 ≤ dr I j ∧ dr I j ≤ 1000000000 ∧ (-(I 3 j - I 6 j)).toInt = -dr I j := by
  obtain ⟨a1, a2, a3⟩ := h.1 j hj
  obtain ⟨b1, b2, b3⟩ := h.2 j hj
  have e : (I 3 j - I 6 j).toInt = (I 3 j).toInt - (I 6 j).toInt := i32_sub (by omega) (by omega)
  unfold dr
  exact ⟨e, by omega, by omega, by rw [i32_neg (by omega) (by omega), e]⟩
def cSw (I : tkI) (i κ : Nat) : Prop := (I 11 i = 0 → 0 ≤ (I 6 (I 8 i).toNatClampNeg).toInt - (I 9 i).toInt - 1 + κ * dr I (I 8 i).toNatClampNeg) ∧ (¬ I 11 i = 0 → 0 ≤ (I 10 i).toInt - 1 - (I 6 (I 8 i).toNatClampNeg).toInt + κ * -dr I (I 8 i).toNatClampNeg)
theorem stp.sw {nt ns np i : Nat} {I : tkI} (hB : wBS nt ns np I) (h2 : lv2 nt I) (hn : nt ≤ 8) (hi : i < ns) : stp (sSst I i) (cSw I i) := by
  obtain ⟨⟨t, ht, et⟩, hlt, hlo, hhi⟩ := hB.2.1 i hi
  obtain ⟨d1, d2, d3, d4⟩ := lv2_dr h2 ht
  obtain ⟨b1, b2, b3⟩ := h2.2 t ht
  rw [Int32.lt_iff_toInt_lt] at hlt
  have one : (1 : Int32).toInt = 1 := by decide
  unfold sSst cSw
  dsimp only
  rw [et, nI_clamp (by omega)]
  refine stp.pos ?_
  by_cases h : I 11 i = 0
  · simp only [h, if_true]
    have e1 : (I 6 t - I 9 i).toInt = (I 6 t).toInt - (I 9 i).toInt := i32_sub (by omega) (by omega)
    have e2 : (I 6 t - I 9 i - 1).toInt64.toInt = (I 6 t).toInt - (I 9 i).toInt - 1 := by rw [Int32.toInt_toInt64, i32_sub (by omega) (by omega), e1, one]
    exact (stp.jtw e2 d1).mono fun κ z => ⟨fun _ => z, fun y => absurd trivial y⟩
  · simp only [h, if_false]
    have e1 : (I 10 i - 1).toInt = (I 10 i).toInt - 1 := by rw [i32_sub (by omega) (by omega), one]
    have e2 : (I 10 i - 1 - I 6 t).toInt64.toInt = (I 10 i).toInt - 1 - (I 6 t).toInt := by rw [Int32.toInt_toInt64, i32_sub (by omega) (by omega), e1]
    exact (stp.jtw e2 d4).mono fun κ z => ⟨fun y => y.elim, fun _ => z⟩
def cTk (I : tkI) (j κ : Nat) : Prop := 0 ≤ (I 3 j).toInt + κ * dr I j
theorem stp.tk {nt j : Nat} {I : tkI} (h2 : lv2 nt I) (hj : j < nt) : stp (sTst I j) (cTk I j) := by
  unfold sTst
  exact stp.pos (stp.jtw (Int32.toInt_toInt64 _) (lv2_dr h2 hj).1)
/-- what holds of a pump's source and target -/
def cPu (I : tkI) (i κ : Nat) : Prop := ¬ sAct I i = 0 → (¬ I 13 i = -1 → 0 ≤ (I 23 i).toInt + κ * dr I (I 13 i).toNatClampNeg) ∧ (¬ I 14 i = -1 → 0 ≤ (I 24 i).toInt + κ * -dr I (I 14 i).toNatClampNeg) ∧
  (I 22 i = I 15 i ∨ (¬ I 13 i = -1 ∧ I 23 i = 0 ∧ dr I (I 13 i).toNatClampNeg = 0) ∨ (¬ I 14 i = -1 ∧ I 24 i = 0 ∧ dr I (I 14 i).toNatClampNeg = 0))
theorem sHeld_1 {h left d : Int32} (z : ¬ sHeld h left d = 0) : ¬ h = 0 ∨ (left = 0 ∧ d = 0) := by
  unfold sHeld at z
  by_cases h0 : h = 0
  · rw [if_pos h0] at z
    by_cases h1 : left = 0
    · rw [if_pos h1] at z
      by_cases h2 : d = 0
      · exact Or.inr ⟨h1, h2⟩
      · rw [if_neg h2] at z
        exact absurd rfl z
    · rw [if_neg h1] at z
      exact absurd rfl z
  · exact Or.inl h0
theorem stp.pu {nt ns np i : Nat} {I : tkI} (hB : wBS nt ns np I) (h2 : lv2 nt I) (hn : nt ≤ 8) (hi : i < np) : stp (sPst I i) (cPu I i) := by
  obtain ⟨hf, ht, -, hne, -⟩ := hB.2.2 i hi
  unfold sPst cPu
  refine stp.pos ?_
  by_cases h0 : sAct I i = 0
  · simp only [h0, if_true, not_true_eq_false, false_implies]
    exact stp.triv fun _ => rfl
  · simp only [h0, if_false, not_false_eq_true, true_implies]
    have z0 : (0 : Int32).toInt = 0 := by decide
    have k1 : stp (fun lim => (sOf1 I i lim).1) (fun κ => ¬ I 13 i = -1 → 0 ≤ (I 23 i).toInt + κ * dr I (I 13 i).toNatClampNeg) := by
      unfold sOf1
      dsimp only
      by_cases a : I 13 i = -1
      · simp only [a, if_true, not_true_eq_false, false_implies]
        exact stp.triv fun _ => rfl
      · simp only [a, if_false, not_false_eq_true, true_implies]
        exact stp.jtw (Int32.toInt_toInt64 _) (lv2_dr h2 (end_.at hn hf a)).1
    have k2 : ∀ hd, stp (fun lim => (sOf2 I i (lim, hd)).1) (fun κ => ¬ I 14 i = -1 → 0 ≤ (I 24 i).toInt + κ * -dr I (I 14 i).toNatClampNeg) := fun hd => by
      unfold sOf2
      dsimp only
      by_cases a : I 14 i = -1
      · simp only [a, if_true, not_true_eq_false, false_implies]
        exact stp.triv fun _ => rfl
      · simp only [a, if_false, not_false_eq_true, true_implies]
        exact stp.jtw (Int32.toInt_toInt64 _) (lv2_dr h2 (end_.at hn ht a)).2.2.2
    have hd1 : ∀ lim, (sOf1 I i lim).2 = (sOf1 I i 0).2 := fun lim => by
      unfold sOf1
      dsimp only
      split <;> rfl
    have hd2 : ∀ a b hd, (sOf2 I i (a, hd)).2 = (sOf2 I i (b, hd)).2 := fun a b hd => by
      unfold sOf2
      dsimp only
      split <;> rfl
    have eOf : ∀ lim, sOf I i lim = if (sOf2 I i (0, (sOf1 I i 0).2)).2 = 0 then 0 else (sOf2 I i ((sOf1 I i lim).1, (sOf1 I i 0).2)).1 := fun lim => by
      unfold sOf
      rw [show sOf1 I i lim = ((sOf1 I i lim).1, (sOf1 I i 0).2) by rw [← hd1 lim], hd2 _ 0]
    have kc := k1.comp (k2 (sOf1 I i 0).2)
    by_cases hh : (sOf2 I i (0, (sOf1 I i 0).2)).2 = 0
    · intro m hm
      exact ⟨0, Nat.zero_le _, by show sOf I i (nI m) = nI 0; rw [eOf, if_pos hh]; rfl, fun z => absurd z (Nat.lt_irrefl _)⟩
    · intro m hm
      obtain ⟨r, g1, g2, g3⟩ := kc m hm
      refine ⟨r, g1, by show sOf I i (nI m) = nI r; rw [eOf, if_neg hh]; exact g2, fun h0 κ hκ => ⟨(g3 h0 κ hκ).1, (g3 h0 κ hκ).2, ?_⟩⟩
      unfold sOf2 sOf1 at hh
      dsimp only at hh
      have hz : ¬ (if I 22 i = I 15 i then (1 : Int32) else 0) = 0 → I 22 i = I 15 i := fun z => Decidable.byContradiction fun y => z (if_neg y)
      have dz : ∀ j, j < nt → I 3 j - I 6 j = 0 → dr I j = 0 := fun j hj e => by
        rw [← (lv2_dr h2 hj).1, e]
        exact z0
      by_cases b : I 14 i = -1
      · rw [if_pos b] at hh
        by_cases a : I 13 i = -1
        · rw [if_pos a] at hh
          exact Or.inl (hz hh)
        · rw [if_neg a] at hh
          rcases sHeld_1 hh with y | ⟨y1, y2⟩
          · exact Or.inl (hz y)
          · exact Or.inr (Or.inl ⟨a, y1, dz _ (end_.at hn hf a) y2⟩)
      · rw [if_neg b] at hh
        rcases sHeld_1 hh with y | ⟨y1, y2⟩
        · by_cases a : I 13 i = -1
          · rw [if_pos a] at y
            exact Or.inl (hz y)
          · rw [if_neg a] at y
            rcases sHeld_1 y with y | ⟨y1, y2⟩
            · exact Or.inl (hz y)
            · exact Or.inr (Or.inl ⟨a, y1, dz _ (end_.at hn hf a) y2⟩)
        · exact Or.inr (Or.inr ⟨b, y1, dz _ (end_.at hn ht b) y2⟩)
theorem stp.steady {nt ns np : Nat} {I : tkI} (hB : wBS nt ns np I) (h2 : lv2 nt I) (hn : nt ≤ 8) : stp (sSteady nt ns np I) (fun κ => (∀ i, i < ns → cSw I i κ) ∧ (∀ i, i < np → cPu I i κ) ∧ ∀ j, j < nt → cTk I j κ) := by
  unfold sSteady
  exact ((stp.itr (fun i hi => stp.sw hB h2 hn hi)).comp ((stp.itr (fun i hi => stp.pu hB h2 hn hi)).comp (stp.itr (fun j hj => stp.tk h2 hj))))
end TKSTEADY

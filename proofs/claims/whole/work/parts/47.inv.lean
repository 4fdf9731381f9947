section TKINV
/-! the law's memory: the program's object at B, its plant from B + 1 on, its trial from B + 29 on, its row of depots at B + 57, the reference from B + 58 on, the two answers at B + 79 and B + 80, the depots' plants at A -/
def lwLay (B : Nat) (σ : tkM) (A : Nat → Nat) (dN : Nat) : Prop :=
  tkTP σ B (B + 1) (B + 29) (B + 57) ∧ tkReg 28 pT pF σ (B + 1) ∧ tkReg 28 pT pF σ (B + 29) ∧ tkReg 21 mT mF σ (B + 58) ∧ σ.2.1 (B + 57) = (14, 4) ∧ (σ.2.1 (B + 79) = (11, 1) ∧ σ.2.1 (B + 80) = (13, 1)) ∧ (B + 81 ≤ σ.1 ∧ dN ≤ 4) ∧
  (∀ j, j < 4 → σ.2.2 (B + 57) j = if j < dN then some (A j) else none) ∧ (∀ j, j < dN → tkReg 28 pT pF σ (A j) ∧ B + 81 ≤ A j ∧ A j + 28 ≤ σ.1) ∧ ∀ i j, i < j → j < dN → A i + 28 ≤ A j
theorem lwLay.grow {B n : Nat} {σ : tkM} {A : Nat → Nat} {dN : Nat} (h : lwLay B σ A dN) (hn : σ.1 ≤ n) : lwLay B (n, σ.2) A dN := by
  obtain ⟨h1, h2, h3, h4, h5, h6, ⟨h7, h8⟩, h9, h10, h11⟩ := h
  exact ⟨h1, h2, h3, h4, h5, h6, ⟨Nat.le_trans h7 hn, h8⟩, h9, fun j hj => ⟨(h10 j hj).1, (h10 j hj).2.1, Nat.le_trans (h10 j hj).2.2 hn⟩, h11⟩
/-- a depot: what it holds, and what the reference would read -/
def lwDep (B : Nat) (I : tkI) (L : tkL) (A : Nat → Nat) (i nt ns np j : Nat) : Prop :=
  ∃ c tm, c ≤ 50000 * i ∧ tm ≤ 5000 * i ∧ L (A j) 4 = lN tm ∧ SN nt ns np c (rw_ (A j) I, rw_ (A j) L) (rw_ (B + 58) I) (fun x => L (B + 78) (164 * j + x))
/-- the state behind i calls -/
def lwSt (B : Nat) (I : tkI) (L : tkL) (A : Nat → Nat) (i nt ns np c tm dc : Nat) (NT NS NP : Nat → Nat) : Prop :=
  wRel nt ns np c (rw_ (B + 1) I, rw_ (B + 1) L) (rw_ (B + 58) I, rw_ (B + 58) L) ∧ (c ≤ 50000 * i ∧ L (B + 1) 4 = lN tm ∧ tm ≤ 5000 * i) ∧ (I B 3 = nI dc ∧ I (B + 58) 26 = nI dc) ∧
  (NT dc = nt ∧ NS dc = ns ∧ NP dc = np) ∧ (∀ a b, a ≤ b → b ≤ dc → NT a ≤ NT b ∧ NS a ≤ NS b ∧ NP a ≤ NP b) ∧ ∀ j, j < dc → lwDep B I L A i (NT j) (NS j) (NP j) j
def lwInv (B i : Nat) (σ : tkM) (I : tkI) (L : tkL) : Prop :=
  ∃ (A : Nat → Nat) (dN nt ns np c tm dc : Nat) (NT NS NP : Nat → Nat), lwLay B σ A dN ∧ dc ≤ dN ∧ lwSt B I L A i nt ns np c tm dc NT NS NP
theorem cI_lt {k j : Nat} (h : j < cI k) : k < 28 := by
  rcases Nat.lt_or_ge k 28 with q | q
  · exact q
  · exfalso
    have : cI k = 0 := by
      unfold cI
      split <;> first | rfl | omega
    omega
theorem cL_lt {k j : Nat} (h : j < cL k) : k < 28 := by
  rcases Nat.lt_or_ge k 28 with q | q
  · exact q
  · exfalso
    have : cL k = 0 := by
      unfold cL
      split <;> first | rfl | omega
    omega
theorem cEq.of {a b : tkI × tkL} (h1 : ∀ k, k < 28 → a.1 k = b.1 k) (h2 : ∀ k, k < 28 → a.2 k = b.2 k) : cEq a b :=
  ⟨fun k j h => by rw [h1 k (cI_lt h)], fun k j h => by rw [h2 k (cL_lt h)], by rw [h2 0 (by omega)]⟩
theorem rlI_lt {nt ns np k j : Nat} (h : rlI nt ns np k j) : k < 21 := by unfold rlI at h; omega
theorem rlL_lt {nt np k j : Nat} (h : rlL nt np k j) : k < 21 := by unfold rlL at h; omega
theorem wRel.moved {nt ns np c : Nat} {q m q' m' : tkI × tkL} (h : wRel nt ns np c q m) (h1 : ∀ k, k < 28 → q'.1 k = q.1 k) (h2 : ∀ k, k < 28 → q'.2 k = q.2 k) (h3 : ∀ k, k < 21 → m'.1 k = m.1 k) (h4 : ∀ k, k < 21 → m'.2 k = m.2 k) : wRel nt ns np c q' m' :=
  (h.mcongr (fun k j hr => by rw [h3 k (rlI_lt hr)]) (fun k j hr => by rw [h4 k (rlL_lt hr)])).core (cEq.of h1 h2)
/-- a call that leaves the depots -/
theorem lwSt.step {B i nt ns np c tm dc : Nat} {I I' : tkI} {L L' : tkL} {A NT NS NP : Nat → Nat} (h : lwSt B I L A i nt ns np c tm dc NT NS NP) (hd4 : dc ≤ 4) (hA : ∀ j, j < dc → B + 81 ≤ A j) {q' m' : tkI × tkL}
    (hq : ∀ k, k < 28 → I' (B + 1 + k) = q'.1 k ∧ L' (B + 1 + k) = q'.2 k) (hm : ∀ k, k < 21 → I' (B + 58 + k) = m'.1 k ∧ L' (B + 58 + k) = m'.2 k) (ho : ∀ a, B + 81 ≤ a → I' a = I a ∧ L' a = L a) (hx : I' B = I B)
    (hs : staR nt ns np c (rw_ (B + 58) I, rw_ (B + 58) L) q' m') : ∃ nt2 ns2 np2 c2 tm2 NT2 NS2 NP2, lwSt B I' L' A (i + 1) nt2 ns2 np2 c2 tm2 dc NT2 NS2 NP2 := by
  obtain ⟨h1, ⟨h2, h3, h4⟩, ⟨h5, h6⟩, ⟨n1, n2, n3⟩, hN, hD⟩ := h
  obtain ⟨nt2, ns2, np2, c2, d, hc2, hd, ht, hR, ⟨e1, e2, e3⟩, s1, s2, s3, s26, s20⟩ := hs
  have g1 : wRel nt2 ns2 np2 c2 (rw_ (B + 1) I', rw_ (B + 1) L') (rw_ (B + 58) I', rw_ (B + 58) L') := hR.moved (fun k hk => (hq k hk).1) (fun k hk => (hq k hk).2) (fun k hk => (hm k hk).1) (fun k hk => (hm k hk).2)
  have t1 : (rw_ (B + 1) L) 0 4 = (rw_ (B + 58) L) 0 21 := h1.2.2.2.2.2.1
  have t2 : q'.2 0 4 = m'.2 0 21 := hR.2.2.2.2.2.1
  have tt : L' (B + 1) 4 = lN (tm + d) := by
    have z := (hq 0 (by omega)).2
    rw [Nat.add_zero] at z
    rw [z, t2, ht, ← lN_add, ← h3]
    exact congrArg (· + lN d) t1.symm
  refine ⟨nt2, ns2, np2, c2, tm + d, fun j => if j = dc then nt2 else NT j, fun j => if j = dc then ns2 else NS j, fun j => if j = dc then np2 else NP j, g1, ⟨by omega, tt, by omega⟩, ⟨by rw [hx]; exact h5, ?_⟩, ⟨if_pos rfl, if_pos rfl, if_pos rfl⟩, fun a b hab hb => ?_, fun j hj => ?_⟩
  · have z := (hm 0 (by omega)).1
    rw [Nat.add_zero] at z
    rw [z, s26]
    exact h6
  · by_cases eb : b = dc
    · subst eb
      obtain ⟨z1, z2, z3⟩ := hN a b hab (Nat.le_refl _)
      by_cases ea : a = b
      · subst ea
        exact ⟨Nat.le_refl _, Nat.le_refl _, Nat.le_refl _⟩
      · simp only [ea, if_true, if_false]
        omega
    · have ea : ¬ a = dc := by omega
      simp only [ea, eb, if_false]
      exact hN a b hab hb
  · have ej : ¬ j = dc := by omega
    simp only [ej, if_false]
    obtain ⟨z1, z2, z3⟩ := hN j dc (by omega) (Nat.le_refl _)
    obtain ⟨c', tm', w1, w2, w3, w4⟩ := hD j hj
    have hAj := hA j hj
    refine ⟨c', tm', by omega, by omega, by rw [(ho _ hAj).2]; exact w3, w4.keep (cEq.of (fun k _ => (ho (A j + k) (by omega)).1) (fun k _ => (ho (A j + k) (by omega)).2)) (fun x hx => ?_) (fun y hy => ?_) (fun k y k1 k2 hy => ?_) (fun k y k1 k2 hy => ?_)⟩
    · show L' (B + 58 + 20) (164 * j + x) = L (B + 58 + 20) (164 * j + x)
      rw [(hm 20 (by omega)).2]
      exact s20 _ (by omega)
    · show I' (B + 58 + 1) y = I (B + 58 + 1) y
      rw [(hm 1 (by omega)).1]
      exact s1 y (by omega)
    · show I' (B + 58 + k) y = I (B + 58 + k) y
      rw [(hm k (by omega)).1]
      exact s2 k y k1 k2 (by omega)
    · show I' (B + 58 + k) y = I (B + 58 + k) y
      rw [(hm k (by omega)).1]
      exact s3 k y k1 k2 (by omega)
/-- memory behind the program's half of a call -/
def lwX1 (B : Nat) (I : tkI) (L : tkL) (q' : tkI × tkL) (I1 : tkI) (L1 : tkL) : Prop :=
  (∀ k, k < 28 → I1 (B + 1 + k) = q'.1 k ∧ L1 (B + 1 + k) = q'.2 k) ∧ (∀ k, k < 21 → I1 (B + 58 + k) = I (B + 58 + k) ∧ L1 (B + 58 + k) = L (B + 58 + k)) ∧ (∀ a, B + 81 ≤ a → I1 a = I a ∧ L1 a = L a) ∧ I1 B = I B
theorem lwX1.plant (B : Nat) (I : tkI) (L : tkL) (q' : tkI × tkL) : lwX1 B I L q' (reg (B + 1) 28 q'.1 I) (reg (B + 1) 28 q'.2 L) :=
  ⟨fun k hk => ⟨reg_at hk, reg_at hk⟩, fun k hk => ⟨reg_off (by omega), reg_off (by omega)⟩, fun a ha => ⟨reg_off (by omega), reg_off (by omega)⟩, reg_off (by omega)⟩
theorem lwX1.trial (B : Nat) (I : tkI) (L : tkL) (t : tkI × tkL) : lwX1 B I L (rw_ (B + 1) I, rw_ (B + 1) L) (reg (B + 29) 28 t.1 I) (reg (B + 29) 28 t.2 L) :=
  ⟨fun k hk => ⟨reg_off (by omega), reg_off (by omega)⟩, fun k hk => ⟨reg_off (by omega), reg_off (by omega)⟩, fun a ha => ⟨reg_off (by omega), reg_off (by omega)⟩, reg_off (by omega)⟩
theorem lwX1.same (B : Nat) (I : tkI) (L : tkL) : lwX1 B I L (rw_ (B + 1) I, rw_ (B + 1) L) I L := ⟨fun _ _ => ⟨rfl, rfl⟩, fun _ _ => ⟨rfl, rfl⟩, fun _ _ => ⟨rfl, rfl⟩, rfl⟩
/-- an answer is written -/
theorem lwX1.out {B o : Nat} {I I1 : tkI} {L L1 : tkL} {q' : tkI × tkL} (h : lwX1 B I L q' I1 L1) (ho : o = B + 79 ∨ o = B + 80) (x : Int64) : lwX1 B I L q' I1 (tk2 L1 o 0 x) := by
  obtain ⟨h1, h2, h3, h4⟩ := h
  have e : ∀ a, a ≠ o → tk2 L1 o 0 x a = L1 a := fun a ha => by funext j; exact tk2_ne ha
  exact ⟨fun k hk => ⟨(h1 k hk).1, (e _ (by omega)).trans (h1 k hk).2⟩, fun k hk => ⟨(h2 k hk).1, (e _ (by omega)).trans (h2 k hk).2⟩, fun a ha => ⟨(h3 a ha).1, (e _ (by omega)).trans (h3 a ha).2⟩, h4⟩
/-- both halves -/
theorem lwInv.step {B i dN nt ns np c tm dc : Nat} {σ σ' : tkM} {I I1 : tkI} {L L1 : tkL} {A NT NS NP : Nat → Nat} (hL : lwLay B σ A dN) (hd : dc ≤ dN) (h : lwSt B I L A i nt ns np c tm dc NT NS NP) {q' m' : tkI × tkL} (hx : lwX1 B I L q' I1 L1)
    (hs : staR nt ns np c (rw_ (B + 58) I, rw_ (B + 58) L) q' m') (e2 : σ'.2 = σ.2) (e1 : σ.1 ≤ σ'.1) : lwInv B (i + 1) σ' (reg (B + 58) 21 m'.1 I1) (reg (B + 58) 21 m'.2 L1) := by
  obtain ⟨x1, x2, x3, x4⟩ := hx
  have hL' := hL.grow e1
  rw [← e2] at hL'
  obtain ⟨-, -, -, -, -, -, ⟨-, d4⟩, -, hA, -⟩ := hL
  obtain ⟨nt2, ns2, np2, c2, tm2, NT2, NS2, NP2, g⟩ := h.step (I' := reg (B + 58) 21 m'.1 I1) (L' := reg (B + 58) 21 m'.2 L1) (by omega) (fun j hj => (hA j (by omega)).2.1) (q' := q') (m' := m') (fun k hk => ⟨(reg_off (by omega)).trans (x1 k hk).1, (reg_off (by omega)).trans (x1 k hk).2⟩) (fun k hk => ⟨reg_at hk, reg_at hk⟩)
    (fun a ha => ⟨(reg_off (by omega)).trans (x3 a ha).1, (reg_off (by omega)).trans (x3 a ha).2⟩) ((reg_off (by omega)).trans x4) hs
  exact ⟨A, dN, nt2, ns2, np2, c2, tm2, dc, NT2, NS2, NP2, hL', hd, g⟩
/-- the reference's half starts from its own block -/
theorem lwX1.ref {B : Nat} {I I1 : tkI} {L L1 : tkL} {q' : tkI × tkL} (h : lwX1 B I L q' I1 L1) : reg (B + 58) 21 (rw_ (B + 58) I) I1 = I1 ∧ reg (B + 58) 21 (rw_ (B + 58) L) L1 = L1 := ⟨reg_id fun k hk => (h.2.1 k hk).1, reg_id fun k hk => (h.2.1 k hk).2⟩
end TKINV

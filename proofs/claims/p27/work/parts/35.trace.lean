section TKTRACE
/-- one pump in the last tick: levels f before, f' behind it -/
def trStep (I : tkI) (i : Nat) (f f' : Nat → Int32) : Prop :=
  if sAct I i = 0 then f' = f else f' = mv2 (I 14 i) (I 22 i) (mv1 (I 13 i) (I 22 i) f) ∧ I 22 i = amt (I 13 i) (I 14 i) (I 15 i) f (I 2) ∧ (¬ I 13 i = -1 → I 23 i = f' (I 13 i).toNatClampNeg) ∧ (¬ I 14 i = -1 → I 24 i = I 2 (I 14 i).toNatClampNeg - f' (I 14 i).toNatClampNeg)
/-- what the scratch rows tell of the last tick -/
def wTr (nt np : Nat) (I : tkI) : Prop := ∃ f : Nat → Nat → Int32, eqR nt (I 6) (f 0) ∧ (∀ i, i ≤ np → lvB nt (f i) (I 2)) ∧ (∀ i, i < np → trStep I i (f i) (f (i + 1))) ∧ ∀ j, j < nt → I 3 j = f np j - jmin (I 4 j) (f np j)
theorem sMove_23 {i : Nat} {I : tkI} (h13 : ¬ I 13 i = -1) (hne : ¬ I 14 i = -1 → (I 13 i).toNatClampNeg ≠ (I 14 i).toNatClampNeg) : sMove i I 23 i = sMove i I 3 (I 13 i).toNatClampNeg := by
  rw [sMove_3]
  have e : sMove i I 23 i = I 3 (I 13 i).toNatClampNeg - amt (I 13 i) (I 14 i) (I 15 i) (I 3) (I 2) := by
    rw [← sMove_22]
    unfold sMove
    by_cases h14 : I 14 i = -1 <;> simp [tk2, h13, h14]
  rw [e]
  unfold mv1 mv2
  by_cases h14 : I 14 i = -1
  · simp [h13, h14]
  · have := hne h14
    simp [h13, h14, this]
theorem sMove_24 {i : Nat} {I : tkI} (h14 : ¬ I 14 i = -1) : sMove i I 24 i = I 2 (I 14 i).toNatClampNeg - sMove i I 3 (I 14 i).toNatClampNeg := by
  unfold sMove
  by_cases h13 : I 13 i = -1 <;> simp [tk2, h13, h14]
theorem sMv_own {k i : Nat} (h : i ≠ k) (q : tkI × tkL) : (sMv k q).1 22 i = q.1 22 i ∧ (sMv k q).1 23 i = q.1 23 i ∧ (sMv k q).1 24 i = q.1 24 i := by
  unfold sMv
  split
  · exact ⟨rfl, rfl, rfl⟩
  · unfold sMove
    refine ⟨?_, ?_, ?_⟩ <;> (dsimp only; split <;> split <;> simp [tk2, h])
theorem sMv_own_itr {i : Nat} (q : tkI × tkL) : ∀ n, i < n → (itr sMv n q).1 22 i = (itr sMv (i + 1) q).1 22 i ∧ (itr sMv n q).1 23 i = (itr sMv (i + 1) q).1 23 i ∧ (itr sMv n q).1 24 i = (itr sMv (i + 1) q).1 24 i
  | 0, h => absurd h (Nat.not_lt_zero i)
  | n + 1, h => by
    by_cases e : i = n
    · subst e
      exact ⟨rfl, rfl, rfl⟩
    · obtain ⟨a, b, c⟩ := sMv_own_itr (i := i) q n (by omega)
      rw [itr_s sMv n q]
      obtain ⟨a1, b1, c1⟩ := sMv_own e (itr sMv n q)
      exact ⟨a1.trans a, b1.trans b, c1.trans c⟩
theorem sAct_congr {I I' : tkI} (h17 : I' 17 = I 17) (h18 : I' 18 = I 18) (h11 : I' 11 = I 11) (i : Nat) : sAct I' i = sAct I i := by
  unfold sAct
  rw [h17, h18, h11]
theorem sMv_pMv {q : tkI × tkL} : ∀ n, pMv q.1 (itr sMv n q)
  | 0 => fun _ _ _ _ _ => rfl
  | n + 1 => sMv_keep (sMv_pMv n)
theorem wRel.trace {nt ns np c : Nat} {q m : tkI × tkL} (h : wRel nt ns np c q m) (hc : c + 10 < 2 ^ 62) : wTr nt np (sTick nt ns np q).1.1 := by
  have hns := h.1.1.2.1.2.2
  have h0 : wRel nt ns np c (sBef q.1, q.2) m := h
  have hf := itr_rel (f := sFol (q.2 0 4)) (g := mFol) (n := ns) (P := fun i a b => a.2 = b.2 ∧ ∃ c', c ≤ c' ∧ c' ≤ c + i ∧ wRel nt ns np c' a.1 b.1 ∧ a.1.2 0 4 = q.2 0 4) (fun i a b hi hp => by
    obtain ⟨qa, n1⟩ := a
    obtain ⟨mb, n2⟩ := b
    obtain ⟨e, c', h1, h2, h3, h4⟩ := hp
    dsimp only at e h3 h4
    subst e
    obtain ⟨e1, c2, g1, g2, g3, g4⟩ := h3.fol (by omega) hi n1 (q.2 0 4) h4.symm
    exact ⟨e1, c2, by omega, by omega, g3, g4.trans h4⟩) (k := ns) (Nat.le_refl _) (a := ((sBef q.1, q.2), 0)) (b := (m, 0)) ⟨rfl, c, Nat.le_refl _, by omega, h0, rfl⟩
  have f6 : (itr (sFol (q.2 0 4)) ns ((sBef q.1, q.2), 0)).1.1 6 = sBef q.1 6 := itr_keep (g := fun a : (tkI × tkL) × Int32 => a.1.1 6) (fun i a => sFol_keep (k := 6) _ i a (by decide) (by decide)) ns ((sBef q.1, q.2), 0)
  have f3 : (itr (sFol (q.2 0 4)) ns ((sBef q.1, q.2), 0)).1.1 3 = sBef q.1 3 := itr_keep (g := fun a : (tkI × tkL) × Int32 => a.1.1 3) (fun i a => sFol_keep (k := 3) _ i a (by decide) (by decide)) ns ((sBef q.1, q.2), 0)
  unfold sTick
  dsimp only
  generalize itr (sFol (q.2 0 4)) ns ((sBef q.1, q.2), 0) = fq at *
  generalize itr mFol ns (m, 0) = g at *
  obtain ⟨-, c', -, -, h3, -⟩ := hf
  have hp : ∀ i, i ≤ np → wRel nt ns np c' (itr sMv i fq.1) (itr mPump i g.1) := fun i hi => itr_rel (f := sMv) (g := mPump) (n := np) (P := fun _ a b => wRel nt ns np c' a b) (fun i a b hi hp => hp.pump hi) (k := i) hi (a := fq.1) (b := g.1) h3
  have hk : ∀ i k, k ≠ 3 → k ≠ 22 → k ≠ 23 → k ≠ 24 → (itr sMv i fq.1).1 k = fq.1.1 k := fun i => sMv_pMv i
  obtain ⟨s1, -, s3, -⟩ := sLeak_at (itr sMv np fq.1) nt
  generalize itr sLeak nt (itr sMv np fq.1) = r at *
  obtain ⟨I, L⟩ := r
  dsimp only at *
  have ik : ∀ k, k ≠ 3 → k ≠ 22 → k ≠ 23 → k ≠ 24 → I k = fq.1.1 k := fun k a b d e => (s3 k a).trans (hk np k a b d e)
  have hnt := h.1.1.1.2.2
  have hS := h3.1
  refine ⟨fun i => (itr sMv i fq.1).1 3, fun j hj => ?_, fun i hi => ?_, fun i hi => ?_, fun j hj => ?_⟩
  · show I 6 j = fq.1.1 3 j
    rw [ik 6 (by decide) (by decide) (by decide) (by decide), f6, f3]
    show tk1 q.1 6 (va_cpy (q.1 3) (q.1 6) 0 0 8) 6 j = tk1 q.1 6 (va_cpy (q.1 3) (q.1 6) 0 0 8) 3 j
    have e1 : tk1 q.1 6 (va_cpy (q.1 3) (q.1 6) 0 0 8) 6 = va_cpy (q.1 3) (q.1 6) 0 0 8 := if_pos rfl
    have e2 : tk1 q.1 6 (va_cpy (q.1 3) (q.1 6) 0 0 8) 3 = q.1 3 := if_neg (by decide)
    rw [e1, e2]
    exact cp_in (by omega)
  · have := (hp i hi).lvB
    rw [hk i 2 (by decide) (by decide) (by decide) (by decide)] at this
    rw [ik 2 (by decide) (by decide) (by decide) (by decide)]
    exact this
  · obtain ⟨o1, o2, o3⟩ := sMv_own_itr (i := i) fq.1 np hi
    have hA : sAct I i = sAct (itr sMv i fq.1).1 i := sAct_congr ((ik 17 (by decide) (by decide) (by decide) (by decide)).trans (hk i 17 (by decide) (by decide) (by decide) (by decide)).symm) ((ik 18 (by decide) (by decide) (by decide) (by decide)).trans (hk i 18 (by decide) (by decide) (by decide) (by decide)).symm) ((ik 11 (by decide) (by decide) (by decide) (by decide)).trans (hk i 11 (by decide) (by decide) (by decide) (by decide)).symm) i
    unfold trStep
    dsimp only
    rw [itr_s sMv i fq.1] at o1 o2 o3 ⊢
    rw [hA, s3 22 (by decide), s3 23 (by decide), s3 24 (by decide), o1, o2, o3]
    have q13 := (hk i 13 (by decide) (by decide) (by decide) (by decide)).trans (ik 13 (by decide) (by decide) (by decide) (by decide)).symm
    have q14 := (hk i 14 (by decide) (by decide) (by decide) (by decide)).trans (ik 14 (by decide) (by decide) (by decide) (by decide)).symm
    have q15 := (hk i 15 (by decide) (by decide) (by decide) (by decide)).trans (ik 15 (by decide) (by decide) (by decide) (by decide)).symm
    have q2 := (hk i 2 (by decide) (by decide) (by decide) (by decide)).trans (ik 2 (by decide) (by decide) (by decide) (by decide)).symm
    obtain ⟨hfr, hto, -, hne, -⟩ := (hp i (by omega)).1.2.2.2.2 i hi
    generalize itr sMv i fq.1 = a at *
    unfold sMv
    by_cases h0 : sAct a.1 i = 0
    · rw [if_pos h0, if_pos h0]
    · rw [if_neg h0, if_neg h0]
      dsimp only
      have hst : ¬ a.1 14 i = -1 → ¬ a.1 13 i = -1 → (a.1 13 i).toNatClampNeg ≠ (a.1 14 i).toNatClampNeg := by
        intro b d e
        obtain ⟨t, ht, et⟩ := hto.resolve_left b
        obtain ⟨s, hs, es⟩ := hfr.resolve_left d
        rw [es, et, nI_clamp (by omega), nI_clamp (by omega)] at e
        exact hne (by rw [es, et, e])
      rw [← q13, ← q14, ← q15, ← q2]
      exact ⟨by rw [sMove_22]; exact sMove_3 i a.1, sMove_22 i a.1, fun z => sMove_23 z (fun y => hst y z), fun z => sMove_24 z⟩
  · rw [s1 j, if_pos hj, ik 4 (by decide) (by decide) (by decide) (by decide), hk np 4 (by decide) (by decide) (by decide) (by decide)]
end TKTRACE

section TKDEPS
/-- what a saving of the reference leaves -/
theorem mSave_at {dc : Nat} {J : tkI} {K : tkL} (h : ¬ dc = 4) : (∀ r j, ¬ (r = 0 ∧ (j = 0 ∨ j = 26 ∨ j = 28)) → (mSave dc (J, K)).2.1 r j = J r j) ∧ (mSave dc (J, K)).2.1 0 26 = nI (dc + 1) ∧ (mSave dc (J, K)).2.1 0 0 = 0 ∧ (∀ r, r ≠ 20 → (mSave dc (J, K)).2.2 r = K r) ∧
    ∀ y, (mSave dc (J, K)).2.2 20 y = wr (164 * dc) 164 (ser (mT0 J) K) (K 20) y := by
  have e : mSave dc (J, K) = (nI (dc + 1), (tk2 (tk2 (mT0 J) 0 28 (nI (164 * dc + 164))) 0 26 (nI (dc + 1)), tk1 K 20 (wr (164 * dc) 164 (ser (mT0 J) K) (K 20)))) := if_neg h
  rw [e]
  refine ⟨fun r j z => ?_, by dsimp only; exact tk2_at, ?_, fun r hr => if_neg hr, fun y => ?_⟩
  · dsimp only
    rw [tk2_o (by omega), tk2_o (by omega)]
    exact z0.t0 J r j (by omega)
  · dsimp only
    rw [tk2_o (by omega), tk2_o (by omega)]
    exact mT0_0 J
  · show (if (20 : Nat) = 20 then wr (164 * dc) 164 (ser (mT0 J) K) (K 20) else K 20) y = _
    rw [if_pos rfl]
theorem lwSt.save {B i nt ns np c tm dc : Nat} {I I' : tkI} {L L' : tkL} {A A' NT NS NP : Nat → Nat} (h : lwSt B I L A i nt ns np c tm dc NT NS NP) (hd4 : dc < 4) (hA : ∀ j, j < dc → A' j = A j)
    (hp : ∀ k, k < 28 → I' (B + 1 + k) = I (B + 1 + k) ∧ L' (B + 1 + k) = L (B + 1 + k)) (hx : I' B 3 = nI (dc + 1)) (hm : ∀ k, k < 21 → I' (B + 58 + k) = (mSave dc (rw_ (B + 58) I, rw_ (B + 58) L)).2.1 k ∧ L' (B + 58 + k) = (mSave dc (rw_ (B + 58) I, rw_ (B + 58) L)).2.2 k)
    (hda : ∀ j, j < dc → ∀ k, k < 28 → I' (A j + k) = I (A j + k) ∧ L' (A j + k) = L (A j + k)) (hnew : cEq (rw_ (A' dc) I', rw_ (A' dc) L') (rw_ (B + 1) I, rw_ (B + 1) L)) :
    lwSt B I' L' A' (i + 1) nt ns np c tm (dc + 1) (fun j => if j = dc + 1 then nt else NT j) (fun j => if j = dc + 1 then ns else NS j) (fun j => if j = dc + 1 then np else NP j) := by
  obtain ⟨h1, ⟨h2, h3, h4⟩, ⟨h5, h6⟩, ⟨n1, n2, n3⟩, hN, hD⟩ := h
  obtain ⟨s1, s2, s3, s4, s5⟩ := mSave_at (J := rw_ (B + 58) I) (K := rw_ (B + 58) L) (show ¬ dc = 4 by omega)
  generalize mSave dc (rw_ (B + 58) I, rw_ (B + 58) L) = S at *
  have J' : ∀ r j, r < 21 → ¬ (r = 0 ∧ (j = 0 ∨ j = 26 ∨ j = 28)) → rw_ (B + 58) I' r j = rw_ (B + 58) I r j := fun r j hr z => by
    show I' (B + 58 + r) j = _
    rw [(hm r hr).1, s1 r j z]
  have K' : ∀ r, r < 21 → r ≠ 20 → rw_ (B + 58) L' r = rw_ (B + 58) L r := fun r hr z => by
    show L' (B + 58 + r) = _
    rw [(hm r hr).2, s4 r z]
  have K20 : ∀ y, L' (B + 78) y = wr (164 * dc) 164 (ser (mT0 (rw_ (B + 58) I)) (rw_ (B + 58) L)) (L (B + 78)) y := fun y => by
    show L' (B + 58 + 20) y = _
    rw [(hm 20 (by omega)).2, s5 y]
    rfl
  have g1 : wRel nt ns np c (rw_ (B + 1) I', rw_ (B + 1) L') (rw_ (B + 58) I', rw_ (B + 58) L') := by
    refine (h1.mcongr (m' := (rw_ (B + 58) I', rw_ (B + 58) L')) (fun r j hr => J' r j (rlI_lt hr) (fun z => by unfold rlI at hr; omega)) (fun r j hr => ?_)).core (cEq.of (fun k hk => (hp k hk).1) (fun k hk => (hp k hk).2))
    have hr20 : r ≠ 20 := fun z => by unfold rlL at hr; omega
    exact congrFun (K' r (rlL_lt hr) hr20) j
  have tt : L' (B + 1) 4 = lN tm := by
    have z := (hp 0 (by omega)).2
    rw [Nat.add_zero] at z
    rw [z]
    exact h3
  refine ⟨g1, ⟨by omega, tt, by omega⟩, ⟨hx, ?_⟩, ⟨if_pos rfl, if_pos rfl, if_pos rfl⟩, fun a b hab hb => ?_, fun j hj => ?_⟩
  · have z := (hm 0 (by omega)).1
    rw [Nat.add_zero] at z
    rw [z]
    exact s2
  · by_cases eb : b = dc + 1
    · subst eb
      by_cases ea : a = dc + 1
      · subst ea
        exact ⟨Nat.le_refl _, Nat.le_refl _, Nat.le_refl _⟩
      · obtain ⟨z1, z2, z3⟩ := hN a dc (by omega) (Nat.le_refl _)
        simp only [ea, if_true, if_false]
        omega
    · have ea : ¬ a = dc + 1 := by omega
      simp only [ea, eb, if_false]
      exact hN a b hab (by omega)
  · have ej : ¬ j = dc + 1 := by omega
    simp only [ej, if_false]
    by_cases e : j = dc
    · subst e
      refine ⟨c, tm, by omega, by omega, ?_, ?_⟩
      · have z := hnew.2.2
        have z : L' (A' j) 4 = L (B + 1) 4 := z
        rw [z]
        exact h3
      · rw [n1, n2, n3]
        refine (SN.save (J := mT0 (rw_ (B + 58) I)) (K := rw_ (B + 58) L) (h1.z0 (z0.t0 _)) (fun x hx => ?_) (fun k y k1 k2 => ?_)).core hnew
        · rw [K20]
          unfold wr
          rw [if_pos (by omega), Nat.add_sub_cancel_left]
        · rw [J' k y (by omega) (by omega)]
          exact (z0.t0 _ k y (by omega)).symm
    · obtain ⟨c', tm', w1, w2, w3, w4⟩ := hD j (by omega)
      have eA := hA j (by omega)
      have hj' : j < dc := by omega
      refine ⟨c', tm', by omega, by omega, ?_, ?_⟩
      · have z := (hda j hj' 0 (by omega)).2
        rw [Nat.add_zero] at z
        rw [eA, z]
        exact w3
      · rw [eA]
        refine w4.keep (cEq.of (fun k hk => (hda j hj' k hk).1) (fun k hk => (hda j hj' k hk).2)) (fun x hx => ?_) (fun y _ => J' 1 y (by omega) (by omega)) (fun k y k1 k2 _ => J' k y (by omega) (by omega)) (fun k y k1 k2 _ => J' k y (by omega) (by omega))
        rw [K20]
        unfold wr
        rw [if_neg (by omega)]
theorem lwSt.rest {B i nt ns np c tm e : Nat} {I I' : tkI} {L L' : tkL} {A NT NS NP : Nat → Nat} (h : lwSt B I L A i nt ns np c tm (e + 1) NT NS NP) (hd4 : e < 4)
    (hp : cEq (rw_ (B + 1) I', rw_ (B + 1) L') (rw_ (A e) I, rw_ (A e) L)) (hx : I' B 3 = nI e) (hm : ∀ k, k < 21 → I' (B + 58 + k) = (mRest (e + 1) (rw_ (B + 58) I, rw_ (B + 58) L)).2.1 k ∧ L' (B + 58 + k) = (mRest (e + 1) (rw_ (B + 58) I, rw_ (B + 58) L)).2.2 k)
    (hda : ∀ j, j < e → ∀ k, k < 28 → I' (A j + k) = I (A j + k) ∧ L' (A j + k) = L (A j + k)) : ∃ c' tm', lwSt B I' L' A (i + 1) (NT e) (NS e) (NP e) c' tm' e NT NS NP := by
  obtain ⟨h1, ⟨h2, h3, h4⟩, ⟨h5, h6⟩, ⟨n1, n2, n3⟩, hN, hD⟩ := h
  have eR : mRest (e + 1) (rw_ (B + 58) I, rw_ (B + 58) L) = (nI e, mRd (164 * e) 164 (tk2 (tk2 (mT0 (rw_ (B + 58) I)) 0 26 (nI e)) 0 28 (nI (164 * e + 0)), rw_ (B + 58) L)) := if_neg (by omega)
  rw [eR] at hm
  dsimp only at hm
  obtain ⟨M, eM⟩ : ∃ M : tkI × tkL, M = (tk2 (tk2 (mT0 (rw_ (B + 58) I)) 0 26 (nI e)) 0 28 (nI (164 * e + 0)), rw_ (B + 58) L) := ⟨_, rfl⟩
  rw [← eM] at hm
  have M1 : ∀ r j, 1 ≤ r → M.1 r j = rw_ (B + 58) I r j := fun r j hr => by
    rw [eM]
    show tk2 (tk2 (mT0 (rw_ (B + 58) I)) 0 26 (nI e)) 0 28 (nI (164 * e + 0)) r j = _
    rw [tk2_o (by omega), tk2_o (by omega)]
    exact z0.t0 _ r j (by omega)
  have M26 : M.1 0 26 = nI e := by
    rw [eM]
    show tk2 (tk2 (mT0 (rw_ (B + 58) I)) 0 26 (nI e)) 0 28 (nI (164 * e + 0)) 0 26 = _
    rw [tk2_o (by omega), tk2_at]
  have M2 : M.2 = rw_ (B + 58) L := by rw [eM]
  obtain ⟨c', tm', w1, w2, w3, w4⟩ := hD e (Nat.lt_succ_self _)
  have hSN : SN (NT e) (NS e) (NP e) c' (rw_ (A e) I, rw_ (A e) L) M.1 (fun x => M.2 20 (164 * e + x)) := w4.keep (cEq.of (fun _ _ => rfl) (fun _ _ => rfl)) (fun x _ => by rw [M2]; rfl) (fun y _ => M1 1 y (by omega)) (fun k y k1 k2 _ => M1 k y (by omega)) (fun k y k1 k2 _ => M1 k y (by omega))
  have hR := hSN.read
  have h26 := mRd_26 (164 * e) M 164
  obtain ⟨d1, d2⟩ := mRd_all (164 * e) M
  have st : ∀ r j, 1 ≤ r → r ≤ 9 → (mRd (164 * e) 164 M).1 r j = rw_ (B + 58) I r j := fun r j a b => by
    rw [d1 r j (by omega)]
    show (if ixI r j < 164 then vaI r (M.2 20 (164 * e + ixI r j)) else M.1 r j) = _
    rw [if_neg (ixI_st (by omega)), M1 r j a]
  have s20 : ∀ y, (mRd (164 * e) 164 M).2 20 y = L (B + 78) y := fun y => by
    rw [d2 20 y]
    show (if ixL 20 y < 164 then M.2 20 (164 * e + ixL 20 y) else M.2 20 y) = _
    rw [if_neg (show ¬ ixL 20 y < 164 from Nat.lt_irrefl 164), M2]
    rfl
  generalize mRd (164 * e) 164 M = S at *
  have g1 : wRel (NT e) (NS e) (NP e) c' (rw_ (B + 1) I', rw_ (B + 1) L') (rw_ (B + 58) I', rw_ (B + 58) L') := (hR.moved (q' := (rw_ (A e) I, rw_ (A e) L)) (m' := (rw_ (B + 58) I', rw_ (B + 58) L')) (fun _ _ => rfl) (fun _ _ => rfl) (fun k hk => (hm k hk).1) (fun k hk => (hm k hk).2)).core hp
  refine ⟨c', tm', g1, ⟨by omega, ?_, by omega⟩, ⟨hx, ?_⟩, ⟨rfl, rfl, rfl⟩, fun a b hab hb => hN a b hab (by omega), fun j hj => ?_⟩
  · have z : L' (B + 1) 4 = L (A e) 4 := hp.2.2
    rw [z]
    exact w3
  · have z := (hm 0 (by omega)).1
    rw [Nat.add_zero] at z
    rw [z, h26]
    exact M26
  · obtain ⟨c2, tm2, v1, v2, v3, v4⟩ := hD j (by omega)
    refine ⟨c2, tm2, by omega, by omega, ?_, v4.keep (cEq.of (fun k hk => (hda j hj k hk).1) (fun k hk => (hda j hj k hk).2)) (fun x hx => ?_) (fun y _ => ?_) (fun k y k1 k2 _ => ?_) (fun k y k1 k2 _ => ?_)⟩
    · have z := (hda j hj 0 (by omega)).2
      rw [Nat.add_zero] at z
      rw [z]
      exact v3
    · show L' (B + 58 + 20) (164 * j + x) = _
      rw [(hm 20 (by omega)).2]
      exact s20 _
    · show I' (B + 58 + 1) y = _
      rw [(hm 1 (by omega)).1]
      exact st 1 y (by omega) (by omega)
    · show I' (B + 58 + k) y = _
      rw [(hm k (by omega)).1]
      exact st k y (by omega) (by omega)
    · show I' (B + 58 + k) y = _
      rw [(hm k (by omega)).1]
      exact st k y (by omega) (by omega)
end TKDEPS

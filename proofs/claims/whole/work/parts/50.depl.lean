section TKDEPL
variable {B i : Nat} {σ : tkM} {I : tkI} {L : tkL}
theorem l_save (h : lwInv B i σ I L) (hi : i ≤ 512) :
    lwPair (.codeWith yL_save cL_save 3 (some .int) [(0, 8, 11, 15)]) yL_save [.ref B, .ref (B + 79)] (.code yX6_save cX6_save 1 (some .int)) yX6_save 3 [.ref (B + 58)] Int32 Value.int (fun b L2 => L2 (B + 79) 0 = b.toInt64) B (lwInv B (i + 1)) σ I L := by
  obtain ⟨A, dN, nt, ns, np, c, tm, dc, NT, NS, NP, hL, hd, hS⟩ := h
  have hr := hS.1
  have hx3 : I B 3 = nI dc := hS.2.2.1.1
  have hJ : rw_ (B + 58) I 0 26 = nI dc := hS.2.2.1.2
  obtain ⟨l1, l2, l3, l4, l5, l6, ⟨l7, l8⟩, l9, l10, l11⟩ := id hL
  by_cases h4 : dc = 4
  · subst h4
    have hX := c_X5_save_full (σ := σ) (x := B) (p := B + 1) (t := B + 29) (dd := B + 57) (v := I) (w := L) l1 (by rw [hx3]; rfl)
    have hMC := fun n I1 L1 => c_X6_save (σ := (n, σ.2)) (r := B + 58) (J := rw_ (B + 58) I) (K := rw_ (B + 58) L) (v := I1) (w := L1) l4 hJ (Nat.le_refl 4)
    have eS : mSave 4 (rw_ (B + 58) I, rw_ (B + 58) L) = mFail 1 (rw_ (B + 58) I, rw_ (B + 58) L) := if_pos rfl
    rw [eS] at hMC
    exact .mk' hL hd hS (by omega) (by omega) (w_save_ise l1.1 hX) (lwX1.same B I L) (fun n => hMC n _ _) (mTh_0 1 (rw_ (B + 58) I)) (fun z => absurd z (by decide)) (staR.fail hr 1)
  · have hdc : dc < 4 := by omega
    have eb : (mSave dc (rw_ (B + 58) I, rw_ (B + 58) L)).1 = nI (dc + 1) := by
      unfold mSave
      rw [if_neg h4]
    have m00 := (mSave_at (J := rw_ (B + 58) I) (K := rw_ (B + 58) L) h4).2.2.1
    by_cases hold : dc < dN
    · obtain ⟨a1, a2, a3⟩ := l10 dc hold
      have hrr : σ.2.2 (B + 57) dc = some (A dc) := by rw [l9 dc hdc, if_pos hold]
      have hX := c_X5_save_old (σ := σ) (x := B) (p := B + 1) (t := B + 29) (dd := B + 57) (a := A dc) (j := dc) (I0 := rw_ (A dc) I) (v := I) (L0 := rw_ (A dc) L) (w := L) l1 l2 a1 (Or.inl (by omega)) hdc hx3 (Or.inl (by omega)) l5 hrr
      rw [reg_rw, reg_rw] at hX
      have hw := w_save_ok l1.1 l6.1 _ hX
      have hI1 : ∀ a, a ≠ B → (a < A dc ∨ A dc + 28 ≤ a) → reg (A dc) 28 (sCpI (fun k => I (B + 1 + k)) (rw_ (A dc) I)) (tk2 I B 3 (nI (dc + 1))) a = I a := fun a z1 z2 => by
        rw [reg_off z2]
        funext j
        exact tk2_ne z1
      have hL1 : ∀ a, a ≠ B + 79 → (a < A dc ∨ A dc + 28 ≤ a) → tk2 (reg (A dc) 28 (sCpL (fun k => L (B + 1 + k)) (rw_ (A dc) L)) L) (B + 79) 0 (nI (dc + 1)).toInt64 a = L a := fun a z1 z2 => by
        rw [← reg_off (f := sCpL (fun k => L (B + 1 + k)) (rw_ (A dc) L)) (v := L) z2]
        funext j
        exact tk2_ne z1
      have hI2 : ∀ k, k < 28 → reg (A dc) 28 (sCpI (fun k => I (B + 1 + k)) (rw_ (A dc) I)) (tk2 I B 3 (nI (dc + 1))) (A dc + k) = sCpI (fun k => I (B + 1 + k)) (rw_ (A dc) I) k := fun k hk => reg_at hk
      have hL2 : ∀ k, k < 28 → tk2 (reg (A dc) 28 (sCpL (fun k => L (B + 1 + k)) (rw_ (A dc) L)) L) (B + 79) 0 (nI (dc + 1)).toInt64 (A dc + k) = sCpL (fun k => L (B + 1 + k)) (rw_ (A dc) L) k := fun k hk => by
        rw [← reg_at (p := A dc) (f := sCpL (fun k => L (B + 1 + k)) (rw_ (A dc) L)) (v := L) hk]
        funext j
        exact tk2_ne (by omega)
      have hB3 : reg (A dc) 28 (sCpI (fun k => I (B + 1 + k)) (rw_ (A dc) I)) (tk2 I B 3 (nI (dc + 1))) B 3 = nI (dc + 1) := (congrFun (reg_off (Or.inl (by omega))) 3).trans tk2_at
      have ho : tk2 (reg (A dc) 28 (sCpL (fun k => L (B + 1 + k)) (rw_ (A dc) L)) L) (B + 79) 0 (nI (dc + 1)).toInt64 (B + 79) 0 = (nI (dc + 1)).toInt64 := tk2_at
      generalize reg (A dc) 28 (sCpI (fun k => I (B + 1 + k)) (rw_ (A dc) I)) (tk2 I B 3 (nI (dc + 1))) = I1 at *
      generalize tk2 (reg (A dc) 28 (sCpL (fun k => L (B + 1 + k)) (rw_ (A dc) L)) L) (B + 79) 0 (nI (dc + 1)).toInt64 = L1 at *
      have r1 : reg (B + 58) 21 (rw_ (B + 58) I) I1 = I1 := reg_id fun k hk => hI1 _ (by omega) (Or.inl (by omega))
      have r2 : reg (B + 58) 21 (rw_ (B + 58) L) L1 = L1 := reg_id fun k hk => hL1 _ (by omega) (Or.inl (by omega))
      have hMC := fun n => c_X6_save (σ := (n, σ.2)) (r := B + 58) (J := rw_ (B + 58) I) (K := rw_ (B + 58) L) (v := I1) (w := L1) l4 hJ (by omega)
      rw [r1, r2, eb] at hMC
      refine ⟨0, 0, 0, σ, I1, L1, nI (dc + 1), _, _, ⟨by omega, by omega⟩, hw, fun n _ => hMC n, (congrFun (reg_at (k := 0) (by decide)) 0).trans m00, fun _ => (congrFun (reg_off (by omega)) 0).trans ho, ⟨l4, l6⟩, fun n hn => ⟨A, dN, nt, ns, np, c, tm, dc + 1, fun j => if j = dc + 1 then nt else NT j, fun j => if j = dc + 1 then ns else NS j, fun j => if j = dc + 1 then np else NP j, hL.grow hn, by omega, ?_⟩⟩
      refine hS.save hdc (fun _ _ => rfl) (fun k hk => ?_) ((congrFun (reg_off (by omega)) 3).trans hB3) (fun k hk => ⟨reg_at hk, reg_at hk⟩) (fun j hj k hk => ?_) ?_
      · exact ⟨(reg_off (by omega)).trans (hI1 _ (by omega) (Or.inl (by omega))), (reg_off (by omega)).trans (hL1 _ (by omega) (Or.inl (by omega)))⟩
      · have b1 := (l10 j (by omega)).2.1
        have b2 := l11 j dc hj hold
        exact ⟨(reg_off (by omega)).trans (hI1 _ (by omega) (Or.inl (by omega))), (reg_off (by omega)).trans (hL1 _ (by omega) (Or.inl (by omega)))⟩
      · refine cEq.trans (cEq.of (b := (sCpI (fun k => I (B + 1 + k)) (rw_ (A dc) I), sCpL (fun k => L (B + 1 + k)) (rw_ (A dc) L))) (fun k hk => (reg_off (by omega)).trans (hI2 k hk)) (fun k hk => (reg_off (by omega)).trans (hL2 k hk))) ?_
        exact sCp_core (rw_ (B + 1) I, rw_ (B + 1) L) (rw_ (A dc) I, rw_ (A dc) L)
    · have edn : dc = dN := by omega
      have hrr : σ.2.2 (B + 57) dc = none := by rw [l9 dc hdc, if_neg hold]
      have hX := c_X5_save_new (σ := σ) (x := B) (p := B + 1) (t := B + 29) (dd := B + 57) (j := dc) (v := I) (w := L) l1 l2 (by omega) (by omega) (by omega) (Or.inr (by omega)) (by omega) hdc hx3 l5 hrr
      have oT : ∀ a, a < σ.1 → (nDe σ (B + 57) dc).2.1 a = σ.2.1 a := fun a ha => rgS_off (Or.inl ha)
      have oR : ∀ a, a < σ.1 → a ≠ B + 57 → (nDe σ (B + 57) dc).2.2 a = σ.2.2 a := fun a ha hne => by
        have e1 : (nDe σ (B + 57) dc).2.2 a = tk2 σ.2.2 (B + 57) dc (some σ.1) a := reg_off (Or.inl ha)
        rw [e1]
        funext j
        exact tk2_ne hne
      have oD : ∀ j, (nDe σ (B + 57) dc).2.2 (B + 57) j = if j = dc then some σ.1 else σ.2.2 (B + 57) j := fun j => by
        have e1 : (nDe σ (B + 57) dc).2.2 (B + 57) = tk2 σ.2.2 (B + 57) dc (some σ.1) (B + 57) := reg_off (Or.inl (by omega))
        rw [e1]
        by_cases z : j = dc
        · rw [if_pos z, z]
          exact tk2_at
        · rw [if_neg z]
          exact tk2_o (fun y => z y.2)
      have oA : tkReg 28 pT pF (nDe σ (B + 57) dc) σ.1 := ⟨fun k hk => rgS_at hk, fun k j9 o hk h => by
        show reg σ.1 28 (rPl σ.1 (rOb 0 zR)) (tk2 σ.2.2 (B + 57) dc (some σ.1)) (σ.1 + k) j9 = _
        rw [reg_at hk]
        exact rPl_F _ _ h⟩
      have oz : (nDe σ (B + 57) dc).1 = σ.1 + 28 := rfl
      have l6' : (nDe σ (B + 57) dc).2.1 (B + 79) = (11, 1) ∧ (nDe σ (B + 57) dc).2.1 (B + 80) = (13, 1) := ⟨(oT _ (by omega)).trans l6.1, (oT _ (by omega)).trans l6.2⟩
      have l4' : tkReg 21 mT mF (nDe σ (B + 57) dc) (B + 58) := l4.old (fun a _ _ => oT a (by omega)) (fun a j _ _ => by rw [oR a (by omega) (by omega)])
      have hw := w_save_ok l1.1 l6'.1 _ hX
      have hLn : lwLay B (nDe σ (B + 57) dc) (fun j => if j = dc then σ.1 else A j) (dN + 1) := by
        refine ⟨⟨(oT _ (by omega)).trans l1.1, by rw [oR B (by omega) (by omega)]; exact l1.2.1, by rw [oR B (by omega) (by omega)]; exact l1.2.2.1, by rw [oR B (by omega) (by omega)]; exact l1.2.2.2⟩, l2.old (fun a _ _ => oT a (by omega)) (fun a j _ _ => by rw [oR a (by omega) (by omega)]), l3.old (fun a _ _ => oT a (by omega)) (fun a j _ _ => by rw [oR a (by omega) (by omega)]), l4', (oT _ (by omega)).trans l5, l6', ⟨by rw [oz]; omega, by omega⟩, fun j hj => ?_, fun j hj => ?_, fun a b hab hb => ?_⟩
        · rw [oD j]
          by_cases z : j = dc
          · rw [if_pos z, if_pos (by omega)]
            simp only [z, if_true]
          · rw [if_neg z, l9 j hj]
            by_cases y : j < dN
            · rw [if_pos y, if_pos (by omega)]
              simp only [z, if_false]
            · rw [if_neg y, if_neg (by omega)]
        · by_cases z : j = dc
          · simp only [z, if_true]
            exact ⟨oA, l7, by rw [oz]; omega⟩
          · simp only [z, if_false]
            obtain ⟨b1, b2, b3⟩ := l10 j (by omega)
            exact ⟨b1.old (fun a _ _ => oT a (by omega)) (fun a j _ _ => by rw [oR a (by omega) (by omega)]), b2, by rw [oz]; omega⟩
        · have za : ¬ a = dc := by omega
          simp only [za, if_false]
          by_cases z : b = dc
          · simp only [z, if_true]
            exact (l10 a (by omega)).2.2
          · simp only [z, if_false]
            exact l11 a b hab (by omega)
      have hI1 : ∀ a, a ≠ B → a < σ.1 → reg σ.1 28 (sCpI (fun k => I (B + 1 + k)) zI) (tk2 I B 3 (nI (dc + 1))) a = I a := fun a z1 z2 => by
        rw [reg_off (Or.inl z2)]
        funext j
        exact tk2_ne z1
      have hL1 : ∀ a, a ≠ B + 79 → a < σ.1 → tk2 (reg σ.1 28 (sCpL (fun k => L (B + 1 + k)) zL) L) (B + 79) 0 (nI (dc + 1)).toInt64 a = L a := fun a z1 z2 => by
        rw [← reg_off (f := sCpL (fun k => L (B + 1 + k)) zL) (v := L) (Or.inl z2) (N := 28)]
        funext j
        exact tk2_ne z1
      have hI2 : ∀ k, k < 28 → reg σ.1 28 (sCpI (fun k => I (B + 1 + k)) zI) (tk2 I B 3 (nI (dc + 1))) (σ.1 + k) = sCpI (fun k => I (B + 1 + k)) zI k := fun k hk => reg_at hk
      have hL2 : ∀ k, k < 28 → tk2 (reg σ.1 28 (sCpL (fun k => L (B + 1 + k)) zL) L) (B + 79) 0 (nI (dc + 1)).toInt64 (σ.1 + k) = sCpL (fun k => L (B + 1 + k)) zL k := fun k hk => by
        rw [← reg_at (p := σ.1) (f := sCpL (fun k => L (B + 1 + k)) zL) (v := L) hk]
        funext j
        exact tk2_ne (by omega)
      have hB3 : reg σ.1 28 (sCpI (fun k => I (B + 1 + k)) zI) (tk2 I B 3 (nI (dc + 1))) B 3 = nI (dc + 1) := (congrFun (reg_off (Or.inl (by omega))) 3).trans tk2_at
      have ho : tk2 (reg σ.1 28 (sCpL (fun k => L (B + 1 + k)) zL) L) (B + 79) 0 (nI (dc + 1)).toInt64 (B + 79) 0 = (nI (dc + 1)).toInt64 := tk2_at
      generalize reg σ.1 28 (sCpI (fun k => I (B + 1 + k)) zI) (tk2 I B 3 (nI (dc + 1))) = I1 at *
      generalize tk2 (reg σ.1 28 (sCpL (fun k => L (B + 1 + k)) zL) L) (B + 79) 0 (nI (dc + 1)).toInt64 = L1 at *
      have r1 : reg (B + 58) 21 (rw_ (B + 58) I) I1 = I1 := reg_id fun k hk => hI1 _ (by omega) (by omega)
      have r2 : reg (B + 58) 21 (rw_ (B + 58) L) L1 = L1 := reg_id fun k hk => hL1 _ (by omega) (by omega)
      generalize nDe σ (B + 57) dc = σ1 at *
      have hMC := fun n => c_X6_save (σ := (n, σ1.2)) (r := B + 58) (J := rw_ (B + 58) I) (K := rw_ (B + 58) L) (v := I1) (w := L1) l4' hJ (by omega)
      rw [r1, r2, eb] at hMC
      refine ⟨0, 28, 364, σ1, I1, L1, nI (dc + 1), _, _, ⟨by omega, by omega⟩, hw, fun n _ => hMC n, (congrFun (reg_at (k := 0) (by decide)) 0).trans m00, fun _ => (congrFun (reg_off (by omega)) 0).trans ho, ⟨l4', l6'⟩, fun n hn => ⟨fun j => if j = dc then σ.1 else A j, dN + 1, nt, ns, np, c, tm, dc + 1, fun j => if j = dc + 1 then nt else NT j, fun j => if j = dc + 1 then ns else NS j, fun j => if j = dc + 1 then np else NP j, hLn.grow hn, by omega, ?_⟩⟩
      refine hS.save hdc (fun j hj => if_neg (by omega)) (fun k hk => ?_) ((congrFun (reg_off (by omega)) 3).trans hB3) (fun k hk => ⟨reg_at hk, reg_at hk⟩) (fun j hj k hk => ?_) ?_
      · exact ⟨(reg_off (by omega)).trans (hI1 _ (by omega) (by omega)), (reg_off (by omega)).trans (hL1 _ (by omega) (by omega))⟩
      · obtain ⟨-, b1, b2⟩ := l10 j (by omega)
        exact ⟨(reg_off (by omega)).trans (hI1 _ (by omega) (by omega)), (reg_off (by omega)).trans (hL1 _ (by omega) (by omega))⟩
      · simp only [if_true]
        refine cEq.trans (cEq.of (b := (sCpI (fun k => I (B + 1 + k)) zI, sCpL (fun k => L (B + 1 + k)) zL)) (fun k hk => (reg_off (by omega)).trans (hI2 k hk)) (fun k hk => (reg_off (by omega)).trans (hL2 k hk))) ?_
        exact sCp_core (rw_ (B + 1) I, rw_ (B + 1) L) (zI, zL)
theorem l_restore (h : lwInv B i σ I L) (hi : i ≤ 512) :
    lwPair (.codeWith yL_restore cL_restore 3 (some .int) [(0, 8, 11, 15)]) yL_restore [.ref B, .ref (B + 79)] (.code yX6_restore cX6_restore 1 (some .int)) yX6_restore 3 [.ref (B + 58)] Int32 Value.int (fun b L2 => L2 (B + 79) 0 = b.toInt64) B (lwInv B (i + 1)) σ I L := by
  obtain ⟨A, dN, nt, ns, np, c, tm, dc, NT, NS, NP, hL, hd, hS⟩ := h
  have hr := hS.1
  have hx3 : I B 3 = nI dc := hS.2.2.1.1
  have hJ : rw_ (B + 58) I 0 26 = nI dc := hS.2.2.1.2
  obtain ⟨l1, l2, l3, l4, l5, l6, ⟨l7, l8⟩, l9, l10, l11⟩ := id hL
  cases dc with
  | zero =>
    have hX := c_X5_restore_none (σ := σ) (x := B) (p := B + 1) (t := B + 29) (dd := B + 57) (v := I) (w := L) l1 (by rw [hx3]; rfl)
    have hMC := fun n I1 L1 => c_X6_restore (σ := (n, σ.2)) (r := B + 58) (J := rw_ (B + 58) I) (K := rw_ (B + 58) L) (v := I1) (w := L1) l4 hJ (Nat.zero_le 4)
    have eS : mRest 0 (rw_ (B + 58) I, rw_ (B + 58) L) = mFail 1 (rw_ (B + 58) I, rw_ (B + 58) L) := if_pos rfl
    rw [eS] at hMC
    exact .mk' hL hd hS (by omega) (by omega) (w_restore_ise l1.1 hX) (lwX1.same B I L) (fun n => hMC n _ _) (mTh_0 1 (rw_ (B + 58) I)) (fun z => absurd z (by decide)) (staR.fail hr 1)
  | succ e =>
    obtain ⟨a1, a2, a3⟩ := l10 e (by omega)
    have hrr : σ.2.2 (B + 57) e = some (A e) := by rw [l9 e (by omega), if_pos (by omega)]
    have hX := c_X5_restore (σ := σ) (x := B) (p := B + 1) (t := B + 29) (dd := B + 57) (a := A e) (j := e) (I0 := rw_ (B + 1) I) (v := I) (L0 := rw_ (B + 1) L) (w := L) l1 l2 a1 (Or.inr (by omega)) (by omega) hx3 (Or.inl (by omega)) l5 hrr
    rw [reg_rw, reg_rw] at hX
    have hw := w_restore_ok l1.1 l6.1 _ hX
    have eb : (mRest (e + 1) (rw_ (B + 58) I, rw_ (B + 58) L)).1 = nI e := by
      unfold mRest
      rw [if_neg (by omega)]
      rfl
    have m00 : (mRest (e + 1) (rw_ (B + 58) I, rw_ (B + 58) L)).2.1 0 0 = 0 := by
      have eR : mRest (e + 1) (rw_ (B + 58) I, rw_ (B + 58) L) = (nI e, mRd (164 * e) 164 (tk2 (tk2 (mT0 (rw_ (B + 58) I)) 0 26 (nI e)) 0 28 (nI (164 * e + 0)), rw_ (B + 58) L)) := if_neg (by omega)
      rw [eR]
      dsimp only
      rw [(mRd_all (164 * e) (tk2 (tk2 (mT0 (rw_ (B + 58) I)) 0 26 (nI e)) 0 28 (nI (164 * e + 0)), rw_ (B + 58) L)).1 0 0 (by omega)]
      show (if ixI 0 0 < 164 then _ else tk2 (tk2 (mT0 (rw_ (B + 58) I)) 0 26 (nI e)) 0 28 (nI (164 * e + 0)) 0 0) = 0
      rw [if_neg (show ¬ ixI 0 0 < 164 from Nat.lt_irrefl 164), tk2_o (by omega), tk2_o (by omega)]
      exact mT0_0 _
    have hI1 : ∀ a, a ≠ B → (a < B + 1 ∨ B + 29 ≤ a) → reg (B + 1) 28 (sCpI (fun k => I (A e + k)) (rw_ (B + 1) I)) (tk2 I B 3 (nI e)) a = I a := fun a z1 z2 => by
      rw [reg_off (by omega)]
      funext j
      exact tk2_ne z1
    have hL1 : ∀ a, a ≠ B + 79 → (a < B + 1 ∨ B + 29 ≤ a) → tk2 (reg (B + 1) 28 (sCpL (fun k => L (A e + k)) (rw_ (B + 1) L)) L) (B + 79) 0 (nI e).toInt64 a = L a := fun a z1 z2 => by
      rw [← reg_off (p := B + 1) (N := 28) (f := sCpL (fun k => L (A e + k)) (rw_ (B + 1) L)) (v := L) (a := a) (by omega)]
      funext j
      exact tk2_ne z1
    have hI2 : ∀ k, k < 28 → reg (B + 1) 28 (sCpI (fun k => I (A e + k)) (rw_ (B + 1) I)) (tk2 I B 3 (nI e)) (B + 1 + k) = sCpI (fun k => I (A e + k)) (rw_ (B + 1) I) k := fun k hk => reg_at hk
    have hL2 : ∀ k, k < 28 → tk2 (reg (B + 1) 28 (sCpL (fun k => L (A e + k)) (rw_ (B + 1) L)) L) (B + 79) 0 (nI e).toInt64 (B + 1 + k) = sCpL (fun k => L (A e + k)) (rw_ (B + 1) L) k := fun k hk => by
      rw [← reg_at (p := B + 1) (f := sCpL (fun k => L (A e + k)) (rw_ (B + 1) L)) (v := L) hk]
      funext j
      exact tk2_ne (by omega)
    have hB3 : reg (B + 1) 28 (sCpI (fun k => I (A e + k)) (rw_ (B + 1) I)) (tk2 I B 3 (nI e)) B 3 = nI e := (congrFun (reg_off (Or.inl (by omega))) 3).trans tk2_at
    have ho : tk2 (reg (B + 1) 28 (sCpL (fun k => L (A e + k)) (rw_ (B + 1) L)) L) (B + 79) 0 (nI e).toInt64 (B + 79) 0 = (nI e).toInt64 := tk2_at
    generalize reg (B + 1) 28 (sCpI (fun k => I (A e + k)) (rw_ (B + 1) I)) (tk2 I B 3 (nI e)) = I1 at *
    generalize tk2 (reg (B + 1) 28 (sCpL (fun k => L (A e + k)) (rw_ (B + 1) L)) L) (B + 79) 0 (nI e).toInt64 = L1 at *
    have r1 : reg (B + 58) 21 (rw_ (B + 58) I) I1 = I1 := reg_id fun k hk => hI1 _ (by omega) (Or.inr (by omega))
    have r2 : reg (B + 58) 21 (rw_ (B + 58) L) L1 = L1 := reg_id fun k hk => hL1 _ (by omega) (Or.inr (by omega))
    have hMC := fun n => c_X6_restore (σ := (n, σ.2)) (r := B + 58) (J := rw_ (B + 58) I) (K := rw_ (B + 58) L) (v := I1) (w := L1) l4 hJ (by omega)
    rw [r1, r2, eb] at hMC
    obtain ⟨c', tm', hN⟩ := hS.rest (I' := reg (B + 58) 21 (mRest (e + 1) (rw_ (B + 58) I, rw_ (B + 58) L)).2.1 I1) (L' := reg (B + 58) 21 (mRest (e + 1) (rw_ (B + 58) I, rw_ (B + 58) L)).2.2 L1) (by omega)
      ((cEq.of (b := (sCpI (fun k => I (A e + k)) (rw_ (B + 1) I), sCpL (fun k => L (A e + k)) (rw_ (B + 1) L))) (fun k hk => (reg_off (by omega)).trans (hI2 k hk)) (fun k hk => (reg_off (by omega)).trans (hL2 k hk))).trans (sCp_core (rw_ (A e) I, rw_ (A e) L) (rw_ (B + 1) I, rw_ (B + 1) L)))
      ((congrFun (reg_off (by omega)) 3).trans hB3) (fun k hk => ⟨reg_at hk, reg_at hk⟩) (fun j hj k hk => by
        have b1 := (l10 j (by omega)).2.1
        exact ⟨(reg_off (by omega)).trans (hI1 _ (by omega) (Or.inr (by omega))), (reg_off (by omega)).trans (hL1 _ (by omega) (Or.inr (by omega)))⟩)
    exact ⟨0, 0, 0, σ, I1, L1, nI e, _, _, ⟨by omega, by omega⟩, hw, fun n _ => hMC n, (congrFun (reg_at (k := 0) (by decide)) 0).trans m00, fun _ => (congrFun (reg_off (by omega)) 0).trans ho, ⟨l4, l6⟩, fun n hn => ⟨A, dN, NT e, NS e, NP e, c', tm', e, NT, NS, NP, hL.grow hn, by omega, hN⟩⟩
end TKDEPL

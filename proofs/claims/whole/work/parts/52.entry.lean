section TKENTRY
theorem reg_zI (p n : Nat) : reg p n zI zI = zI := by
  funext a j
  simp only [reg]
  split <;> rfl
theorem reg_zL (p n : Nat) : reg p n zL zL = zL := by
  funext a j
  simp only [reg]
  split <;> rfl
theorem tkZI_z (σ : tkM) : tkZI σ zI = zI := zI_1 _
theorem tkZL_z (σ : tkM) : tkZL σ zL = zL := zL_1 _
theorem tk2_zI (a i : Nat) : tk2 zI a i 0 = zI := by
  funext b j
  simp only [tk2]
  split <;> rfl
/-! what the making of the program's object leaves -/
def lwP5 (B : Nat) (σ : tkM) : Prop := tkTP σ B (B + 1) (B + 29) (B + 57) ∧ tkReg 28 pT pF σ (B + 1) ∧ tkReg 28 pT pF σ (B + 29) ∧ σ.2.1 (B + 57) = (14, 4) ∧ ∀ j, σ.2.2 (B + 57) j = none
theorem lwP5.keep {B : Nat} {σ σ' : tkM} (h : lwP5 B σ) (h1 : ∀ a, a < B + 58 → σ'.2.1 a = σ.2.1 a) (h2 : ∀ a, a < B + 58 → σ'.2.2 a = σ.2.2 a) : lwP5 B σ' := by
  obtain ⟨⟨t1, t2, t3, t4⟩, r1, r2, d1, d2⟩ := h
  refine ⟨⟨(h1 _ (by omega)).trans t1, ?_, ?_, ?_⟩, r1.old (fun a _ _ => h1 a (by omega)) (fun a j _ _ => by rw [h2 a (by omega)]), r2.old (fun a _ _ => h1 a (by omega)) (fun a j _ _ => by rw [h2 a (by omega)]), (h1 _ (by omega)).trans d1, fun j => ?_⟩
  · rw [h2 B (by omega)]; exact t2
  · rw [h2 B (by omega)]; exact t3
  · rw [h2 B (by omega)]; exact t4
  · rw [h2 _ (by omega)]; exact d2 j
theorem nDe_T {σ : tkM} {dd j a : Nat} (h : a < σ.1) : (nDe σ dd j).2.1 a = σ.2.1 a := rgS_off (Or.inl h)
theorem nDe_R {σ : tkM} {dd j a i : Nat} (h : a < σ.1) : (nDe σ dd j).2.2 a i = if a = dd ∧ i = j then some σ.1 else σ.2.2 a i := by
  have e1 : (nDe σ dd j).2.2 a = tk2 σ.2.2 dd j (some σ.1) a := reg_off (Or.inl h)
  rw [e1]
  rfl
theorem nDe_A (σ : tkM) (dd j : Nat) : tkReg 28 pT pF (nDe σ dd j) σ.1 := ⟨fun k hk => rgS_at hk, fun k j9 o hk h => by
  show reg σ.1 28 (rPl σ.1 (rOb 0 zR)) (tk2 σ.2.2 dd j (some σ.1)) (σ.1 + k) j9 = _
  rw [reg_at hk]
  exact rPl_F _ _ h⟩
theorem nX5_P5 {σ : tkM} {x : Nat} (hs : σ.1 = x + 1) (hx : σ.2.1 x = (5, 0)) : lwP5 x (nX5 σ x) ∧ (nX5 σ x).1 = x + 58 := by
  obtain ⟨D1, e1⟩ : ∃ D1, D1 = nDe σ x 0 := ⟨_, rfl⟩
  obtain ⟨D2, e2⟩ : ∃ D2, D2 = nDe D1 x 1 := ⟨_, rfl⟩
  have z1 : D1.1 = x + 29 := by rw [e1]; show σ.1 + 28 = _; omega
  have z2 : D2.1 = x + 57 := by rw [e2]; show D1.1 + 28 = _; omega
  have s : nX5 σ x = (D2.1 + 1, tk1 D2.2.1 D2.1 (14, 4), tk2 (tk1 D2.2.2 D2.1 (fun _ => none)) x 2 (some D2.1)) := by rw [e2, e1]; rfl
  have hT1 : ∀ a, a < x + 1 → D1.2.1 a = σ.2.1 a := fun a ha => by rw [e1]; exact nDe_T (by omega)
  have hR1 : ∀ a i, a < x + 1 → D1.2.2 a i = if a = x ∧ i = 0 then some σ.1 else σ.2.2 a i := fun a i ha => by rw [e1]; exact nDe_R (by omega)
  have hA1 : tkReg 28 pT pF D1 (x + 1) := by rw [e1, ← hs]; exact nDe_A σ x 0
  have hT2 : ∀ a, a < x + 29 → D2.2.1 a = D1.2.1 a := fun a ha => by rw [e2]; exact nDe_T (by omega)
  have hR2 : ∀ a i, a < x + 29 → D2.2.2 a i = if a = x ∧ i = 1 then some D1.1 else D1.2.2 a i := fun a i ha => by rw [e2]; exact nDe_R (by omega)
  have hA2 : tkReg 28 pT pF D2 (x + 29) := by rw [e2, ← z1]; exact nDe_A D1 x 1
  have fT : ∀ a, a ≠ x + 57 → (nX5 σ x).2.1 a = D2.2.1 a := fun a ha => by
    rw [s]
    show tk1 D2.2.1 D2.1 (14, 4) a = _
    exact if_neg (by omega)
  have fR : ∀ a i, a ≠ x + 57 → (nX5 σ x).2.2 a i = if a = x ∧ i = 2 then some (x + 57) else D2.2.2 a i := fun a i ha => by
    rw [s]
    show tk2 (tk1 D2.2.2 D2.1 (fun _ => none)) x 2 (some D2.1) a i = _
    simp only [tk2, tk1]
    rw [if_neg (show ¬ a = D2.1 by omega), z2]
  refine ⟨⟨⟨?_, ?_, ?_, ?_⟩, ?_, ?_, ?_, fun j => ?_⟩, by rw [s]; show D2.1 + 1 = _; omega⟩
  · rw [fT x (by omega), hT2 x (by omega), hT1 x (by omega)]
    exact hx
  · rw [fR x 0 (by omega), if_neg (by omega), hR2 x 0 (by omega), if_neg (by omega), hR1 x 0 (by omega), if_pos ⟨rfl, rfl⟩, hs]
  · rw [fR x 1 (by omega), if_neg (by omega), hR2 x 1 (by omega), if_pos ⟨rfl, rfl⟩, z1]
  · rw [fR x 2 (by omega), if_pos ⟨rfl, rfl⟩]
  · exact hA1.old (fun a h1 h2 => by rw [fT a (by omega), hT2 a (by omega)]) (fun a j h1 h2 => by rw [fR a j (by omega), if_neg (by omega), hR2 a j (by omega), if_neg (by omega)])
  · exact hA2.old (fun a h1 h2 => fT a (by omega)) (fun a j h1 h2 => by rw [fR a j (by omega), if_neg (by omega)])
  · rw [s]
    show tk1 D2.2.1 D2.1 (14, 4) (x + 57) = _
    exact if_pos z2.symm
  · rw [s]
    show tk2 (tk1 D2.2.2 D2.1 (fun _ => none)) x 2 (some D2.1) (x + 57) j = _
    simp only [tk2, tk1]
    rw [if_neg (by omega), if_pos z2.symm]
theorem rMo_F (r : Nat) (R : Nat → Nat → Option Nat) {k j o : Nat} (h : mF k j = some o) : rMo r R k j = some (r + o) := by
  unfold mF at h
  split at h <;> first | (split at h <;> first | (cases h; rfl) | cases h) | cases h
/-- memory behind the making of the reference -/
def nMo (σ : tkM) : tkM := bM σ.1 21 mT σ.2.1 (rMo σ.1 (rOb 0 zR)) σ.2.2
theorem nMo_reg (σ : tkM) : tkReg 21 mT mF (nMo σ) σ.1 := ⟨fun k hk => rgS_at hk, fun k j o hk h => by
  show reg σ.1 21 (rMo σ.1 (rOb 0 zR)) σ.2.2 (σ.1 + k) j = _
  rw [reg_at hk]
  exact rMo_F _ _ h⟩
variable {X : tkX} {Q : State → Prop} {cc : ByteArray} {own nm : String} {nL d MC MS cs ss pc : Nat} {ret : Option FieldType} {hh : List (Nat × Nat × Nat × Nat)} {lv : List (Option Value)} {stk : List Value} {I : tkI} {L : tkL} {σ : tkM}
theorem g_newM (C : tkC X cc own nm nL ret hh d MC MS) {idx : Nat} (hd : decode cc pc = .ok (.new idx, 3)) (hw : Cond.classLink own idx RX6 ∈ tkAll) (h1 : cs + 1 ≤ MC) (h2 : ss + 29 ≤ MS)
    (kk : tkG X Q (cs + 1) (ss + 29) (pc + 3) lv (.ref (σ.1 + 0) :: stk) (bM σ.1 1 mT σ.2.1 (rOb 0 zR) σ.2.2) (reg σ.1 1 zI I) (reg σ.1 1 zL L)) : tkG X Q cs ss pc lv stk σ I L := by
  have h := b_new (p := σ.1) (n := 0) (T := mT) (S := σ.2.1) (R := zR) (V := σ.2.2) (I := I) (L := L) C 6 (RX6, TX6, 29) hd rfl hw mn_X6 mi_X6 rfl h1 h2 kk
  rw [bM_0, reg_0, reg_0] at h
  exact h
theorem c_newX {x : Nat} (hx : σ.2.1 x = (5, 0)) (hxs : x < σ.1) : tkCon false (.code yX5_init cX5_init 1 none) yX5_init 4 [.ref x] σ zI zL 57 732 (.inl none) (nX5 σ x) zI zL := by
  have h := c_X5_init (v := zI) (w := zL) hx hxs
  rw [reg_zI, reg_zI, tkZI_z, tk2_zI, reg_zL, reg_zL, tkZL_z] at h
  exact h
theorem c_newM : tkCon false (.code yX6_init cX6_init 1 none) yX6_init 2 [.ref (σ.1 + 0)] (bM σ.1 1 mT σ.2.1 (rOb 0 zR) σ.2.2) zI zL 20 1096 (.inl none) (nMo σ) zI zL := by
  have h := c_X6_init (r := σ.1) (S := σ.2.1) (R := rOb 0 zR) (V := σ.2.2) (I := zI) (L := zL)
  rw [reg_zI, reg_zI, reg_zL, reg_zL] at h
  exact h
theorem wRel.zero : wRel 0 0 0 0 (zI, zL) (zI, zL) := by
  have z : ∀ {α : Type} {f g : Nat → α}, eqR 0 f g := fun j hj => absurd hj (Nat.not_lt_zero j)
  exact ⟨⟨⟨⟨rfl, rfl, by decide⟩, ⟨rfl, rfl, by decide⟩, ⟨rfl, rfl, by decide⟩⟩, ⟨⟨z, z⟩, ⟨z, z, z⟩, z, z, z, z, z, z⟩, fun j hj => absurd hj (Nat.not_lt_zero j), fun j hj => absurd hj (Nat.not_lt_zero j), fun j hj => absurd hj (Nat.not_lt_zero j)⟩, ⟨z, fun j hj => absurd hj (Nat.not_lt_zero j)⟩, ⟨z, fun j hj => absurd hj (Nat.not_lt_zero j)⟩, z, ⟨z, z, z⟩, rfl, rfl, rfl, rfl, fun k hk => absurd hk (by simp)⟩
theorem lwInv.zero {B : Nat} {σ : tkM} (h : lwP5 B σ) (hM : tkReg 21 mT mF σ (B + 58)) (ho : σ.2.1 (B + 79) = (11, 1)) (hd : σ.2.1 (B + 80) = (13, 1)) (hs : B + 81 ≤ σ.1) : lwInv B 0 σ zI zL := by
  obtain ⟨t, r1, r2, d1, d2⟩ := h
  exact ⟨fun _ => 0, 0, 0, 0, 0, 0, 0, 0, fun _ => 0, fun _ => 0, fun _ => 0, ⟨t, r1, r2, hM, d1, ⟨ho, hd⟩, ⟨hs, by decide⟩, fun j _ => by rw [d2 j, if_neg (Nat.not_lt_zero j)], fun j hj => absurd hj (Nat.not_lt_zero j), fun i j _ hj => absurd hj (Nat.not_lt_zero j)⟩, Nat.le_refl _,
    wRel.zero, ⟨by decide, rfl, by decide⟩, ⟨rfl, rfl⟩, ⟨rfl, rfl, rfl⟩, fun _ _ _ _ => ⟨Nat.le_refl _, Nat.le_refl _, Nat.le_refl _⟩, fun j hj => absurd hj (Nat.not_lt_zero j)⟩
/-- the law from its entry -/
theorem law_entry {sb n B : Nat} {xs : Nat → Int32} (C : tkC X cL_law RL nm 9 (some .boolean) hh 12 601024 7293034) (S : lwX X sb n xs) (hn : n ≤ 3584) (hend : ∀ cs ss lv σ I L, cs ≤ 601024 → ss ≤ 7293034 → tkG X Q cs ss 1552 lv [.int 1] σ I L)
    {σ0 : tkM} (h0 : σ0.1 = B) : tkG X Q 0 0 0 [some (.ref sb), none, none, none, none, none, none, none, none] [] σ0 zI zL := by
  subst h0
  refine g_new C 5 (RX5, TX5, 4) dL_law_0 ml_L_8 mn_X5 mi_X5 rfl (Nat.le_of_ble_eq_true rfl) (Nat.le_of_ble_eq_true rfl) ?_
  rw [tkZI_z, tkZL_z]
  have x1 : (tkNw σ0 (5, 0)).2.1 σ0.1 = (5, 0) := if_pos rfl
  have x2 : (tkNw σ0 (5, 0)).1 = σ0.1 + 1 := rfl
  have hc := c_newX x1 (by omega)
  obtain ⟨hP, hz⟩ := nX5_P5 x2 x1
  generalize nX5 (tkNw σ0 (5, 0)) σ0.1 = σ5 at *
  refine g_dup C dL_law_3 rfl ?_
  refine g_callI C dL_law_4 mm_X5_init ml_L_84 mv_yX5_init rfl (hc) rfl ⟨by decide, Nat.le_of_ble_eq_true rfl, Nat.le_of_ble_eq_true rfl, Nat.le_of_ble_eq_true rfl⟩ (tk_retn ?_) tk_nothr
  refine g_astore_n C (i := 1) dL_law_7 rfl (by decide) ?_
  refine g_newM C dL_law_8 ml_L_85 (Nat.le_of_ble_eq_true rfl) (Nat.le_of_ble_eq_true rfl) ?_
  rw [reg_zI, reg_zL]
  have hM := nMo_reg σ5
  have hP6 : lwP5 σ0.1 (nMo σ5) := hP.keep (fun a ha => rgS_off (Or.inl (by omega))) (fun a ha => reg_off (Or.inl (by omega)))
  have hz6 : (nMo σ5).1 = σ0.1 + 79 := by show σ5.1 + 21 = _; omega
  have hc6 := c_newM (σ := σ5)
  refine g_dup C dL_law_11 rfl ?_
  refine g_callI C dL_law_12 mm_X6_init ml_L_87 mv_yX6_init rfl (hc6) rfl ⟨by decide, Nat.le_of_ble_eq_true rfl, Nat.le_of_ble_eq_true rfl, Nat.le_of_ble_eq_true rfl⟩ (tk_retn ?_) tk_nothr
  show tkG X _ _ _ 15 _ (.ref σ5.1 :: _) _ _ _
  rw [hz]
  rw [hz] at hM
  generalize nMo σ5 = σ6 at *
  refine g_astore_n C (i := 2) dL_law_15 rfl (by decide) ?_
  refine g_iconst C (1) dL_law_16 rfl ?_
  refine g_newa_l C 1 dL_law_17 ma_long (by decide) (by decide) (by decide) (Nat.le_of_ble_eq_true rfl) (Nat.le_of_ble_eq_true rfl) ?_
  rw [tkZI_z, tkZL_z, hz6]
  refine g_astore_n C (i := 3) dL_law_19 rfl (by decide) ?_
  refine g_iconst C (1) dL_law_20 rfl ?_
  refine g_newa_d C 1 dL_law_21 ma_double (by decide) (by decide) (by decide) (Nat.le_of_ble_eq_true rfl) (Nat.le_of_ble_eq_true rfl) ?_
  have z7 : (tkNw σ6 (11, 1)).1 = σ0.1 + 80 := by show σ6.1 + 1 = _; omega
  rw [tkZI_z, tkZL_z, z7]
  refine g_astore C (i := 4) dL_law_23 (by decide) ?_
  refine g_iconst C (nI (7 * 0)) dL_law_25 rfl ?_
  refine g_istore C (i := 5) dL_law_26 (by decide) ?_
  have q1 : ∀ a, a < σ0.1 + 79 → (tkNw (tkNw σ6 (11, 1)) (13, 1)).2.1 a = σ6.2.1 a := fun a ha => by
    show tk1 (tk1 σ6.2.1 σ6.1 (11, 1)) (σ6.1 + 1) (13, 1) a = _
    simp only [tk1]
    rw [if_neg (by omega), if_neg (by omega)]
  have q2 : ∀ a, a < σ0.1 + 79 → (tkNw (tkNw σ6 (11, 1)) (13, 1)).2.2 a = σ6.2.2 a := fun a ha => by
    show tk1 (tk1 σ6.2.2 σ6.1 (fun _ => none)) (σ6.1 + 1) (fun _ => none) a = _
    simp only [tk1]
    rw [if_neg (by omega), if_neg (by omega)]
  have q3 : (tkNw (tkNw σ6 (11, 1)) (13, 1)).2.1 (σ0.1 + 79) = (11, 1) := by
    show tk1 (tk1 σ6.2.1 σ6.1 (11, 1)) (σ6.1 + 1) (13, 1) (σ0.1 + 79) = _
    simp only [tk1]
    rw [if_neg (by omega), if_pos hz6.symm]
  have q4 : (tkNw (tkNw σ6 (11, 1)) (13, 1)).2.1 (σ0.1 + 80) = (13, 1) := by
    show tk1 (tk1 σ6.2.1 σ6.1 (11, 1)) (σ6.1 + 1) (13, 1) (σ0.1 + 80) = _
    simp only [tk1]
    rw [if_pos (by omega)]
  have q5 : (tkNw (tkNw σ6 (11, 1)) (13, 1)).1 = σ0.1 + 81 := by show σ6.1 + 1 + 1 = _; omega
  generalize tkNw (tkNw σ6 (11, 1)) (13, 1) = σ8 at *
  exact law_loop C S hn hend n 0 _ _ σ8 zI zL _ _ _ (by omega) (by omega) (Nat.le_of_ble_eq_true rfl) (Nat.le_of_ble_eq_true rfl) (lwInv.zero (hP6.keep (fun a ha => q1 a (by omega)) (fun a ha => q2 a (by omega))) (hM.old (fun a _ _ => q1 a (by omega)) (fun a j _ _ => by rw [q2 a (by omega)])) q3 q4 (by omega))
end TKENTRY

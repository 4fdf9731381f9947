section TKALLOC
theorem reg_zI (p n : Nat) : reg p n zI zI = zI := by
  funext a j
  simp only [reg]
  split <;> rfl
theorem reg_zL (p n : Nat) : reg p n zL zL = zL := by
  funext a j
  simp only [reg]
  split <;> rfl
theorem mI_z (B q : Nat) : mI B q zI zI = zI := by
  unfold mI
  rw [reg_zI, reg_zI]
theorem mL_z (B q : Nat) : mL B q zL zL = zL := by
  unfold mL
  rw [reg_zL, reg_zL]
theorem tkZI_z (σ : tkM) : tkZI σ zI = zI := zI_1 _
theorem tkZL_z (σ : tkM) : tkZL σ zL = zL := zL_1 _
theorem tk2_zI (a i : Nat) : tk2 zI a i 0 = zI := by
  funext b j
  simp only [tk2]
  split <;> rfl
theorem lwP5.keep {B : Nat} {σ σ' : tkM} (h : lwP5 B σ) (h1 : ∀ a, a < B + 58 → σ'.2.1 a = σ.2.1 a) (h2 : ∀ a, a < B + 58 → σ'.2.2 a = σ.2.2 a) : lwP5 B σ' := by
  obtain ⟨⟨t1, t2, t3, t4⟩, r1⟩ := h
  refine ⟨⟨(h1 _ (by omega)).trans t1, ?_, ?_, ?_⟩, r1.old (fun a _ _ => h1 a (by omega)) (fun a j _ _ => by rw [h2 a (by omega)])⟩
  · rw [h2 B (by omega)]; exact t2
  · rw [h2 B (by omega)]; exact t3
  · rw [h2 B (by omega)]; exact t4
theorem lwP.nw {B q n : Nat} {σ : tkM} {sh : Nat × Nat} (h : lwP B q n σ) (hT : lT n = sh) : lwP B q (n + 1) (tkNw σ sh) := by
  obtain ⟨h1, ⟨h2, -⟩, h3, h4⟩ := h
  refine ⟨h1.keep (fun a ha => if_neg (by omega)) (fun a ha => if_neg (by omega)), ⟨fun k hk => ?_, fun k j o hk e => by cases e⟩, by show σ.1 + 1 = _; omega, h4⟩
  show tk1 σ.2.1 σ.1 sh (q + k) = lT k
  by_cases e : k = n
  · subst e
    rw [hT]
    exact if_pos h3.symm
  · rw [show tk1 σ.2.1 σ.1 sh (q + k) = σ.2.1 (q + k) from if_neg (by omega)]
    exact h2 k (by omega)
theorem nw_I {B q n : Nat} {σ : tkM} (h : lwP B q n σ) (hn : n < 15) (J P : tkI) : tkZI σ (mI B q J P) = mI B q (tk1 J n (fun _ => 0)) P := by
  unfold tkZI
  rw [h.2.2.1]
  exact tk1_reg hn
theorem nw_L {B q n : Nat} {σ : tkM} (h : lwP B q n σ) (hn : n < 15) (L : tkL) : tkZL σ (mL B q zL L) = mL B q zL L := by
  unfold tkZL
  rw [h.2.2.1]
  exact (tk1_reg hn).trans (by rw [zL_1]; rfl)
variable {X : tkX} {Q : State → Prop} {cc : ByteArray} {own nm : String} {nL d MC MS cs ss pc : Nat} {ret : Option FieldType} {hh : List (Nat × Nat × Nat × Nat)} {lv : List (Option Value)} {stk : List Value} {σ : tkM} {B q n : Nat} {J P : tkI} {L : tkL}
theorem nw_i (C : tkC X cc own nm nL ret hh d MC MS) (hP : lwP B q n σ) {c : Int32} (N : Nat) (hn : n < 15) (hT : lT n = (10, N)) (hd : decode cc pc = .ok (.newarray .int, 2)) (hc : ¬ c < 0) (hN : c.toNatClampNeg = N) (hby : N * componentBytes .int ≤ 536870912) (h1 : cs + 1 ≤ MC) (h2 : ss + N ≤ MS)
    (kk : ∀ σ1, lwP B q (n + 1) σ1 → tkG X Q (cs + 1) (ss + N) (pc + 2) lv (.ref (q + n) :: stk) σ1 (mI B q (tk1 J n (fun _ => 0)) P) (mL B q zL L)) : tkG X Q cs ss pc lv (.int c :: stk) σ (mI B q J P) (mL B q zL L) := by
  refine g_newa_i C N hd ma_int hc hN hby h1 h2 ?_
  rw [nw_I hP hn, nw_L hP hn, hP.2.2.1]
  exact kk _ (hP.nw hT)
theorem nw_l (C : tkC X cc own nm nL ret hh d MC MS) (hP : lwP B q n σ) {c : Int32} (N : Nat) (hn : n < 15) (hT : lT n = (11, N)) (hd : decode cc pc = .ok (.newarray .long, 2)) (hc : ¬ c < 0) (hN : c.toNatClampNeg = N) (hby : N * componentBytes .long ≤ 536870912) (h1 : cs + 1 ≤ MC) (h2 : ss + N ≤ MS)
    (kk : ∀ σ1, lwP B q (n + 1) σ1 → tkG X Q (cs + 1) (ss + N) (pc + 2) lv (.ref (q + n) :: stk) σ1 (mI B q (tk1 J n (fun _ => 0)) P) (mL B q zL L)) : tkG X Q cs ss pc lv (.int c :: stk) σ (mI B q J P) (mL B q zL L) := by
  refine g_newa_l C N hd ma_long hc hN hby h1 h2 ?_
  rw [nw_I hP hn, nw_L hP hn, hP.2.2.1]
  exact kk _ (hP.nw hT)
theorem nw_z (C : tkC X cc own nm nL ret hh d MC MS) (hP : lwP B q n σ) {c : Int32} (N : Nat) (hn : n < 15) (hT : lT n = (12, N)) (hd : decode cc pc = .ok (.newarray .boolean, 2)) (hc : ¬ c < 0) (hN : c.toNatClampNeg = N) (hby : N * componentBytes .boolean ≤ 536870912) (h1 : cs + 1 ≤ MC) (h2 : ss + N ≤ MS)
    (kk : ∀ σ1, lwP B q (n + 1) σ1 → tkG X Q (cs + 1) (ss + N) (pc + 2) lv (.ref (q + n) :: stk) σ1 (mI B q (tk1 J n (fun _ => 0)) P) (mL B q zL L)) : tkG X Q cs ss pc lv (.int c :: stk) σ (mI B q J P) (mL B q zL L) := by
  refine g_newa_z C N hd ma_boolean hc hN hby h1 h2 ?_
  rw [nw_I hP hn, nw_L hP hn, hP.2.2.1]
  exact kk _ (hP.nw hT)
/-! what the making of the program's object leaves -/
theorem nDe_T {σ : tkM} {dd j a : Nat} (h : a < σ.1) : (nDe σ dd j).2.1 a = σ.2.1 a := rgS_off (Or.inl h)
theorem nDe_R {σ : tkM} {dd j a i : Nat} (h : a < σ.1) : (nDe σ dd j).2.2 a i = if a = dd ∧ i = j then some σ.1 else σ.2.2 a i := by
  have e1 : (nDe σ dd j).2.2 a = tk2 σ.2.2 dd j (some σ.1) a := reg_off (Or.inl h)
  rw [e1]
  rfl
theorem nDe_A (σ : tkM) (dd j : Nat) : tkReg 28 pT pF (nDe σ dd j) σ.1 := ⟨fun k hk => rgS_at hk, fun k j9 o hk h => by
  show reg σ.1 28 (rPl σ.1 (rOb 0 zR)) (tk2 σ.2.2 dd j (some σ.1)) (σ.1 + k) j9 = _
  rw [reg_at hk]
  exact rPl_F _ _ h⟩
theorem nX5_P5 {σ : tkM} {x : Nat} (hs : σ.1 = x + 1) (hx : σ.2.1 x = (5, 0)) : lwP5 x (nX5 σ x) ∧ (nX5 σ x).1 = x + 58 := by
  obtain ⟨D1, e1⟩ : ∃ D1, D1 = nDe σ x 0 := ⟨_, rfl⟩
  obtain ⟨D2, e2⟩ : ∃ D2, D2 = nDe D1 x 1 := ⟨_, rfl⟩
  have z1 : D1.1 = x + 29 := by rw [e1]; show σ.1 + 28 = _; omega
  have z2 : D2.1 = x + 57 := by rw [e2]; show D1.1 + 28 = _; omega
  have s : nX5 σ x = (D2.1 + 1, tk1 D2.2.1 D2.1 (14, 4), tk2 (tk1 D2.2.2 D2.1 (fun _ => none)) x 2 (some D2.1)) := by rw [e2, e1]; rfl
  have hT1 : ∀ a, a < x + 1 → D1.2.1 a = σ.2.1 a := fun a ha => by rw [e1]; exact nDe_T (by omega)
  have hR1 : ∀ a i, a < x + 1 → D1.2.2 a i = if a = x ∧ i = 0 then some σ.1 else σ.2.2 a i := fun a i ha => by rw [e1]; exact nDe_R (by omega)
  have hA1 : tkReg 28 pT pF D1 (x + 1) := by rw [e1, ← hs]; exact nDe_A σ x 0
  have hT2 : ∀ a, a < x + 29 → D2.2.1 a = D1.2.1 a := fun a ha => by rw [e2]; exact nDe_T (by omega)
  have hR2 : ∀ a i, a < x + 29 → D2.2.2 a i = if a = x ∧ i = 1 then some D1.1 else D1.2.2 a i := fun a i ha => by rw [e2]; exact nDe_R (by omega)
  have fT : ∀ a, a ≠ x + 57 → (nX5 σ x).2.1 a = D2.2.1 a := fun a ha => by
    rw [s]
    show tk1 D2.2.1 D2.1 (14, 4) a = _
    exact if_neg (by omega)
  have fR : ∀ a i, a ≠ x + 57 → (nX5 σ x).2.2 a i = if a = x ∧ i = 2 then some (x + 57) else D2.2.2 a i := fun a i ha => by
    rw [s]
    show tk2 (tk1 D2.2.2 D2.1 (fun _ => none)) x 2 (some D2.1) a i = _
    simp only [tk2, tk1]
    rw [if_neg (show ¬ a = D2.1 by omega), z2]
  refine ⟨⟨⟨?_, ?_, ?_, ?_⟩, ?_⟩, by rw [s]; show D2.1 + 1 = _; omega⟩
  · rw [fT x (by omega), hT2 x (by omega), hT1 x (by omega)]
    exact hx
  · rw [fR x 0 (by omega), if_neg (by omega), hR2 x 0 (by omega), if_neg (by omega), hR1 x 0 (by omega), if_pos ⟨rfl, rfl⟩, hs]
  · rw [fR x 1 (by omega), if_neg (by omega), hR2 x 1 (by omega), if_pos ⟨rfl, rfl⟩, z1]
  · rw [fR x 2 (by omega), if_pos ⟨rfl, rfl⟩]
  · exact hA1.old (fun a h1 h2 => by rw [fT a (by omega), hT2 a (by omega)]) (fun a j h1 h2 => by rw [fR a j (by omega), if_neg (by omega), hR2 a j (by omega), if_neg (by omega)])
theorem c_newX {x : Nat} {σ : tkM} (hx : σ.2.1 x = (5, 0)) (hxs : x < σ.1) : tkCon false (.code yX5_init cX5_init 1 none) yX5_init 4 [.ref x] σ zI zL 57 732 (.inl none) (nX5 σ x) zI zL := by
  have h := c_X5_init (v := zI) (w := zL) hx hxs
  rw [reg_zI, reg_zI, tkZI_z, tk2_zI, reg_zL, reg_zL, tkZL_z] at h
  exact h
end TKALLOC

section TKRANGE
/-- for how many of m ticks a margin a that grows by b stays at 0 or above -/
def nTw (a b : Int) (m : Nat) : Nat := if 0 ≤ a then (if b < 0 then min m (a / -b).toNat else m) else 0
theorem nTw_le (a b : Int) (m : Nat) : nTw a b m ≤ m := by
  unfold nTw
  split
  · split <;> omega
  · omega
theorem jtw_val {a : Int64} {b : Int32} {m : Nat} (hm : m < 2 ^ 31) : jtw a b.toInt64 (nI m) = nI (nTw a.toInt b.toInt m) := by
  have z0 : (0 : Int64).toInt = 0 := by decide
  unfold jtw nTw
  simp only [Int64.le_iff_toInt_le, Int64.lt_iff_toInt_lt, Int32.toInt_toInt64, z0]
  by_cases ha : 0 ≤ a.toInt
  · rw [if_pos ha, if_pos ha]
    by_cases hb : b.toInt < 0
    · rw [if_pos hb, if_pos hb]
      have hbl := b.le_toInt
      have en : (-b.toInt64).toInt = -b.toInt := by
        rw [Int64.toInt_neg, Int32.toInt_toInt64]
        exact Int.bmod_eq_of_le (by omega) (by omega)
      have eq : (a / -b.toInt64).toInt = a.toInt / -b.toInt := by
        rw [Int64.toInt_div_of_ne_left _ _ (fun e => by rw [e] at ha; exact absurd ha (by decide)), en]
        exact Int.tdiv_eq_ediv_of_nonneg ha
      have hq : 0 ≤ a.toInt / -b.toInt := Int.ediv_nonneg ha (by omega)
      unfold jminL
      simp only [Int64.lt_iff_toInt_lt, eq, Int32.toInt_toInt64, nI_toInt hm]
      generalize a.toInt / -b.toInt = z at *
      by_cases h : z < (m : Int)
      · rw [if_pos h, show min m z.toNat = z.toNat by omega]
        refine Int32.toInt_inj.mp ?_
        rw [Int64.toInt_toInt32, eq, nI_toInt (by omega)]
        have e2 : ((z.toNat : Nat) : Int) = z := by omega
        rw [e2]
        exact Int.bmod_eq_of_le (by omega) (by omega)
      · rw [if_neg h, show min m z.toNat = m by omega, nI_l hm, lN_i]
    · rw [if_neg hb, if_neg hb]
  · rw [if_neg ha, if_neg ha]
    exact nI_0.symm
theorem jtw_in {a : Int64} {b : Int32} {m : Nat} (hm : m < 2 ^ 31) : ∃ r, r ≤ m ∧ jtw a b.toInt64 (nI m) = nI r := ⟨_, nTw_le _ _ _, jtw_val hm⟩
/-- within 0 .. m -/
def iIn (x : Int32) (m : Nat) : Prop := ∃ r, r ≤ m ∧ x = nI r
theorem iIn.jtw {x : Int32} {m : Nat} (hm : m < 2 ^ 31) (h : iIn x m) (a : Int64) (b : Int32) : iIn (jtw a b.toInt64 x) m := by
  obtain ⟨r, hr, rfl⟩ := h
  obtain ⟨t, ht, e⟩ := jtw_in (a := a) (b := b) (m := r) (by omega)
  exact ⟨t, by omega, e⟩
theorem iIn.self (m : Nat) : iIn (nI m) m := ⟨m, Nat.le_refl _, rfl⟩
theorem iIn.zero (m : Nat) : iIn 0 m := ⟨0, Nat.zero_le _, nI_0.symm⟩
theorem iIn_sSst {m : Nat} (hm : m < 2 ^ 31) (I : tkI) (i : Nat) {x : Int32} (h : iIn x m) : iIn (sSst I i x) m := by
  unfold sSst
  dsimp only
  split
  · split
    · exact h.jtw hm _ _
    · exact h.jtw hm _ _
  · exact h
theorem iIn_sTst {m : Nat} (hm : m < 2 ^ 31) (I : tkI) (i : Nat) {x : Int32} (h : iIn x m) : iIn (sTst I i x) m := by
  unfold sTst
  split
  · exact h.jtw hm _ _
  · exact h
theorem iIn_sOf1 {m : Nat} (hm : m < 2 ^ 31) (I : tkI) (i : Nat) {x : Int32} (h : iIn x m) : iIn (sOf1 I i x).1 m := by
  unfold sOf1
  dsimp only
  split
  · exact h
  · exact h.jtw hm _ _
theorem iIn_sOf2 {m : Nat} (hm : m < 2 ^ 31) (I : tkI) (i : Nat) {q : Int32 × Int32} (h : iIn q.1 m) : iIn (sOf2 I i q).1 m := by
  unfold sOf2
  dsimp only
  split
  · exact h
  · exact h.jtw hm _ _
theorem iIn_sPst {m : Nat} (hm : m < 2 ^ 31) (I : tkI) (i : Nat) {x : Int32} (h : iIn x m) : iIn (sPst I i x) m := by
  unfold sPst
  split
  · split
    · exact h
    · unfold sOf
      split
      · exact iIn.zero m
      · exact iIn_sOf2 hm I i (iIn_sOf1 hm I i h)
  · exact h
theorem iIn.steady {m : Nat} (hm : m < 2 ^ 31) (nt ns np : Nat) (I : tkI) {x : Int32} (h : iIn x m) : iIn (sSteady nt ns np I x) m :=
  itr_inv (P := fun x => iIn x m) (n := nt) (fun i _ _ h => iIn_sTst hm I i h) (Nat.le_refl _) (itr_inv (P := fun x => iIn x m) (n := np) (fun i _ _ h => iIn_sPst hm I i h) (Nat.le_refl _) (itr_inv (P := fun x => iIn x m) (n := ns) (fun i _ _ h => iIn_sSst hm I i h) (Nat.le_refl _) h))
theorem sLast_in {m : Nat} (hm : m < 2 ^ 31) (nt ns np : Nat) (q : tkI × tkL) {x : Int32} (h : iIn x m) : iIn (sLast nt ns np x q).2 m := by
  unfold sLast
  dsimp only
  split
  · exact h.steady hm nt ns np q.1
  · exact iIn.zero m
theorem sShort_in {m : Nat} (hm : m < 2 ^ 31) (j : Nat) (mark b : Int32) (I : tkI) {x : Int32} (h : iIn x m) : iIn (sShort j mark b I x) m := by
  unfold sShort
  split
  · exact h.jtw hm _ _
  · exact h.jtw hm _ _
end TKRANGE
section TKADV
variable {σ : tkM} {p : Nat} {I0 v : tkI} {L0 w : tkL}
theorem c_X1_advance (hP : tkReg 28 pT pF σ p) {nt ns np b n : Nat} (hW : wAll nt ns np b (I0, L0)) (hn : n ≤ 5000) (hb : b + 10 * n + 20 < 2 ^ 62) :
    tkCon false (.code yX1_advance cX1_advance 4 (some .int)) yX1_advance 6 [.ref p, .int (nI n)] σ (reg p 28 I0 v) (reg p 28 L0 w) 0 0 (.inl (some (.int (sAdv nt ns np (nI n) n 0 ((I0, L0), 0)).2))) σ (reg p 28 (sAdv nt ns np (nI n) n 0 ((I0, L0), 0)).1.1 v) (reg p 28 (sAdv nt ns np (nI n) n 0 ((I0, L0), 0)).1.2 w) := by
  obtain ⟨R, eR⟩ : ∃ R, sAdv nt ns np (nI n) n 0 ((I0, L0), 0) = R := ⟨_, rfl⟩
  rw [eR]
  refine tkCon.of (by decide) (Nat.le_of_ble_eq_true rfl) (fun X C => ?_)
  refine g_iconst C (0) dX1_advance_0 rfl ?_
  refine g_istore_n C (i := 2) dX1_advance_1 rfl (by decide) ?_
  refine g_iconst C (0) dX1_advance_2 rfl ?_
  refine g_istore_n C (i := 3) dX1_advance_3 rfl (by decide) ?_
  have key : ∀ k i (c : Int32) I1 L1, n ≤ i + k → i ≤ n → sAdv nt ns np (nI n) k (nI i) ((I1, L1), c) = R → wAll nt ns np (b + 10 * i) (I1, L1) → tkG X (tkQ false X 0 0 (.inl (some (.int R.2))) σ (reg p 28 R.1.1 v) (reg p 28 R.1.2 w)) 0 0 4 [some (.ref p), some (.int (nI n)), some (.int c), some (.int (nI i))] [] σ (reg p 28 I1 v) (reg p 28 L1 w) := by
    intro k
    induction k with
    | zero =>
      intro i c I1 L1 h1 h2 h3 h4
      have e : i = n := by omega
      subst e
      have h3 : ((I1, L1), c) = R := h3
      subst h3
      refine g_iload_n C (i := 3) dX1_advance_4 rfl rfl ?_
      refine g_iload_n C (i := 1) dX1_advance_5 rfl rfl ?_
      refine g_icmp_ge C 34 dX1_advance_6 (by decide) (fun h6 => ?_) (fun h6 => ?_)
      · refine g_iload_n C (i := 2) dX1_advance_34 rfl rfl ?_
        exact g_ireturn C dX1_advance_35 ⟨Nat.le_of_ble_eq_true rfl, Nat.le_of_ble_eq_true rfl⟩ (tkEnd.rf rfl rfl rfl)
      · exact absurd (Int32.le_refl _) h6
    | succ k ih =>
      intro i c I1 L1 h1 h2 h3 h4
      have h3 : (if nI i < nI n then sAdv nt ns np (nI n) k (nI i + (sLast nt ns np (nI n - nI i - 1) (sTick nt ns np (I1, L1)).1).2 + 1) ((sLast nt ns np (nI n - nI i - 1) (sTick nt ns np (I1, L1)).1).1, c + (sTick nt ns np (I1, L1)).2) else ((I1, L1), c)) = R := h3
      refine g_iload_n C (i := 3) dX1_advance_4 rfl rfl ?_
      refine g_iload_n C (i := 1) dX1_advance_5 rfl rfl ?_
      refine g_icmp_ge C 34 dX1_advance_6 (by decide) (fun h6 => ?_) (fun h6 => ?_)
      · have e : i = n := by
          have := (nI_leI (by omega) (by omega)).mp h6
          omega
        subst e
        rw [if_neg Int32.lt_irrefl] at h3
        subst h3
        refine g_iload_n C (i := 2) dX1_advance_34 rfl rfl ?_
        exact g_ireturn C dX1_advance_35 ⟨Nat.le_of_ble_eq_true rfl, Nat.le_of_ble_eq_true rfl⟩ (tkEnd.rf rfl rfl rfl)
      · have hlt : i < n := by
          refine Nat.lt_of_not_le (fun z => h6 ((nI_leI (by omega) (by omega)).mpr z))
        rw [if_pos (nI_lt hlt (by omega))] at h3
        have ht := h4.tick
        refine g_iload_n C (i := 2) dX1_advance_9 rfl rfl ?_
        refine g_aload_n C (i := 0) dX1_advance_10 rfl rfl ?_
        refine g_callV C (q := (RX1, TX1, 5)) (rest := _) dX1_advance_11 mm_X1_tick ml_X1_54 mv_yX1_tick ms_yX1_tick (c_X1_tick hP h4 (by omega)) rfl (hP.1 0 (by decide)) rfl rfl ⟨by decide, Nat.le_of_ble_eq_true rfl, Nat.le_of_ble_eq_true rfl, Nat.le_of_ble_eq_true rfl⟩ (tk_retv ?_) tk_nothr
        generalize sTick nt ns np (I1, L1) = q at *
        obtain ⟨⟨I2, L2⟩, n2⟩ := q
        dsimp only at *
        have el : nI n - nI i - 1 = nI (n - i - 1) := by rw [pk_sub (by omega), show (1 : Int32) = nI 1 from rfl, pk_sub (by omega)]
        have hr : iIn (sLast nt ns np (nI n - nI i - 1) (I2, L2)).2 (n - i - 1) := by rw [el]; exact sLast_in (by omega) nt ns np _ (iIn.self _)
        have hl := ht.last (nI n - nI i - 1)
        refine g_iadd C dX1_advance_14 ?_
        refine g_istore_n C (i := 2) dX1_advance_15 rfl (by decide) ?_
        refine g_iload_n C (i := 3) dX1_advance_16 rfl rfl ?_
        refine g_aload_n C (i := 0) dX1_advance_17 rfl rfl ?_
        refine g_iload_n C (i := 1) dX1_advance_18 rfl rfl ?_
        refine g_iload_n C (i := 3) dX1_advance_19 rfl rfl ?_
        refine g_isub C dX1_advance_20 ?_
        refine g_iconst C (1) dX1_advance_21 rfl ?_
        refine g_isub C dX1_advance_22 ?_
        refine g_callV C (q := (RX1, TX1, 5)) (rest := _) dX1_advance_23 mm_X1_repeatLast ml_X1_58 mv_yX1_repeatLast ms_yX1_repeatLast (c_X1_repeatLast hP ht _) rfl (hP.1 0 (by decide)) rfl rfl ⟨by decide, Nat.le_of_ble_eq_true rfl, Nat.le_of_ble_eq_true rfl, Nat.le_of_ble_eq_true rfl⟩ (tk_retv ?_) tk_nothr
        generalize sLast nt ns np (nI n - nI i - 1) (I2, L2) = q at *
        obtain ⟨⟨I3, L3⟩, n3⟩ := q
        dsimp only at *
        obtain ⟨r, hr, rfl⟩ := hr
        have es : nI i + nI r + 1 = nI (i + r + 1) := by rw [nI_add, nI_1]
        rw [es] at h3
        refine g_iadd C dX1_advance_26 ?_
        refine g_istore_n C (i := 3) dX1_advance_27 rfl (by decide) ?_
        refine g_iinc C (i := 3) (nI (i + r + 1)) dX1_advance_28 rfl es (by decide) ?_
        refine g_goto C 4 dX1_advance_31 (by decide) ?_
        exact ih (i + r + 1) _ I3 L3 (by omega) (by omega) h3 (hl.mono (by omega))
  exact key n 0 0 I0 L0 (by omega) (by omega) eR hW
end TKADV

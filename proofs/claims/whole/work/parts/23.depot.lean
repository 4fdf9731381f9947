section TKCORE
/-- how much of a row counts -/
def cI (k : Nat) : Nat := match k with
  | 1 => 1 | 2 => 8 | 3 => 8 | 4 => 8 | 7 => 1 | 8 => 10 | 9 => 10 | 10 => 10 | 11 => 10 | 12 => 1 | 13 => 16 | 14 => 16 | 15 => 16 | 16 => 16 | 17 => 16 | 18 => 16 | 27 => 30 | _ => 0
def cL (k : Nat) : Nat := match k with
  | 5 => 8 | 19 => 16 | 20 => 16 | 21 => 16 | 25 => 1 | 26 => 30 | _ => 0
def cEq (a b : tkI × tkL) : Prop := (∀ k j, j < cI k → a.1 k j = b.1 k j) ∧ (∀ k j, j < cL k → a.2 k j = b.2 k j) ∧ a.2 0 4 = b.2 0 4
theorem cp_in {α : Type} {f g : Nat → α} {n j : Nat} (h : j < n) : va_cpy f g 0 0 n j = f j := (pk_cpy_in (Nat.zero_le _) (by omega)).trans (by rw [Nat.zero_add, Nat.sub_zero])
theorem cpR_at {α : Type} {k n j : Nat} {S f : Nat → Nat → α} (h : j < n) : cpR k n S f k j = S k j := by
  show (if k = k then va_cpy (S k) (f k) 0 0 n else f k) j = S k j
  rw [if_pos rfl, cp_in h]
theorem cpR_ne {α : Type} {k n a j : Nat} {S f : Nat → Nat → α} (h : a ≠ k) : cpR k n S f a j = f a j := by
  show (if a = k then va_cpy (S k) (f k) 0 0 n else f a) j = f a j
  rw [if_neg h]
theorem tk2_at {α : Type} {f : Nat → Nat → α} {a i : Nat} {x : α} : tk2 f a i x a i = x := if_pos ⟨rfl, rfl⟩
theorem tk2_ne {α : Type} {f : Nat → Nat → α} {a i b j : Nat} {x : α} (h : b ≠ a) : tk2 f a i x b j = f b j := if_neg (fun z => h z.1)
theorem sCp_core (s q : tkI × tkL) : cEq (sCpI s.1 q.1, sCpL s.2 q.2) s := by
  refine ⟨fun k j h => ?_, fun k j h => ?_, by dsimp only; unfold sCpL; exact tk2_at⟩
  · unfold cI at h
    split at h <;> first | exact absurd h (Nat.not_lt_zero _) | skip
    · obtain rfl : j = 0 := by omega
      dsimp only
      unfold sCpI sCpP sCpS sCpT
      rw [cpR_ne (by decide), cpR_ne (by decide), cpR_ne (by decide), cpR_ne (by decide), cpR_ne (by decide), cpR_ne (by decide), cpR_ne (by decide), tk2_ne (by decide), cpR_ne (by decide), cpR_ne (by decide), cpR_ne (by decide), cpR_ne (by decide), tk2_ne (by decide), cpR_ne (by decide), cpR_ne (by decide), cpR_ne (by decide), tk2_at]
    · dsimp only
      unfold sCpI sCpP sCpS sCpT
      rw [cpR_ne (by decide), cpR_ne (by decide), cpR_ne (by decide), cpR_ne (by decide), cpR_ne (by decide), cpR_ne (by decide), cpR_ne (by decide), tk2_ne (by decide), cpR_ne (by decide), cpR_ne (by decide), cpR_ne (by decide), cpR_ne (by decide), tk2_ne (by decide), cpR_ne (by decide), cpR_ne (by decide), cpR_at h]
    · dsimp only
      unfold sCpI sCpP sCpS sCpT
      rw [cpR_ne (by decide), cpR_ne (by decide), cpR_ne (by decide), cpR_ne (by decide), cpR_ne (by decide), cpR_ne (by decide), cpR_ne (by decide), tk2_ne (by decide), cpR_ne (by decide), cpR_ne (by decide), cpR_ne (by decide), cpR_ne (by decide), tk2_ne (by decide), cpR_ne (by decide), cpR_at h]
    · dsimp only
      unfold sCpI sCpP sCpS sCpT
      rw [cpR_ne (by decide), cpR_ne (by decide), cpR_ne (by decide), cpR_ne (by decide), cpR_ne (by decide), cpR_ne (by decide), cpR_ne (by decide), tk2_ne (by decide), cpR_ne (by decide), cpR_ne (by decide), cpR_ne (by decide), cpR_ne (by decide), tk2_ne (by decide), cpR_at h]
    · obtain rfl : j = 0 := by omega
      dsimp only
      unfold sCpI sCpP sCpS sCpT
      rw [cpR_ne (by decide), cpR_ne (by decide), cpR_ne (by decide), cpR_ne (by decide), cpR_ne (by decide), cpR_ne (by decide), cpR_ne (by decide), tk2_ne (by decide), cpR_ne (by decide), cpR_ne (by decide), cpR_ne (by decide), cpR_ne (by decide), tk2_at]
    · dsimp only
      unfold sCpI sCpP sCpS sCpT
      rw [cpR_ne (by decide), cpR_ne (by decide), cpR_ne (by decide), cpR_ne (by decide), cpR_ne (by decide), cpR_ne (by decide), cpR_ne (by decide), tk2_ne (by decide), cpR_ne (by decide), cpR_ne (by decide), cpR_ne (by decide), cpR_at h]
    · dsimp only
      unfold sCpI sCpP sCpS sCpT
      rw [cpR_ne (by decide), cpR_ne (by decide), cpR_ne (by decide), cpR_ne (by decide), cpR_ne (by decide), cpR_ne (by decide), cpR_ne (by decide), tk2_ne (by decide), cpR_ne (by decide), cpR_ne (by decide), cpR_at h]
    · dsimp only
      unfold sCpI sCpP sCpS sCpT
      rw [cpR_ne (by decide), cpR_ne (by decide), cpR_ne (by decide), cpR_ne (by decide), cpR_ne (by decide), cpR_ne (by decide), cpR_ne (by decide), tk2_ne (by decide), cpR_ne (by decide), cpR_at h]
    · dsimp only
      unfold sCpI sCpP sCpS sCpT
      rw [cpR_ne (by decide), cpR_ne (by decide), cpR_ne (by decide), cpR_ne (by decide), cpR_ne (by decide), cpR_ne (by decide), cpR_ne (by decide), tk2_ne (by decide), cpR_at h]
    · obtain rfl : j = 0 := by omega
      dsimp only
      unfold sCpI sCpP sCpS sCpT
      rw [cpR_ne (by decide), cpR_ne (by decide), cpR_ne (by decide), cpR_ne (by decide), cpR_ne (by decide), cpR_ne (by decide), cpR_ne (by decide), tk2_at]
    · dsimp only
      unfold sCpI sCpP sCpS sCpT
      rw [cpR_ne (by decide), cpR_ne (by decide), cpR_ne (by decide), cpR_ne (by decide), cpR_ne (by decide), cpR_ne (by decide), cpR_at h]
    · dsimp only
      unfold sCpI sCpP sCpS sCpT
      rw [cpR_ne (by decide), cpR_ne (by decide), cpR_ne (by decide), cpR_ne (by decide), cpR_ne (by decide), cpR_at h]
    · dsimp only
      unfold sCpI sCpP sCpS sCpT
      rw [cpR_ne (by decide), cpR_ne (by decide), cpR_ne (by decide), cpR_ne (by decide), cpR_at h]
    · dsimp only
      unfold sCpI sCpP sCpS sCpT
      rw [cpR_ne (by decide), cpR_ne (by decide), cpR_ne (by decide), cpR_at h]
    · dsimp only
      unfold sCpI sCpP sCpS sCpT
      rw [cpR_ne (by decide), cpR_ne (by decide), cpR_at h]
    · dsimp only
      unfold sCpI sCpP sCpS sCpT
      rw [cpR_ne (by decide), cpR_at h]
    · dsimp only
      unfold sCpI sCpP sCpS sCpT
      rw [cpR_at h]
  · unfold cL at h
    split at h <;> first | exact absurd h (Nat.not_lt_zero _) | skip
    · dsimp only
      unfold sCpL
      rw [tk2_ne (by decide), cpR_ne (by decide), tk2_ne (by decide), cpR_ne (by decide), cpR_ne (by decide), cpR_ne (by decide), cpR_at h]
    · dsimp only
      unfold sCpL
      rw [tk2_ne (by decide), cpR_ne (by decide), tk2_ne (by decide), cpR_ne (by decide), cpR_ne (by decide), cpR_at h]
    · dsimp only
      unfold sCpL
      rw [tk2_ne (by decide), cpR_ne (by decide), tk2_ne (by decide), cpR_ne (by decide), cpR_at h]
    · dsimp only
      unfold sCpL
      rw [tk2_ne (by decide), cpR_ne (by decide), tk2_ne (by decide), cpR_at h]
    · obtain rfl : j = 0 := by omega
      dsimp only
      unfold sCpL
      rw [tk2_ne (by decide), cpR_ne (by decide), tk2_at]
    · dsimp only
      unfold sCpL
      rw [tk2_ne (by decide), cpR_at h]
theorem wAll.core {nt ns np b : Nat} {q s : tkI × tkL} (h : wAll nt ns np b s) (e : cEq q s) : wAll nt ns np b q := by
  obtain ⟨h1, h2, h3, c, h4, h5⟩ := h
  obtain ⟨e1, e2, -⟩ := e
  refine ⟨⟨(e1 1 0 (by decide)).trans h1.1, h1.2⟩, ⟨(e1 7 0 (by decide)).trans h2.1, h2.2.1, fun i hi => ?_⟩, ⟨(e1 12 0 (by decide)).trans h3.1, h3.2.1, fun i hi => ?_⟩, c, h4, (e2 25 0 (by decide)).trans h5⟩
  · rw [e1 8 i (by have := h2.2.1; show i < 10; omega)]
    exact h2.2.2 i hi
  · have h16 : i < 16 := by have := h3.2.1; omega
    rw [e1 13 i h16, e1 14 i h16, e1 17 i h16]
    exact h3.2.2 i hi
theorem cEq.trans {a b c : tkI × tkL} (h : cEq a b) (h2 : cEq b c) : cEq a c := ⟨fun k j z => (h.1 k j z).trans (h2.1 k j z), fun k j z => (h.2.1 k j z).trans (h2.2.1 k j z), h.2.2.trans h2.2.2⟩
end TKCORE
section TKDEPOT
variable {σ : tkM} {x p t dd : Nat} {I0 v : tkI} {L0 w : tkL}
def xNext (nt ns np : Nat) (n : Int32) (s q : tkI × tkL) : tkOut × (tkI × tkL) :=
  if bad n 1 5000 then (xIAE, q) else (.inl (some (.int (sNext nt ns np n n.toNatClampNeg 1 (sCpI s.1 q.1, sCpL s.2 q.2)).2)), (sNext nt ns np n n.toNatClampNeg 1 (sCpI s.1 q.1, sCpL s.2 q.2)).1)
theorem c_X5_nextChange (hX : tkTP σ x p t dd) (hP : tkReg 28 pT pF σ p) (hT : tkReg 28 pT pF σ t) (hd : p + 28 ≤ t ∨ t + 28 ≤ p) {nt ns np B : Nat} (hW : wAll nt ns np B ((fun k => v (p + k)), (fun k => w (p + k)))) (hB : B + 60000 < 2 ^ 62) (n : Int32) :
    tkCon false (.code yX5_nextChange cX5_nextChange 2 (some .int)) yX5_nextChange 10 [.ref x, .int n] σ (reg t 28 I0 v) (reg t 28 L0 w) 1 6 ((xNext nt ns np n ((fun k => v (p + k)), (fun k => w (p + k))) (I0, L0)).1)
      σ (reg t 28 (xNext nt ns np n ((fun k => v (p + k)), (fun k => w (p + k))) (I0, L0)).2.1 v) (reg t 28 (xNext nt ns np n ((fun k => v (p + k)), (fun k => w (p + k))) (I0, L0)).2.2 w) := by
  refine tkCon.of (by decide) (Nat.le_of_ble_eq_true rfl) (fun X C => ?_)
  unfold xNext
  dsimp only
  by_cases h : bad n 1 5000
  · rw [if_pos h]
    refine g_iload_n C (i := 1) dX5_nextChange_0 rfl rfl ?_
    refine g_iconst C (1) dX5_nextChange_1 rfl ?_
    refine g_callS C dX5_nextChange_2 mm_X5_needTicks ml_X5_121 mt_yX5_needTicks (c_X5_needTicks_bad (p := t) n 1 h) rfl ⟨by decide, Nat.le_of_ble_eq_true rfl, Nat.le_of_ble_eq_true rfl, Nat.le_of_ble_eq_true rfl⟩ tk_noret (tk_thr fun n9 hn9 => ?_)
    exact g_out C ⟨Nat.le_of_ble_eq_true rfl, Nat.le_of_ble_eq_true rfl⟩ rfl ⟨hn9, rfl⟩ rfl rfl
  · rw [if_neg h]
    obtain ⟨k, h1, hk, rfl⟩ := bad_5000 (a := 1) (by omega) h
    rw [nI_clamp (by omega)]
    have hc : wAll nt ns np B (sCpI (fun k => v (p + k)) I0, sCpL (fun k => w (p + k)) L0) := hW.core (sCp_core ((fun k => v (p + k)), (fun k => w (p + k))) (I0, L0))
    refine g_iload_n C (i := 1) dX5_nextChange_0 rfl rfl ?_
    refine g_iconst C (1) dX5_nextChange_1 rfl ?_
    refine g_callS C dX5_nextChange_2 mm_X5_needTicks ml_X5_121 mt_yX5_needTicks (c_X5_needTicks_ok (p := t) _ 1 h) rfl ⟨by decide, Nat.le_of_ble_eq_true rfl, Nat.le_of_ble_eq_true rfl, Nat.le_of_ble_eq_true rfl⟩ (tk_retn ?_) tk_nothr
    refine g_aload_n C (i := 0) dX5_nextChange_5 rfl rfl ?_
    refine g_getR C 5 1 (RX5, TX5, 4) dX5_nextChange_6 hX.1 hX.2.2.1 ml_X5_16 rfl (by decide) rfl ?_
    refine g_aload_n C (i := 0) dX5_nextChange_9 rfl rfl ?_
    refine g_getR C 5 0 (RX5, TX5, 4) dX5_nextChange_10 hX.1 hX.2.1 ml_X5_10 rfl (by decide) rfl ?_
    refine g_callV C (q := (RX1, TX1, 5)) (rest := _) dX5_nextChange_13 mm_X1_copyFrom ml_X5_132 mv_yX1_copyFrom ms_yX1_copyFrom (c_X1_copyFrom (p := t) (q := p) hT hP hd) rfl (hT.1 0 (by decide)) rfl rfl ⟨by decide, Nat.le_of_ble_eq_true rfl, Nat.le_of_ble_eq_true rfl, Nat.le_of_ble_eq_true rfl⟩ (tk_retn ?_) tk_nothr
    refine g_aload_n C (i := 0) dX5_nextChange_16 rfl rfl ?_
    refine g_getR C 5 1 (RX5, TX5, 4) dX5_nextChange_17 hX.1 hX.2.2.1 ml_X5_16 rfl (by decide) rfl ?_
    refine g_iload_n C (i := 1) dX5_nextChange_20 rfl rfl ?_
    refine g_callV C (q := (RX1, TX1, 5)) (rest := _) dX5_nextChange_21 mm_X1_advanceToChange ml_X5_136 mv_yX1_advanceToChange ms_yX1_advanceToChange (c_X1_advanceToChange hT hc hk (by omega)) rfl (hT.1 0 (by decide)) rfl rfl ⟨by decide, Nat.le_of_ble_eq_true rfl, Nat.le_of_ble_eq_true rfl, Nat.le_of_ble_eq_true rfl⟩ (tk_retv ?_) tk_nothr
    exact g_ireturn C dX5_nextChange_24 ⟨Nat.le_of_ble_eq_true rfl, Nat.le_of_ble_eq_true rfl⟩ (tkEnd.rf rfl rfl rfl)
theorem c_X5_save_full (hX : tkTP σ x p t dd) (hx : v x 3 = 4) :
    tkCon false (.code yX5_save cX5_save 2 (some .int)) yX5_save 10 [.ref x] σ v w 1 6 xISE σ v w := by
  refine tkCon.of (by decide) (Nat.le_of_ble_eq_true rfl) (fun X C => ?_)
  refine g_aload_n C (i := 0) dX5_save_0 rfl rfl ?_
  refine g_getI C 5 3 (RX5, TX5, 4) dX5_save_1 hX.1 rfl ml_X5_23 rfl (by decide) (Or.inl rfl) ?_
  rw [hx]
  refine g_iconst C (4) dX5_save_4 rfl ?_
  refine g_icmp_lt C 18 dX5_save_5 (by decide) (fun h5 => ?_) (fun h5 => ?_)
  · exact absurd h5 (by decide)
  · exact g_throwS C (text := "there are 4 depots") dX5_save_8 dX5_save_11 dX5_save_12 dX5_save_14 dX5_save_17 rfl ml_X5_56 mi_java_lang_IllegalStateException (by decide) mx_ise mg_ise ⟨by decide, Nat.le_of_ble_eq_true rfl, Nat.le_of_ble_eq_true rfl, Nat.le_of_ble_eq_true rfl⟩ ⟨Nat.le_of_ble_eq_true rfl, Nat.le_of_ble_eq_true rfl⟩ rfl ⟨Nat.le_refl _, rfl⟩ rfl rfl
theorem c_X5_save_old (hX : tkTP σ x p t dd) (hP : tkReg 28 pT pF σ p) {a j : Nat} (hA : tkReg 28 pT pF σ a) (hd : p + 28 ≤ a ∨ a + 28 ≤ p) (hj : j < 4) (hx : v x 3 = nI j) (ha : x < a ∨ a + 28 ≤ x) (hDD : σ.2.1 dd = (14, 4)) (hr : σ.2.2 dd j = some a) :
    tkCon false (.code yX5_save cX5_save 2 (some .int)) yX5_save 10 [.ref x] σ (reg a 28 I0 v) (reg a 28 L0 w) 0 0 (.inl (some (.int (nI (j + 1))))) σ (reg a 28 (sCpI (fun k => v (p + k)) I0) (tk2 v x 3 (nI (j + 1)))) (reg a 28 (sCpL (fun k => w (p + k)) L0) w) := by
  refine tkCon.of (by decide) (Nat.le_of_ble_eq_true rfl) (fun X C => ?_)
  refine g_aload_n C (i := 0) dX5_save_0 rfl rfl ?_
  refine g_getI C 5 3 (RX5, TX5, 4) dX5_save_1 hX.1 (reg_off (by omega)) ml_X5_23 rfl (by decide) (Or.inl rfl) ?_
  rw [hx]
  refine g_iconst C (4) dX5_save_4 rfl ?_
  refine g_icmp_lt C 18 dX5_save_5 (by decide) (fun h5 => ?_) (fun h5 => ?_)
  · refine g_aload_n C (i := 0) dX5_save_18 rfl rfl ?_
    refine g_getR C 5 2 (RX5, TX5, 4) dX5_save_19 hX.1 hX.2.2.2 ml_X5_19 rfl (by decide) rfl ?_
    refine g_aload_n C (i := 0) dX5_save_22 rfl rfl ?_
    refine g_getI C 5 3 (RX5, TX5, 4) dX5_save_23 hX.1 (reg_off (by omega)) ml_X5_23 rfl (by decide) (Or.inl rfl) ?_
    rw [hx]
    refine g_aald C (r := some a) dX5_save_26 hDD (vp_in_nI hj (by decide)) (by rw [nI_clamp (by omega)]; exact hr) ?_
    show tkG X _ 0 0 27 _ (.ref a :: _) _ _ _
    refine g_astore_n C (i := 1) dX5_save_27 rfl (by decide) ?_
    refine g_aload_n C (i := 1) dX5_save_28 rfl rfl ?_
    refine g_ifnonnull C 50 dX5_save_29 (by decide) ?_
    refine g_aload_n C (i := 1) dX5_save_50 rfl rfl ?_
    refine g_aload_n C (i := 0) dX5_save_51 rfl rfl ?_
    refine g_getR C 5 0 (RX5, TX5, 4) dX5_save_52 hX.1 hX.2.1 ml_X5_10 rfl (by decide) rfl ?_
    refine g_callV C (q := (RX1, TX1, 5)) (rest := _) dX5_save_55 mm_X1_copyFrom ml_X5_132 mv_yX1_copyFrom ms_yX1_copyFrom (c_X1_copyFrom (p := a) (q := p) hA hP hd) rfl (hA.1 0 (by decide)) rfl rfl ⟨by decide, Nat.le_of_ble_eq_true rfl, Nat.le_of_ble_eq_true rfl, Nat.le_of_ble_eq_true rfl⟩ (tk_retn ?_) tk_nothr
    refine g_aload_n C (i := 0) dX5_save_58 rfl rfl ?_
    refine g_dup C dX5_save_59 rfl ?_
    refine g_getI C 5 3 (RX5, TX5, 4) dX5_save_60 hX.1 (reg_off (by omega)) ml_X5_23 rfl (by decide) (Or.inl rfl) ?_
    refine g_iconst C (1) dX5_save_63 rfl ?_
    rw [hx]
    refine g_iadd C dX5_save_64 ?_
    rw [nI_1]
    refine g_putI C 5 3 (RX5, TX5, 4) dX5_save_65 hX.1 (tk2_off (by omega)) ml_X5_23 rfl (by decide) rfl rfl ?_
    refine g_aload_n C (i := 0) dX5_save_68 rfl rfl ?_
    refine g_getI C 5 3 (RX5, TX5, 4) dX5_save_69 hX.1 (reg_off (by omega)) ml_X5_23 rfl (by decide) (Or.inl rfl) ?_
    exact g_ireturn C dX5_save_72 ⟨Nat.le_of_ble_eq_true rfl, Nat.le_of_ble_eq_true rfl⟩ (tkEnd.rf (by rw [tk2_at]) rfl rfl)
  · exact absurd (nI_lt (b := 4) hj (by omega)) h5
theorem bM_0 (σ : tkM) (T : Nat → Nat × Nat) (R : Nat → Nat → Option Nat) : bM σ.1 0 T σ.2.1 R σ.2.2 = σ := by
  show (σ.1 + 0, rgS σ.1 0 T σ.2.1, reg σ.1 0 R σ.2.2) = σ
  rw [rgS_0, reg_0]
  rfl
/-- memory behind a new plant -/
def nPl (σ : tkM) : tkM := bM σ.1 28 pT σ.2.1 (rPl σ.1 (rOb 0 zR)) σ.2.2
theorem rPl_F (q : Nat) (R : Nat → Nat → Option Nat) {k j o : Nat} (h : pF k j = some o) : rPl q R k j = some (q + o) := by
  unfold pF at h
  split at h <;> first | (split at h <;> first | (cases h; rfl) | cases h) | cases h
theorem nPl_reg (σ : tkM) : tkReg 28 pT pF (nPl σ) σ.1 :=
  ⟨fun k hk => rgS_at hk, fun k j o hk h => by
    show reg σ.1 28 (rPl σ.1 (rOb 0 zR)) σ.2.2 (σ.1 + k) j = _
    rw [reg_at hk]
    exact rPl_F _ _ h⟩
theorem tkReg.old {N : Nat} {T : Nat → Nat × Nat} {F : Nat → Nat → Option Nat} {σ σ' : tkM} {p : Nat} (h : tkReg N T F σ p) (h1 : ∀ a, a < p + N → p ≤ a → σ'.2.1 a = σ.2.1 a) (h2 : ∀ a j, a < p + N → p ≤ a → σ'.2.2 a j = σ.2.2 a j) : tkReg N T F σ' p :=
  ⟨fun k hk => (h1 _ (by omega) (by omega)).trans (h.1 k hk), fun k j o hk hF => (h2 _ _ (by omega) (by omega)).trans (h.2 k j o hk hF)⟩
variable {X : tkX} {Q : State → Prop} {cc : ByteArray} {own nm : String} {nL d MC MS cs ss pc : Nat} {ret : Option FieldType} {hh : List (Nat × Nat × Nat × Nat)} {lv : List (Option Value)} {stk : List Value} {I : tkI} {L : tkL}
theorem g_newP (C : tkC X cc own nm nL ret hh d MC MS) {idx : Nat} (hd : decode cc pc = .ok (.new idx, 3)) (hw : Cond.classLink own idx RX1 ∈ tkAll) (h1 : cs + 1 ≤ MC) (h2 : ss + 5 ≤ MS)
    (kk : tkG X Q (cs + 1) (ss + 5) (pc + 3) lv (.ref (σ.1 + 0) :: stk) (bM σ.1 1 pT σ.2.1 (rOb 0 zR) σ.2.2) (reg σ.1 1 zI I) (reg σ.1 1 zL L)) : tkG X Q cs ss pc lv stk σ I L := by
  have h := b_new (p := σ.1) (n := 0) (T := pT) (S := σ.2.1) (R := zR) (V := σ.2.2) (I := I) (L := L) C 1 (RX1, TX1, 5) hd rfl hw mn_X1 mi_X1 rfl h1 h2 kk
  rw [bM_0, reg_0, reg_0] at h
  exact h
/-- memory behind the save of a new depot -/
def nDe (σ : tkM) (dd j : Nat) : tkM := bM σ.1 28 pT σ.2.1 (rPl σ.1 (rOb 0 zR)) (tk2 σ.2.2 dd j (some σ.1))
theorem c_X5_save_new (hX : tkTP σ x p t dd) (hP : tkReg 28 pT pF σ p) {j : Nat} (hp : p + 28 ≤ σ.1) (hxs : x < σ.1) (hds : dd < σ.1) (hpd : dd < p ∨ p + 28 ≤ dd) (hxd : x ≠ dd) (hj : j < 4) (hx : v x 3 = nI j) (hDD : σ.2.1 dd = (14, 4)) (hr : σ.2.2 dd j = none) :
    tkCon false (.code yX5_save cX5_save 2 (some .int)) yX5_save 10 [.ref x] σ v w 28 364 (.inl (some (.int (nI (j + 1))))) (nDe σ dd j) (reg σ.1 28 (sCpI (fun k => v (p + k)) zI) (tk2 v x 3 (nI (j + 1)))) (reg σ.1 28 (sCpL (fun k => w (p + k)) zL) w) := by
  refine tkCon.of (by decide) (Nat.le_of_ble_eq_true rfl) (fun X C => ?_)
  refine g_aload_n C (i := 0) dX5_save_0 rfl rfl ?_
  refine g_getI C 5 3 (RX5, TX5, 4) dX5_save_1 hX.1 rfl ml_X5_23 rfl (by decide) (Or.inl rfl) ?_
  rw [hx]
  refine g_iconst C (4) dX5_save_4 rfl ?_
  refine g_icmp_lt C 18 dX5_save_5 (by decide) (fun h5 => ?_) (fun h5 => ?_)
  · refine g_aload_n C (i := 0) dX5_save_18 rfl rfl ?_
    refine g_getR C 5 2 (RX5, TX5, 4) dX5_save_19 hX.1 hX.2.2.2 ml_X5_19 rfl (by decide) rfl ?_
    refine g_aload_n C (i := 0) dX5_save_22 rfl rfl ?_
    refine g_getI C 5 3 (RX5, TX5, 4) dX5_save_23 hX.1 rfl ml_X5_23 rfl (by decide) (Or.inl rfl) ?_
    rw [hx]
    refine g_aald C (r := none) dX5_save_26 hDD (vp_in_nI hj (by decide)) (by rw [nI_clamp (by omega)]; exact hr) ?_
    show tkG X _ 0 0 27 _ (.null :: _) _ _ _
    refine g_astoreN_n C (i := 1) dX5_save_27 rfl (by decide) ?_
    refine g_aloadN_n C (i := 1) dX5_save_28 rfl rfl ?_
    refine g_ifnonnullN C dX5_save_29 ?_
    refine g_newP C dX5_save_32 ml_X5_7 (Nat.le_of_ble_eq_true rfl) (Nat.le_of_ble_eq_true rfl) ?_
    refine g_dup C dX5_save_35 rfl ?_
    refine g_callIN C dX5_save_36 mm_X1_init ml_X5_9 mv_yX1_init rfl (c_X1_init) rfl ⟨by decide, Nat.le_of_ble_eq_true rfl, Nat.le_of_ble_eq_true rfl, Nat.le_of_ble_eq_true rfl⟩ (tk_retn ?_) tk_nothr
    refine g_astore_n C (i := 1) dX5_save_39 rfl (by decide) ?_
    have hX1 : tkTP (bM σ.1 28 pT σ.2.1 (rPl σ.1 (rOb 0 zR)) σ.2.2) x p t dd := ⟨(rgS_off (Or.inl hxs)).trans hX.1, (congrFun (reg_off (Or.inl hxs)) _).trans hX.2.1, (congrFun (reg_off (Or.inl hxs)) _).trans hX.2.2.1, (congrFun (reg_off (Or.inl hxs)) _).trans hX.2.2.2⟩
    have hD1 : (bM σ.1 28 pT σ.2.1 (rPl σ.1 (rOb 0 zR)) σ.2.2).2.1 dd = (14, 4) := (rgS_off (Or.inl hds)).trans hDD
    refine g_aload_n C (i := 0) dX5_save_40 rfl rfl ?_
    refine g_getR C 5 2 (RX5, TX5, 4) dX5_save_41 hX1.1 hX1.2.2.2 ml_X5_19 rfl (by decide) rfl ?_
    refine g_aload_n C (i := 0) dX5_save_44 rfl rfl ?_
    refine g_getI C 5 3 (RX5, TX5, 4) dX5_save_45 hX1.1 (reg_off (by omega)) ml_X5_23 rfl (by decide) (Or.inl rfl) ?_
    refine g_aload_n C (i := 1) dX5_save_48 rfl rfl ?_
    rw [hx]
    refine g_aast C dX5_save_49 hD1 (r1 := reg σ.1 28 (rPl σ.1 (rOb 0 zR)) (tk2 σ.2.2 dd j (some (σ.1 + 0)))) (v := σ.1 + 0) (nv := 0) (rgS_at (k := 0) (by decide)) (by rw [nI_clamp (by omega)]; exact tk2_off (Or.inl hds)) (vp_in_nI hj (by decide)) ?_
    have eσ : ((bM σ.1 28 pT σ.2.1 (rPl σ.1 (rOb 0 zR)) σ.2.2).1, (bM σ.1 28 pT σ.2.1 (rPl σ.1 (rOb 0 zR)) σ.2.2).2.1, reg σ.1 28 (rPl σ.1 (rOb 0 zR)) (tk2 σ.2.2 dd j (some (σ.1 + 0)))) = nDe σ dd j := rfl
    rw [eσ]
    have hX2 : tkTP (nDe σ dd j) x p t dd := ⟨hX1.1, (congrFun (reg_off (Or.inl hxs)) _).trans ((tk2_ne hxd).trans hX.2.1), (congrFun (reg_off (Or.inl hxs)) _).trans ((tk2_ne hxd).trans hX.2.2.1), (congrFun (reg_off (Or.inl hxs)) _).trans ((tk2_ne hxd).trans hX.2.2.2)⟩
    have hA : tkReg 28 pT pF (nDe σ dd j) σ.1 := ⟨(nPl_reg σ).1, fun k j9 o hk h => by
      show reg σ.1 28 (rPl σ.1 (rOb 0 zR)) (tk2 σ.2.2 dd j (some σ.1)) (σ.1 + k) j9 = _
      rw [reg_at hk]
      exact rPl_F _ _ h⟩
    have hP2 : tkReg 28 pT pF (nDe σ dd j) p := hP.old (fun a h1 h2 => rgS_off (Or.inl (by omega))) (fun a j9 h1 h2 => (congrFun (reg_off (Or.inl (by omega))) _).trans (tk2_ne (by omega)))
    refine g_aload_n C (i := 1) dX5_save_50 rfl rfl ?_
    refine g_aload_n C (i := 0) dX5_save_51 rfl rfl ?_
    refine g_getR C 5 0 (RX5, TX5, 4) dX5_save_52 hX2.1 hX2.2.1 ml_X5_10 rfl (by decide) rfl ?_
    refine g_callV C (q := (RX1, TX1, 5)) (rest := _) dX5_save_55 mm_X1_copyFrom ml_X5_132 mv_yX1_copyFrom ms_yX1_copyFrom (c_X1_copyFrom (p := σ.1) (q := p) hA hP2 (Or.inl hp)) rfl (hA.1 0 (by decide)) rfl rfl ⟨by decide, Nat.le_of_ble_eq_true rfl, Nat.le_of_ble_eq_true rfl, Nat.le_of_ble_eq_true rfl⟩ (tk_retn ?_) tk_nothr
    refine g_aload_n C (i := 0) dX5_save_58 rfl rfl ?_
    refine g_dup C dX5_save_59 rfl ?_
    refine g_getI C 5 3 (RX5, TX5, 4) dX5_save_60 hX2.1 (reg_off (by omega)) ml_X5_23 rfl (by decide) (Or.inl rfl) ?_
    refine g_iconst C (1) dX5_save_63 rfl ?_
    rw [hx]
    refine g_iadd C dX5_save_64 ?_
    rw [nI_1]
    refine g_putI C 5 3 (RX5, TX5, 4) dX5_save_65 hX2.1 (tk2_off (by omega)) ml_X5_23 rfl (by decide) rfl rfl ?_
    refine g_aload_n C (i := 0) dX5_save_68 rfl rfl ?_
    refine g_getI C 5 3 (RX5, TX5, 4) dX5_save_69 hX2.1 (reg_off (by omega)) ml_X5_23 rfl (by decide) (Or.inl rfl) ?_
    exact g_ireturn C dX5_save_72 ⟨Nat.le_of_ble_eq_true rfl, Nat.le_of_ble_eq_true rfl⟩ (tkEnd.rf (by rw [tk2_at]) rfl rfl)
  · exact absurd (nI_lt (b := 4) hj (by omega)) h5
theorem c_X5_restore_none (hX : tkTP σ x p t dd) (hx : v x 3 = 0) :
    tkCon false (.code yX5_restore cX5_restore 2 (some .int)) yX5_restore 10 [.ref x] σ v w 1 6 xISE σ v w := by
  refine tkCon.of (by decide) (Nat.le_of_ble_eq_true rfl) (fun X C => ?_)
  refine g_aload_n C (i := 0) dX5_restore_0 rfl rfl ?_
  refine g_getI C 5 3 (RX5, TX5, 4) dX5_restore_1 hX.1 rfl ml_X5_23 rfl (by decide) (Or.inl rfl) ?_
  rw [hx]
  refine g_if_le C 21 dX5_restore_4 (by decide) (fun h4 => ?_) (fun h4 => ?_)
  · refine g_null C dX5_restore_21 ?_
    refine g_astoreN_n C (i := 1) dX5_restore_22 rfl (by decide) ?_
    refine g_aloadN_n C (i := 1) dX5_restore_23 rfl rfl ?_
    refine g_ifnonnullN C dX5_restore_24 ?_
    exact g_throwS C (text := "there is no depot") dX5_restore_27 dX5_restore_30 dX5_restore_31 dX5_restore_33 dX5_restore_36 rfl ml_X5_56 mi_java_lang_IllegalStateException (by decide) mx_ise mg_ise ⟨by decide, Nat.le_of_ble_eq_true rfl, Nat.le_of_ble_eq_true rfl, Nat.le_of_ble_eq_true rfl⟩ ⟨Nat.le_of_ble_eq_true rfl, Nat.le_of_ble_eq_true rfl⟩ rfl ⟨Nat.le_refl _, rfl⟩ rfl rfl
  · exact absurd (by decide) h4
theorem c_X5_restore (hX : tkTP σ x p t dd) (hP : tkReg 28 pT pF σ p) {a j : Nat} (hA : tkReg 28 pT pF σ a) (hd : a + 28 ≤ p ∨ p + 28 ≤ a) (hj : j < 4) (hx : v x 3 = nI (j + 1)) (hxp : x < p ∨ p + 28 ≤ x) (hDD : σ.2.1 dd = (14, 4)) (hr : σ.2.2 dd j = some a) :
    tkCon false (.code yX5_restore cX5_restore 2 (some .int)) yX5_restore 10 [.ref x] σ (reg p 28 I0 v) (reg p 28 L0 w) 0 0 (.inl (some (.int (nI j)))) σ (reg p 28 (sCpI (fun k => v (a + k)) I0) (tk2 v x 3 (nI j))) (reg p 28 (sCpL (fun k => w (a + k)) L0) w) := by
  refine tkCon.of (by decide) (Nat.le_of_ble_eq_true rfl) (fun X C => ?_)
  refine g_aload_n C (i := 0) dX5_restore_0 rfl rfl ?_
  refine g_getI C 5 3 (RX5, TX5, 4) dX5_restore_1 hX.1 (reg_off (by omega)) ml_X5_23 rfl (by decide) (Or.inl rfl) ?_
  rw [hx]
  refine g_if_le C 21 dX5_restore_4 (by decide) (fun h4 => ?_) (fun h4 => ?_)
  · exact absurd h4 (nI_nle (by omega) (by omega))
  · refine g_aload_n C (i := 0) dX5_restore_7 rfl rfl ?_
    refine g_getR C 5 2 (RX5, TX5, 4) dX5_restore_8 hX.1 hX.2.2.2 ml_X5_19 rfl (by decide) rfl ?_
    refine g_aload_n C (i := 0) dX5_restore_11 rfl rfl ?_
    refine g_getI C 5 3 (RX5, TX5, 4) dX5_restore_12 hX.1 (reg_off (by omega)) ml_X5_23 rfl (by decide) (Or.inl rfl) ?_
    refine g_iconst C (1) dX5_restore_15 rfl ?_
    rw [hx]
    refine g_isub C dX5_restore_16 ?_
    rw [nI_pred]
    refine g_aald C (r := some a) dX5_restore_17 hDD (vp_in_nI hj (by decide)) (by rw [nI_clamp (by omega)]; exact hr) ?_
    show tkG X _ 0 0 18 _ (.ref a :: _) _ _ _
    refine g_goto C 22 dX5_restore_18 (by decide) ?_
    refine g_astore_n C (i := 1) dX5_restore_22 rfl (by decide) ?_
    refine g_aload_n C (i := 1) dX5_restore_23 rfl rfl ?_
    refine g_ifnonnull C 37 dX5_restore_24 (by decide) ?_
    refine g_aload_n C (i := 0) dX5_restore_37 rfl rfl ?_
    refine g_getR C 5 0 (RX5, TX5, 4) dX5_restore_38 hX.1 hX.2.1 ml_X5_10 rfl (by decide) rfl ?_
    refine g_aload_n C (i := 1) dX5_restore_41 rfl rfl ?_
    refine g_callV C (q := (RX1, TX1, 5)) (rest := _) dX5_restore_42 mm_X1_copyFrom ml_X5_132 mv_yX1_copyFrom ms_yX1_copyFrom (c_X1_copyFrom (p := p) (q := a) hP hA hd) rfl (hP.1 0 (by decide)) rfl rfl ⟨by decide, Nat.le_of_ble_eq_true rfl, Nat.le_of_ble_eq_true rfl, Nat.le_of_ble_eq_true rfl⟩ (tk_retn ?_) tk_nothr
    refine g_aload_n C (i := 0) dX5_restore_45 rfl rfl ?_
    refine g_dup C dX5_restore_46 rfl ?_
    refine g_getI C 5 3 (RX5, TX5, 4) dX5_restore_47 hX.1 (reg_off (by omega)) ml_X5_23 rfl (by decide) (Or.inl rfl) ?_
    rw [hx]
    refine g_iconst C (1) dX5_restore_50 rfl ?_
    refine g_isub C dX5_restore_51 ?_
    rw [nI_pred]
    refine g_putI C 5 3 (RX5, TX5, 4) dX5_restore_52 hX.1 (tk2_off (by omega)) ml_X5_23 rfl (by decide) rfl rfl ?_
    refine g_aload_n C (i := 0) dX5_restore_55 rfl rfl ?_
    refine g_getI C 5 3 (RX5, TX5, 4) dX5_restore_56 hX.1 (reg_off (by omega)) ml_X5_23 rfl (by decide) (Or.inl rfl) ?_
    exact g_ireturn C dX5_restore_59 ⟨Nat.le_of_ble_eq_true rfl, Nat.le_of_ble_eq_true rfl⟩ (tkEnd.rf (by rw [tk2_at]) rfl rfl)
def xDigest (nt ns np : Nat) (dc : Int32) (q : tkI × tkL) : Int64 :=
  jmix (itr (sPmix q.1 q.2) np (itr (sSmix q.1) ns (itr (sTmix q.1) nt (jmix (jmix (jmix (jmix (jmix 67 (q.2 0 4)) (q.1 1 0).toInt64) (q.1 7 0).toInt64) (q.1 12 0).toInt64) dc.toInt64)))) (q.2 25 0)
theorem c_X5_digest (hX : tkTP σ x p t dd) (hP : tkReg 28 pT pF σ p) (hxp : x < p ∨ p + 28 ≤ x) {nt ns np : Nat} (hT : wTk I0 nt) (hS : wSw I0 ns) (hU : wPu I0 np) :
    tkCon false (.code yX5_digest cX5_digest 3 (some .long)) yX5_digest 10 [.ref x] σ (reg p 28 I0 v) (reg p 28 L0 w) 0 0 (.inl (some (.long (xDigest nt ns np (v x 3) (I0, L0))))) σ (reg p 28 I0 v) (reg p 28 L0 w) := by
  refine tkCon.of (by decide) (Nat.le_of_ble_eq_true rfl) (fun X C => ?_)
  unfold xDigest
  dsimp only
  refine g_ldc2 C (67) dX5_digest_0 ml_X5_191 ?_
  refine g_aload_n C (i := 0) dX5_digest_3 rfl rfl ?_
  refine g_getR C 5 0 (RX5, TX5, 4) dX5_digest_4 hX.1 hX.2.1 ml_X5_10 rfl (by decide) rfl ?_
  refine g_getL C 1 4 (RX1, TX1, 5) dX5_digest_7 (hP.1 0 (by decide)) (reg_at (k := 0) (by decide)) ml_X5_139 rfl (by decide) rfl ?_
  refine g_callS C dX5_digest_10 mm_X5_mix ml_X5_193 mt_yX5_mix (c_X5_mix _ _) rfl ⟨by decide, Nat.le_of_ble_eq_true rfl, Nat.le_of_ble_eq_true rfl, Nat.le_of_ble_eq_true rfl⟩ (tk_retv ?_) tk_nothr
  refine g_lstore_n C (i := 1) dX5_digest_13 rfl (by decide) ?_
  show tkG X _ _ _ 14 [some (.ref x), some (.long _), none] _ _ _ _
  refine g_lload_n C (i := 1) dX5_digest_14 rfl rfl ?_
  refine g_aload_n C (i := 0) dX5_digest_15 rfl rfl ?_
  refine g_getR C 5 0 (RX5, TX5, 4) dX5_digest_16 hX.1 hX.2.1 ml_X5_10 rfl (by decide) rfl ?_
  refine g_getR C 1 0 (RX1, TX1, 5) dX5_digest_19 (hP.1 0 (by decide)) (hP.2 0 0 1 (by decide) rfl) ml_X5_47 rfl (by decide) rfl ?_
  refine g_getI C 4 0 (RX4, TX4, 6) dX5_digest_22 (hP.1 1 (by decide)) (reg_at (k := 1) (by decide)) ml_X5_51 rfl (by decide) (Or.inl rfl) ?_
  refine g_i2l C dX5_digest_25 ?_
  refine g_callS C dX5_digest_26 mm_X5_mix ml_X5_193 mt_yX5_mix (c_X5_mix _ _) rfl ⟨by decide, Nat.le_of_ble_eq_true rfl, Nat.le_of_ble_eq_true rfl, Nat.le_of_ble_eq_true rfl⟩ (tk_retv ?_) tk_nothr
  refine g_lstore_n C (i := 1) dX5_digest_29 rfl (by decide) ?_
  show tkG X _ _ _ 30 [some (.ref x), some (.long _), none] _ _ _ _
  refine g_lload_n C (i := 1) dX5_digest_30 rfl rfl ?_
  refine g_aload_n C (i := 0) dX5_digest_31 rfl rfl ?_
  refine g_getR C 5 0 (RX5, TX5, 4) dX5_digest_32 hX.1 hX.2.1 ml_X5_10 rfl (by decide) rfl ?_
  refine g_getR C 1 1 (RX1, TX1, 5) dX5_digest_35 (hP.1 0 (by decide)) (hP.2 0 1 7 (by decide) rfl) ml_X5_74 rfl (by decide) rfl ?_
  refine g_getI C 3 0 (RX3, TX3, 5) dX5_digest_38 (hP.1 7 (by decide)) (reg_at (k := 7) (by decide)) ml_X5_78 rfl (by decide) (Or.inl rfl) ?_
  refine g_i2l C dX5_digest_41 ?_
  refine g_callS C dX5_digest_42 mm_X5_mix ml_X5_193 mt_yX5_mix (c_X5_mix _ _) rfl ⟨by decide, Nat.le_of_ble_eq_true rfl, Nat.le_of_ble_eq_true rfl, Nat.le_of_ble_eq_true rfl⟩ (tk_retv ?_) tk_nothr
  refine g_lstore_n C (i := 1) dX5_digest_45 rfl (by decide) ?_
  show tkG X _ _ _ 46 [some (.ref x), some (.long _), none] _ _ _ _
  refine g_lload_n C (i := 1) dX5_digest_46 rfl rfl ?_
  refine g_aload_n C (i := 0) dX5_digest_47 rfl rfl ?_
  refine g_getR C 5 0 (RX5, TX5, 4) dX5_digest_48 hX.1 hX.2.1 ml_X5_10 rfl (by decide) rfl ?_
  refine g_getR C 1 2 (RX1, TX1, 5) dX5_digest_51 (hP.1 0 (by decide)) (hP.2 0 2 12 (by decide) rfl) ml_X5_97 rfl (by decide) rfl ?_
  refine g_getI C 2 0 (RX2, TX2, 13) dX5_digest_54 (hP.1 12 (by decide)) (reg_at (k := 12) (by decide)) ml_X5_101 rfl (by decide) (Or.inl rfl) ?_
  refine g_i2l C dX5_digest_57 ?_
  refine g_callS C dX5_digest_58 mm_X5_mix ml_X5_193 mt_yX5_mix (c_X5_mix _ _) rfl ⟨by decide, Nat.le_of_ble_eq_true rfl, Nat.le_of_ble_eq_true rfl, Nat.le_of_ble_eq_true rfl⟩ (tk_retv ?_) tk_nothr
  refine g_lstore_n C (i := 1) dX5_digest_61 rfl (by decide) ?_
  show tkG X _ _ _ 62 [some (.ref x), some (.long _), none] _ _ _ _
  refine g_lload_n C (i := 1) dX5_digest_62 rfl rfl ?_
  refine g_aload_n C (i := 0) dX5_digest_63 rfl rfl ?_
  refine g_getI C 5 3 (RX5, TX5, 4) dX5_digest_64 hX.1 (reg_off (by omega)) ml_X5_23 rfl (by decide) (Or.inl rfl) ?_
  refine g_i2l C dX5_digest_67 ?_
  refine g_callS C dX5_digest_68 mm_X5_mix ml_X5_193 mt_yX5_mix (c_X5_mix _ _) rfl ⟨by decide, Nat.le_of_ble_eq_true rfl, Nat.le_of_ble_eq_true rfl, Nat.le_of_ble_eq_true rfl⟩ (tk_retv ?_) tk_nothr
  refine g_lstore_n C (i := 1) dX5_digest_71 rfl (by decide) ?_
  show tkG X _ _ _ 72 [some (.ref x), some (.long _), none] _ _ _ _
  refine g_aload_n C (i := 0) dX5_digest_72 rfl rfl ?_
  refine g_getR C 5 0 (RX5, TX5, 4) dX5_digest_73 hX.1 hX.2.1 ml_X5_10 rfl (by decide) rfl ?_
  refine g_getR C 1 0 (RX1, TX1, 5) dX5_digest_76 (hP.1 0 (by decide)) (hP.2 0 0 1 (by decide) rfl) ml_X5_47 rfl (by decide) rfl ?_
  refine g_lload_n C (i := 1) dX5_digest_79 rfl rfl ?_
  refine g_callV C (q := (RX4, TX4, 6)) (rest := _) dX5_digest_80 mm_X4_mixedInto ml_X5_197 mv_yX4_mixedInto ms_yX4_mixedInto (c_X4_mixedInto hP hT _) rfl (hP.1 1 (by decide)) rfl rfl ⟨by decide, Nat.le_of_ble_eq_true rfl, Nat.le_of_ble_eq_true rfl, Nat.le_of_ble_eq_true rfl⟩ (tk_retv ?_) tk_nothr
  refine g_lstore_n C (i := 1) dX5_digest_83 rfl (by decide) ?_
  show tkG X _ _ _ 84 [some (.ref x), some (.long _), none] _ _ _ _
  refine g_aload_n C (i := 0) dX5_digest_84 rfl rfl ?_
  refine g_getR C 5 0 (RX5, TX5, 4) dX5_digest_85 hX.1 hX.2.1 ml_X5_10 rfl (by decide) rfl ?_
  refine g_getR C 1 1 (RX1, TX1, 5) dX5_digest_88 (hP.1 0 (by decide)) (hP.2 0 1 7 (by decide) rfl) ml_X5_74 rfl (by decide) rfl ?_
  refine g_lload_n C (i := 1) dX5_digest_91 rfl rfl ?_
  refine g_callV C (q := (RX3, TX3, 5)) (rest := _) dX5_digest_92 mm_X3_mixedInto ml_X5_201 mv_yX3_mixedInto ms_yX3_mixedInto (c_X3_mixedInto hP hS _) rfl (hP.1 7 (by decide)) rfl rfl ⟨by decide, Nat.le_of_ble_eq_true rfl, Nat.le_of_ble_eq_true rfl, Nat.le_of_ble_eq_true rfl⟩ (tk_retv ?_) tk_nothr
  refine g_lstore_n C (i := 1) dX5_digest_95 rfl (by decide) ?_
  show tkG X _ _ _ 96 [some (.ref x), some (.long _), none] _ _ _ _
  refine g_aload_n C (i := 0) dX5_digest_96 rfl rfl ?_
  refine g_getR C 5 0 (RX5, TX5, 4) dX5_digest_97 hX.1 hX.2.1 ml_X5_10 rfl (by decide) rfl ?_
  refine g_getR C 1 2 (RX1, TX1, 5) dX5_digest_100 (hP.1 0 (by decide)) (hP.2 0 2 12 (by decide) rfl) ml_X5_97 rfl (by decide) rfl ?_
  refine g_lload_n C (i := 1) dX5_digest_103 rfl rfl ?_
  refine g_callV C (q := (RX2, TX2, 13)) (rest := _) dX5_digest_104 mm_X2_mixedInto ml_X5_202 mv_yX2_mixedInto ms_yX2_mixedInto (c_X2_mixedInto hP hU _) rfl (hP.1 12 (by decide)) rfl rfl ⟨by decide, Nat.le_of_ble_eq_true rfl, Nat.le_of_ble_eq_true rfl, Nat.le_of_ble_eq_true rfl⟩ (tk_retv ?_) tk_nothr
  refine g_lstore_n C (i := 1) dX5_digest_107 rfl (by decide) ?_
  show tkG X _ _ _ 108 [some (.ref x), some (.long _), none] _ _ _ _
  refine g_lload_n C (i := 1) dX5_digest_108 rfl rfl ?_
  refine g_aload_n C (i := 0) dX5_digest_109 rfl rfl ?_
  refine g_getR C 5 0 (RX5, TX5, 4) dX5_digest_110 hX.1 hX.2.1 ml_X5_10 rfl (by decide) rfl ?_
  refine g_getR C 1 3 (RX1, TX1, 5) dX5_digest_113 (hP.1 0 (by decide)) (hP.2 0 3 25 (by decide) rfl) ml_X5_167 rfl (by decide) rfl ?_
  refine g_getL C 0 0 (RX0, TX0, 3) dX5_digest_116 (hP.1 25 (by decide)) (reg_at (k := 25) (by decide)) ml_X5_171 rfl (by decide) rfl ?_
  refine g_callS C dX5_digest_119 mm_X5_mix ml_X5_193 mt_yX5_mix (c_X5_mix _ _) rfl ⟨by decide, Nat.le_of_ble_eq_true rfl, Nat.le_of_ble_eq_true rfl, Nat.le_of_ble_eq_true rfl⟩ (tk_retv ?_) tk_nothr
  exact g_lreturn C dX5_digest_122 ⟨Nat.le_of_ble_eq_true rfl, Nat.le_of_ble_eq_true rfl⟩ (tkEnd.rf rfl rfl rfl)
end TKDEPOT

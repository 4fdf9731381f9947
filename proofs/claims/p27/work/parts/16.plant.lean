section TKPLANT
variable {σ : tkM} {p : Nat} {I0 v : tkI} {L0 w : tkL}
/-! the plant's steps -/
def sTick (nt ns np : Nat) (q : tkI × tkL) : (tkI × tkL) × Int32 :=
  let f := itr (sFol (q.2 0 4)) ns ((sBef q.1, q.2), 0)
  let r := itr sLeak nt (itr sMv np f.1)
  ((r.1, tk2 r.2 0 4 (r.2 0 4 + 1)), f.2)
def sSteady (nt ns np : Nat) (I : tkI) (lim : Int32) : Int32 := itr (sTst I) nt (itr (sPst I) np (itr (sSst I) ns lim))
def sLast (nt ns np : Nat) (lim : Int32) (q : tkI × tkL) : (tkI × tkL) × Int32 :=
  let st := sSteady nt ns np q.1 lim
  if 0 < st then
    let r := itr (sRep st) nt (q.1, itr (sPrep q.1 st) np q.2)
    ((r.1, tk2 r.2 0 4 (r.2 0 4 + st.toInt64)), st)
  else (q, 0)
def sAdv (nt ns np : Nat) (ticks : Int32) : Nat → Int32 → (tkI × tkL) × Int32 → (tkI × tkL) × Int32
  | 0, _, q => q
  | k + 1, done, q => if done < ticks then
      let t := sTick nt ns np q.1
      let r := sLast nt ns np (ticks - done - 1) t.1
      sAdv nt ns np ticks k (done + r.2 + 1) (r.1, q.2 + t.2)
    else q
def sShort (j : Nat) (mark b : Int32) (I : tkI) (lim : Int32) : Int32 := if b = 0 then jtw (mark.toInt64 - (I 3 j).toInt64 - 1) (-(I 3 j - I 6 j)).toInt64 lim else jtw ((I 3 j).toInt64 - mark.toInt64 - 1) (I 3 j - I 6 j).toInt64 lim
def sUnt (nt ns np j : Nat) (mark b most : Int32) : Nat → Int32 → tkI × tkL → (tkI × tkL) × Int32
  | 0, _, q => (q, -1)
  | k + 1, done, q => if most < done then (q, -1) else
      let t := (sTick nt ns np q).1
      if jreach (t.1 3 j) mark b = 0 then
        let r := sLast nt ns np (sShort j mark b t.1 (most - done)) t
        sUnt nt ns np j mark b most k (done + r.2 + 1) r.1
      else (t, done)
def sNext (nt ns np : Nat) (most : Int32) : Nat → Int32 → tkI × tkL → (tkI × tkL) × Int32
  | 0, _, q => (q, -1)
  | k + 1, done, q => if most < done then (q, -1) else
      let t := sTick nt ns np q
      if t.2 ≤ 0 then
        let r := sLast nt ns np (most - done) t.1
        sNext nt ns np most k (done + r.2 + 1) r.1
      else (t.1, done)
/-! what stays in order -/
def wAll (nt ns np b : Nat) (q : tkI × tkL) : Prop := wTk q.1 nt ∧ wSw q.1 ns ∧ wPu q.1 np ∧ ∃ c, c ≤ b ∧ q.2 25 0 = lN c
theorem wAll.mono {nt ns np b b' : Nat} {q : tkI × tkL} (h : wAll nt ns np b q) (hb : b ≤ b') : wAll nt ns np b' q := by
  obtain ⟨h1, h2, h3, c, h4, h5⟩ := h
  exact ⟨h1, h2, h3, c, by omega, h5⟩
theorem wTk.keep {I I1 : tkI} {nt : Nat} (h : wTk I nt) (h1 : I1 1 = I 1) : wTk I1 nt := ⟨by rw [h1]; exact h.1, h.2⟩
theorem wSw.keep {I I1 : tkI} {ns : Nat} (h : wSw I ns) (h7 : I1 7 = I 7) (h8 : I1 8 = I 8) : wSw I1 ns := ⟨by rw [h7]; exact h.1, h.2.1, fun i hi => by rw [h8]; exact h.2.2 i hi⟩
/-- which rows of ints a switch's step leaves -/
theorem sFol_keep (now : Int64) (i : Nat) (q : (tkI × tkL) × Int32) {k : Nat} (h1 : k ≠ 11) (h2 : k ≠ 27) : (sFol now i q).1.1 k = q.1.1 k := by
  unfold sFol
  split
  · rfl
  · funext j
    simp [sNote, tk2, h1, h2]
theorem sLeak_keep (i : Nat) (q : tkI × tkL) {k : Nat} (h1 : k ≠ 3) : (sLeak i q).1 k = q.1 k := by
  funext j
  simp [sLeak, tk2, h1]
theorem itr_keep {α β : Type} {f : Nat → α → α} {g : α → β} (h : ∀ i a, g (f i a) = g a) : ∀ (n : Nat) (a : α), g (itr f n a) = g a
  | 0, _ => rfl
  | n + 1, a => (h n _).trans (itr_keep h n a)
theorem sBef_keep (I : tkI) {k : Nat} (h : k ≠ 6) : sBef I k = I k := by simp [sBef, tk1, h]
theorem sTick_keep (nt ns np : Nat) (q : tkI × tkL) {k : Nat} (h3 : k ≠ 3) (h6 : k ≠ 6) (h11 : k ≠ 11) (h22 : k ≠ 22) (h23 : k ≠ 23) (h24 : k ≠ 24) (h27 : k ≠ 27) : (sTick nt ns np q).1.1 k = q.1 k := by
  show (itr sLeak nt _).1 k = q.1 k
  rw [itr_keep (g := fun a : tkI × tkL => a.1 k) (fun i a => sLeak_keep i a h3), itr_keep (g := fun a : tkI × tkL => a.1 k) (fun i a => by
    show (sMv i a).1 k = a.1 k
    unfold sMv
    split
    · rfl
    · exact sMove_keep i a.1 h3 h22 h23 h24), itr_keep (g := fun a : (tkI × tkL) × Int32 => a.1.1 k) (fun i a => sFol_keep _ i a h11 h27)]
  exact sBef_keep q.1 h6
theorem sEnter_25 (t : Int32) (i : Nat) (I : tkI) (L : tkL) {k : Nat} (h19 : k ≠ 19) (h20 : k ≠ 20) (h21 : k ≠ 21) : sEnter t i I L k = L k := by
  funext j
  unfold sEnter
  split <;> simp [tk2, h19, h20, h21]
theorem sMv_L (i : Nat) (q : tkI × tkL) {k : Nat} (h19 : k ≠ 19) (h20 : k ≠ 20) (h21 : k ≠ 21) : (sMv i q).2 k = q.2 k := by
  unfold sMv
  split
  · rfl
  · exact sEnter_25 1 i _ _ h19 h20 h21
theorem sLeak_L (i : Nat) (q : tkI × tkL) {k : Nat} (h5 : k ≠ 5) : (sLeak i q).2 k = q.2 k := by
  funext j
  simp [sLeak, tk2, h5]
theorem tk_time25 (L : tkL) (x : Int64) : tk2 L 0 4 x 25 0 = L 25 0 := by simp [tk2]
theorem wAll.tick {nt ns np b : Nat} {q : tkI × tkL} (h : wAll nt ns np b q) : wAll nt ns np (b + 10) (sTick nt ns np q).1 := by
  obtain ⟨h1, h2, h3, c, h4, h5⟩ := h
  have kk : ∀ k, k ≠ 3 → k ≠ 6 → k ≠ 11 → k ≠ 22 → k ≠ 23 → k ≠ 24 → k ≠ 27 → (sTick nt ns np q).1.1 k = q.1 k := fun k a b c d e f g => sTick_keep nt ns np q a b c d e f g
  refine ⟨h1.keep (kk 1 (by decide) (by decide) (by decide) (by decide) (by decide) (by decide) (by decide)), h2.keep (kk 7 (by decide) (by decide) (by decide) (by decide) (by decide) (by decide) (by decide)) (kk 8 (by decide) (by decide) (by decide) (by decide) (by decide) (by decide) (by decide)),
    h3.keep (kk 12 (by decide) (by decide) (by decide) (by decide) (by decide) (by decide) (by decide)) (kk 13 (by decide) (by decide) (by decide) (by decide) (by decide) (by decide) (by decide)) (kk 14 (by decide) (by decide) (by decide) (by decide) (by decide) (by decide) (by decide)) (kk 17 (by decide) (by decide) (by decide) (by decide) (by decide) (by decide) (by decide)), ?_⟩
  have hw : wSw (sBef q.1) ns := h2.keep (sBef_keep q.1 (by decide)) (sBef_keep q.1 (by decide))
  obtain ⟨-, -, c', g1, g2⟩ := sFol_inv (I0 := sBef q.1) (L0 := q.2) hw h5 (q.2 0 4) (Nat.le_refl ns)
  refine ⟨c', by have := h2.2.1; omega, ?_⟩
  unfold sTick
  dsimp only
  rw [tk_time25]
  rw [show (itr sLeak nt (itr sMv np (itr (sFol (q.2 0 4)) ns ((sBef q.1, q.2), 0)).1)).2 25 = (itr (sFol (q.2 0 4)) ns ((sBef q.1, q.2), 0)).1.2 25 by
    rw [itr_keep (g := fun a : tkI × tkL => a.2 25) (fun i a => sLeak_L i a (by decide)), itr_keep (g := fun a : tkI × tkL => a.2 25) (fun i a => sMv_L i a (by decide) (by decide) (by decide))]]
  exact g2
theorem sRep_keep (t : Int32) (i : Nat) (q : tkI × tkL) {k : Nat} (h : k ≠ 3) : (sRep t i q).1 k = q.1 k := by
  funext j
  simp [sRep, tk2, h]
theorem sRep_L (t : Int32) (i : Nat) (q : tkI × tkL) {k : Nat} (h : k ≠ 5) : (sRep t i q).2 k = q.2 k := by
  funext j
  simp [sRep, tk2, h]
theorem sPrep_L (I : tkI) (t : Int32) (i : Nat) (L : tkL) {k : Nat} (h19 : k ≠ 19) (h20 : k ≠ 20) (h21 : k ≠ 21) : sPrep I t i L k = L k := by
  unfold sPrep
  split
  · rfl
  · exact sEnter_25 t i I L h19 h20 h21
theorem wAll.last {nt ns np b : Nat} {q : tkI × tkL} (h : wAll nt ns np b q) (lim : Int32) : wAll nt ns np b (sLast nt ns np lim q).1 := by
  obtain ⟨h1, h2, h3, c, h4, h5⟩ := h
  unfold sLast
  dsimp only
  split
  · have kk : ∀ (st : Int32) (L : tkL) k, k ≠ 3 → (itr (sRep st) nt (q.1, L)).1 k = q.1 k := fun st L k hk => itr_keep (g := fun a : tkI × tkL => a.1 k) (fun i a => sRep_keep st i a hk) nt (q.1, L)
    refine ⟨h1.keep (kk _ _ 1 (by decide)), h2.keep (kk _ _ 7 (by decide)) (kk _ _ 8 (by decide)), h3.keep (kk _ _ 12 (by decide)) (kk _ _ 13 (by decide)) (kk _ _ 14 (by decide)) (kk _ _ 17 (by decide)), c, h4, ?_⟩
    dsimp only
    rw [tk_time25]
    rw [itr_keep (g := fun a : tkI × tkL => a.2 25) (fun i a => sRep_L _ i a (by decide))]
    show itr (sPrep q.1 _) np q.2 25 0 = lN c
    rw [itr_keep (g := fun a : tkL => a 25) (fun i a => sPrep_L q.1 _ i a (by decide) (by decide) (by decide))]
    exact h5
  · exact ⟨h1, h2, h3, c, h4, h5⟩
theorem c_X1_tick (hP : tkReg 28 pT pF σ p) {nt ns np b : Nat} (hW : wAll nt ns np b (I0, L0)) (hb : b + 10 < 2 ^ 62) :
    tkCon false (.code yX1_tick cX1_tick 2 (some .int)) yX1_tick 4 [.ref p] σ (reg p 28 I0 v) (reg p 28 L0 w) 0 0 (.inl (some (.int (sTick nt ns np (I0, L0)).2))) σ (reg p 28 (sTick nt ns np (I0, L0)).1.1 v) (reg p 28 (sTick nt ns np (I0, L0)).1.2 w) := by
  obtain ⟨h1, h2, h3, c, h4, h5⟩ := hW
  have hw2 : wSw (sBef I0) ns := h2.keep (sBef_keep I0 (by decide)) (sBef_keep I0 (by decide))
  have hw3 : wPu (itr (sFol (L0 0 4)) ns ((sBef I0, L0), 0)).1.1 np := by
    have kk : ∀ k, k ≠ 11 → k ≠ 27 → k ≠ 6 → (itr (sFol (L0 0 4)) ns ((sBef I0, L0), 0)).1.1 k = I0 k := fun k a b e => by
      rw [itr_keep (g := fun a : (tkI × tkL) × Int32 => a.1.1 k) (fun i x => sFol_keep _ i x a b)]
      exact sBef_keep I0 e
    exact h3.keep (kk 12 (by decide) (by decide) (by decide)) (kk 13 (by decide) (by decide) (by decide)) (kk 14 (by decide) (by decide) (by decide)) (kk 17 (by decide) (by decide) (by decide))
  have hw1 : wTk (itr sMv np (itr (sFol (L0 0 4)) ns ((sBef I0, L0), 0)).1).1 nt := by
    refine h1.keep ?_
    rw [itr_keep (g := fun a : tkI × tkL => a.1 1) (fun i a => by
      show (sMv i a).1 1 = a.1 1
      unfold sMv
      split
      · rfl
      · exact sMove_keep (k := 1) i a.1 (by decide) (by decide) (by decide) (by decide)), itr_keep (g := fun a : (tkI × tkL) × Int32 => a.1.1 1) (fun i x => sFol_keep (k := 1) _ i x (by decide) (by decide))]
    exact sBef_keep (k := 1) I0 (by decide)
  unfold sTick
  dsimp only
  refine tkCon.of (by decide) (Nat.le_of_ble_eq_true rfl) (fun X C => ?_)
  refine g_aload_n C (i := 0) dX1_tick_0 rfl rfl ?_
  refine g_getR C 1 0 (RX1, TX1, 5) dX1_tick_1 (hP.1 0 (by decide)) (hP.2 0 0 1 (by decide) rfl) ml_X1_10 rfl (by decide) rfl ?_
  refine g_callV C (q := (RX4, TX4, 6)) (rest := _) dX1_tick_4 mm_X4_noteLevels ml_X1_70 mv_yX4_noteLevels ms_yX4_noteLevels (c_X4_noteLevels hP) rfl (hP.1 1 (by decide)) rfl rfl ⟨by decide, Nat.le_of_ble_eq_true rfl, Nat.le_of_ble_eq_true rfl, Nat.le_of_ble_eq_true rfl⟩ (tk_retn ?_) tk_nothr
  refine g_aload_n C (i := 0) dX1_tick_7 rfl rfl ?_
  refine g_getR C 1 1 (RX1, TX1, 5) dX1_tick_8 (hP.1 0 (by decide)) (hP.2 0 1 7 (by decide) rfl) ml_X1_19 rfl (by decide) rfl ?_
  refine g_aload_n C (i := 0) dX1_tick_11 rfl rfl ?_
  refine g_getR C 1 0 (RX1, TX1, 5) dX1_tick_12 (hP.1 0 (by decide)) (hP.2 0 0 1 (by decide) rfl) ml_X1_10 rfl (by decide) rfl ?_
  refine g_aload_n C (i := 0) dX1_tick_15 rfl rfl ?_
  refine g_getR C 1 3 (RX1, TX1, 5) dX1_tick_16 (hP.1 0 (by decide)) (hP.2 0 3 25 (by decide) rfl) ml_X1_33 rfl (by decide) rfl ?_
  refine g_aload_n C (i := 0) dX1_tick_19 rfl rfl ?_
  refine g_getL C 1 4 (RX1, TX1, 5) dX1_tick_20 (hP.1 0 (by decide)) (reg_at (k := 0) (by decide)) ml_X1_50 rfl (by decide) rfl ?_
  refine g_callV C (q := (RX3, TX3, 5)) (rest := _) dX1_tick_23 mm_X3_follow ml_X1_73 mv_yX3_follow ms_yX3_follow (c_X3_follow hP hw2 h5 (by omega) (L0 0 4)) rfl (hP.1 7 (by decide)) rfl rfl ⟨by decide, Nat.le_of_ble_eq_true rfl, Nat.le_of_ble_eq_true rfl, Nat.le_of_ble_eq_true rfl⟩ (tk_retv ?_) tk_nothr
  refine g_istore_n C (i := 1) dX1_tick_26 rfl (by decide) ?_
  generalize itr (sFol (L0 0 4)) ns ((sBef I0, L0), 0) = f at *
  obtain ⟨⟨I1, L1⟩, n1⟩ := f
  refine g_aload_n C (i := 0) dX1_tick_27 rfl rfl ?_
  refine g_getR C 1 2 (RX1, TX1, 5) dX1_tick_28 (hP.1 0 (by decide)) (hP.2 0 2 12 (by decide) rfl) ml_X1_26 rfl (by decide) rfl ?_
  refine g_aload_n C (i := 0) dX1_tick_31 rfl rfl ?_
  refine g_getR C 1 0 (RX1, TX1, 5) dX1_tick_32 (hP.1 0 (by decide)) (hP.2 0 0 1 (by decide) rfl) ml_X1_10 rfl (by decide) rfl ?_
  refine g_aload_n C (i := 0) dX1_tick_35 rfl rfl ?_
  refine g_getR C 1 1 (RX1, TX1, 5) dX1_tick_36 (hP.1 0 (by decide)) (hP.2 0 1 7 (by decide) rfl) ml_X1_19 rfl (by decide) rfl ?_
  refine g_callV C (q := (RX2, TX2, 13)) (rest := _) dX1_tick_39 mm_X2_moveAll ml_X1_77 mv_yX2_moveAll ms_yX2_moveAll (c_X2_moveAll hP hw3) rfl (hP.1 12 (by decide)) rfl rfl ⟨by decide, Nat.le_of_ble_eq_true rfl, Nat.le_of_ble_eq_true rfl, Nat.le_of_ble_eq_true rfl⟩ (tk_retn ?_) tk_nothr
  generalize itr sMv np (I1, L1) = q at *
  obtain ⟨I2, L2⟩ := q
  refine g_aload_n C (i := 0) dX1_tick_42 rfl rfl ?_
  refine g_getR C 1 0 (RX1, TX1, 5) dX1_tick_43 (hP.1 0 (by decide)) (hP.2 0 0 1 (by decide) rfl) ml_X1_10 rfl (by decide) rfl ?_
  refine g_callV C (q := (RX4, TX4, 6)) (rest := _) dX1_tick_46 mm_X4_leakAndSum ml_X1_81 mv_yX4_leakAndSum ms_yX4_leakAndSum (c_X4_leakAndSum hP hw1) rfl (hP.1 1 (by decide)) rfl rfl ⟨by decide, Nat.le_of_ble_eq_true rfl, Nat.le_of_ble_eq_true rfl, Nat.le_of_ble_eq_true rfl⟩ (tk_retn ?_) tk_nothr
  generalize itr sLeak nt (I2, L2) = r at *
  obtain ⟨I3, L3⟩ := r
  refine g_aload_n C (i := 0) dX1_tick_49 rfl rfl ?_
  refine g_dup C dX1_tick_50 rfl ?_
  refine g_getL C 1 4 (RX1, TX1, 5) dX1_tick_51 (hP.1 0 (by decide)) (reg_at (k := 0) (by decide)) ml_X1_50 rfl (by decide) rfl ?_
  refine g_lconst C 1 dX1_tick_54 rfl ?_
  refine g_ladd C dX1_tick_55 ?_
  refine g_putL C 1 4 (RX1, TX1, 5) dX1_tick_56 (hP.1 0 (by decide)) (tk2_reg (k := 0) (by decide)) ml_X1_50 rfl (by decide) rfl rfl ?_
  refine g_iload_n C (i := 1) dX1_tick_59 rfl rfl ?_
  exact g_ireturn C dX1_tick_60 ⟨Nat.le_of_ble_eq_true rfl, Nat.le_of_ble_eq_true rfl⟩ (tkEnd.rf rfl rfl rfl)
theorem c_X1_repeatLast (hP : tkReg 28 pT pF σ p) {nt ns np b : Nat} (hW : wAll nt ns np b (I0, L0)) (lim : Int32) :
    tkCon false (.code yX1_repeatLast cX1_repeatLast 3 (some .int)) yX1_repeatLast 5 [.ref p, .int lim] σ (reg p 28 I0 v) (reg p 28 L0 w) 0 0 (.inl (some (.int (sLast nt ns np lim (I0, L0)).2))) σ (reg p 28 (sLast nt ns np lim (I0, L0)).1.1 v) (reg p 28 (sLast nt ns np lim (I0, L0)).1.2 w) := by
  obtain ⟨h1, h2, h3, c, h4, h5⟩ := hW
  obtain ⟨st, est⟩ : ∃ st, st = sSteady nt ns np I0 lim := ⟨_, rfl⟩
  have e : sLast nt ns np lim (I0, L0) = if 0 < st then ((((itr (sRep st) nt (I0, itr (sPrep I0 st) np L0)).1, tk2 (itr (sRep st) nt (I0, itr (sPrep I0 st) np L0)).2 0 4 ((itr (sRep st) nt (I0, itr (sPrep I0 st) np L0)).2 0 4 + st.toInt64)), st) : (tkI × tkL) × Int32) else ((I0, L0), 0) := by rw [est]; rfl
  rw [e]
  refine tkCon.of (by decide) (Nat.le_of_ble_eq_true rfl) (fun X C => ?_)
  refine g_aload_n C (i := 0) dX1_repeatLast_0 rfl rfl ?_
  refine g_getR C 1 1 (RX1, TX1, 5) dX1_repeatLast_1 (hP.1 0 (by decide)) (hP.2 0 1 7 (by decide) rfl) ml_X1_19 rfl (by decide) rfl ?_
  refine g_aload_n C (i := 0) dX1_repeatLast_4 rfl rfl ?_
  refine g_getR C 1 0 (RX1, TX1, 5) dX1_repeatLast_5 (hP.1 0 (by decide)) (hP.2 0 0 1 (by decide) rfl) ml_X1_10 rfl (by decide) rfl ?_
  refine g_iload_n C (i := 1) dX1_repeatLast_8 rfl rfl ?_
  refine g_callV C (q := (RX3, TX3, 5)) (rest := _) dX1_repeatLast_9 mm_X3_steadyTicks ml_X1_84 mv_yX3_steadyTicks ms_yX3_steadyTicks (c_X3_steadyTicks hP h2 lim) rfl (hP.1 7 (by decide)) rfl rfl ⟨by decide, Nat.le_of_ble_eq_true rfl, Nat.le_of_ble_eq_true rfl, Nat.le_of_ble_eq_true rfl⟩ (tk_retv ?_) tk_nothr
  refine g_istore_n C (i := 2) dX1_repeatLast_12 rfl (by decide) ?_
  refine g_aload_n C (i := 0) dX1_repeatLast_13 rfl rfl ?_
  refine g_getR C 1 2 (RX1, TX1, 5) dX1_repeatLast_14 (hP.1 0 (by decide)) (hP.2 0 2 12 (by decide) rfl) ml_X1_26 rfl (by decide) rfl ?_
  refine g_aload_n C (i := 0) dX1_repeatLast_17 rfl rfl ?_
  refine g_getR C 1 0 (RX1, TX1, 5) dX1_repeatLast_18 (hP.1 0 (by decide)) (hP.2 0 0 1 (by decide) rfl) ml_X1_10 rfl (by decide) rfl ?_
  refine g_aload_n C (i := 0) dX1_repeatLast_21 rfl rfl ?_
  refine g_getR C 1 1 (RX1, TX1, 5) dX1_repeatLast_22 (hP.1 0 (by decide)) (hP.2 0 1 7 (by decide) rfl) ml_X1_19 rfl (by decide) rfl ?_
  refine g_iload_n C (i := 2) dX1_repeatLast_25 rfl rfl ?_
  refine g_callV C (q := (RX2, TX2, 13)) (rest := _) dX1_repeatLast_26 mm_X2_steadyTicks ml_X1_88 mv_yX2_steadyTicks ms_yX2_steadyTicks (c_X2_steadyTicks hP h3 _) rfl (hP.1 12 (by decide)) rfl rfl ⟨by decide, Nat.le_of_ble_eq_true rfl, Nat.le_of_ble_eq_true rfl, Nat.le_of_ble_eq_true rfl⟩ (tk_retv ?_) tk_nothr
  refine g_istore_n C (i := 2) dX1_repeatLast_29 rfl (by decide) ?_
  refine g_aload_n C (i := 0) dX1_repeatLast_30 rfl rfl ?_
  refine g_getR C 1 0 (RX1, TX1, 5) dX1_repeatLast_31 (hP.1 0 (by decide)) (hP.2 0 0 1 (by decide) rfl) ml_X1_10 rfl (by decide) rfl ?_
  refine g_iload_n C (i := 2) dX1_repeatLast_34 rfl rfl ?_
  refine g_callV C (q := (RX4, TX4, 6)) (rest := _) dX1_repeatLast_35 mm_X4_steadyTicks ml_X1_91 mv_yX4_steadyTicks ms_yX4_steadyTicks (c_X4_steadyTicks hP h1 _) rfl (hP.1 1 (by decide)) rfl rfl ⟨by decide, Nat.le_of_ble_eq_true rfl, Nat.le_of_ble_eq_true rfl, Nat.le_of_ble_eq_true rfl⟩ (tk_retv ?_) tk_nothr
  rw [show itr (sTst I0) nt (itr (sPst I0) np (itr (sSst I0) ns lim)) = st by rw [est]; rfl]
  refine g_istore_n C (i := 2) dX1_repeatLast_38 rfl (by decide) ?_
  refine g_iload_n C (i := 2) dX1_repeatLast_39 rfl rfl ?_
  refine g_if_gt C 45 dX1_repeatLast_40 (by decide) (fun h40 => ?_) (fun h40 => ?_)
  · rw [if_pos h40]
    refine g_aload_n C (i := 0) dX1_repeatLast_45 rfl rfl ?_
    refine g_getR C 1 2 (RX1, TX1, 5) dX1_repeatLast_46 (hP.1 0 (by decide)) (hP.2 0 2 12 (by decide) rfl) ml_X1_26 rfl (by decide) rfl ?_
    refine g_aload_n C (i := 0) dX1_repeatLast_49 rfl rfl ?_
    refine g_getR C 1 1 (RX1, TX1, 5) dX1_repeatLast_50 (hP.1 0 (by decide)) (hP.2 0 1 7 (by decide) rfl) ml_X1_19 rfl (by decide) rfl ?_
    refine g_iload_n C (i := 2) dX1_repeatLast_53 rfl rfl ?_
    refine g_callV C (q := (RX2, TX2, 13)) (rest := _) dX1_repeatLast_54 mm_X2_repeat ml_X1_93 mv_yX2_repeat ms_yX2_repeat (c_X2_repeat hP h3 st) rfl (hP.1 12 (by decide)) rfl rfl ⟨by decide, Nat.le_of_ble_eq_true rfl, Nat.le_of_ble_eq_true rfl, Nat.le_of_ble_eq_true rfl⟩ (tk_retn ?_) tk_nothr
    refine g_aload_n C (i := 0) dX1_repeatLast_57 rfl rfl ?_
    refine g_getR C 1 0 (RX1, TX1, 5) dX1_repeatLast_58 (hP.1 0 (by decide)) (hP.2 0 0 1 (by decide) rfl) ml_X1_10 rfl (by decide) rfl ?_
    refine g_iload_n C (i := 2) dX1_repeatLast_61 rfl rfl ?_
    refine g_callV C (q := (RX4, TX4, 6)) (rest := _) dX1_repeatLast_62 mm_X4_repeat ml_X1_97 mv_yX4_repeat ms_yX4_repeat (c_X4_repeat hP h1 st) rfl (hP.1 1 (by decide)) rfl rfl ⟨by decide, Nat.le_of_ble_eq_true rfl, Nat.le_of_ble_eq_true rfl, Nat.le_of_ble_eq_true rfl⟩ (tk_retn ?_) tk_nothr
    generalize itr (sRep st) nt (I0, itr (sPrep I0 st) np L0) = r at *
    obtain ⟨I3, L3⟩ := r
    refine g_aload_n C (i := 0) dX1_repeatLast_65 rfl rfl ?_
    refine g_dup C dX1_repeatLast_66 rfl ?_
    refine g_getL C 1 4 (RX1, TX1, 5) dX1_repeatLast_67 (hP.1 0 (by decide)) (reg_at (k := 0) (by decide)) ml_X1_50 rfl (by decide) rfl ?_
    refine g_iload_n C (i := 2) dX1_repeatLast_70 rfl rfl ?_
    refine g_i2l C dX1_repeatLast_71 ?_
    refine g_ladd C dX1_repeatLast_72 ?_
    refine g_putL C 1 4 (RX1, TX1, 5) dX1_repeatLast_73 (hP.1 0 (by decide)) (tk2_reg (k := 0) (by decide)) ml_X1_50 rfl (by decide) rfl rfl ?_
    refine g_iload_n C (i := 2) dX1_repeatLast_76 rfl rfl ?_
    exact g_ireturn C dX1_repeatLast_77 ⟨Nat.le_of_ble_eq_true rfl, Nat.le_of_ble_eq_true rfl⟩ (tkEnd.rf rfl rfl rfl)
  · rw [if_neg h40]
    refine g_iconst C (0) dX1_repeatLast_43 rfl ?_
    exact g_ireturn C dX1_repeatLast_44 ⟨Nat.le_of_ble_eq_true rfl, Nat.le_of_ble_eq_true rfl⟩ (tkEnd.rf rfl rfl rfl)
end TKPLANT

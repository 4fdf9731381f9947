section TKSWITCHES
theorem itr_ind {α : Type} {f : Nat → α → α} {P : Nat → α → Prop} {n : Nat} (hs : ∀ i a, i < n → P i a → P (i + 1) (f i a)) : ∀ {k : Nat} {a : α}, k ≤ n → P 0 a → P k (itr f k a)
  | 0, a, _, h => h
  | k + 1, a, hk, h => hs k _ hk (itr_ind hs (Nat.le_of_succ_le hk) h)
theorem sDue_01 (I : tkI) (i : Nat) : sDue I i = 0 ∨ sDue I i = 1 := by
  unfold sDue
  split <;> split <;> first | exact Or.inl rfl | exact Or.inr rfl
variable {σ : tkM} {p : Nat} {I0 v : tkI} {L0 w : tkL}
/-! the log -/
theorem c_X0_note (hP : tkReg 28 pT pF σ p) {c : Nat} (hc : L0 25 0 = lN c) (hlt : c < 2 ^ 62) (now : Int64) (x : Int32) :
    tkCon false (.code yX0_note cX0_note 5 none) yX0_note 1 [.ref (p + 25), .long now, .int x] σ (reg p 28 I0 v) (reg p 28 L0 w) 0 0 (.inl none) σ (reg p 28 (sNote now x (I0, L0)).1 v) (reg p 28 (sNote now x (I0, L0)).2 w) := by
  have e30 : (30 : Int64) = lN 30 := rfl
  have es : lgSlot (L0 25 0) = c % 30 := by rw [hc]; exact lgSlot_lN (by omega)
  have hm : c % 30 < 30 := Nat.mod_lt _ (by decide)
  unfold sNote
  dsimp only
  rw [es]
  refine tkCon.of (by decide) (Nat.le_of_ble_eq_true rfl) (fun X C => ?_)
  refine g_aload_n C (i := 0) dX0_note_0 rfl rfl ?_
  refine g_getL C 0 0 (RX0, TX0, 3) dX0_note_1 (hP.1 25 (by decide)) (reg_at (k := 25) (by decide)) ml_X0_19 rfl (by decide) rfl ?_
  refine g_ldc2 C (30) dX0_note_4 ml_X0_23 ?_
  refine g_lrem C dX0_note_7 (by decide) ?_
  rw [hc, e30, pk_lRem (by omega) (by decide) (by decide)]
  refine g_l2i C dX0_note_8 ?_
  rw [lN_i]
  refine g_istore C (i := 4) dX0_note_9 (by decide) ?_
  refine g_aload_n C (i := 0) dX0_note_11 rfl rfl ?_
  refine g_getR C 0 1 (RX0, TX0, 3) dX0_note_12 (hP.1 25 (by decide)) (hP.2 25 1 26 (by decide) rfl) ml_X0_9 rfl (by decide) rfl ?_
  refine g_iload C (i := 4) dX0_note_15 rfl ?_
  refine g_lload_n C (i := 1) dX0_note_17 rfl rfl ?_
  refine g_ls C dX0_note_18 (hP.1 26 (by decide)) (tk2_reg (k := 26) (by decide)) rfl (by omega) (by decide) ?_
  refine g_aload_n C (i := 0) dX0_note_19 rfl rfl ?_
  refine g_getR C 0 2 (RX0, TX0, 3) dX0_note_20 (hP.1 25 (by decide)) (hP.2 25 2 27 (by decide) rfl) ml_X0_15 rfl (by decide) rfl ?_
  refine g_iload C (i := 4) dX0_note_23 rfl ?_
  refine g_iload_n C (i := 3) dX0_note_25 rfl rfl ?_
  refine g_is C dX0_note_26 (hP.1 27 (by decide)) (tk2_reg (k := 27) (by decide)) rfl (by omega) (by decide) ?_
  refine g_aload_n C (i := 0) dX0_note_27 rfl rfl ?_
  refine g_dup C dX0_note_28 rfl ?_
  refine g_getL C 0 0 (RX0, TX0, 3) dX0_note_29 (hP.1 25 (by decide)) (reg_at (k := 25) (by decide)) ml_X0_19 rfl (by decide) rfl ?_
  refine g_lconst C 1 dX0_note_32 rfl ?_
  refine g_ladd C dX0_note_33 ?_
  refine g_putL C 0 0 (RX0, TX0, 3) dX0_note_34 (hP.1 25 (by decide)) (tk2_reg (k := 25) (by decide)) ml_X0_19 rfl (by decide) rfl rfl ?_
  exact g_return C dX0_note_37 ⟨Nat.le_of_ble_eq_true rfl, Nat.le_of_ble_eq_true rfl⟩ (tkEnd.rf rfl rfl (by rw [show tk2 L0 26 (c % 30) now 25 0 = lN c by simp [tk2, hc]]))
/-! Switches -/
theorem c_X3_append (hP : tkReg 28 pT pF σ p) {n : Nat} (hn : n < 10) (hc : I0 7 0 = nI n) (x1 x2 x3 : Int32) :
    tkCon false (.code yX3_append cX3_append 5 (some .int)) yX3_append 1 [.ref (p + 7), .int x1, .int x2, .int x3] σ (reg p 28 I0 v) (reg p 28 L0 w) 0 0 (.inl (some (.int (nI n)))) σ
      (reg p 28 (tk2 (tk2 (tk2 (tk2 (tk2 I0 8 n x1) 9 n x2) 10 n x3) 11 n 0) 7 0 (nI n + 1)) v) (reg p 28 L0 w) := by
  refine tkCon.of (by decide) (Nat.le_of_ble_eq_true rfl) (fun X C => ?_)
  refine g_aload_n C (i := 0) dX3_append_0 rfl rfl ?_
  refine g_getI C 3 0 (RX3, TX3, 5) dX3_append_1 (hP.1 7 (by decide)) (reg_at (k := 7) (by decide)) ml_X3_25 rfl (by decide) (Or.inl rfl) ?_
  rw [hc]
  refine g_istore C (i := 4) dX3_append_4 (by decide) ?_
  refine g_aload_n C (i := 0) dX3_append_6 rfl rfl ?_
  refine g_getR C 3 1 (RX3, TX3, 5) dX3_append_7 (hP.1 7 (by decide)) (hP.2 7 1 8 (by decide) rfl) ml_X3_9 rfl (by decide) rfl ?_
  refine g_iload C (i := 4) dX3_append_10 rfl ?_
  refine g_iload_n C (i := 1) dX3_append_12 rfl rfl ?_
  refine g_is C dX3_append_13 (hP.1 8 (by decide)) (tk2_reg (k := 8) (by decide)) rfl (by omega) (by decide) ?_
  refine g_aload_n C (i := 0) dX3_append_14 rfl rfl ?_
  refine g_getR C 3 2 (RX3, TX3, 5) dX3_append_15 (hP.1 7 (by decide)) (hP.2 7 2 9 (by decide) rfl) ml_X3_15 rfl (by decide) rfl ?_
  refine g_iload C (i := 4) dX3_append_18 rfl ?_
  refine g_iload_n C (i := 2) dX3_append_20 rfl rfl ?_
  refine g_is C dX3_append_21 (hP.1 9 (by decide)) (tk2_reg (k := 9) (by decide)) rfl (by omega) (by decide) ?_
  refine g_aload_n C (i := 0) dX3_append_22 rfl rfl ?_
  refine g_getR C 3 3 (RX3, TX3, 5) dX3_append_23 (hP.1 7 (by decide)) (hP.2 7 3 10 (by decide) rfl) ml_X3_18 rfl (by decide) rfl ?_
  refine g_iload C (i := 4) dX3_append_26 rfl ?_
  refine g_iload_n C (i := 3) dX3_append_28 rfl rfl ?_
  refine g_is C dX3_append_29 (hP.1 10 (by decide)) (tk2_reg (k := 10) (by decide)) rfl (by omega) (by decide) ?_
  refine g_aload_n C (i := 0) dX3_append_30 rfl rfl ?_
  refine g_getR C 3 4 (RX3, TX3, 5) dX3_append_31 (hP.1 7 (by decide)) (hP.2 7 4 11 (by decide) rfl) ml_X3_21 rfl (by decide) rfl ?_
  refine g_iload C (i := 4) dX3_append_34 rfl ?_
  refine g_iconst C (0) dX3_append_36 rfl ?_
  refine g_zs C dX3_append_37 (hP.1 11 (by decide)) (tk2_reg (k := 11) (by decide)) rfl (by omega) (by decide) (by first | assumption | exact Or.inl rfl | exact Or.inr rfl) ?_
  refine g_aload_n C (i := 0) dX3_append_38 rfl rfl ?_
  refine g_dup C dX3_append_39 rfl ?_
  refine g_getI C 3 0 (RX3, TX3, 5) dX3_append_40 (hP.1 7 (by decide)) (reg_at (k := 7) (by decide)) ml_X3_25 rfl (by decide) (Or.inl rfl) ?_
  rw [show tk2 (tk2 (tk2 (tk2 I0 8 n x1) 9 n x2) 10 n x3) 11 n 0 7 0 = nI n by simp [tk2, hc]]
  refine g_iconst C (1) dX3_append_43 rfl ?_
  refine g_iadd C dX3_append_44 ?_
  refine g_putI C 3 0 (RX3, TX3, 5) dX3_append_45 (hP.1 7 (by decide)) (tk2_reg (k := 7) (by decide)) ml_X3_25 rfl (by decide) rfl rfl ?_
  refine g_iload C (i := 4) dX3_append_48 rfl ?_
  exact g_ireturn C dX3_append_50 ⟨Nat.le_of_ble_eq_true rfl, Nat.le_of_ble_eq_true rfl⟩ (tkEnd.rf rfl rfl rfl)
def pFol (I0 : tkI) (ns c i : Nat) (q : (tkI × tkL) × Int32) : Prop := q.1.1 7 0 = nI ns ∧ (∀ k, q.1.1 8 k = I0 8 k) ∧ ∃ c', c' ≤ c + i ∧ q.1.2 25 0 = lN c'
theorem sFol_inv {I0 : tkI} {L0 : tkL} {ns c : Nat} (hW : wSw I0 ns) (hc : L0 25 0 = lN c) (now : Int64) {i : Nat} (hi : i ≤ ns) : pFol I0 ns c i (itr (sFol now) i ((I0, L0), 0)) := by
  refine itr_ind (P := pFol I0 ns c) (n := ns) ?_ hi ⟨hW.1, fun _ => rfl, c, by omega, hc⟩
  intro k q _ h
  obtain ⟨h1, h2, c', h3, h4⟩ := h
  unfold sFol
  split
  · exact ⟨h1, h2, c', by omega, h4⟩
  · refine ⟨by simp [sNote, tk2, h1], fun k => by simp [sNote, tk2, h2], c' + 1, by omega, ?_⟩
    simp [sNote, tk2, h4, lN_1]
theorem c_X3_follow (hP : tkReg 28 pT pF σ p) {ns c : Nat} (hW : wSw I0 ns) (hc : L0 25 0 = lN c) (hlt : c + 10 < 2 ^ 62) (now : Int64) :
    tkCon false (.code yX3_follow cX3_follow 9 (some .int)) yX3_follow 2 [.ref (p + 7), .ref (p + 1), .ref (p + 25), .long now] σ (reg p 28 I0 v) (reg p 28 L0 w) 0 0
      (.inl (some (.int (itr (sFol now) ns ((I0, L0), 0)).2))) σ (reg p 28 (itr (sFol now) ns ((I0, L0), 0)).1.1 v) (reg p 28 (itr (sFol now) ns ((I0, L0), 0)).1.2 w) := by
  obtain ⟨s, hs⟩ : ∃ s, s = fun i => itr (sFol now) i ((I0, L0), 0) := ⟨_, rfl⟩
  have inv : ∀ i, i ≤ ns → (s i).1.1 7 0 = nI ns ∧ (∀ k, (s i).1.1 8 k = I0 8 k) ∧ ∃ c', c' ≤ c + i ∧ (s i).1.2 25 0 = lN c' := fun i hi => by rw [hs]; exact sFol_inv hW hc now hi
  have hsucc : ∀ i, s (i + 1) = sFol now i (s i) := fun i => by rw [hs]; rfl
  have h0 : s 0 = ((I0, L0), 0) := by rw [hs]; rfl
  rw [show itr (sFol now) ns ((I0, L0), 0) = s ns by rw [hs]]
  obtain ⟨hw1, hw2, hw3⟩ := hW
  refine tkCon.of (by decide) (Nat.le_of_ble_eq_true rfl) (fun X C => ?_)
  refine g_iconst C (0) dX3_follow_0 rfl ?_
  refine g_istore C (i := 5) dX3_follow_1 (by decide) ?_
  refine g_iconst C (0) dX3_follow_3 rfl ?_
  refine g_istore C (i := 6) dX3_follow_4 (by decide) ?_
  have key : ∀ k i lv7 lv8, k + i = ns → tkG X (tkQ false X 0 0 (.inl (some (.int (s ns).2))) σ (reg p 28 (s ns).1.1 v) (reg p 28 (s ns).1.2 w)) 0 0 6 [some (.ref (p + 7)), some (.ref (p + 1)), some (.ref (p + 25)), some (.long now), none, some (.int (s i).2), some (.int (nI i)), lv7, lv8] [] σ (reg p 28 (s i).1.1 v) (reg p 28 (s i).1.2 w) := by
    intro k
    induction k with
    | zero =>
      intro i lv7 lv8 hi
      have e : i = ns := by omega
      subst e
      refine g_iload C (i := 6) dX3_follow_6 rfl ?_
      refine g_aload_n C (i := 0) dX3_follow_8 rfl rfl ?_
      refine g_getI C 3 0 (RX3, TX3, 5) dX3_follow_9 (hP.1 7 (by decide)) (reg_at (k := 7) (by decide)) ml_X3_25 rfl (by decide) (Or.inl rfl) ?_
      rw [(inv i (Nat.le_refl _)).1]
      refine g_icmp_ge C 115 dX3_follow_12 (by decide) (fun h12 => ?_) (fun h12 => ?_)
      · refine g_iload C (i := 5) dX3_follow_115 rfl ?_
        exact g_ireturn C dX3_follow_117 ⟨Nat.le_of_ble_eq_true rfl, Nat.le_of_ble_eq_true rfl⟩ (tkEnd.rf rfl rfl rfl)
      · exact absurd (Int32.le_refl _) h12
    | succ k ih =>
      intro i lv7 lv8 hi
      have hlt : i < ns := by omega
      have ih1 := fun a b => ih (i + 1) a b (by omega)
      rw [hsucc] at ih1
      obtain ⟨g1, g2, c', g3, g4⟩ := inv i (by omega)
      obtain ⟨t, ht, et⟩ := hw3 i hlt
      rw [← g2] at et
      generalize s i = q at *
      obtain ⟨⟨I1, L1⟩, n1⟩ := q
      dsimp only at *
      have etc : (I1 8 i).toNatClampNeg = t := by rw [et]; exact nI_clamp (by omega)
      have J : ∀ (x7 : Int32) lv8, tkG X (tkQ false X 0 0 (.inl (some (.int (s ns).2))) σ (reg p 28 (s ns).1.1 v) (reg p 28 (s ns).1.2 w)) 0 0 76 [some (.ref (p + 7)), some (.ref (p + 1)), some (.ref (p + 25)), some (.long now), none, some (.int n1), some (.int (nI i)), some (.int x7), lv8] [.int (sDue I1 i)] σ (reg p 28 I1 v) (reg p 28 L1 w) := by
        intro x7 lv8
        refine g_istore C (i := 8) dX3_follow_76 (by decide) ?_
        refine g_iload C (i := 8) dX3_follow_78 rfl ?_
        refine g_aload_n C (i := 0) dX3_follow_80 rfl rfl ?_
        refine g_getR C 3 4 (RX3, TX3, 5) dX3_follow_81 (hP.1 7 (by decide)) (hP.2 7 4 11 (by decide) rfl) ml_X3_21 rfl (by decide) rfl ?_
        refine g_iload C (i := 6) dX3_follow_84 rfl ?_
        refine g_za C dX3_follow_86 (hP.1 11 (by decide)) (reg_at (k := 11) (by decide)) rfl (by omega) (by decide) (fun _ => ?_)
        refine g_icmp_eq C 109 dX3_follow_87 (by decide) (fun h87 => ?_) (fun h87 => ?_)
        · refine g_iinc C (i := 6) (nI (i + 1)) dX3_follow_109 rfl (nI_1 i) (by decide) ?_
          refine g_goto C 6 dX3_follow_112 (by decide) ?_
          rw [sFol, if_pos h87] at ih1
          exact ih1 _ _
        · refine g_aload_n C (i := 0) dX3_follow_90 rfl rfl ?_
          refine g_getR C 3 4 (RX3, TX3, 5) dX3_follow_91 (hP.1 7 (by decide)) (hP.2 7 4 11 (by decide) rfl) ml_X3_21 rfl (by decide) rfl ?_
          refine g_iload C (i := 6) dX3_follow_94 rfl ?_
          refine g_iload C (i := 8) dX3_follow_96 rfl ?_
          refine g_zs C dX3_follow_98 (hP.1 11 (by decide)) (tk2_reg (k := 11) (by decide)) rfl (by omega) (by decide) (sDue_01 I1 i) ?_
          refine g_aload_n C (i := 2) dX3_follow_99 rfl rfl ?_
          refine g_lload_n C (i := 3) dX3_follow_100 rfl rfl ?_
          refine g_iload C (i := 6) dX3_follow_101 rfl ?_
          refine g_callV C (q := (RX0, TX0, 3)) (rest := _) dX3_follow_103 mm_X0_note ml_X3_40 mv_yX0_note ms_yX0_note (c_X0_note hP g4 (by omega) now (nI i)) rfl (hP.1 25 (by decide)) rfl rfl ⟨by decide, Nat.le_of_ble_eq_true rfl, Nat.le_of_ble_eq_true rfl, Nat.le_of_ble_eq_true rfl⟩ (tk_retn ?_) tk_nothr
          refine g_iinc C (i := 5) (n1 + 1) dX3_follow_106 rfl rfl (by decide) ?_
          refine g_iinc C (i := 6) (nI (i + 1)) dX3_follow_109 rfl (nI_1 i) (by decide) ?_
          refine g_goto C 6 dX3_follow_112 (by decide) ?_
          rw [sFol, if_neg h87] at ih1
          exact ih1 _ _
      refine g_iload C (i := 6) dX3_follow_6 rfl ?_
      refine g_aload_n C (i := 0) dX3_follow_8 rfl rfl ?_
      refine g_getI C 3 0 (RX3, TX3, 5) dX3_follow_9 (hP.1 7 (by decide)) (reg_at (k := 7) (by decide)) ml_X3_25 rfl (by decide) (Or.inl rfl) ?_
      rw [g1]
      refine g_icmp_ge C 115 dX3_follow_12 (by decide) (fun h12 => ?_) (fun h12 => ?_)
      · exact absurd h12 (nI_ge hlt (by omega))
      · refine g_aload_n C (i := 1) dX3_follow_15 rfl rfl ?_
        refine g_getR C 4 2 (RX4, TX4, 6) dX3_follow_16 (hP.1 1 (by decide)) (hP.2 1 2 3 (by decide) rfl) ml_X3_35 rfl (by decide) rfl ?_
        refine g_aload_n C (i := 0) dX3_follow_19 rfl rfl ?_
        refine g_getR C 3 1 (RX3, TX3, 5) dX3_follow_20 (hP.1 7 (by decide)) (hP.2 7 1 8 (by decide) rfl) ml_X3_9 rfl (by decide) rfl ?_
        refine g_iload C (i := 6) dX3_follow_23 rfl ?_
        refine g_ia C dX3_follow_25 (hP.1 8 (by decide)) (reg_at (k := 8) (by decide)) rfl (by omega) (by decide) ?_
        refine g_ia C dX3_follow_26 (hP.1 3 (by decide)) (reg_at (k := 3) (by decide)) et (by omega) (by decide) ?_
        refine g_istore C (i := 7) dX3_follow_27 (by decide) ?_
        refine g_aload_n C (i := 0) dX3_follow_29 rfl rfl ?_
        refine g_getR C 3 4 (RX3, TX3, 5) dX3_follow_30 (hP.1 7 (by decide)) (hP.2 7 4 11 (by decide) rfl) ml_X3_21 rfl (by decide) rfl ?_
        refine g_iload C (i := 6) dX3_follow_33 rfl ?_
        refine g_za C dX3_follow_35 (hP.1 11 (by decide)) (reg_at (k := 11) (by decide)) rfl (by omega) (by decide) (fun _ => ?_)
        refine g_if_eq C 59 dX3_follow_36 (by decide) (fun h36 => ?_) (fun h36 => ?_)
        · refine g_iload C (i := 7) dX3_follow_59 rfl ?_
          refine g_aload_n C (i := 0) dX3_follow_61 rfl rfl ?_
          refine g_getR C 3 2 (RX3, TX3, 5) dX3_follow_62 (hP.1 7 (by decide)) (hP.2 7 2 9 (by decide) rfl) ml_X3_15 rfl (by decide) rfl ?_
          refine g_iload C (i := 6) dX3_follow_65 rfl ?_
          refine g_ia C dX3_follow_67 (hP.1 9 (by decide)) (reg_at (k := 9) (by decide)) rfl (by omega) (by decide) ?_
          refine g_icmp_gt C 75 dX3_follow_68 (by decide) (fun h68 => ?_) (fun h68 => ?_)
          · refine g_iconst C (0) dX3_follow_75 rfl ?_
            rw [show (0 : Int32) = sDue I1 i by simp [sDue, h36, etc, h68]]
            exact J _ _
          · refine g_iconst C (1) dX3_follow_71 rfl ?_
            refine g_goto C 76 dX3_follow_72 (by decide) ?_
            rw [show (1 : Int32) = sDue I1 i by simp [sDue, h36, etc, h68]]
            exact J _ _
        · refine g_iload C (i := 7) dX3_follow_39 rfl ?_
          refine g_aload_n C (i := 0) dX3_follow_41 rfl rfl ?_
          refine g_getR C 3 3 (RX3, TX3, 5) dX3_follow_42 (hP.1 7 (by decide)) (hP.2 7 3 10 (by decide) rfl) ml_X3_18 rfl (by decide) rfl ?_
          refine g_iload C (i := 6) dX3_follow_45 rfl ?_
          refine g_ia C dX3_follow_47 (hP.1 10 (by decide)) (reg_at (k := 10) (by decide)) rfl (by omega) (by decide) ?_
          refine g_icmp_ge C 55 dX3_follow_48 (by decide) (fun h48 => ?_) (fun h48 => ?_)
          · refine g_iconst C (0) dX3_follow_55 rfl ?_
            refine g_goto C 76 dX3_follow_56 (by decide) ?_
            rw [show (0 : Int32) = sDue I1 i by simp [sDue, h36, etc, h48]]
            exact J _ _
          · refine g_iconst C (1) dX3_follow_51 rfl ?_
            refine g_goto C 76 dX3_follow_52 (by decide) ?_
            rw [show (1 : Int32) = sDue I1 i by simp [sDue, h36, etc, h48]]
            exact J _ _
  have k0 := key ns 0 none none (by omega)
  rw [h0] at k0
  exact k0
theorem c_X3_steadyTicks (hP : tkReg 28 pT pF σ p) {ns : Nat} (hW : wSw I0 ns) (lim : Int32) :
    tkCon false (.code yX3_steadyTicks cX3_steadyTicks 7 (some .int)) yX3_steadyTicks 3 [.ref (p + 7), .ref (p + 1), .int lim] σ (reg p 28 I0 v) (reg p 28 L0 w) 0 0 (.inl (some (.int (itr (sSst I0) ns lim)))) σ (reg p 28 I0 v) (reg p 28 L0 w) := by
  obtain ⟨hw1, hw2, hw3⟩ := hW
  refine tkCon.of (by decide) (Nat.le_of_ble_eq_true rfl) (fun X C => ?_)
  refine g_iload_n C (i := 2) dX3_steadyTicks_0 rfl rfl ?_
  refine g_istore_n C (i := 3) dX3_steadyTicks_1 rfl (by decide) ?_
  refine g_iconst C (0) dX3_steadyTicks_2 rfl ?_
  refine g_istore C (i := 4) dX3_steadyTicks_3 (by decide) ?_
  have key : ∀ k i lv5 lv6, k + i = ns → tkG X (tkQ false X 0 0 (.inl (some (.int (itr (sSst I0) ns lim)))) σ (reg p 28 I0 v) (reg p 28 L0 w)) 0 0 5 [some (.ref (p + 7)), some (.ref (p + 1)), some (.int lim), some (.int (itr (sSst I0) i lim)), some (.int (nI i)), lv5, lv6] [] σ (reg p 28 I0 v) (reg p 28 L0 w) := by
    intro k
    induction k with
    | zero =>
      intro i lv5 lv6 hi
      have e : i = ns := by omega
      subst e
      refine g_iload C (i := 4) dX3_steadyTicks_5 rfl ?_
      refine g_aload_n C (i := 0) dX3_steadyTicks_7 rfl rfl ?_
      refine g_getI C 3 0 (RX3, TX3, 5) dX3_steadyTicks_8 (hP.1 7 (by decide)) (reg_at (k := 7) (by decide)) ml_X3_25 rfl (by decide) (Or.inl rfl) ?_
      rw [hw1]
      refine g_icmp_ge C 106 dX3_steadyTicks_11 (by decide) (fun h11 => ?_) (fun h11 => ?_)
      · refine g_iload_n C (i := 3) dX3_steadyTicks_106 rfl rfl ?_
        exact g_ireturn C dX3_steadyTicks_107 ⟨Nat.le_of_ble_eq_true rfl, Nat.le_of_ble_eq_true rfl⟩ (tkEnd.rf rfl rfl rfl)
      · exact absurd (Int32.le_refl _) h11
    | succ k ih =>
      intro i lv5 lv6 hi
      have hlt : i < ns := by omega
      obtain ⟨t, ht, et⟩ := hw3 i hlt
      have etc : (I0 8 i).toNatClampNeg = t := by rw [et]; exact nI_clamp (by omega)
      have ih1 := fun a b => ih (i + 1) a b (by omega)
      rw [show itr (sSst I0) (i + 1) lim = sSst I0 i (itr (sSst I0) i lim) from rfl] at ih1
      refine g_iload C (i := 4) dX3_steadyTicks_5 rfl ?_
      refine g_aload_n C (i := 0) dX3_steadyTicks_7 rfl rfl ?_
      refine g_getI C 3 0 (RX3, TX3, 5) dX3_steadyTicks_8 (hP.1 7 (by decide)) (reg_at (k := 7) (by decide)) ml_X3_25 rfl (by decide) (Or.inl rfl) ?_
      rw [hw1]
      refine g_icmp_ge C 106 dX3_steadyTicks_11 (by decide) (fun h11 => ?_) (fun h11 => ?_)
      · exact absurd h11 (nI_ge hlt (by omega))
      · refine g_iload_n C (i := 3) dX3_steadyTicks_14 rfl rfl ?_
        refine g_if_le C 106 dX3_steadyTicks_15 (by decide) (fun h15 => ?_) (fun h15 => ?_)
        · have e := itr_stop (f := sSst I0) (P := fun s => s ≤ 0) (fun i a h => by simp [sSst, Int32.not_lt.mpr h]) h15 (k + 1)
          rw [show i + (k + 1) = ns by omega] at e
          rw [e]
          refine g_iload_n C (i := 3) dX3_steadyTicks_106 rfl rfl ?_
          exact g_ireturn C dX3_steadyTicks_107 ⟨Nat.le_of_ble_eq_true rfl, Nat.le_of_ble_eq_true rfl⟩ (tkEnd.rf rfl rfl rfl)
        · have h15' := Int32.not_le.mp h15
          refine g_aload_n C (i := 1) dX3_steadyTicks_18 rfl rfl ?_
          refine g_getR C 4 5 (RX4, TX4, 6) dX3_steadyTicks_19 (hP.1 1 (by decide)) (hP.2 1 5 6 (by decide) rfl) ml_X3_46 rfl (by decide) rfl ?_
          refine g_aload_n C (i := 0) dX3_steadyTicks_22 rfl rfl ?_
          refine g_getR C 3 1 (RX3, TX3, 5) dX3_steadyTicks_23 (hP.1 7 (by decide)) (hP.2 7 1 8 (by decide) rfl) ml_X3_9 rfl (by decide) rfl ?_
          refine g_iload C (i := 4) dX3_steadyTicks_26 rfl ?_
          refine g_ia C dX3_steadyTicks_28 (hP.1 8 (by decide)) (reg_at (k := 8) (by decide)) rfl (by omega) (by decide) ?_
          refine g_ia C dX3_steadyTicks_29 (hP.1 6 (by decide)) (reg_at (k := 6) (by decide)) et (by omega) (by decide) ?_
          refine g_istore C (i := 5) dX3_steadyTicks_30 (by decide) ?_
          refine g_aload_n C (i := 1) dX3_steadyTicks_32 rfl rfl ?_
          refine g_aload_n C (i := 0) dX3_steadyTicks_33 rfl rfl ?_
          refine g_getR C 3 1 (RX3, TX3, 5) dX3_steadyTicks_34 (hP.1 7 (by decide)) (hP.2 7 1 8 (by decide) rfl) ml_X3_9 rfl (by decide) rfl ?_
          refine g_iload C (i := 4) dX3_steadyTicks_37 rfl ?_
          refine g_ia C dX3_steadyTicks_39 (hP.1 8 (by decide)) (reg_at (k := 8) (by decide)) rfl (by omega) (by decide) ?_
          rw [et]
          refine g_callV C (q := (RX4, TX4, 6)) (rest := _) dX3_steadyTicks_40 mm_X4_drift ml_X3_49 mv_yX4_drift ms_yX4_drift (c_X4_drift (j := t) hP ht) rfl (hP.1 1 (by decide)) rfl rfl ⟨by decide, Nat.le_of_ble_eq_true rfl, Nat.le_of_ble_eq_true rfl, Nat.le_of_ble_eq_true rfl⟩ (tk_retv ?_) tk_nothr
          refine g_istore C (i := 6) dX3_steadyTicks_43 (by decide) ?_
          refine g_aload_n C (i := 0) dX3_steadyTicks_45 rfl rfl ?_
          refine g_getR C 3 4 (RX3, TX3, 5) dX3_steadyTicks_46 (hP.1 7 (by decide)) (hP.2 7 4 11 (by decide) rfl) ml_X3_21 rfl (by decide) rfl ?_
          refine g_iload C (i := 4) dX3_steadyTicks_49 rfl ?_
          refine g_za C dX3_steadyTicks_51 (hP.1 11 (by decide)) (reg_at (k := 11) (by decide)) rfl (by omega) (by decide) (fun _ => ?_)
          refine g_if_eq C 79 dX3_steadyTicks_52 (by decide) (fun h52 => ?_) (fun h52 => ?_)
          · refine g_iload C (i := 5) dX3_steadyTicks_79 rfl ?_
            refine g_aload_n C (i := 0) dX3_steadyTicks_81 rfl rfl ?_
            refine g_getR C 3 2 (RX3, TX3, 5) dX3_steadyTicks_82 (hP.1 7 (by decide)) (hP.2 7 2 9 (by decide) rfl) ml_X3_15 rfl (by decide) rfl ?_
            refine g_iload C (i := 4) dX3_steadyTicks_85 rfl ?_
            refine g_ia C dX3_steadyTicks_87 (hP.1 9 (by decide)) (reg_at (k := 9) (by decide)) rfl (by omega) (by decide) ?_
            refine g_isub C dX3_steadyTicks_88 ?_
            refine g_iconst C (1) dX3_steadyTicks_89 rfl ?_
            refine g_isub C dX3_steadyTicks_90 ?_
            refine g_i2l C dX3_steadyTicks_91 ?_
            refine g_iload C (i := 6) dX3_steadyTicks_92 rfl ?_
            refine g_i2l C dX3_steadyTicks_94 ?_
            refine g_iload_n C (i := 3) dX3_steadyTicks_95 rfl rfl ?_
            refine g_callSN C dX3_steadyTicks_96 mm_X5_ticksWhile ml_X3_53 mt_yX5_ticksWhile (c_X5_ticksWhile _ _ _) rfl ⟨by decide, Nat.le_of_ble_eq_true rfl, Nat.le_of_ble_eq_true rfl, Nat.le_of_ble_eq_true rfl⟩ (tk_retv ?_) tk_nothr
            refine g_istore_n C (i := 3) dX3_steadyTicks_99 rfl (by decide) ?_
            refine g_iinc C (i := 4) (nI (i + 1)) dX3_steadyTicks_100 rfl (nI_1 i) (by decide) ?_
            refine g_goto C 5 dX3_steadyTicks_103 (by decide) ?_
            rw [show sSst I0 i (itr (sSst I0) i lim) = jtw (I0 6 t - I0 9 i - 1).toInt64 (I0 3 t - I0 6 t).toInt64 (itr (sSst I0) i lim) by simp only [sSst, if_pos h15', if_pos h52, etc]] at ih1
            exact ih1 _ _
          · refine g_aload_n C (i := 0) dX3_steadyTicks_55 rfl rfl ?_
            refine g_getR C 3 3 (RX3, TX3, 5) dX3_steadyTicks_56 (hP.1 7 (by decide)) (hP.2 7 3 10 (by decide) rfl) ml_X3_18 rfl (by decide) rfl ?_
            refine g_iload C (i := 4) dX3_steadyTicks_59 rfl ?_
            refine g_ia C dX3_steadyTicks_61 (hP.1 10 (by decide)) (reg_at (k := 10) (by decide)) rfl (by omega) (by decide) ?_
            refine g_iconst C (1) dX3_steadyTicks_62 rfl ?_
            refine g_isub C dX3_steadyTicks_63 ?_
            refine g_iload C (i := 5) dX3_steadyTicks_64 rfl ?_
            refine g_isub C dX3_steadyTicks_66 ?_
            refine g_i2l C dX3_steadyTicks_67 ?_
            refine g_iload C (i := 6) dX3_steadyTicks_68 rfl ?_
            refine g_ineg C dX3_steadyTicks_70 ?_
            refine g_i2l C dX3_steadyTicks_71 ?_
            refine g_iload_n C (i := 3) dX3_steadyTicks_72 rfl rfl ?_
            refine g_callSN C dX3_steadyTicks_73 mm_X5_ticksWhile ml_X3_53 mt_yX5_ticksWhile (c_X5_ticksWhile _ _ _) rfl ⟨by decide, Nat.le_of_ble_eq_true rfl, Nat.le_of_ble_eq_true rfl, Nat.le_of_ble_eq_true rfl⟩ (tk_retv ?_) tk_nothr
            refine g_goto C 99 dX3_steadyTicks_76 (by decide) ?_
            refine g_istore_n C (i := 3) dX3_steadyTicks_99 rfl (by decide) ?_
            refine g_iinc C (i := 4) (nI (i + 1)) dX3_steadyTicks_100 rfl (nI_1 i) (by decide) ?_
            refine g_goto C 5 dX3_steadyTicks_103 (by decide) ?_
            rw [show sSst I0 i (itr (sSst I0) i lim) = jtw (I0 10 i - 1 - I0 6 t).toInt64 (-(I0 3 t - I0 6 t)).toInt64 (itr (sSst I0) i lim) by simp only [sSst, if_pos h15', if_neg h52, etc]] at ih1
            exact ih1 _ _
  exact key ns 0 none none (by omega)
end TKSWITCHES

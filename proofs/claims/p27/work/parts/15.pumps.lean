section TKPUMPS
variable {σ : tkM} {p : Nat} {I0 v : tkI} {L0 w : tkL}
/-! the pumps' steps -/
def sAct (I : tkI) (i : Nat) : Int32 := if I 17 i = -1 then 1 else if I 11 (I 17 i).toNatClampNeg = I 18 i then 0 else 1
def sMove (i : Nat) (I : tkI) : tkI :=
  let s := (I 13 i).toNatClampNeg
  let t := (I 14 i).toNatClampNeg
  let m1 := if I 13 i = -1 then I 15 i else jmin (I 15 i) (I 3 s)
  let m2 := if I 14 i = -1 then m1 else jmin m1 (I 2 t - I 3 t)
  let I1 := if I 13 i = -1 then I else tk2 (tk2 I 3 s (I 3 s - m2)) 23 i (tk2 I 3 s (I 3 s - m2) 3 s)
  let I2 := if I 14 i = -1 then I1 else tk2 (tk2 I1 3 t (I1 3 t + m2)) 24 i (tk2 I1 3 t (I1 3 t + m2) 2 t - tk2 I1 3 t (I1 3 t + m2) 3 t)
  tk2 I2 22 i m2
def sEnter (t : Int32) (i : Nat) (I : tkI) (L : tkL) : tkL :=
  let mv := (I 22 i).toInt64 * t.toInt64
  let L1 := tk2 L 19 i (L 19 i + mv)
  let L2 := tk2 L1 20 i (L1 20 i + mv * (I 16 i).toInt64)
  if I 15 i ≤ I 22 i then L2 else tk2 L2 21 i (L2 21 i + t.toInt64)
def sMv (i : Nat) (q : tkI × tkL) : tkI × tkL := if sAct q.1 i = 0 then q else (sMove i q.1, sEnter 1 i (sMove i q.1) q.2)
def sPrep (I : tkI) (t : Int32) (i : Nat) (L : tkL) : tkL := if sAct I i = 0 then L else sEnter t i I L
def sHeld (h left dr : Int32) : Int32 := if h = 0 then (if left = 0 then (if dr = 0 then 1 else 0) else 0) else 1
def sOf1 (I : tkI) (i : Nat) (lim : Int32) : Int32 × Int32 :=
  let s := (I 13 i).toNatClampNeg
  let h0 : Int32 := if I 22 i = I 15 i then 1 else 0
  if I 13 i = -1 then (lim, h0) else (jtw (I 23 i).toInt64 (I 3 s - I 6 s).toInt64 lim, sHeld h0 (I 23 i) (I 3 s - I 6 s))
def sOf2 (I : tkI) (i : Nat) (q : Int32 × Int32) : Int32 × Int32 :=
  let t := (I 14 i).toNatClampNeg
  if I 14 i = -1 then q else (jtw (I 24 i).toInt64 (-(I 3 t - I 6 t)).toInt64 q.1, sHeld q.2 (I 24 i) (I 3 t - I 6 t))
def sOf (I : tkI) (i : Nat) (lim : Int32) : Int32 := if (sOf2 I i (sOf1 I i lim)).2 = 0 then 0 else (sOf2 I i (sOf1 I i lim)).1
def sPst (I : tkI) (i : Nat) (st : Int32) : Int32 := if 0 < st then (if sAct I i = 0 then st else sOf I i st) else st
def sIn (I : tkI) (L : tkL) (i : Nat) (d : Int64) : Int64 := d + (if I 13 i = -1 then L 19 i else 0)
def sGo (I : tkI) (L : tkL) (i : Nat) (d : Int64) : Int64 := d + (if I 14 i = -1 then L 19 i else 0)
def sPmix (I : tkI) (L : tkL) (i : Nat) (d : Int64) : Int64 := jmix (jmix (jmix (jmix d (I 15 i).toInt64) (L 19 i)) (L 20 i)) (L 21 i)
theorem sAct_01 (I : tkI) (i : Nat) : sAct I i = 0 ∨ sAct I i = 1 := by
  unfold sAct
  split
  · exact Or.inr rfl
  · split
    · exact Or.inl rfl
    · exact Or.inr rfl
theorem sAct_ne {I : tkI} {i : Nat} (h : ¬ sAct I i = 0) : sAct I i = 1 := (sAct_01 I i).resolve_left h
theorem c_X2_append (hP : tkReg 28 pT pF σ p) {n : Nat} (hn : n < 16) (hc : I0 12 0 = nI n) (x1 x2 x3 x4 x5 x6 : Int32) (h6 : x6 = 0 ∨ x6 = 1) :
    tkCon false (.code yX2_append cX2_append 8 (some .int)) yX2_append 1 [.ref (p + 12), .int x1, .int x2, .int x3, .int x4, .int x5, .int x6] σ (reg p 28 I0 v) (reg p 28 L0 w) 0 0 (.inl (some (.int (nI n)))) σ
      (reg p 28 (tk2 (tk2 (tk2 (tk2 (tk2 (tk2 (tk2 I0 13 n x1) 14 n x2) 15 n x3) 16 n x4) 17 n x5) 18 n x6) 12 0 (nI n + 1)) v) (reg p 28 (tk2 (tk2 (tk2 L0 19 n 0) 20 n 0) 21 n 0) w) := by
  refine tkCon.of (by decide) (Nat.le_of_ble_eq_true rfl) (fun X C => ?_)
  refine g_aload_n C (i := 0) dX2_append_0 rfl rfl ?_
  refine g_getI C 2 0 (RX2, TX2, 13) dX2_append_1 (hP.1 12 (by decide)) (reg_at (k := 12) (by decide)) ml_X2_50 rfl (by decide) (Or.inl rfl) ?_
  rw [hc]
  refine g_istore C (i := 7) dX2_append_4 (by decide) ?_
  refine g_aload_n C (i := 0) dX2_append_6 rfl rfl ?_
  refine g_getR C 2 1 (RX2, TX2, 13) dX2_append_7 (hP.1 12 (by decide)) (hP.2 12 1 13 (by decide) rfl) ml_X2_9 rfl (by decide) rfl ?_
  refine g_iload C (i := 7) dX2_append_10 rfl ?_
  refine g_iload_n C (i := 1) dX2_append_12 rfl rfl ?_
  refine g_is C dX2_append_13 (hP.1 13 (by decide)) (tk2_reg (k := 13) (by decide)) rfl (by omega) (by decide) ?_
  refine g_aload_n C (i := 0) dX2_append_14 rfl rfl ?_
  refine g_getR C 2 2 (RX2, TX2, 13) dX2_append_15 (hP.1 12 (by decide)) (hP.2 12 2 14 (by decide) rfl) ml_X2_15 rfl (by decide) rfl ?_
  refine g_iload C (i := 7) dX2_append_18 rfl ?_
  refine g_iload_n C (i := 2) dX2_append_20 rfl rfl ?_
  refine g_is C dX2_append_21 (hP.1 14 (by decide)) (tk2_reg (k := 14) (by decide)) rfl (by omega) (by decide) ?_
  refine g_aload_n C (i := 0) dX2_append_22 rfl rfl ?_
  refine g_getR C 2 3 (RX2, TX2, 13) dX2_append_23 (hP.1 12 (by decide)) (hP.2 12 3 15 (by decide) rfl) ml_X2_18 rfl (by decide) rfl ?_
  refine g_iload C (i := 7) dX2_append_26 rfl ?_
  refine g_iload_n C (i := 3) dX2_append_28 rfl rfl ?_
  refine g_is C dX2_append_29 (hP.1 15 (by decide)) (tk2_reg (k := 15) (by decide)) rfl (by omega) (by decide) ?_
  refine g_aload_n C (i := 0) dX2_append_30 rfl rfl ?_
  refine g_getR C 2 4 (RX2, TX2, 13) dX2_append_31 (hP.1 12 (by decide)) (hP.2 12 4 16 (by decide) rfl) ml_X2_21 rfl (by decide) rfl ?_
  refine g_iload C (i := 7) dX2_append_34 rfl ?_
  refine g_iload C (i := 4) dX2_append_36 rfl ?_
  refine g_is C dX2_append_38 (hP.1 16 (by decide)) (tk2_reg (k := 16) (by decide)) rfl (by omega) (by decide) ?_
  refine g_aload_n C (i := 0) dX2_append_39 rfl rfl ?_
  refine g_getR C 2 5 (RX2, TX2, 13) dX2_append_40 (hP.1 12 (by decide)) (hP.2 12 5 17 (by decide) rfl) ml_X2_24 rfl (by decide) rfl ?_
  refine g_iload C (i := 7) dX2_append_43 rfl ?_
  refine g_iload C (i := 5) dX2_append_45 rfl ?_
  refine g_is C dX2_append_47 (hP.1 17 (by decide)) (tk2_reg (k := 17) (by decide)) rfl (by omega) (by decide) ?_
  refine g_aload_n C (i := 0) dX2_append_48 rfl rfl ?_
  refine g_getR C 2 6 (RX2, TX2, 13) dX2_append_49 (hP.1 12 (by decide)) (hP.2 12 6 18 (by decide) rfl) ml_X2_27 rfl (by decide) rfl ?_
  refine g_iload C (i := 7) dX2_append_52 rfl ?_
  refine g_iload C (i := 6) dX2_append_54 rfl ?_
  refine g_zs C dX2_append_56 (hP.1 18 (by decide)) (tk2_reg (k := 18) (by decide)) rfl (by omega) (by decide) h6 ?_
  refine g_aload_n C (i := 0) dX2_append_57 rfl rfl ?_
  refine g_getR C 2 7 (RX2, TX2, 13) dX2_append_58 (hP.1 12 (by decide)) (hP.2 12 7 19 (by decide) rfl) ml_X2_31 rfl (by decide) rfl ?_
  refine g_iload C (i := 7) dX2_append_61 rfl ?_
  refine g_lconst C 0 dX2_append_63 rfl ?_
  refine g_ls C dX2_append_64 (hP.1 19 (by decide)) (tk2_reg (k := 19) (by decide)) rfl (by omega) (by decide) ?_
  refine g_aload_n C (i := 0) dX2_append_65 rfl rfl ?_
  refine g_getR C 2 8 (RX2, TX2, 13) dX2_append_66 (hP.1 12 (by decide)) (hP.2 12 8 20 (by decide) rfl) ml_X2_35 rfl (by decide) rfl ?_
  refine g_iload C (i := 7) dX2_append_69 rfl ?_
  refine g_lconst C 0 dX2_append_71 rfl ?_
  refine g_ls C dX2_append_72 (hP.1 20 (by decide)) (tk2_reg (k := 20) (by decide)) rfl (by omega) (by decide) ?_
  refine g_aload_n C (i := 0) dX2_append_73 rfl rfl ?_
  refine g_getR C 2 9 (RX2, TX2, 13) dX2_append_74 (hP.1 12 (by decide)) (hP.2 12 9 21 (by decide) rfl) ml_X2_38 rfl (by decide) rfl ?_
  refine g_iload C (i := 7) dX2_append_77 rfl ?_
  refine g_lconst C 0 dX2_append_79 rfl ?_
  refine g_ls C dX2_append_80 (hP.1 21 (by decide)) (tk2_reg (k := 21) (by decide)) rfl (by omega) (by decide) ?_
  refine g_aload_n C (i := 0) dX2_append_81 rfl rfl ?_
  refine g_dup C dX2_append_82 rfl ?_
  refine g_getI C 2 0 (RX2, TX2, 13) dX2_append_83 (hP.1 12 (by decide)) (reg_at (k := 12) (by decide)) ml_X2_50 rfl (by decide) (Or.inl rfl) ?_
  rw [show tk2 (tk2 (tk2 (tk2 (tk2 (tk2 I0 13 n x1) 14 n x2) 15 n x3) 16 n x4) 17 n x5) 18 n x6 12 0 = nI n by simp [tk2, hc]]
  refine g_iconst C (1) dX2_append_86 rfl ?_
  refine g_iadd C dX2_append_87 ?_
  refine g_putI C 2 0 (RX2, TX2, 13) dX2_append_88 (hP.1 12 (by decide)) (tk2_reg (k := 12) (by decide)) ml_X2_50 rfl (by decide) rfl rfl ?_
  refine g_iload C (i := 7) dX2_append_91 rfl ?_
  exact g_ireturn C dX2_append_93 ⟨Nat.le_of_ble_eq_true rfl, Nat.le_of_ble_eq_true rfl⟩ (tkEnd.rf rfl rfl rfl)
theorem c_X2_isActive (hP : tkReg 28 pT pF σ p) {np j : Nat} (hW : wPu I0 np) (hj : j < np) :
    tkCon false (.code yX2_isActive cX2_isActive 4 (some .boolean)) yX2_isActive 1 [.ref (p + 12), .int (nI j), .ref (p + 7)] σ (reg p 28 I0 v) (reg p 28 L0 w) 0 0 (.inl (some (.int (sAct I0 j)))) σ (reg p 28 I0 v) (reg p 28 L0 w) := by
  obtain ⟨hw1, hw2, hw3⟩ := hW
  have hc3 := (hw3 j hj).2.2
  refine tkCon.of (by decide) (Nat.le_of_ble_eq_true rfl) (fun X C => ?_)
  refine g_aload_n C (i := 0) dX2_isActive_0 rfl rfl ?_
  refine g_getR C 2 5 (RX2, TX2, 13) dX2_isActive_1 (hP.1 12 (by decide)) (hP.2 12 5 17 (by decide) rfl) ml_X2_24 rfl (by decide) rfl ?_
  refine g_iload_n C (i := 1) dX2_isActive_4 rfl rfl ?_
  refine g_ia C dX2_isActive_5 (hP.1 17 (by decide)) (reg_at (k := 17) (by decide)) rfl (by omega) (by decide) ?_
  refine g_istore_n C (i := 3) dX2_isActive_6 rfl (by decide) ?_
  refine g_iload_n C (i := 3) dX2_isActive_7 rfl rfl ?_
  refine g_iconst C (-1) dX2_isActive_8 rfl ?_
  refine g_icmp_eq C 27 dX2_isActive_9 (by decide) (fun h9 => ?_) (fun h9 => ?_)
  · refine g_iconst C (1) dX2_isActive_27 rfl ?_
    refine g_goto C 32 dX2_isActive_28 (by decide) ?_
    exact g_zreturn C dX2_isActive_32 ⟨Nat.le_of_ble_eq_true rfl, Nat.le_of_ble_eq_true rfl⟩ (by first | assumption | exact Or.inl rfl | exact Or.inr rfl) (tkEnd.rf (by simp [sAct, h9]) rfl rfl)
  · obtain ⟨t, ht, et⟩ := hc3.resolve_left h9
    have etc : (I0 17 j).toNatClampNeg = t := by rw [et]; exact nI_clamp (by omega)
    refine g_aload_n C (i := 2) dX2_isActive_12 rfl rfl ?_
    refine g_getR C 3 4 (RX3, TX3, 5) dX2_isActive_13 (hP.1 7 (by decide)) (hP.2 7 4 11 (by decide) rfl) ml_X2_60 rfl (by decide) rfl ?_
    refine g_iload_n C (i := 3) dX2_isActive_16 rfl rfl ?_
    refine g_za C dX2_isActive_17 (hP.1 11 (by decide)) (reg_at (k := 11) (by decide)) et (by omega) (by decide) (fun _ => ?_)
    refine g_aload_n C (i := 0) dX2_isActive_18 rfl rfl ?_
    refine g_getR C 2 6 (RX2, TX2, 13) dX2_isActive_19 (hP.1 12 (by decide)) (hP.2 12 6 18 (by decide) rfl) ml_X2_27 rfl (by decide) rfl ?_
    refine g_iload_n C (i := 1) dX2_isActive_22 rfl rfl ?_
    refine g_za C dX2_isActive_23 (hP.1 18 (by decide)) (reg_at (k := 18) (by decide)) rfl (by omega) (by decide) (fun _ => ?_)
    refine g_icmp_eq C 31 dX2_isActive_24 (by decide) (fun h24 => ?_) (fun h24 => ?_)
    · refine g_iconst C (0) dX2_isActive_31 rfl ?_
      exact g_zreturn C dX2_isActive_32 ⟨Nat.le_of_ble_eq_true rfl, Nat.le_of_ble_eq_true rfl⟩ (by first | assumption | exact Or.inl rfl | exact Or.inr rfl) (tkEnd.rf (by simp [sAct, h9, etc, h24]) rfl rfl)
    · refine g_iconst C (1) dX2_isActive_27 rfl ?_
      refine g_goto C 32 dX2_isActive_28 (by decide) ?_
      exact g_zreturn C dX2_isActive_32 ⟨Nat.le_of_ble_eq_true rfl, Nat.le_of_ble_eq_true rfl⟩ (by first | assumption | exact Or.inl rfl | exact Or.inr rfl) (tkEnd.rf (by simp [sAct, h9, etc, h24]) rfl rfl)
theorem c_X2_move (hP : tkReg 28 pT pF σ p) {np j : Nat} (hW : wPu I0 np) (hj : j < np) :
    tkCon false (.code yX2_move cX2_move 6 none) yX2_move 2 [.ref (p + 12), .int (nI j), .ref (p + 1)] σ (reg p 28 I0 v) (reg p 28 L0 w) 0 0 (.inl none) σ (reg p 28 (sMove j I0) v) (reg p 28 L0 w) := by
  obtain ⟨hw1, hw2, hw3⟩ := hW
  obtain ⟨hf, ht, -⟩ := hw3 j hj
  obtain ⟨m1, em1⟩ : ∃ m1, m1 = if I0 13 j = -1 then I0 15 j else jmin (I0 15 j) (I0 3 (I0 13 j).toNatClampNeg) := ⟨_, rfl⟩
  obtain ⟨m2, em2⟩ : ∃ m2, m2 = if I0 14 j = -1 then m1 else jmin m1 (I0 2 (I0 14 j).toNatClampNeg - I0 3 (I0 14 j).toNatClampNeg) := ⟨_, rfl⟩
  obtain ⟨I1, eI1⟩ : ∃ I1, I1 = if I0 13 j = -1 then I0 else tk2 (tk2 I0 3 (I0 13 j).toNatClampNeg (I0 3 (I0 13 j).toNatClampNeg - m2)) 23 j (tk2 I0 3 (I0 13 j).toNatClampNeg (I0 3 (I0 13 j).toNatClampNeg - m2) 3 (I0 13 j).toNatClampNeg) := ⟨_, rfl⟩
  obtain ⟨I2, eI2⟩ : ∃ I2, I2 = if I0 14 j = -1 then I1 else tk2 (tk2 I1 3 (I0 14 j).toNatClampNeg (I1 3 (I0 14 j).toNatClampNeg + m2)) 24 j (tk2 I1 3 (I0 14 j).toNatClampNeg (I1 3 (I0 14 j).toNatClampNeg + m2) 2 (I0 14 j).toNatClampNeg - tk2 I1 3 (I0 14 j).toNatClampNeg (I1 3 (I0 14 j).toNatClampNeg + m2) 3 (I0 14 j).toNatClampNeg) := ⟨_, rfl⟩
  have eF : sMove j I0 = tk2 I2 22 j m2 := by rw [eI2, eI1, em2, em1]; rfl
  rw [eF]
  refine tkCon.of (by decide) (Nat.le_of_ble_eq_true rfl) (fun X C => ?_)
  have J136 : tkG X (tkQ false X 0 0 (.inl none) σ (reg p 28 (tk2 I2 22 j m2) v) (reg p 28 L0 w)) 0 0 136 [some (.ref (p + 12)), some (.int (nI j)), some (.ref (p + 1)), some (.int (I0 13 j)), some (.int (I0 14 j)), some (.int m2)] [] σ (reg p 28 I2 v) (reg p 28 L0 w) := by
    clear eI1 eI2 em1 em2 eF
    refine g_aload_n C (i := 0) dX2_move_136 rfl rfl ?_
    refine g_getR C 2 10 (RX2, TX2, 13) dX2_move_137 (hP.1 12 (by decide)) (hP.2 12 10 22 (by decide) rfl) ml_X2_41 rfl (by decide) rfl ?_
    refine g_iload_n C (i := 1) dX2_move_140 rfl rfl ?_
    refine g_iload C (i := 5) dX2_move_141 rfl ?_
    refine g_is C dX2_move_143 (hP.1 22 (by decide)) (tk2_reg (k := 22) (by decide)) rfl (by omega) (by decide) ?_
    exact g_return C dX2_move_144 ⟨Nat.le_of_ble_eq_true rfl, Nat.le_of_ble_eq_true rfl⟩ (tkEnd.rf rfl rfl rfl)
  have J97 : tkG X (tkQ false X 0 0 (.inl none) σ (reg p 28 (tk2 I2 22 j m2) v) (reg p 28 L0 w)) 0 0 97 [some (.ref (p + 12)), some (.int (nI j)), some (.ref (p + 1)), some (.int (I0 13 j)), some (.int (I0 14 j)), some (.int m2)] [] σ (reg p 28 I1 v) (reg p 28 L0 w) := by
    clear eI1 em1 em2 eF
    refine g_iload C (i := 4) dX2_move_97 rfl ?_
    refine g_iconst C (-1) dX2_move_99 rfl ?_
    refine g_icmp_eq C 136 dX2_move_100 (by decide) (fun h100 => ?_) (fun h100 => ?_)
    · rw [if_pos h100] at eI2
      rw [eI2] at J136
      rw [eI2]
      skip
      exact J136
    · obtain ⟨t, ht, et⟩ := ht.resolve_left h100
      have etc : (I0 14 j).toNatClampNeg = t := by rw [et]; exact nI_clamp (by omega)
      rw [if_neg h100, etc] at eI2
      rw [eI2] at J136
      rw [eI2]
      refine g_aload_n C (i := 2) dX2_move_103 rfl rfl ?_
      refine g_getR C 4 2 (RX4, TX4, 6) dX2_move_104 (hP.1 1 (by decide)) (hP.2 1 2 3 (by decide) rfl) ml_X2_77 rfl (by decide) rfl ?_
      refine g_iload C (i := 4) dX2_move_107 rfl ?_
      refine g_dup2 C dX2_move_109 rfl rfl ?_
      refine g_ia C dX2_move_110 (hP.1 3 (by decide)) (reg_at (k := 3) (by decide)) et (by omega) (by decide) ?_
      refine g_iload C (i := 5) dX2_move_111 rfl ?_
      refine g_iadd C dX2_move_113 ?_
      refine g_is C dX2_move_114 (hP.1 3 (by decide)) (tk2_reg (k := 3) (by decide)) et (by omega) (by decide) ?_
      refine g_aload_n C (i := 0) dX2_move_115 rfl rfl ?_
      refine g_getR C 2 12 (RX2, TX2, 13) dX2_move_116 (hP.1 12 (by decide)) (hP.2 12 12 24 (by decide) rfl) ml_X2_47 rfl (by decide) rfl ?_
      refine g_iload_n C (i := 1) dX2_move_119 rfl rfl ?_
      refine g_aload_n C (i := 2) dX2_move_120 rfl rfl ?_
      refine g_getR C 4 1 (RX4, TX4, 6) dX2_move_121 (hP.1 1 (by decide)) (hP.2 1 1 2 (by decide) rfl) ml_X2_88 rfl (by decide) rfl ?_
      refine g_iload C (i := 4) dX2_move_124 rfl ?_
      refine g_ia C dX2_move_126 (hP.1 2 (by decide)) (reg_at (k := 2) (by decide)) et (by omega) (by decide) ?_
      refine g_aload_n C (i := 2) dX2_move_127 rfl rfl ?_
      refine g_getR C 4 2 (RX4, TX4, 6) dX2_move_128 (hP.1 1 (by decide)) (hP.2 1 2 3 (by decide) rfl) ml_X2_77 rfl (by decide) rfl ?_
      refine g_iload C (i := 4) dX2_move_131 rfl ?_
      refine g_ia C dX2_move_133 (hP.1 3 (by decide)) (reg_at (k := 3) (by decide)) et (by omega) (by decide) ?_
      refine g_isub C dX2_move_134 ?_
      refine g_is C dX2_move_135 (hP.1 24 (by decide)) (tk2_reg (k := 24) (by decide)) rfl (by omega) (by decide) ?_
      exact J136
  have J69 : tkG X (tkQ false X 0 0 (.inl none) σ (reg p 28 (tk2 I2 22 j m2) v) (reg p 28 L0 w)) 0 0 69 [some (.ref (p + 12)), some (.int (nI j)), some (.ref (p + 1)), some (.int (I0 13 j)), some (.int (I0 14 j)), some (.int m2)] [] σ (reg p 28 I0 v) (reg p 28 L0 w) := by
    clear J136 eI2 em1 em2 eF
    refine g_iload_n C (i := 3) dX2_move_69 rfl rfl ?_
    refine g_iconst C (-1) dX2_move_70 rfl ?_
    refine g_icmp_eq C 97 dX2_move_71 (by decide) (fun h71 => ?_) (fun h71 => ?_)
    · rw [if_pos h71] at eI1
      rw [eI1] at J97
      skip
      exact J97
    · obtain ⟨s, hs, es⟩ := hf.resolve_left h71
      have esc : (I0 13 j).toNatClampNeg = s := by rw [es]; exact nI_clamp (by omega)
      rw [if_neg h71, esc] at eI1
      rw [eI1] at J97
      refine g_aload_n C (i := 2) dX2_move_74 rfl rfl ?_
      refine g_getR C 4 2 (RX4, TX4, 6) dX2_move_75 (hP.1 1 (by decide)) (hP.2 1 2 3 (by decide) rfl) ml_X2_77 rfl (by decide) rfl ?_
      refine g_iload_n C (i := 3) dX2_move_78 rfl rfl ?_
      refine g_dup2 C dX2_move_79 rfl rfl ?_
      refine g_ia C dX2_move_80 (hP.1 3 (by decide)) (reg_at (k := 3) (by decide)) es (by omega) (by decide) ?_
      refine g_iload C (i := 5) dX2_move_81 rfl ?_
      refine g_isub C dX2_move_83 ?_
      refine g_is C dX2_move_84 (hP.1 3 (by decide)) (tk2_reg (k := 3) (by decide)) es (by omega) (by decide) ?_
      refine g_aload_n C (i := 0) dX2_move_85 rfl rfl ?_
      refine g_getR C 2 11 (RX2, TX2, 13) dX2_move_86 (hP.1 12 (by decide)) (hP.2 12 11 23 (by decide) rfl) ml_X2_44 rfl (by decide) rfl ?_
      refine g_iload_n C (i := 1) dX2_move_89 rfl rfl ?_
      refine g_aload_n C (i := 2) dX2_move_90 rfl rfl ?_
      refine g_getR C 4 2 (RX4, TX4, 6) dX2_move_91 (hP.1 1 (by decide)) (hP.2 1 2 3 (by decide) rfl) ml_X2_77 rfl (by decide) rfl ?_
      refine g_iload_n C (i := 3) dX2_move_94 rfl rfl ?_
      refine g_ia C dX2_move_95 (hP.1 3 (by decide)) (reg_at (k := 3) (by decide)) es (by omega) (by decide) ?_
      refine g_is C dX2_move_96 (hP.1 23 (by decide)) (tk2_reg (k := 23) (by decide)) rfl (by omega) (by decide) ?_
      exact J97
  clear J136 J97 eI1 eI2 eF
  have J41 : tkG X (tkQ false X 0 0 (.inl none) σ (reg p 28 (tk2 I2 22 j m2) v) (reg p 28 L0 w)) 0 0 41 [some (.ref (p + 12)), some (.int (nI j)), some (.ref (p + 1)), some (.int (I0 13 j)), some (.int (I0 14 j)), some (.int m1)] [] σ (reg p 28 I0 v) (reg p 28 L0 w) := by
    clear em1
    refine g_iload C (i := 4) dX2_move_41 rfl ?_
    refine g_iconst C (-1) dX2_move_43 rfl ?_
    refine g_icmp_eq C 69 dX2_move_44 (by decide) (fun h44 => ?_) (fun h44 => ?_)
    · rw [if_pos h44] at em2
      rw [em2] at J69
      rw [em2]
      skip
      exact J69
    · obtain ⟨t, ht, et⟩ := ht.resolve_left h44
      have etc : (I0 14 j).toNatClampNeg = t := by rw [et]; exact nI_clamp (by omega)
      rw [if_neg h44, etc] at em2
      rw [em2] at J69
      rw [em2]
      refine g_iload C (i := 5) dX2_move_47 rfl ?_
      refine g_aload_n C (i := 2) dX2_move_49 rfl rfl ?_
      refine g_getR C 4 1 (RX4, TX4, 6) dX2_move_50 (hP.1 1 (by decide)) (hP.2 1 1 2 (by decide) rfl) ml_X2_88 rfl (by decide) rfl ?_
      refine g_iload C (i := 4) dX2_move_53 rfl ?_
      refine g_ia C dX2_move_55 (hP.1 2 (by decide)) (reg_at (k := 2) (by decide)) et (by omega) (by decide) ?_
      refine g_aload_n C (i := 2) dX2_move_56 rfl rfl ?_
      refine g_getR C 4 2 (RX4, TX4, 6) dX2_move_57 (hP.1 1 (by decide)) (hP.2 1 2 3 (by decide) rfl) ml_X2_77 rfl (by decide) rfl ?_
      refine g_iload C (i := 4) dX2_move_60 rfl ?_
      refine g_ia C dX2_move_62 (hP.1 3 (by decide)) (reg_at (k := 3) (by decide)) et (by omega) (by decide) ?_
      refine g_isub C dX2_move_63 ?_
      refine g_min C dX2_move_64 ml_X2_82 (by decide) (Nat.le_of_ble_eq_true rfl) (Nat.le_of_ble_eq_true rfl) (Nat.le_of_ble_eq_true rfl) ?_
      refine g_istore C (i := 5) dX2_move_67 (by decide) ?_
      exact J69
  clear J69 em2
  refine g_aload_n C (i := 0) dX2_move_0 rfl rfl ?_
  refine g_getR C 2 1 (RX2, TX2, 13) dX2_move_1 (hP.1 12 (by decide)) (hP.2 12 1 13 (by decide) rfl) ml_X2_9 rfl (by decide) rfl ?_
  refine g_iload_n C (i := 1) dX2_move_4 rfl rfl ?_
  refine g_ia C dX2_move_5 (hP.1 13 (by decide)) (reg_at (k := 13) (by decide)) rfl (by omega) (by decide) ?_
  refine g_istore_n C (i := 3) dX2_move_6 rfl (by decide) ?_
  refine g_aload_n C (i := 0) dX2_move_7 rfl rfl ?_
  refine g_getR C 2 2 (RX2, TX2, 13) dX2_move_8 (hP.1 12 (by decide)) (hP.2 12 2 14 (by decide) rfl) ml_X2_15 rfl (by decide) rfl ?_
  refine g_iload_n C (i := 1) dX2_move_11 rfl rfl ?_
  refine g_ia C dX2_move_12 (hP.1 14 (by decide)) (reg_at (k := 14) (by decide)) rfl (by omega) (by decide) ?_
  refine g_istore C (i := 4) dX2_move_13 (by decide) ?_
  refine g_aload_n C (i := 0) dX2_move_15 rfl rfl ?_
  refine g_getR C 2 3 (RX2, TX2, 13) dX2_move_16 (hP.1 12 (by decide)) (hP.2 12 3 15 (by decide) rfl) ml_X2_18 rfl (by decide) rfl ?_
  refine g_iload_n C (i := 1) dX2_move_19 rfl rfl ?_
  refine g_ia C dX2_move_20 (hP.1 15 (by decide)) (reg_at (k := 15) (by decide)) rfl (by omega) (by decide) ?_
  refine g_istore C (i := 5) dX2_move_21 (by decide) ?_
  refine g_iload_n C (i := 3) dX2_move_23 rfl rfl ?_
  refine g_iconst C (-1) dX2_move_24 rfl ?_
  refine g_icmp_eq C 41 dX2_move_25 (by decide) (fun h25 => ?_) (fun h25 => ?_)
  · rw [if_pos h25] at em1
    rw [em1] at J41
    skip
    exact J41
  · obtain ⟨s, hs, es⟩ := hf.resolve_left h25
    have esc : (I0 13 j).toNatClampNeg = s := by rw [es]; exact nI_clamp (by omega)
    rw [if_neg h25, esc] at em1
    rw [em1] at J41
    refine g_iload C (i := 5) dX2_move_28 rfl ?_
    refine g_aload_n C (i := 2) dX2_move_30 rfl rfl ?_
    refine g_getR C 4 2 (RX4, TX4, 6) dX2_move_31 (hP.1 1 (by decide)) (hP.2 1 2 3 (by decide) rfl) ml_X2_77 rfl (by decide) rfl ?_
    refine g_iload_n C (i := 3) dX2_move_34 rfl rfl ?_
    refine g_ia C dX2_move_35 (hP.1 3 (by decide)) (reg_at (k := 3) (by decide)) es (by omega) (by decide) ?_
    refine g_min C dX2_move_36 ml_X2_82 (by decide) (Nat.le_of_ble_eq_true rfl) (Nat.le_of_ble_eq_true rfl) (Nat.le_of_ble_eq_true rfl) ?_
    refine g_istore C (i := 5) dX2_move_39 (by decide) ?_
    exact J41
theorem c_X2_enter (hP : tkReg 28 pT pF σ p) {j : Nat} (hj : j < 16) (t : Int32) :
    tkCon false (.code yX2_enter cX2_enter 5 none) yX2_enter 1 [.ref (p + 12), .int (nI j), .int t] σ (reg p 28 I0 v) (reg p 28 L0 w) 0 0 (.inl none) σ (reg p 28 I0 v) (reg p 28 (sEnter t j I0 L0) w) := by
  refine tkCon.of (by decide) (Nat.le_of_ble_eq_true rfl) (fun X C => ?_)
  refine g_aload_n C (i := 0) dX2_enter_0 rfl rfl ?_
  refine g_getR C 2 10 (RX2, TX2, 13) dX2_enter_1 (hP.1 12 (by decide)) (hP.2 12 10 22 (by decide) rfl) ml_X2_41 rfl (by decide) rfl ?_
  refine g_iload_n C (i := 1) dX2_enter_4 rfl rfl ?_
  refine g_ia C dX2_enter_5 (hP.1 22 (by decide)) (reg_at (k := 22) (by decide)) rfl (by omega) (by decide) ?_
  refine g_i2l C dX2_enter_6 ?_
  refine g_iload_n C (i := 2) dX2_enter_7 rfl rfl ?_
  refine g_i2l C dX2_enter_8 ?_
  refine g_lmul C dX2_enter_9 ?_
  refine g_lstore_n C (i := 3) dX2_enter_10 rfl (by decide) ?_
  refine g_aload_n C (i := 0) dX2_enter_11 rfl rfl ?_
  refine g_getR C 2 7 (RX2, TX2, 13) dX2_enter_12 (hP.1 12 (by decide)) (hP.2 12 7 19 (by decide) rfl) ml_X2_31 rfl (by decide) rfl ?_
  refine g_iload_n C (i := 1) dX2_enter_15 rfl rfl ?_
  refine g_dup2 C dX2_enter_16 rfl rfl ?_
  refine g_la C dX2_enter_17 (hP.1 19 (by decide)) (reg_at (k := 19) (by decide)) rfl (by omega) (by decide) ?_
  refine g_lload_n C (i := 3) dX2_enter_18 rfl rfl ?_
  refine g_ladd C dX2_enter_19 ?_
  refine g_ls C dX2_enter_20 (hP.1 19 (by decide)) (tk2_reg (k := 19) (by decide)) rfl (by omega) (by decide) ?_
  refine g_aload_n C (i := 0) dX2_enter_21 rfl rfl ?_
  refine g_getR C 2 8 (RX2, TX2, 13) dX2_enter_22 (hP.1 12 (by decide)) (hP.2 12 8 20 (by decide) rfl) ml_X2_35 rfl (by decide) rfl ?_
  refine g_iload_n C (i := 1) dX2_enter_25 rfl rfl ?_
  refine g_dup2 C dX2_enter_26 rfl rfl ?_
  refine g_la C dX2_enter_27 (hP.1 20 (by decide)) (reg_at (k := 20) (by decide)) rfl (by omega) (by decide) ?_
  refine g_lload_n C (i := 3) dX2_enter_28 rfl rfl ?_
  refine g_aload_n C (i := 0) dX2_enter_29 rfl rfl ?_
  refine g_getR C 2 4 (RX2, TX2, 13) dX2_enter_30 (hP.1 12 (by decide)) (hP.2 12 4 16 (by decide) rfl) ml_X2_21 rfl (by decide) rfl ?_
  refine g_iload_n C (i := 1) dX2_enter_33 rfl rfl ?_
  refine g_ia C dX2_enter_34 (hP.1 16 (by decide)) (reg_at (k := 16) (by decide)) rfl (by omega) (by decide) ?_
  refine g_i2l C dX2_enter_35 ?_
  refine g_lmul C dX2_enter_36 ?_
  refine g_ladd C dX2_enter_37 ?_
  refine g_ls C dX2_enter_38 (hP.1 20 (by decide)) (tk2_reg (k := 20) (by decide)) rfl (by omega) (by decide) ?_
  refine g_aload_n C (i := 0) dX2_enter_39 rfl rfl ?_
  refine g_getR C 2 10 (RX2, TX2, 13) dX2_enter_40 (hP.1 12 (by decide)) (hP.2 12 10 22 (by decide) rfl) ml_X2_41 rfl (by decide) rfl ?_
  refine g_iload_n C (i := 1) dX2_enter_43 rfl rfl ?_
  refine g_ia C dX2_enter_44 (hP.1 22 (by decide)) (reg_at (k := 22) (by decide)) rfl (by omega) (by decide) ?_
  refine g_aload_n C (i := 0) dX2_enter_45 rfl rfl ?_
  refine g_getR C 2 3 (RX2, TX2, 13) dX2_enter_46 (hP.1 12 (by decide)) (hP.2 12 3 15 (by decide) rfl) ml_X2_18 rfl (by decide) rfl ?_
  refine g_iload_n C (i := 1) dX2_enter_49 rfl rfl ?_
  refine g_ia C dX2_enter_50 (hP.1 15 (by decide)) (reg_at (k := 15) (by decide)) rfl (by omega) (by decide) ?_
  refine g_icmp_ge C 65 dX2_enter_51 (by decide) (fun h51 => ?_) (fun h51 => ?_)
  · exact g_return C dX2_enter_65 ⟨Nat.le_of_ble_eq_true rfl, Nat.le_of_ble_eq_true rfl⟩ (tkEnd.rf rfl rfl (by simp only [sEnter, h51, if_true]))
  · refine g_aload_n C (i := 0) dX2_enter_54 rfl rfl ?_
    refine g_getR C 2 9 (RX2, TX2, 13) dX2_enter_55 (hP.1 12 (by decide)) (hP.2 12 9 21 (by decide) rfl) ml_X2_38 rfl (by decide) rfl ?_
    refine g_iload_n C (i := 1) dX2_enter_58 rfl rfl ?_
    refine g_dup2 C dX2_enter_59 rfl rfl ?_
    refine g_la C dX2_enter_60 (hP.1 21 (by decide)) (reg_at (k := 21) (by decide)) rfl (by omega) (by decide) ?_
    refine g_iload_n C (i := 2) dX2_enter_61 rfl rfl ?_
    refine g_i2l C dX2_enter_62 ?_
    refine g_ladd C dX2_enter_63 ?_
    refine g_ls C dX2_enter_64 (hP.1 21 (by decide)) (tk2_reg (k := 21) (by decide)) rfl (by omega) (by decide) ?_
    exact g_return C dX2_enter_65 ⟨Nat.le_of_ble_eq_true rfl, Nat.le_of_ble_eq_true rfl⟩ (tkEnd.rf rfl rfl (by simp only [sEnter, h51, if_false]))
/-- what the moves leave as it was -/
def pMv (I0 : tkI) (q : tkI × tkL) : Prop := ∀ k, k ≠ 3 → k ≠ 22 → k ≠ 23 → k ≠ 24 → q.1 k = I0 k
theorem sMove_keep (i : Nat) (I : tkI) {k : Nat} (h3 : k ≠ 3) (h22 : k ≠ 22) (h23 : k ≠ 23) (h24 : k ≠ 24) : sMove i I k = I k := by
  funext j
  unfold sMove
  split <;> split <;> simp [tk2, h3, h22, h23, h24]
theorem sMv_keep {I0 : tkI} {i : Nat} {q : tkI × tkL} (h : pMv I0 q) : pMv I0 (sMv i q) := by
  unfold sMv
  split
  · exact h
  · intro k h3 h22 h23 h24
    show sMove i q.1 k = I0 k
    rw [sMove_keep i q.1 h3 h22 h23 h24]
    exact h k h3 h22 h23 h24
theorem wPu.keep {I0 I1 : tkI} {np : Nat} (h : wPu I0 np) (h12 : I1 12 = I0 12) (h13 : I1 13 = I0 13) (h14 : I1 14 = I0 14) (h17 : I1 17 = I0 17) : wPu I1 np := by
  obtain ⟨a, b, c⟩ := h
  exact ⟨by rw [h12]; exact a, b, fun i hi => by rw [h13, h14, h17]; exact c i hi⟩
theorem c_X2_moveAll (hP : tkReg 28 pT pF σ p) {np : Nat} (hW : wPu I0 np) :
    tkCon false (.code yX2_moveAll cX2_moveAll 4 none) yX2_moveAll 3 [.ref (p + 12), .ref (p + 1), .ref (p + 7)] σ (reg p 28 I0 v) (reg p 28 L0 w) 0 0 (.inl none) σ (reg p 28 (itr sMv np (I0, L0)).1 v) (reg p 28 (itr sMv np (I0, L0)).2 w) := by
  obtain ⟨s, hs⟩ : ∃ s, s = fun i => itr sMv i (I0, L0) := ⟨_, rfl⟩
  have inv : ∀ i, pMv I0 (s i) := fun i => by rw [hs]; exact itr_inv (P := pMv I0) (n := i) (fun k a _ h => sMv_keep h) (Nat.le_refl _) (fun k _ _ _ _ => rfl)
  have hsucc : ∀ i, s (i + 1) = sMv i (s i) := fun i => by rw [hs]; rfl
  have h0 : s 0 = (I0, L0) := by rw [hs]; rfl
  rw [show itr sMv np (I0, L0) = s np by rw [hs]]
  have hWi : ∀ i, wPu (s i).1 np := fun i => hW.keep (inv i 12 (by decide) (by decide) (by decide) (by decide)) (inv i 13 (by decide) (by decide) (by decide) (by decide)) (inv i 14 (by decide) (by decide) (by decide) (by decide)) (inv i 17 (by decide) (by decide) (by decide) (by decide))
  refine tkCon.of (by decide) (Nat.le_of_ble_eq_true rfl) (fun X C => ?_)
  refine g_iconst C (0) dX2_moveAll_0 rfl ?_
  refine g_istore_n C (i := 3) dX2_moveAll_1 rfl (by decide) ?_
  have key : ∀ k i, k + i = np → tkG X (tkQ false X 0 0 (.inl none) σ (reg p 28 (s np).1 v) (reg p 28 (s np).2 w)) 0 0 2 [some (.ref (p + 12)), some (.ref (p + 1)), some (.ref (p + 7)), some (.int (nI i))] [] σ (reg p 28 (s i).1 v) (reg p 28 (s i).2 w) := by
    intro k
    induction k with
    | zero =>
      intro i hi
      have e : i = np := by omega
      subst e
      refine g_iload_n C (i := 3) dX2_moveAll_2 rfl rfl ?_
      refine g_aload_n C (i := 0) dX2_moveAll_3 rfl rfl ?_
      refine g_getI C 2 0 (RX2, TX2, 13) dX2_moveAll_4 (hP.1 12 (by decide)) (reg_at (k := 12) (by decide)) ml_X2_50 rfl (by decide) (Or.inl rfl) ?_
      rw [(hWi i).1]
      refine g_icmp_ge C 37 dX2_moveAll_7 (by decide) (fun h7 => ?_) (fun h7 => ?_)
      · exact g_return C dX2_moveAll_37 ⟨Nat.le_of_ble_eq_true rfl, Nat.le_of_ble_eq_true rfl⟩ (tkEnd.rf rfl rfl rfl)
      · exact absurd (Int32.le_refl _) h7
    | succ k ih =>
      intro i hi
      have hlt : i < np := by omega
      have ih1 := ih (i + 1) (by omega)
      rw [hsucc] at ih1
      have hWq := hWi i
      generalize s i = q at *
      obtain ⟨I1, L1⟩ := q
      dsimp only at *
      have h16 : np ≤ 16 := hWq.2.1
      refine g_iload_n C (i := 3) dX2_moveAll_2 rfl rfl ?_
      refine g_aload_n C (i := 0) dX2_moveAll_3 rfl rfl ?_
      refine g_getI C 2 0 (RX2, TX2, 13) dX2_moveAll_4 (hP.1 12 (by decide)) (reg_at (k := 12) (by decide)) ml_X2_50 rfl (by decide) (Or.inl rfl) ?_
      rw [hWq.1]
      refine g_icmp_ge C 37 dX2_moveAll_7 (by decide) (fun h7 => ?_) (fun h7 => ?_)
      · exact absurd h7 (nI_ge hlt (by omega))
      · refine g_aload_n C (i := 0) dX2_moveAll_10 rfl rfl ?_
        refine g_iload_n C (i := 3) dX2_moveAll_11 rfl rfl ?_
        refine g_aload_n C (i := 2) dX2_moveAll_12 rfl rfl ?_
        refine g_callV C (q := (RX2, TX2, 13)) (rest := _) dX2_moveAll_13 mm_X2_isActive ml_X2_65 mv_yX2_isActive ms_yX2_isActive (c_X2_isActive hP hWq hlt) rfl (hP.1 12 (by decide)) rfl rfl ⟨by decide, Nat.le_of_ble_eq_true rfl, Nat.le_of_ble_eq_true rfl, Nat.le_of_ble_eq_true rfl⟩ (tk_retv ?_) tk_nothr
        refine g_if_eq C 31 dX2_moveAll_16 (by decide) (fun h16' => ?_) (fun h16' => ?_)
        · refine g_iinc C (i := 3) (nI (i + 1)) dX2_moveAll_31 rfl (nI_1 i) (by decide) ?_
          refine g_goto C 2 dX2_moveAll_34 (by decide) ?_
          rw [sMv, if_pos h16'] at ih1
          exact ih1
        · refine g_aload_n C (i := 0) dX2_moveAll_19 rfl rfl ?_
          refine g_iload_n C (i := 3) dX2_moveAll_20 rfl rfl ?_
          refine g_aload_n C (i := 1) dX2_moveAll_21 rfl rfl ?_
          refine g_callV C (q := (RX2, TX2, 13)) (rest := _) dX2_moveAll_22 mm_X2_move ml_X2_69 mv_yX2_move ms_yX2_move (c_X2_move hP hWq hlt) rfl (hP.1 12 (by decide)) rfl rfl ⟨by decide, Nat.le_of_ble_eq_true rfl, Nat.le_of_ble_eq_true rfl, Nat.le_of_ble_eq_true rfl⟩ (tk_retn ?_) tk_nothr
          refine g_aload_n C (i := 0) dX2_moveAll_25 rfl rfl ?_
          refine g_iload_n C (i := 3) dX2_moveAll_26 rfl rfl ?_
          refine g_iconst C (1) dX2_moveAll_27 rfl ?_
          refine g_callV C (q := (RX2, TX2, 13)) (rest := _) dX2_moveAll_28 mm_X2_enter ml_X2_73 mv_yX2_enter ms_yX2_enter (c_X2_enter hP (by omega) 1) rfl (hP.1 12 (by decide)) rfl rfl ⟨by decide, Nat.le_of_ble_eq_true rfl, Nat.le_of_ble_eq_true rfl, Nat.le_of_ble_eq_true rfl⟩ (tk_retn ?_) tk_nothr
          refine g_iinc C (i := 3) (nI (i + 1)) dX2_moveAll_31 rfl (nI_1 i) (by decide) ?_
          refine g_goto C 2 dX2_moveAll_34 (by decide) ?_
          rw [sMv, if_neg h16'] at ih1
          exact ih1
  have k0 := key np 0 (by omega)
  rw [h0] at k0
  exact k0
theorem sPrep_eq (I : tkI) (t : Int32) (i : Nat) (L : tkL) : sPrep I t i L = if sAct I i = 0 then L else sEnter t i I L := rfl
theorem c_X2_repeat (hP : tkReg 28 pT pF σ p) {np : Nat} (hW : wPu I0 np) (t : Int32) :
    tkCon false (.code yX2_repeat cX2_repeat 4 none) yX2_repeat 2 [.ref (p + 12), .ref (p + 7), .int t] σ (reg p 28 I0 v) (reg p 28 L0 w) 0 0 (.inl none) σ (reg p 28 I0 v) (reg p 28 (itr (sPrep I0 t) np L0) w) := by
  have h16 : np ≤ 16 := hW.2.1
  refine tkCon.of (by decide) (Nat.le_of_ble_eq_true rfl) (fun X C => ?_)
  refine g_iconst C (0) dX2_repeat_0 rfl ?_
  refine g_istore_n C (i := 3) dX2_repeat_1 rfl (by decide) ?_
  have key : ∀ k i, k + i = np → tkG X (tkQ false X 0 0 (.inl none) σ (reg p 28 I0 v) (reg p 28 (itr (sPrep I0 t) np L0) w)) 0 0 2 [some (.ref (p + 12)), some (.ref (p + 7)), some (.int t), some (.int (nI i))] [] σ (reg p 28 I0 v) (reg p 28 (itr (sPrep I0 t) i L0) w) := by
    intro k
    induction k with
    | zero =>
      intro i hi
      have e : i = np := by omega
      subst e
      refine g_iload_n C (i := 3) dX2_repeat_2 rfl rfl ?_
      refine g_aload_n C (i := 0) dX2_repeat_3 rfl rfl ?_
      refine g_getI C 2 0 (RX2, TX2, 13) dX2_repeat_4 (hP.1 12 (by decide)) (reg_at (k := 12) (by decide)) ml_X2_50 rfl (by decide) (Or.inl rfl) ?_
      rw [hW.1]
      refine g_icmp_ge C 31 dX2_repeat_7 (by decide) (fun h7 => ?_) (fun h7 => ?_)
      · exact g_return C dX2_repeat_31 ⟨Nat.le_of_ble_eq_true rfl, Nat.le_of_ble_eq_true rfl⟩ (tkEnd.rf rfl rfl rfl)
      · exact absurd (Int32.le_refl _) h7
    | succ k ih =>
      intro i hi
      have hlt : i < np := by omega
      have ih1 := ih (i + 1) (by omega)
      rw [show itr (sPrep I0 t) (i + 1) L0 = sPrep I0 t i (itr (sPrep I0 t) i L0) from rfl, sPrep_eq] at ih1
      refine g_iload_n C (i := 3) dX2_repeat_2 rfl rfl ?_
      refine g_aload_n C (i := 0) dX2_repeat_3 rfl rfl ?_
      refine g_getI C 2 0 (RX2, TX2, 13) dX2_repeat_4 (hP.1 12 (by decide)) (reg_at (k := 12) (by decide)) ml_X2_50 rfl (by decide) (Or.inl rfl) ?_
      rw [hW.1]
      refine g_icmp_ge C 31 dX2_repeat_7 (by decide) (fun h7 => ?_) (fun h7 => ?_)
      · exact absurd h7 (nI_ge hlt (by omega))
      · refine g_aload_n C (i := 0) dX2_repeat_10 rfl rfl ?_
        refine g_iload_n C (i := 3) dX2_repeat_11 rfl rfl ?_
        refine g_aload_n C (i := 1) dX2_repeat_12 rfl rfl ?_
        refine g_callV C (q := (RX2, TX2, 13)) (rest := _) dX2_repeat_13 mm_X2_isActive ml_X2_65 mv_yX2_isActive ms_yX2_isActive (c_X2_isActive hP hW hlt) rfl (hP.1 12 (by decide)) rfl rfl ⟨by decide, Nat.le_of_ble_eq_true rfl, Nat.le_of_ble_eq_true rfl, Nat.le_of_ble_eq_true rfl⟩ (tk_retv ?_) tk_nothr
        refine g_if_eq C 25 dX2_repeat_16 (by decide) (fun h16' => ?_) (fun h16' => ?_)
        · refine g_iinc C (i := 3) (nI (i + 1)) dX2_repeat_25 rfl (nI_1 i) (by decide) ?_
          refine g_goto C 2 dX2_repeat_28 (by decide) ?_
          rw [if_pos h16'] at ih1
          exact ih1
        · refine g_aload_n C (i := 0) dX2_repeat_19 rfl rfl ?_
          refine g_iload_n C (i := 3) dX2_repeat_20 rfl rfl ?_
          refine g_iload_n C (i := 2) dX2_repeat_21 rfl rfl ?_
          refine g_callV C (q := (RX2, TX2, 13)) (rest := _) dX2_repeat_22 mm_X2_enter ml_X2_73 mv_yX2_enter ms_yX2_enter (c_X2_enter hP (by omega) t) rfl (hP.1 12 (by decide)) rfl rfl ⟨by decide, Nat.le_of_ble_eq_true rfl, Nat.le_of_ble_eq_true rfl, Nat.le_of_ble_eq_true rfl⟩ (tk_retn ?_) tk_nothr
          refine g_iinc C (i := 3) (nI (i + 1)) dX2_repeat_25 rfl (nI_1 i) (by decide) ?_
          refine g_goto C 2 dX2_repeat_28 (by decide) ?_
          rw [if_neg h16'] at ih1
          exact ih1
  exact key np 0 (by omega)
theorem c_X2_steadyTicksOf (hP : tkReg 28 pT pF σ p) {np j : Nat} (hW : wPu I0 np) (hj : j < np) (lim : Int32) :
    tkCon false (.code yX2_steadyTicksOf cX2_steadyTicksOf 7 (some .int)) yX2_steadyTicksOf 3 [.ref (p + 12), .int (nI j), .ref (p + 1), .int lim] σ (reg p 28 I0 v) (reg p 28 L0 w) 0 0 (.inl (some (.int (sOf I0 j lim)))) σ (reg p 28 I0 v) (reg p 28 L0 w) := by
  obtain ⟨hw1, hw2, hw3⟩ := hW
  obtain ⟨hf, ht, -⟩ := hw3 j hj
  refine tkCon.of (by decide) (Nat.le_of_ble_eq_true rfl) (fun X C => ?_)
  have J156 : ∀ lv6, tkG X (tkQ false X 0 0 (.inl (some (.int (sOf I0 j lim)))) σ (reg p 28 I0 v) (reg p 28 L0 w)) 0 0 156 [some (.ref (p + 12)), some (.int (nI j)), some (.ref (p + 1)), some (.int lim), some (.int (sOf2 I0 j (sOf1 I0 j lim)).1), some (.int (sOf2 I0 j (sOf1 I0 j lim)).2), lv6] [] σ (reg p 28 I0 v) (reg p 28 L0 w) := by
    intro lv6
    refine g_iload C (i := 5) dX2_steadyTicksOf_156 rfl ?_
    refine g_if_eq C 166 dX2_steadyTicksOf_158 (by decide) (fun h158 => ?_) (fun h158 => ?_)
    · refine g_iconst C (0) dX2_steadyTicksOf_166 rfl ?_
      exact g_ireturn C dX2_steadyTicksOf_167 ⟨Nat.le_of_ble_eq_true rfl, Nat.le_of_ble_eq_true rfl⟩ (tkEnd.rf (by simp only [sOf, h158, if_true]) rfl rfl)
    · refine g_iload C (i := 4) dX2_steadyTicksOf_161 rfl ?_
      refine g_goto C 167 dX2_steadyTicksOf_163 (by decide) ?_
      exact g_ireturn C dX2_steadyTicksOf_167 ⟨Nat.le_of_ble_eq_true rfl, Nat.le_of_ble_eq_true rfl⟩ (tkEnd.rf (by simp only [sOf, h158, if_false]) rfl rfl)
  have J90 : ∀ lv6, tkG X (tkQ false X 0 0 (.inl (some (.int (sOf I0 j lim)))) σ (reg p 28 I0 v) (reg p 28 L0 w)) 0 0 90 [some (.ref (p + 12)), some (.int (nI j)), some (.ref (p + 1)), some (.int lim), some (.int (sOf1 I0 j lim).1), some (.int (sOf1 I0 j lim).2), lv6] [] σ (reg p 28 I0 v) (reg p 28 L0 w) := by
    intro lv6
    generalize sOf1 I0 j lim = q at J156 ⊢
    obtain ⟨st, hd⟩ := q
    dsimp only at *
    refine g_aload_n C (i := 0) dX2_steadyTicksOf_90 rfl rfl ?_
    refine g_getR C 2 2 (RX2, TX2, 13) dX2_steadyTicksOf_91 (hP.1 12 (by decide)) (hP.2 12 2 14 (by decide) rfl) ml_X2_15 rfl (by decide) rfl ?_
    refine g_iload_n C (i := 1) dX2_steadyTicksOf_94 rfl rfl ?_
    refine g_ia C dX2_steadyTicksOf_95 (hP.1 14 (by decide)) (reg_at (k := 14) (by decide)) rfl (by omega) (by decide) ?_
    refine g_iconst C (-1) dX2_steadyTicksOf_96 rfl ?_
    refine g_icmp_eq C 156 dX2_steadyTicksOf_97 (by decide) (fun h97 => ?_) (fun h97 => ?_)
    · rw [show sOf2 I0 j (st, hd) = (st, hd) by simp only [sOf2, h97, if_true]] at J156
      skip
      exact J156 _
    · obtain ⟨t, ht, et⟩ := ht.resolve_left h97
      have etc : (I0 14 j).toNatClampNeg = t := by rw [et]; exact nI_clamp (by omega)
      have e2 : sOf2 I0 j (st, hd) = (jtw (I0 24 j).toInt64 (-(I0 3 t - I0 6 t)).toInt64 st, sHeld hd (I0 24 j) (I0 3 t - I0 6 t)) := by simp only [sOf2, h97, if_false, etc]
      rw [e2] at J156
      refine g_aload_n C (i := 2) dX2_steadyTicksOf_100 rfl rfl ?_
      refine g_aload_n C (i := 0) dX2_steadyTicksOf_101 rfl rfl ?_
      refine g_getR C 2 2 (RX2, TX2, 13) dX2_steadyTicksOf_102 (hP.1 12 (by decide)) (hP.2 12 2 14 (by decide) rfl) ml_X2_15 rfl (by decide) rfl ?_
      refine g_iload_n C (i := 1) dX2_steadyTicksOf_105 rfl rfl ?_
      refine g_ia C dX2_steadyTicksOf_106 (hP.1 14 (by decide)) (reg_at (k := 14) (by decide)) rfl (by omega) (by decide) ?_
      rw [et]
      refine g_callV C (q := (RX4, TX4, 6)) (rest := _) dX2_steadyTicksOf_107 mm_X4_drift ml_X2_95 mv_yX4_drift ms_yX4_drift (c_X4_drift (j := t) hP ht) rfl (hP.1 1 (by decide)) rfl rfl ⟨by decide, Nat.le_of_ble_eq_true rfl, Nat.le_of_ble_eq_true rfl, Nat.le_of_ble_eq_true rfl⟩ (tk_retv ?_) tk_nothr
      refine g_istore C (i := 6) dX2_steadyTicksOf_110 (by decide) ?_
      refine g_aload_n C (i := 0) dX2_steadyTicksOf_112 rfl rfl ?_
      refine g_getR C 2 12 (RX2, TX2, 13) dX2_steadyTicksOf_113 (hP.1 12 (by decide)) (hP.2 12 12 24 (by decide) rfl) ml_X2_47 rfl (by decide) rfl ?_
      refine g_iload_n C (i := 1) dX2_steadyTicksOf_116 rfl rfl ?_
      refine g_ia C dX2_steadyTicksOf_117 (hP.1 24 (by decide)) (reg_at (k := 24) (by decide)) rfl (by omega) (by decide) ?_
      refine g_i2l C dX2_steadyTicksOf_118 ?_
      refine g_iload C (i := 6) dX2_steadyTicksOf_119 rfl ?_
      refine g_ineg C dX2_steadyTicksOf_121 ?_
      refine g_i2l C dX2_steadyTicksOf_122 ?_
      refine g_iload C (i := 4) dX2_steadyTicksOf_123 rfl ?_
      refine g_callSN C dX2_steadyTicksOf_125 mm_X5_ticksWhile ml_X2_99 mt_yX5_ticksWhile (c_X5_ticksWhile _ _ _) rfl ⟨by decide, Nat.le_of_ble_eq_true rfl, Nat.le_of_ble_eq_true rfl, Nat.le_of_ble_eq_true rfl⟩ (tk_retv ?_) tk_nothr
      refine g_istore C (i := 4) dX2_steadyTicksOf_128 (by decide) ?_
      refine g_iload C (i := 5) dX2_steadyTicksOf_130 rfl ?_
      refine g_if_ne C 149 dX2_steadyTicksOf_132 (by decide) (fun h132 => ?_) (fun h132 => ?_)
      · rw [show sHeld hd (I0 24 j) (I0 3 t - I0 6 t) = 1 by simp only [sHeld, h132, if_false]] at J156
        refine g_iconst C (1) dX2_steadyTicksOf_149 rfl ?_
        refine g_goto C 154 dX2_steadyTicksOf_150 (by decide) ?_
        refine g_istore C (i := 5) dX2_steadyTicksOf_154 (by decide) ?_
        exact J156 _
      · refine g_aload_n C (i := 0) dX2_steadyTicksOf_135 rfl rfl ?_
        refine g_getR C 2 12 (RX2, TX2, 13) dX2_steadyTicksOf_136 (hP.1 12 (by decide)) (hP.2 12 12 24 (by decide) rfl) ml_X2_47 rfl (by decide) rfl ?_
        refine g_iload_n C (i := 1) dX2_steadyTicksOf_139 rfl rfl ?_
        refine g_ia C dX2_steadyTicksOf_140 (hP.1 24 (by decide)) (reg_at (k := 24) (by decide)) rfl (by omega) (by decide) ?_
        refine g_if_ne C 153 dX2_steadyTicksOf_141 (by decide) (fun h141 => ?_) (fun h141 => ?_)
        · rw [show sHeld hd (I0 24 j) (I0 3 t - I0 6 t) = 0 by simp only [sHeld, h132, h141, if_true, if_false]] at J156
          refine g_iconst C (0) dX2_steadyTicksOf_153 rfl ?_
          refine g_istore C (i := 5) dX2_steadyTicksOf_154 (by decide) ?_
          exact J156 _
        · refine g_iload C (i := 6) dX2_steadyTicksOf_144 rfl ?_
          refine g_if_ne C 153 dX2_steadyTicksOf_146 (by decide) (fun h146 => ?_) (fun h146 => ?_)
          · rw [show sHeld hd (I0 24 j) (I0 3 t - I0 6 t) = 0 by simp only [sHeld, h132, h141, h146, if_true, if_false]] at J156
            refine g_iconst C (0) dX2_steadyTicksOf_153 rfl ?_
            refine g_istore C (i := 5) dX2_steadyTicksOf_154 (by decide) ?_
            exact J156 _
          · rw [show sHeld hd (I0 24 j) (I0 3 t - I0 6 t) = 1 by simp only [sHeld, h132, h141, h146, if_true]] at J156
            refine g_iconst C (1) dX2_steadyTicksOf_149 rfl ?_
            refine g_goto C 154 dX2_steadyTicksOf_150 (by decide) ?_
            refine g_istore C (i := 5) dX2_steadyTicksOf_154 (by decide) ?_
            exact J156 _
  have J23 : ∀ lv5 lv6, tkG X (tkQ false X 0 0 (.inl (some (.int (sOf I0 j lim)))) σ (reg p 28 I0 v) (reg p 28 L0 w)) 0 0 23 [some (.ref (p + 12)), some (.int (nI j)), some (.ref (p + 1)), some (.int lim), some (.int lim), lv5, lv6] [.int (if I0 22 j = I0 15 j then 1 else 0)] σ (reg p 28 I0 v) (reg p 28 L0 w) := by
    intro lv5 lv6
    obtain ⟨hd, ehd⟩ : ∃ hd : Int32, hd = if I0 22 j = I0 15 j then 1 else 0 := ⟨_, rfl⟩
    rw [← ehd]
    refine g_istore C (i := 5) dX2_steadyTicksOf_23 (by decide) ?_
    refine g_aload_n C (i := 0) dX2_steadyTicksOf_25 rfl rfl ?_
    refine g_getR C 2 1 (RX2, TX2, 13) dX2_steadyTicksOf_26 (hP.1 12 (by decide)) (hP.2 12 1 13 (by decide) rfl) ml_X2_9 rfl (by decide) rfl ?_
    refine g_iload_n C (i := 1) dX2_steadyTicksOf_29 rfl rfl ?_
    refine g_ia C dX2_steadyTicksOf_30 (hP.1 13 (by decide)) (reg_at (k := 13) (by decide)) rfl (by omega) (by decide) ?_
    refine g_iconst C (-1) dX2_steadyTicksOf_31 rfl ?_
    refine g_icmp_eq C 90 dX2_steadyTicksOf_32 (by decide) (fun h32 => ?_) (fun h32 => ?_)
    · rw [show sOf1 I0 j lim = (lim, hd) by simp only [sOf1, h32, if_true, ← ehd]] at J90
      skip
      exact J90 _
    · obtain ⟨s, hs, es⟩ := hf.resolve_left h32
      have esc : (I0 13 j).toNatClampNeg = s := by rw [es]; exact nI_clamp (by omega)
      have e2 : sOf1 I0 j lim = (jtw (I0 23 j).toInt64 (I0 3 s - I0 6 s).toInt64 lim, sHeld hd (I0 23 j) (I0 3 s - I0 6 s)) := by simp only [sOf1, h32, if_false, esc, ← ehd]
      rw [e2] at J90
      refine g_aload_n C (i := 2) dX2_steadyTicksOf_35 rfl rfl ?_
      refine g_aload_n C (i := 0) dX2_steadyTicksOf_36 rfl rfl ?_
      refine g_getR C 2 1 (RX2, TX2, 13) dX2_steadyTicksOf_37 (hP.1 12 (by decide)) (hP.2 12 1 13 (by decide) rfl) ml_X2_9 rfl (by decide) rfl ?_
      refine g_iload_n C (i := 1) dX2_steadyTicksOf_40 rfl rfl ?_
      refine g_ia C dX2_steadyTicksOf_41 (hP.1 13 (by decide)) (reg_at (k := 13) (by decide)) rfl (by omega) (by decide) ?_
      rw [es]
      refine g_callV C (q := (RX4, TX4, 6)) (rest := _) dX2_steadyTicksOf_42 mm_X4_drift ml_X2_95 mv_yX4_drift ms_yX4_drift (c_X4_drift (j := s) hP hs) rfl (hP.1 1 (by decide)) rfl rfl ⟨by decide, Nat.le_of_ble_eq_true rfl, Nat.le_of_ble_eq_true rfl, Nat.le_of_ble_eq_true rfl⟩ (tk_retv ?_) tk_nothr
      refine g_istore C (i := 6) dX2_steadyTicksOf_45 (by decide) ?_
      refine g_aload_n C (i := 0) dX2_steadyTicksOf_47 rfl rfl ?_
      refine g_getR C 2 11 (RX2, TX2, 13) dX2_steadyTicksOf_48 (hP.1 12 (by decide)) (hP.2 12 11 23 (by decide) rfl) ml_X2_44 rfl (by decide) rfl ?_
      refine g_iload_n C (i := 1) dX2_steadyTicksOf_51 rfl rfl ?_
      refine g_ia C dX2_steadyTicksOf_52 (hP.1 23 (by decide)) (reg_at (k := 23) (by decide)) rfl (by omega) (by decide) ?_
      refine g_i2l C dX2_steadyTicksOf_53 ?_
      refine g_iload C (i := 6) dX2_steadyTicksOf_54 rfl ?_
      refine g_i2l C dX2_steadyTicksOf_56 ?_
      refine g_iload C (i := 4) dX2_steadyTicksOf_57 rfl ?_
      refine g_callSN C dX2_steadyTicksOf_59 mm_X5_ticksWhile ml_X2_99 mt_yX5_ticksWhile (c_X5_ticksWhile _ _ _) rfl ⟨by decide, Nat.le_of_ble_eq_true rfl, Nat.le_of_ble_eq_true rfl, Nat.le_of_ble_eq_true rfl⟩ (tk_retv ?_) tk_nothr
      refine g_istore C (i := 4) dX2_steadyTicksOf_62 (by decide) ?_
      refine g_iload C (i := 5) dX2_steadyTicksOf_64 rfl ?_
      refine g_if_ne C 83 dX2_steadyTicksOf_66 (by decide) (fun h66 => ?_) (fun h66 => ?_)
      · rw [show sHeld hd (I0 23 j) (I0 3 s - I0 6 s) = 1 by simp only [sHeld, h66, if_false]] at J90
        refine g_iconst C (1) dX2_steadyTicksOf_83 rfl ?_
        refine g_goto C 88 dX2_steadyTicksOf_84 (by decide) ?_
        refine g_istore C (i := 5) dX2_steadyTicksOf_88 (by decide) ?_
        exact J90 _
      · refine g_aload_n C (i := 0) dX2_steadyTicksOf_69 rfl rfl ?_
        refine g_getR C 2 11 (RX2, TX2, 13) dX2_steadyTicksOf_70 (hP.1 12 (by decide)) (hP.2 12 11 23 (by decide) rfl) ml_X2_44 rfl (by decide) rfl ?_
        refine g_iload_n C (i := 1) dX2_steadyTicksOf_73 rfl rfl ?_
        refine g_ia C dX2_steadyTicksOf_74 (hP.1 23 (by decide)) (reg_at (k := 23) (by decide)) rfl (by omega) (by decide) ?_
        refine g_if_ne C 87 dX2_steadyTicksOf_75 (by decide) (fun h75 => ?_) (fun h75 => ?_)
        · rw [show sHeld hd (I0 23 j) (I0 3 s - I0 6 s) = 0 by simp only [sHeld, h66, h75, if_true, if_false]] at J90
          refine g_iconst C (0) dX2_steadyTicksOf_87 rfl ?_
          refine g_istore C (i := 5) dX2_steadyTicksOf_88 (by decide) ?_
          exact J90 _
        · refine g_iload C (i := 6) dX2_steadyTicksOf_78 rfl ?_
          refine g_if_ne C 87 dX2_steadyTicksOf_80 (by decide) (fun h80 => ?_) (fun h80 => ?_)
          · rw [show sHeld hd (I0 23 j) (I0 3 s - I0 6 s) = 0 by simp only [sHeld, h66, h75, h80, if_true, if_false]] at J90
            refine g_iconst C (0) dX2_steadyTicksOf_87 rfl ?_
            refine g_istore C (i := 5) dX2_steadyTicksOf_88 (by decide) ?_
            exact J90 _
          · rw [show sHeld hd (I0 23 j) (I0 3 s - I0 6 s) = 1 by simp only [sHeld, h66, h75, h80, if_true]] at J90
            refine g_iconst C (1) dX2_steadyTicksOf_83 rfl ?_
            refine g_goto C 88 dX2_steadyTicksOf_84 (by decide) ?_
            refine g_istore C (i := 5) dX2_steadyTicksOf_88 (by decide) ?_
            exact J90 _
  refine g_iload_n C (i := 3) dX2_steadyTicksOf_0 rfl rfl ?_
  refine g_istore C (i := 4) dX2_steadyTicksOf_1 (by decide) ?_
  refine g_aload_n C (i := 0) dX2_steadyTicksOf_3 rfl rfl ?_
  refine g_getR C 2 10 (RX2, TX2, 13) dX2_steadyTicksOf_4 (hP.1 12 (by decide)) (hP.2 12 10 22 (by decide) rfl) ml_X2_41 rfl (by decide) rfl ?_
  refine g_iload_n C (i := 1) dX2_steadyTicksOf_7 rfl rfl ?_
  refine g_ia C dX2_steadyTicksOf_8 (hP.1 22 (by decide)) (reg_at (k := 22) (by decide)) rfl (by omega) (by decide) ?_
  refine g_aload_n C (i := 0) dX2_steadyTicksOf_9 rfl rfl ?_
  refine g_getR C 2 3 (RX2, TX2, 13) dX2_steadyTicksOf_10 (hP.1 12 (by decide)) (hP.2 12 3 15 (by decide) rfl) ml_X2_18 rfl (by decide) rfl ?_
  refine g_iload_n C (i := 1) dX2_steadyTicksOf_13 rfl rfl ?_
  refine g_ia C dX2_steadyTicksOf_14 (hP.1 15 (by decide)) (reg_at (k := 15) (by decide)) rfl (by omega) (by decide) ?_
  refine g_icmp_ne C 22 dX2_steadyTicksOf_15 (by decide) (fun h15 => ?_) (fun h15 => ?_)
  · rw [if_neg h15] at J23
    refine g_iconst C (0) dX2_steadyTicksOf_22 rfl ?_
    exact J23 _ _
  · rw [if_pos h15] at J23
    refine g_iconst C (1) dX2_steadyTicksOf_18 rfl ?_
    refine g_goto C 23 dX2_steadyTicksOf_19 (by decide) ?_
    exact J23 _ _
theorem c_X2_steadyTicks (hP : tkReg 28 pT pF σ p) {np : Nat} (hW : wPu I0 np) (lim : Int32) :
    tkCon false (.code yX2_steadyTicks cX2_steadyTicks 6 (some .int)) yX2_steadyTicks 4 [.ref (p + 12), .ref (p + 1), .ref (p + 7), .int lim] σ (reg p 28 I0 v) (reg p 28 L0 w) 0 0 (.inl (some (.int (itr (sPst I0) np lim)))) σ (reg p 28 I0 v) (reg p 28 L0 w) := by
  have h16 : np ≤ 16 := hW.2.1
  refine tkCon.of (by decide) (Nat.le_of_ble_eq_true rfl) (fun X C => ?_)
  refine g_iload_n C (i := 3) dX2_steadyTicks_0 rfl rfl ?_
  refine g_istore C (i := 4) dX2_steadyTicks_1 (by decide) ?_
  refine g_iconst C (0) dX2_steadyTicks_3 rfl ?_
  refine g_istore C (i := 5) dX2_steadyTicks_4 (by decide) ?_
  have key : ∀ k i, k + i = np → tkG X (tkQ false X 0 0 (.inl (some (.int (itr (sPst I0) np lim)))) σ (reg p 28 I0 v) (reg p 28 L0 w)) 0 0 6 [some (.ref (p + 12)), some (.ref (p + 1)), some (.ref (p + 7)), some (.int lim), some (.int (itr (sPst I0) i lim)), some (.int (nI i))] [] σ (reg p 28 I0 v) (reg p 28 L0 w) := by
    intro k
    induction k with
    | zero =>
      intro i hi
      have e : i = np := by omega
      subst e
      refine g_iload C (i := 5) dX2_steadyTicks_6 rfl ?_
      refine g_aload_n C (i := 0) dX2_steadyTicks_8 rfl rfl ?_
      refine g_getI C 2 0 (RX2, TX2, 13) dX2_steadyTicks_9 (hP.1 12 (by decide)) (reg_at (k := 12) (by decide)) ml_X2_50 rfl (by decide) (Or.inl rfl) ?_
      rw [hW.1]
      refine g_icmp_ge C 47 dX2_steadyTicks_12 (by decide) (fun h12 => ?_) (fun h12 => ?_)
      · refine g_iload C (i := 4) dX2_steadyTicks_47 rfl ?_
        exact g_ireturn C dX2_steadyTicks_49 ⟨Nat.le_of_ble_eq_true rfl, Nat.le_of_ble_eq_true rfl⟩ (tkEnd.rf rfl rfl rfl)
      · exact absurd (Int32.le_refl _) h12
    | succ k ih =>
      intro i hi
      have hlt : i < np := by omega
      have ih1 := ih (i + 1) (by omega)
      rw [show itr (sPst I0) (i + 1) lim = sPst I0 i (itr (sPst I0) i lim) from rfl] at ih1
      refine g_iload C (i := 5) dX2_steadyTicks_6 rfl ?_
      refine g_aload_n C (i := 0) dX2_steadyTicks_8 rfl rfl ?_
      refine g_getI C 2 0 (RX2, TX2, 13) dX2_steadyTicks_9 (hP.1 12 (by decide)) (reg_at (k := 12) (by decide)) ml_X2_50 rfl (by decide) (Or.inl rfl) ?_
      rw [hW.1]
      refine g_icmp_ge C 47 dX2_steadyTicks_12 (by decide) (fun h12 => ?_) (fun h12 => ?_)
      · exact absurd h12 (nI_ge hlt (by omega))
      · refine g_iload C (i := 4) dX2_steadyTicks_15 rfl ?_
        refine g_if_le C 47 dX2_steadyTicks_17 (by decide) (fun h17 => ?_) (fun h17 => ?_)
        · have e := itr_stop (f := sPst I0) (P := fun s => s ≤ 0) (fun i a h => by simp [sPst, Int32.not_lt.mpr h]) h17 (k + 1)
          rw [show i + (k + 1) = np by omega] at e
          rw [e]
          refine g_iload C (i := 4) dX2_steadyTicks_47 rfl ?_
          exact g_ireturn C dX2_steadyTicks_49 ⟨Nat.le_of_ble_eq_true rfl, Nat.le_of_ble_eq_true rfl⟩ (tkEnd.rf rfl rfl rfl)
        · have h17' := Int32.not_le.mp h17
          refine g_aload_n C (i := 0) dX2_steadyTicks_20 rfl rfl ?_
          refine g_iload C (i := 5) dX2_steadyTicks_21 rfl ?_
          refine g_aload_n C (i := 2) dX2_steadyTicks_23 rfl rfl ?_
          refine g_callV C (q := (RX2, TX2, 13)) (rest := _) dX2_steadyTicks_24 mm_X2_isActive ml_X2_65 mv_yX2_isActive ms_yX2_isActive (c_X2_isActive hP hW hlt) rfl (hP.1 12 (by decide)) rfl rfl ⟨by decide, Nat.le_of_ble_eq_true rfl, Nat.le_of_ble_eq_true rfl, Nat.le_of_ble_eq_true rfl⟩ (tk_retv ?_) tk_nothr
          refine g_if_eq C 41 dX2_steadyTicks_27 (by decide) (fun h27 => ?_) (fun h27 => ?_)
          · rw [show sPst I0 i (itr (sPst I0) i lim) = itr (sPst I0) i lim by simp only [sPst, if_pos h17', if_pos h27]] at ih1
            refine g_iinc C (i := 5) (nI (i + 1)) dX2_steadyTicks_41 rfl (nI_1 i) (by decide) ?_
            refine g_goto C 6 dX2_steadyTicks_44 (by decide) ?_
            exact ih1
          · rw [show sPst I0 i (itr (sPst I0) i lim) = sOf I0 i (itr (sPst I0) i lim) by simp only [sPst, if_pos h17', if_neg h27]] at ih1
            refine g_aload_n C (i := 0) dX2_steadyTicks_30 rfl rfl ?_
            refine g_iload C (i := 5) dX2_steadyTicks_31 rfl ?_
            refine g_aload_n C (i := 1) dX2_steadyTicks_33 rfl rfl ?_
            refine g_iload C (i := 4) dX2_steadyTicks_34 rfl ?_
            refine g_callV C (q := (RX2, TX2, 13)) (rest := _) dX2_steadyTicks_36 mm_X2_steadyTicksOf ml_X2_91 mv_yX2_steadyTicksOf ms_yX2_steadyTicksOf (c_X2_steadyTicksOf hP hW hlt _) rfl (hP.1 12 (by decide)) rfl rfl ⟨by decide, Nat.le_of_ble_eq_true rfl, Nat.le_of_ble_eq_true rfl, Nat.le_of_ble_eq_true rfl⟩ (tk_retv ?_) tk_nothr
            refine g_istore C (i := 4) dX2_steadyTicks_39 (by decide) ?_
            refine g_iinc C (i := 5) (nI (i + 1)) dX2_steadyTicks_41 rfl (nI_1 i) (by decide) ?_
            refine g_goto C 6 dX2_steadyTicks_44 (by decide) ?_
            exact ih1
  exact key np 0 (by omega)
end TKPUMPS

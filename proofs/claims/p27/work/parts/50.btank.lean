section TKBTANK
variable {X : tkX} {Q : State → Prop} {nm : String} {hh : List (Nat × Nat × Nat × Nat)} {cs ss : Nat} {σ : tkM} {sb B q n : Nat} {xs : Nat → Int32} {J P : tkI} {K L : tkL}
/-- the law's locals while tanks, switches, pumps are made -/
def lvA (sb B q : Nat) (l6 l7 : Option Value) : List (Option Value) :=
  [some (.ref sb), some (.ref B), some (.ref (q + 0)), some (.ref (q + 1)), some (.ref (q + 2)), some (.ref (q + 3)), l6, l7, none, none, none, none, none, none, none, none, none, none, none, none, none, none, none, none]
def lvSw (sb B q : Nat) (l10 l11 : Option Value) : List (Option Value) :=
  [some (.ref sb), some (.ref B), some (.ref (q + 0)), some (.ref (q + 1)), some (.ref (q + 2)), some (.ref (q + 3)), some (.ref (q + 4)), some (.ref (q + 5)), some (.ref (q + 6)), some (.ref (q + 7)), l10, l11, none, none, none, none, none, none, none, none, none, none, none, none]
def lvC (sb B q : Nat) (l17 l18 : Option Value) : List (Option Value) :=
  [some (.ref sb), some (.ref B), some (.ref (q + 0)), some (.ref (q + 1)), some (.ref (q + 2)), some (.ref (q + 3)), some (.ref (q + 4)), some (.ref (q + 5)), some (.ref (q + 6)), some (.ref (q + 7)), some (.ref (q + 8)), some (.ref (q + 9)), some (.ref (q + 10)), some (.ref (q + 11)), some (.ref (q + 12)), some (.ref (q + 13)), some (.ref (q + 14)),
   l17, l18, none, none, none, none, none]
theorem k_addTank (hP : lwP B q n σ) {nt : Nat} (hW : wTk P nt) (c l k : Int32) (h0 : ¬ bad c 1 1000000000) (h1 : ¬ bad l 0 c) (h2 : ¬ bad k 0 1000000) (h3 : nt < 8) :
    tkCon false (.code yX5_addTank cX5_addTank 4 (some .int)) yX5_addTank 8 [.ref B, .int c, .int l, .int k] σ (mI B q J P) (mL B q K L) 0 0 (.inl (some (.int (nI nt)))) σ (mI B q J (aTank nt c l k (P, L)).1) (mL B q K (aTank nt c l k (P, L)).2) := by
  simp only [mI_swap hP.2.2.2, mL_swap hP.2.2.2]
  exact o_addTank hP.1.1 hP.1.2 hW c l k h0 h1 h2 h3
theorem k_addSwitch (hP : lwP B q n σ) {nt ns j : Nat} (hT : wTk P nt) (hW : wSw P ns) (lo hi : Int32) (hj : j < nt) (h1 : ¬ lo < 0) (h2 : ¬ hi ≤ lo) (h4 : hi ≤ P 2 j) (h3 : ns < 10) :
    tkCon false (.code yX5_addSwitch cX5_addSwitch 4 (some .int)) yX5_addSwitch 8 [.ref B, .int (nI j), .int lo, .int hi] σ (mI B q J P) (mL B q K L) 0 0 (.inl (some (.int (nI ns)))) σ (mI B q J (aSwitch ns (nI j) lo hi (P, L)).1) (mL B q K (aSwitch ns (nI j) lo hi (P, L)).2) := by
  simp only [mI_swap hP.2.2.2, mL_swap hP.2.2.2]
  exact o_addSwitch hP.1.1 hP.1.2 hT hW lo hi hj h1 h2 h4 h3
theorem k_addPump (hP : lwP B q n σ) {np : Nat} (hW : wPu P np) (i j r l c b : Int32) (hb : b = 0 ∨ b = 1) (g1 : ¬ badE i P) (g2 : ¬ badE j P) (g3 : ¬ (¬ c = -1 ∧ bad c 0 (P 7 0 - 1))) (g4 : ¬ i = j) (g5 : ¬ bad r 1 1000000) (g6 : ¬ bad l 0 100) (h3 : np < 16) :
    tkCon false (.code yX5_addPump cX5_addPump 7 (some .int)) yX5_addPump 9 [.ref B, .int i, .int j, .int r, .int l, .int c, .int b] σ (mI B q J P) (mL B q K L) 0 0 (.inl (some (.int (nI np)))) σ (mI B q J (aPump np i j r l c b (P, L)).1) (mL B q K (aPump np i j r l c b (P, L)).2) := by
  simp only [mI_swap hP.2.2.2, mL_swap hP.2.2.2]
  exact o_addPump hP.1.1 hP.1.2 hW i j r l c b hb g1 g2 g3 g4 g5 g6 h3
theorem nI_bad {a lo hi : Nat} (h1 : lo ≤ a) (h2 : a ≤ hi) (hh : hi < 2 ^ 31) : ¬ bad (nI a) (nI lo) (nI hi) := by
  rintro (z | z)
  · exact nI_nlt h1 (by omega) z
  · exact nI_nlt h2 (by omega) z
/-- one tank is made -/
theorem law_bt1 (C : tkC X cL_law RL nm 24 (some .boolean) hh 10 161 1460) (S : lwX X sb n xs) (hn : n ≤ 260) (hcs : cs ≤ 161 ∧ ss ≤ 1460) (hP : lwP B q 4 σ) {t : Nat} (ht : t < 3) {l7 : Option Value} (hb : bR t 0 0 J P)
    (kk : ∀ J1 P1 l, bR (t + 1) 0 0 J1 P1 → tkG X Q cs ss 29 (lvA sb B q (some (.int (nI (t + 1)))) l) [] σ (mI B q J1 P1) (mL B q zL zL)) :
    tkG X Q cs ss 29 (lvA sb B q (some (.int (nI t))) l7) [] σ (mI B q J P) (mL B q zL zL) := by
  have hL := hP.2.1
  have hB : σ.2.1 B = (5, 0) := hP.1.1.1
  have hW : wTk P t := ⟨hb.1.1, by omega⟩
  refine g_iload C (i := 6) dL_law_29 rfl ?_
  refine g_iconst C (3) dL_law_31 rfl ?_
  refine g_icmp_ge C 120 dL_law_32 (by decide) (fun h32 => ?_) (fun h32 => ?_)
  · exact absurd h32 (nI_ge (a := t) (b := 3) ht (by omega))
  · refine g_aload_n C (i := 0) dL_law_35 rfl rfl ?_
    refine g_iload C (i := 6) dL_law_36 rfl ?_
    refine g_cell C S dL_law_38 ml_L_12 rfl hn (by omega) (by decide) hcs.1 hcs.2 (Nat.le_of_ble_eq_true rfl) ?_
    generalize jcell xs n t = c
    obtain ⟨r, hr, er⟩ := jbel_in c (n := 500) (by omega) (by omega)
    have er' : (10 : Int32) + jbel c 500 = nI (10 + r) := (congrArg (fun z => nI 10 + z) er).trans (nI_add 10 r)
    obtain ⟨s, hs, es⟩ := jbel_in (c >>> (9 &&& 31)) (n := 10 + r + 1) (by omega) (by omega)
    obtain ⟨u, hu, eu⟩ := jbel_in (c >>> (18 &&& 31)) (n := 4) (by omega) (by omega)
    have eu' : jbel (c >>> (18 &&& 31)) 4 = nI u := eu
    refine g_istore C (i := 7) dL_law_41 (by decide) ?_
    refine g_aload_n C (i := 2) dL_law_43 rfl rfl ?_
    refine g_iload C (i := 6) dL_law_44 rfl ?_
    refine g_bipush C (10) dL_law_46 rfl ?_
    refine g_iload C (i := 7) dL_law_48 rfl ?_
    refine g_sipush C (500) dL_law_50 rfl ?_
    refine g_callS C dL_law_53 mm_L_below ml_L_18 mt_yL_below (c_L_below _ _ (by decide)) rfl ⟨by decide, by omega, by omega, Nat.le_of_ble_eq_true rfl⟩ (tk_retv ?_) tk_nothr
    refine g_iadd C dL_law_56 ?_
    rw [er']
    refine g_is C dL_law_57 (hL.1 0 (by decide)) (tk2_reg (k := 0) (by decide)) rfl (by omega) (by decide) ?_
    refine g_aload_n C (i := 3) dL_law_58 rfl rfl ?_
    refine g_iload C (i := 6) dL_law_59 rfl ?_
    refine g_iload C (i := 7) dL_law_61 rfl ?_
    refine g_bipush C (9) dL_law_63 rfl ?_
    refine g_ishr C dL_law_65 ?_
    refine g_aload_n C (i := 2) dL_law_66 rfl rfl ?_
    refine g_iload C (i := 6) dL_law_67 rfl ?_
    refine g_ia C dL_law_69 (hL.1 0 (by decide)) (reg_at (k := 0) (by decide)) rfl (by omega) (by decide) ?_
    rw [tk2_at]
    refine g_iconst C (1) dL_law_70 rfl ?_
    refine g_iadd C dL_law_71 ?_
    rw [nI_1 (10 + r)]
    refine g_callS C dL_law_72 mm_L_below ml_L_18 mt_yL_below (c_L_below _ _ (nI_ne0 (by omega) (by omega))) rfl ⟨by decide, by omega, by omega, Nat.le_of_ble_eq_true rfl⟩ (tk_retv ?_) tk_nothr
    rw [es]
    refine g_is C dL_law_75 (hL.1 1 (by decide)) (tk2_reg (k := 1) (by decide)) rfl (by omega) (by decide) ?_
    refine g_aload C (i := 4) dL_law_76 rfl ?_
    refine g_iload C (i := 6) dL_law_78 rfl ?_
    refine g_iload C (i := 7) dL_law_80 rfl ?_
    refine g_bipush C (18) dL_law_82 rfl ?_
    refine g_ishr C dL_law_84 ?_
    refine g_iconst C (4) dL_law_85 rfl ?_
    refine g_callS C dL_law_86 mm_L_below ml_L_18 mt_yL_below (c_L_below _ _ (by decide)) rfl ⟨by decide, by omega, by omega, Nat.le_of_ble_eq_true rfl⟩ (tk_retv ?_) tk_nothr
    rw [eu']
    refine g_is C dL_law_89 (hL.1 2 (by decide)) (tk2_reg (k := 2) (by decide)) rfl (by omega) (by decide) ?_
    show tkG X Q cs ss 90 _ _ _ (mI B q (tk2 (tk2 (tk2 J 0 t (nI (10 + r))) 1 t (nI s)) 2 t (nI u)) P) (mL B q zL zL)
    have j0 : tk2 (tk2 (tk2 J 0 t (nI (10 + r))) 1 t (nI s)) 2 t (nI u) 0 t = nI (10 + r) := by simp [tk2]
    have j1 : tk2 (tk2 (tk2 J 0 t (nI (10 + r))) 1 t (nI s)) 2 t (nI u) 1 t = nI s := by simp [tk2]
    have j2 : tk2 (tk2 (tk2 J 0 t (nI (10 + r))) 1 t (nI s)) 2 t (nI u) 2 t = nI u := by simp [tk2]
    have jo : ∀ j, j ≠ t → tk2 (tk2 (tk2 J 0 t (nI (10 + r))) 1 t (nI s)) 2 t (nI u) 0 j = J 0 j ∧ tk2 (tk2 (tk2 J 0 t (nI (10 + r))) 1 t (nI s)) 2 t (nI u) 1 j = J 1 j ∧ tk2 (tk2 (tk2 J 0 t (nI (10 + r))) 1 t (nI s)) 2 t (nI u) 2 j = J 2 j := fun j hj => by simp [tk2, hj]
    have jr : ∀ k, k ≠ 0 → k ≠ 1 → k ≠ 2 → tk2 (tk2 (tk2 J 0 t (nI (10 + r))) 1 t (nI s)) 2 t (nI u) k = J k := fun k a b d => by
      funext j
      simp [tk2, a, b, d]
    generalize tk2 (tk2 (tk2 J 0 t (nI (10 + r))) 1 t (nI s)) 2 t (nI u) = J1 at *
    have hbt := hb.tank (J1 := J1) j0 j1 j2 (by omega) (by omega) (by omega) (by omega) jo jr
    have hcon := k_addTank (J := J1) (K := zL) (L := zL) hP hW (nI (10 + r)) (nI s) (nI u) (nI_bad (lo := 1) (hi := 1000000000) (by omega) (by omega) (by omega)) (nI_bad (lo := 0) (by omega) (by omega) (by omega)) (nI_bad (lo := 0) (hi := 1000000) (by omega) (by omega) (by omega)) (by omega)
    rw [aTank_L] at hcon
    refine g_aload_n C (i := 1) dL_law_90 rfl rfl ?_
    refine g_aload_n C (i := 2) dL_law_91 rfl rfl ?_
    refine g_iload C (i := 6) dL_law_92 rfl ?_
    refine g_ia C dL_law_94 (hL.1 0 (by decide)) (reg_at (k := 0) (by decide)) rfl (by omega) (by decide) ?_
    refine g_aload_n C (i := 3) dL_law_95 rfl rfl ?_
    refine g_iload C (i := 6) dL_law_96 rfl ?_
    refine g_ia C dL_law_98 (hL.1 1 (by decide)) (reg_at (k := 1) (by decide)) rfl (by omega) (by decide) ?_
    refine g_aload C (i := 4) dL_law_99 rfl ?_
    refine g_iload C (i := 6) dL_law_101 rfl ?_
    refine g_ia C dL_law_103 (hL.1 2 (by decide)) (reg_at (k := 2) (by decide)) rfl (by omega) (by decide) ?_
    rw [j0, j1, j2]
    refine g_callV C (q := (RX5, TX5, 4)) (rest := _) dL_law_104 mm_X5_addTank ml_L_22 mv_yX5_addTank ms_yX5_addTank (hcon) rfl hB rfl rfl ⟨by decide, by omega, by omega, Nat.le_of_ble_eq_true rfl⟩ (tk_retv ?_) tk_nothr
    refine g_iload C (i := 6) dL_law_107 rfl ?_
    refine g_icmp_eq C 114 dL_law_109 (by decide) (fun h109 => ?_) (fun h109 => ?_)
    · refine g_iinc C (i := 6) (nI (t + 1)) dL_law_114 rfl (nI_1 t) (by decide) ?_
      refine g_goto C 29 dL_law_117 (by decide) ?_
      exact kk _ _ _ hbt
    · exact absurd rfl h109
end TKBTANK

section TKLMAIN
variable {X : tkX} {Q : State → Prop} {nm : String} {hh : List (Nat × Nat × Nat × Nat)} {cs ss : Nat} {σ : tkM} {sb B q n : Nat} {xs : Nat → Int32}
/-- between two runs: the class's rows, the law's, and the plain plant's that both follow -/
def lInv (tm : Nat) (J P : tkI) (K L : tkL) (chg : Int32) : Prop := ∃ (m : tkI × tkL) (c T : Nat), wRel 3 2 4 c (P, L) m ∧ lR (J, K) m ∧ wl J ∧ chg = nI c ∧ m.2 0 21 = lN T ∧ T ≤ 250 * tm ∧ c ≤ 500 * tm
theorem lInv.run {tm k : Nat} {J P : tkI} {K L : tkL} {chg : Int32} (h : lInv tm J P K L chg) (htm : tm < 5) (hk : k < 250) {a : (tkI × tkL) × Int32} (ha : a = lTks k ((J, K), 0)) :
    (sAdv 3 2 4 (nI k) k 0 ((P, L), 0)).2 = a.2 ∧ (sAdv 3 2 4 (nI k) k 0 ((P, L), 0)).1.2 25 0 = (chg + a.2).toInt64 ∧ (∃ b, b ≤ 2500 ∧ wAll 3 2 4 b (P, L)) ∧
    (∃ c m, wRel 3 2 4 c (sAdv 3 2 4 (nI k) k 0 ((P, L), 0)).1 m ∧ lR a.1 m) ∧ lInv (tm + 1) a.1.1 (sAdv 3 2 4 (nI k) k 0 ((P, L), 0)).1.1 a.1.2 (sAdv 3 2 4 (nI k) k 0 ((P, L), 0)).1.2 (chg + a.2) := by
  obtain ⟨m, c, T, hR, hl, hw, hc, hT, hT2, hc2⟩ := h
  obtain ⟨g1, D, hD, d1, d2, d3, d4⟩ := hl.ticks k
  rw [← ha] at g1 d2
  have hA := adv_rel (nt := 3) (ns := 2) (np := 4) (n := k) (m0 := m) (by omega) k 0 c (P, L) 0 (by omega) (by omega) (by omega) hR rfl
  rw [nI_0] at hA
  obtain ⟨f1, c', f2, f3, f4⟩ := hA
  have h25 : (sAdv 3 2 4 (nI k) k 0 ((P, L), 0)).1.2 25 0 = lN c' := f4.2.2.2.2.2.2.1
  have h22 : (mTk 3 2 4 k m).2 0 22 = lN c' := f4.2.2.2.2.2.2.2.1
  have m22 : m.2 0 22 = lN c := hR.2.2.2.2.2.2.2.1
  have ec : c' = c + D := by
    rw [d3, m22, lN_add] at h22
    exact ((pk_lEQ (by omega) (by omega)).mp h22).symm
  have hww : wl a.1.1 := by
    rw [ha]
    exact hw.keep (lTks_keep _ _ (by decide) (by decide)) (lTks_keep _ _ (by decide) (by decide)) (lTks_keep _ _ (by decide) (by decide)) (lTks_keep _ _ (by decide) (by decide))
  have es : chg + a.2 = nI c' := by rw [hc, d2, nI_add, ec]
  refine ⟨by rw [f1, d1, d2], by rw [h25, es, nI_l (by omega)], ⟨c, by omega, hR.all⟩, ⟨c', _, f4, g1⟩, mTk 3 2 4 k m, c', T + k, f4, g1, hww, es, by rw [d4, hT, lN_add], by omega, by omega⟩
/-- the runs from the tm-th on -/
theorem law_main (C : tkC X cL_law RL nm 24 (some .boolean) hh 10 161 1460) (S : lwX X sb n xs) (hn : n ≤ 260) (hcs : cs ≤ 161 ∧ ss ≤ 1460) (hP : lwP B q 15 σ) (hend : ∀ cs ss lv σ I L, cs ≤ 161 → ss ≤ 1460 → tkG X Q cs ss 986 lv [.int 1] σ I L) :
    ∀ (f tm : Nat) (J P : tkI) (K L : tkL) (chg : Int32) (l19 l20 l21 l22 l23 : Option Value), tm + f = 5 → lInv tm J P K L chg → tkG X Q cs ss 443 (lvM sb B q chg (nI tm) l19 l20 l21 l22 l23) [] σ (mI B q J P) (mL B q K L)
  | 0, tm, J, P, K, L, chg, l19, l20, l21, l22, l23, hf, hI => by
    obtain rfl : tm = 5 := hf
    obtain ⟨m, c, T, hR, hl, hw, hc, hT, hT2, hc2⟩ := hI
    have hTm : L 0 4 = lN T := (show L 0 4 = m.2 0 21 from hR.2.2.2.2.2.1).trans hT
    have hB : σ.2.1 B = (5, 0) := hP.1.1.1
    refine g_iload C (i := 18) dL_law_443 rfl ?_
    refine g_iconst C (5) dL_law_445 rfl ?_
    refine g_icmp_ge C 972 dL_law_446 (by decide) (fun h446 => ?_) (fun h446 => ?_)
    · refine g_aload_n C (i := 1) dL_law_972 rfl rfl ?_
      refine g_callV C (q := (RX5, TX5, 4)) (rest := _) dL_law_973 mm_X5_time ml_L_71 mv_yX5_time ms_yX5_time (k_time hP) rfl hB rfl rfl ⟨by decide, by omega, by omega, Nat.le_of_ble_eq_true rfl⟩ (tk_retv ?_) tk_nothr
      refine g_lconst C 0 dL_law_976 rfl ?_
      refine g_lcmp C dL_law_977 ?_
      refine g_if_lt C 985 dL_law_978 (by decide) (fun h978 => ?_) (fun h978 => ?_)
      · refine absurd ((lg_cmp_lt _ _).mp h978) ?_
        rw [hTm]
        exact fun z => absurd ((pk_lLT (a := T) (b := 0) (by omega) (by omega)).mp z) (Nat.not_lt_zero _)
      · refine g_iconst C (1) dL_law_981 rfl ?_
        refine g_goto C 986 dL_law_982 (by decide) ?_
        exact hend _ _ _ _ _ _ hcs.1 hcs.2
    · exact absurd (Int32.le_refl _) h446
  | f + 1, tm, J, P, K, L, chg, l19, l20, l21, l22, l23, hf, hI => by
    have hB : σ.2.1 B = (5, 0) := hP.1.1.1
    have ih := law_main C S hn hcs hP hend f (tm + 1)
    refine g_iload C (i := 18) dL_law_443 rfl ?_
    refine g_iconst C (5) dL_law_445 rfl ?_
    refine g_icmp_ge C 972 dL_law_446 (by decide) (fun h446 => ?_) (fun h446 => ?_)
    · exact absurd h446 (nI_ge (a := tm) (b := 5) (by omega) (by omega))
    · refine g_aload_n C (i := 0) dL_law_449 rfl rfl ?_
      refine g_bipush C (9) dL_law_450 rfl ?_
      refine g_iload C (i := 18) dL_law_452 rfl ?_
      refine g_iadd C dL_law_454 ?_
      refine g_cell C S dL_law_455 ml_L_12 (nI_add 9 tm) hn (by omega) (by decide) hcs.1 hcs.2 (Nat.le_of_ble_eq_true rfl) ?_
      refine g_sipush C (250) dL_law_458 rfl ?_
      refine g_callS C dL_law_461 mm_L_below ml_L_18 mt_yL_below (c_L_below _ _ (by decide)) rfl ⟨by decide, by omega, by omega, Nat.le_of_ble_eq_true rfl⟩ (tk_retv ?_) tk_nothr
      obtain ⟨k, hk, ek⟩ := jbel_in (jcell xs n (9 + tm)) (n := 250) (by omega) (by omega)
      have ek' : jbel (jcell xs n (9 + tm)) 250 = nI k := ek
      rw [ek']
      refine g_istore C (i := 19) dL_law_464 (by decide) ?_
      refine g_iconst C (0) dL_law_466 rfl ?_
      refine g_istore C (i := 20) dL_law_467 (by decide) ?_
      refine g_iconst C (0) dL_law_469 rfl ?_
      refine g_istore C (i := 21) dL_law_470 (by decide) ?_
      have hw : wl J := by
        obtain ⟨m, c, T, hR, hl, hw, -⟩ := hI
        exact hw
      refine law_ticks C hcs hP (n := k) (by omega) (fun a t21 l22 l23 ha => ?_) k 0 ((J, K), 0) _ _ (by omega) hw rfl
      obtain ⟨e1, e2, ⟨b, hb, hW⟩, ⟨c', m', hR', hl'⟩, hI'⟩ := hI.run (by omega) hk ha
      have hrun := k_run (J := a.1.1) (K := a.1.2) hP hW (by omega) (k := k) (by omega)
      generalize sAdv 3 2 4 (nI k) k 0 ((P, L), 0) = y at *
      obtain ⟨⟨P', L'⟩, rv⟩ := y
      obtain ⟨⟨J', K'⟩, ch⟩ := a
      dsimp only at *
      refine g_iload C (i := 17) dL_law_793 rfl ?_
      refine g_iload C (i := 20) dL_law_795 rfl ?_
      refine g_iadd C dL_law_797 ?_
      refine g_istore C (i := 17) dL_law_798 (by decide) ?_
      refine g_aload_n C (i := 1) dL_law_800 rfl rfl ?_
      refine g_iload C (i := 19) dL_law_801 rfl ?_
      refine g_callV C (q := (RX5, TX5, 4)) (rest := _) dL_law_803 mm_X5_run ml_L_41 mv_yX5_run ms_yX5_run (hrun) rfl hB rfl rfl ⟨by decide, by omega, by omega, Nat.le_of_ble_eq_true rfl⟩ (tk_retv ?_) tk_nothr
      refine g_iload C (i := 20) dL_law_806 rfl ?_
      refine g_icmp_ne C 822 dL_law_808 (by decide) (fun h808 => ?_) (fun h808 => ?_)
      · exact absurd e1 h808
      · refine g_aload_n C (i := 1) dL_law_811 rfl rfl ?_
        refine g_callV C (q := (RX5, TX5, 4)) (rest := _) dL_law_812 mm_X5_changeCount ml_L_45 mv_yX5_changeCount ms_yX5_changeCount (k_changeCount hP) rfl hB rfl rfl ⟨by decide, by omega, by omega, Nat.le_of_ble_eq_true rfl⟩ (tk_retv ?_) tk_nothr
        refine g_iload C (i := 17) dL_law_815 rfl ?_
        refine g_i2l C dL_law_817 ?_
        refine g_lcmp C dL_law_818 ?_
        refine g_if_eq C 824 dL_law_819 (by decide) (fun h819 => ?_) (fun h819 => ?_)
        · skip
          refine law_cmp C hcs hP hR' hl' fun t21 => ?_
          refine g_iinc C (i := 18) (nI (tm + 1)) dL_law_966 rfl (nI_1 tm) (by decide) ?_
          refine g_goto C 443 dL_law_969 (by decide) ?_
          exact ih J' P' K' L' _ _ _ _ _ _ (by omega) hI'
        · exact absurd ((lg_cmp_eq _ _).mpr e2) h819
end TKLMAIN

section TKLOOP
theorem lwInv.mono {B i : Nat} {σ : tkM} {I : tkI} {L : tkL} (h : lwInv B i σ I L) : lwInv B (i + 1) σ I L := by
  obtain ⟨A, dN, nt, ns, np, c, tm, dc, NT, NS, NP, hL, hd, h1, ⟨h2, h3, h4⟩, h5, h6, h7, h8⟩ := h
  refine ⟨A, dN, nt, ns, np, c, tm, dc, NT, NS, NP, hL, hd, h1, ⟨by omega, h3, by omega⟩, h5, h6, h7, fun j hj => ?_⟩
  obtain ⟨c', tm', w1, w2, w3⟩ := h8 j hj
  exact ⟨c', tm', by omega, by omega, w3⟩
variable {X : tkX} {Q : State → Prop} {nm : String} {sb n B : Nat} {xs : Nat → Int32} {hh : List (Nat × Nat × Nat × Nat)}
/-- one call of the script -/
theorem law_call (C : tkC X cL_law RL nm 9 (some .boolean) hh 12 601024 7293034) (S : lwX X sb n xs) (hn : n ≤ 3584) {i cs ss : Nat} {σ : tkM} {I : tkI} {L : tkL} {l6 l7 l8 : Option Value} (hi : 7 * i + 7 ≤ n) (hcs : cs + 28 ≤ 601024) (hss : ss + 364 ≤ 7293034) (h : lwInv B i σ I L)
    (kk : ∀ σ2 I2 L2 l6 l7 l8, lwInv B (i + 1) σ2 I2 L2 → tkG X Q (cs + 28) (ss + 364) 1545 [some (.ref sb), some (.ref B), some (.ref (B + 58)), some (.ref (B + 79)), some (.ref (B + 80)), some (.int (nI (7 * i))), l6, l7, l8] [] σ2 I2 L2) (x : Int32) : tkG X Q cs ss 45 [some (.ref sb), some (.ref B), some (.ref (B + 58)), some (.ref (B + 79)), some (.ref (B + 80)), some (.int (nI (7 * i))), l6, l7, l8] [.int (x &&& 31)] σ I L := by
  obtain ⟨j, hj, ej⟩ := pk_andE x (m := 31) 5 rfl
  rw [ej]
  by_cases h24 : 24 ≤ j
  · refine g_tOut C 1545 dL_law_45 (Or.inr (by rw [nI_toInt (by omega)]; omega)) (by decide) ?_
    exact g_wid (by omega) (by omega) (kk _ _ _ _ _ _ h.mono)
  · have hc : j = 0 ∨ j = 1 ∨ j = 2 ∨ j = 3 ∨ j = 4 ∨ j = 5 ∨ j = 6 ∨ j = 7 ∨ j = 8 ∨ j = 9 ∨ j = 10 ∨ j = 11 ∨ j = 12 ∨ j = 13 ∨ j = 14 ∨ j = 15 ∨ j = 16 ∨ j = 17 ∨ j = 18 ∨ j = 19 ∨ j = 20 ∨ j = 21 ∨ j = 22 ∨ j = 23 := by omega
    rcases hc with rfl | rfl | rfl | rfl | rfl | rfl | rfl | rfl | rfl | rfl | rfl | rfl | rfl | rfl | rfl | rfl | rfl | rfl | rfl | rfl | rfl | rfl | rfl | rfl
    · refine g_tIn C (off := 111) 156 dL_law_45 (by decide) (by decide) (by decide) (by decide) ?_
      exact lc_addTank C S (by omega) (by omega) hcs hss (l_addTank h (by omega) (xs (7 * i + 1)) (xs (7 * i + 2)) (xs (7 * i + 3))) kk
    · refine g_tIn C (off := 191) 236 dL_law_45 (by decide) (by decide) (by decide) (by decide) ?_
      exact lc_addSwitch C S (by omega) (by omega) hcs hss (l_addSwitch h (by omega) (xs (7 * i + 1)) (xs (7 * i + 2)) (xs (7 * i + 3))) kk
    · refine g_tIn C (off := 271) 316 dL_law_45 (by decide) (by decide) (by decide) (by decide) ?_
      exact lc_addPump C S (by omega) (by omega) _ rfl hcs hss (l_addPump h (by omega) (xs (7 * i + 1)) (xs (7 * i + 2)) (xs (7 * i + 3)) (xs (7 * i + 4)) (xs (7 * i + 5)) (if xs (7 * i + 6) = 0 then 0 else 1) (by split <;> simp)) kk
    · refine g_tIn C (off := 405) 450 dL_law_45 (by decide) (by decide) (by decide) (by decide) ?_
      exact lc_setLevel C S (by omega) (by omega) hcs hss (l_setLevel h (by omega) (xs (7 * i + 1)) (xs (7 * i + 2))) kk
    · refine g_tIn C (off := 473) 518 dL_law_45 (by decide) (by decide) (by decide) (by decide) ?_
      exact lc_setLeak C S (by omega) (by omega) hcs hss (l_setLeak h (by omega) (xs (7 * i + 1)) (xs (7 * i + 2))) kk
    · refine g_tIn C (off := 541) 586 dL_law_45 (by decide) (by decide) (by decide) (by decide) ?_
      exact lc_setRate C S (by omega) (by omega) hcs hss (l_setRate h (by omega) (xs (7 * i + 1)) (xs (7 * i + 2))) kk
    · refine g_tIn C (off := 609) 654 dL_law_45 (by decide) (by decide) (by decide) (by decide) ?_
      exact lc_run C S (by omega) (by omega) hcs hss (l_run h (by omega) (xs (7 * i + 1))) kk
    · refine g_tIn C (off := 665) 710 dL_law_45 (by decide) (by decide) (by decide) (by decide) ?_
      exact lc_runUntil C S (by omega) (by omega) _ rfl hcs hss (l_runUntil h (by omega) (xs (7 * i + 1)) (xs (7 * i + 2)) (if xs (7 * i + 3) = 0 then 0 else 1) (xs (7 * i + 4))) kk
    · refine g_tIn C (off := 773) 818 dL_law_45 (by decide) (by decide) (by decide) (by decide) ?_
      exact lc_nextChange C S (by omega) (by omega) hcs hss (l_nextChange h (by omega) (xs (7 * i + 1))) kk
    · refine g_tIn C (off := 829) 874 dL_law_45 (by decide) (by decide) (by decide) (by decide) ?_
      exact lc_time C hcs hss (l_time h (by omega)) kk
    · refine g_tIn C (off := 843) 888 dL_law_45 (by decide) (by decide) (by decide) (by decide) ?_
      exact lc_level C S (by omega) (by omega) hcs hss (l_level h (by omega) (xs (7 * i + 1))) kk
    · refine g_tIn C (off := 899) 944 dL_law_45 (by decide) (by decide) (by decide) (by decide) ?_
      exact lc_levelSum C S (by omega) (by omega) hcs hss (l_levelSum h (by omega) (xs (7 * i + 1))) kk
    · refine g_tIn C (off := 954) 999 dL_law_45 (by decide) (by decide) (by decide) (by decide) ?_
      exact lc_meanLevel C S (by omega) (by omega) hcs hss (l_meanLevel h (by omega) (xs (7 * i + 1))) kk
    · refine g_tIn C (off := 1031) 1076 dL_law_45 (by decide) (by decide) (by decide) (by decide) ?_
      exact lc_isOn C S (by omega) (by omega) hcs hss (l_isOn h (by omega) (xs (7 * i + 1))) kk
    · refine g_tIn C (off := 1094) 1139 dL_law_45 (by decide) (by decide) (by decide) (by decide) ?_
      exact lc_total C S (by omega) (by omega) hcs hss (l_total h (by omega) (xs (7 * i + 1))) kk
    · refine g_tIn C (off := 1149) 1194 dL_law_45 (by decide) (by decide) (by decide) (by decide) ?_
      exact lc_energy C S (by omega) (by omega) hcs hss (l_energy h (by omega) (xs (7 * i + 1))) kk
    · refine g_tIn C (off := 1204) 1249 dL_law_45 (by decide) (by decide) (by decide) (by decide) ?_
      exact lc_shortTicks C S (by omega) (by omega) hcs hss (l_shortTicks h (by omega) (xs (7 * i + 1))) kk
    · refine g_tIn C (off := 1259) 1304 dL_law_45 (by decide) (by decide) (by decide) (by decide) ?_
      exact lc_balance C hcs hss (l_balance h (by omega)) kk
    · refine g_tIn C (off := 1273) 1318 dL_law_45 (by decide) (by decide) (by decide) (by decide) ?_
      exact lc_changeCount C hcs hss (l_changeCount h (by omega)) kk
    · refine g_tIn C (off := 1287) 1332 dL_law_45 (by decide) (by decide) (by decide) (by decide) ?_
      exact lc_changeTime C S (by omega) (by omega) hcs hss (l_changeTime h (by omega) (xs (7 * i + 1))) kk
    · refine g_tIn C (off := 1342) 1387 dL_law_45 (by decide) (by decide) (by decide) (by decide) ?_
      exact lc_changeSwitch C S (by omega) (by omega) hcs hss (l_changeSwitch h (by omega) (xs (7 * i + 1))) kk
    · refine g_tIn C (off := 1398) 1443 dL_law_45 (by decide) (by decide) (by decide) (by decide) ?_
      exact lc_save C S (by omega) (by omega) hcs hss (l_save h (by omega) ) kk
    · refine g_tIn C (off := 1442) 1487 dL_law_45 (by decide) (by decide) (by decide) (by decide) ?_
      exact lc_restore C S (by omega) (by omega) hcs hss (l_restore h (by omega) ) kk
    · refine g_tIn C (off := 1486) 1531 dL_law_45 (by decide) (by decide) (by decide) (by decide) ?_
      exact lc_digest C hcs hss (l_digest h (by omega)) kk
theorem law_loop (C : tkC X cL_law RL nm 9 (some .boolean) hh 12 601024 7293034) (S : lwX X sb n xs) (hn : n ≤ 3584) (hend : ∀ cs ss lv σ I L, cs ≤ 601024 → ss ≤ 7293034 → tkG X Q cs ss 1552 lv [.int 1] σ I L) :
    ∀ (k i cs ss : Nat) (σ : tkM) (I : tkI) (L : tkL) (l6 l7 l8 : Option Value), n ≤ 7 * i + k → 7 * i ≤ n → cs ≤ 200 + 28 * i → ss ≤ 4000 + 364 * i → lwInv B i σ I L → tkG X Q cs ss 28 [some (.ref sb), some (.ref B), some (.ref (B + 58)), some (.ref (B + 79)), some (.ref (B + 80)), some (.int (nI (7 * i))), l6, l7, l8] [] σ I L := by
  intro k
  induction k with
  | zero =>
    intro i cs ss σ I L l6 l7 l8 h1 h2 h3 h4 h
    refine g_iload C (i := 5) dL_law_28 rfl ?_
    refine g_aload_n C (i := 0) dL_law_30 rfl rfl ?_
    refine g_slen C S dL_law_31 ?_
    refine g_bipush C (7) dL_law_32 rfl ?_
    refine g_isub C dL_law_34 ?_
    refine g_icmp_gt C 1551 dL_law_35 (by decide) (fun h35 => ?_) (fun h35 => ?_)
    · refine g_iconst C (1) dL_law_1551 rfl ?_
      exact hend _ _ _ _ _ _ (by omega) (by omega)
    · exfalso
      refine h35 (Int32.lt_iff_toInt_lt.mpr ?_)
      rw [show (7 : Int32) = nI 7 from rfl, pk_sub_toInt (by omega) (by omega), nI_toInt (by omega)]
      omega
  | succ k ih =>
    intro i cs ss σ I L l6 l7 l8 h1 h2 h3 h4 h
    refine g_iload C (i := 5) dL_law_28 rfl ?_
    refine g_aload_n C (i := 0) dL_law_30 rfl rfl ?_
    refine g_slen C S dL_law_31 ?_
    refine g_bipush C (7) dL_law_32 rfl ?_
    refine g_isub C dL_law_34 ?_
    refine g_icmp_gt C 1551 dL_law_35 (by decide) (fun h35 => ?_) (fun h35 => ?_)
    · refine g_iconst C (1) dL_law_1551 rfl ?_
      exact hend _ _ _ _ _ _ (by omega) (by omega)
    · have hle : 7 * i + 7 ≤ n := by
        have z := Int.not_lt.mp (fun y => h35 (Int32.lt_iff_toInt_lt.mpr y))
        rw [show (7 : Int32) = nI 7 from rfl, pk_sub_toInt (by omega) (by omega), nI_toInt (by omega)] at z
        omega
      have hn9 : n < 2 ^ 31 := by omega
      refine g_aload_n C (i := 0) dL_law_38 rfl rfl ?_
      refine g_iload C (i := 5) dL_law_39 rfl ?_
      refine g_scr C S dL_law_41 rfl (by omega) hn9 ?_
      refine g_bipush C (31) dL_law_42 rfl ?_
      refine g_iand C dL_law_44 ?_
      refine law_call C S hn hle (by omega) (by omega) h (fun σ2 I2 L2 l6 l7 l8 hN => ?_) _
      refine g_iinc C (i := 5) (nI (7 * i + 7)) dL_law_1545 rfl (nI_add (7 * i) 7) (by decide) ?_
      refine g_goto C 28 dL_law_1548 (by decide) ?_
      exact ih (i + 1) _ _ σ2 I2 L2 l6 l7 l8 (by omega) (by omega) (by omega) (by omega) hN
end TKLOOP

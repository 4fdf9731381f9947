section TKWRAP
variable {σ σ' : tkM} {I I' : tkI} {L L' : tkL} {x o mc ms : Nat}
theorem w_addPump_ok (hX : σ.2.1 x = (5, 0)) (hO : σ'.2.1 o = (11, 1)) (a0 a1 a2 a3 a4 a5 : Int32) (y : Int32) (h : tkCon false (.code yX5_addPump cX5_addPump 7 (some .int)) yX5_addPump 10 [.ref x, .int a0, .int a1, .int a2, .int a3, .int a4, .int a5] σ I L mc ms (.inl (some (.int y))) σ' I' L') :
    tkCon true (.codeWith yL_addPump cL_addPump 9 (some .int) [(0, 18, 21, 20), (0, 18, 25, 13), (0, 18, 29, 15)]) yL_addPump 11 [.ref x, .int a0, .int a1, .int a2, .int a3, .int a4, .int a5, .ref o] σ I L mc ms (.inl (some (.int 0))) σ' I' (tk2 L' o 0 y.toInt64) := by
  refine tkCon.ofH (by decide) (Nat.le_of_ble_eq_true rfl) (fun X C => ?_)
  refine g_aload C (i := 7) dL_addPump_0 rfl ?_
  refine g_iconst C (0) dL_addPump_2 rfl ?_
  refine g_aload_n C (i := 0) dL_addPump_3 rfl rfl ?_
  refine g_iload_n C (i := 1) dL_addPump_4 rfl rfl ?_
  refine g_iload_n C (i := 2) dL_addPump_5 rfl rfl ?_
  refine g_iload_n C (i := 3) dL_addPump_6 rfl rfl ?_
  refine g_iload C (i := 4) dL_addPump_7 rfl ?_
  refine g_iload C (i := 5) dL_addPump_9 rfl ?_
  refine g_iload C (i := 6) dL_addPump_11 rfl ?_
  refine g_callV C (q := (RX5, TX5, 4)) (rest := _) dL_addPump_13 mm_X5_addPump ml_L_22 mv_yX5_addPump ms_yX5_addPump (h) rfl hX rfl rfl ⟨by decide, by omega, by omega, Nat.le_of_ble_eq_true rfl⟩ (tk_retv ?_) tk_nothr
  refine g_i2l C dL_addPump_16 ?_
  refine g_ls C dL_addPump_17 hO rfl rfl (j := 0) (by decide) (by decide) ?_
  refine g_goto C 33 dL_addPump_18 (by decide) ?_
  refine g_iconst C (0) dL_addPump_33 rfl ?_
  exact g_ireturn C dL_addPump_34 ⟨by omega, by omega⟩ (tkEnd.rf rfl rfl rfl)
theorem w_addPump_iob (hX : σ.2.1 x = (5, 0)) (a0 a1 a2 a3 a4 a5 : Int32) (h : tkCon false (.code yX5_addPump cX5_addPump 7 (some .int)) yX5_addPump 10 [.ref x, .int a0, .int a1, .int a2, .int a3, .int a4, .int a5] σ I L mc ms xIOB σ' I' L') :
    tkCon true (.codeWith yL_addPump cL_addPump 9 (some .int) [(0, 18, 21, 20), (0, 18, 25, 13), (0, 18, 29, 15)]) yL_addPump 11 [.ref x, .int a0, .int a1, .int a2, .int a3, .int a4, .int a5, .ref o] σ I L mc ms (.inl (some (.int 1))) σ' I' L' := by
  refine tkCon.ofH (by decide) (Nat.le_of_ble_eq_true rfl) (fun X C => ?_)
  refine g_aload C (i := 7) dL_addPump_0 rfl ?_
  refine g_iconst C (0) dL_addPump_2 rfl ?_
  refine g_aload_n C (i := 0) dL_addPump_3 rfl rfl ?_
  refine g_iload_n C (i := 1) dL_addPump_4 rfl rfl ?_
  refine g_iload_n C (i := 2) dL_addPump_5 rfl rfl ?_
  refine g_iload_n C (i := 3) dL_addPump_6 rfl rfl ?_
  refine g_iload C (i := 4) dL_addPump_7 rfl ?_
  refine g_iload C (i := 5) dL_addPump_9 rfl ?_
  refine g_iload C (i := 6) dL_addPump_11 rfl ?_
  refine g_callV C (q := (RX5, TX5, 4)) (rest := _) dL_addPump_13 mm_X5_addPump ml_L_22 mv_yX5_addPump ms_yX5_addPump (h) rfl hX rfl rfl ⟨by decide, by omega, by omega, Nat.le_of_ble_eq_true rfl⟩ tk_noret (tk_thr fun n9 hn9 => ?_)
  refine g_catch C (name := "java/lang/IndexOutOfBoundsException") [] ⟨0, 18, 21, 20⟩ [⟨0, 18, 25, 13⟩, ⟨0, 18, 29, 15⟩] rfl (fun z hz => by cases hz) rfl (by decide) ml_L_20 mk_java_lang_IndexOutOfBoundsException (fun q9 => ?_)
  refine g_astore C (i := 8) dL_addPump_21 (by decide) ?_
  refine g_iconst C (1) dL_addPump_23 rfl ?_
  exact g_ireturn C dL_addPump_24 ⟨by omega, by omega⟩ ⟨rfl, ⟨hn9, fun z => by cases z⟩, rfl, rfl, rfl⟩
theorem w_addPump_iae (hX : σ.2.1 x = (5, 0)) (a0 a1 a2 a3 a4 a5 : Int32) (h : tkCon false (.code yX5_addPump cX5_addPump 7 (some .int)) yX5_addPump 10 [.ref x, .int a0, .int a1, .int a2, .int a3, .int a4, .int a5] σ I L mc ms xIAE σ' I' L') :
    tkCon true (.codeWith yL_addPump cL_addPump 9 (some .int) [(0, 18, 21, 20), (0, 18, 25, 13), (0, 18, 29, 15)]) yL_addPump 11 [.ref x, .int a0, .int a1, .int a2, .int a3, .int a4, .int a5, .ref o] σ I L mc ms (.inl (some (.int 2))) σ' I' L' := by
  refine tkCon.ofH (by decide) (Nat.le_of_ble_eq_true rfl) (fun X C => ?_)
  refine g_aload C (i := 7) dL_addPump_0 rfl ?_
  refine g_iconst C (0) dL_addPump_2 rfl ?_
  refine g_aload_n C (i := 0) dL_addPump_3 rfl rfl ?_
  refine g_iload_n C (i := 1) dL_addPump_4 rfl rfl ?_
  refine g_iload_n C (i := 2) dL_addPump_5 rfl rfl ?_
  refine g_iload_n C (i := 3) dL_addPump_6 rfl rfl ?_
  refine g_iload C (i := 4) dL_addPump_7 rfl ?_
  refine g_iload C (i := 5) dL_addPump_9 rfl ?_
  refine g_iload C (i := 6) dL_addPump_11 rfl ?_
  refine g_callV C (q := (RX5, TX5, 4)) (rest := _) dL_addPump_13 mm_X5_addPump ml_L_22 mv_yX5_addPump ms_yX5_addPump (h) rfl hX rfl rfl ⟨by decide, by omega, by omega, Nat.le_of_ble_eq_true rfl⟩ tk_noret (tk_thr fun n9 hn9 => ?_)
  refine g_catch C (name := "java/lang/IllegalArgumentException") [⟨0, 18, 21, 20⟩] ⟨0, 18, 25, 13⟩ [⟨0, 18, 29, 15⟩] rfl (fun z hz => by
    simp only [List.mem_cons, List.not_mem_nil, or_false] at hz
    rcases hz with rfl
    · exact Or.inr ⟨by decide, _, ml_L_20, by decide⟩) rfl (by decide) ml_L_13 mk_java_lang_IllegalArgumentException (fun q9 => ?_)
  refine g_astore C (i := 8) dL_addPump_25 (by decide) ?_
  refine g_iconst C (2) dL_addPump_27 rfl ?_
  exact g_ireturn C dL_addPump_28 ⟨by omega, by omega⟩ ⟨rfl, ⟨hn9, fun z => by cases z⟩, rfl, rfl, rfl⟩
theorem w_addPump_ise (hX : σ.2.1 x = (5, 0)) (a0 a1 a2 a3 a4 a5 : Int32) (h : tkCon false (.code yX5_addPump cX5_addPump 7 (some .int)) yX5_addPump 10 [.ref x, .int a0, .int a1, .int a2, .int a3, .int a4, .int a5] σ I L mc ms xISE σ' I' L') :
    tkCon true (.codeWith yL_addPump cL_addPump 9 (some .int) [(0, 18, 21, 20), (0, 18, 25, 13), (0, 18, 29, 15)]) yL_addPump 11 [.ref x, .int a0, .int a1, .int a2, .int a3, .int a4, .int a5, .ref o] σ I L mc ms (.inl (some (.int 3))) σ' I' L' := by
  refine tkCon.ofH (by decide) (Nat.le_of_ble_eq_true rfl) (fun X C => ?_)
  refine g_aload C (i := 7) dL_addPump_0 rfl ?_
  refine g_iconst C (0) dL_addPump_2 rfl ?_
  refine g_aload_n C (i := 0) dL_addPump_3 rfl rfl ?_
  refine g_iload_n C (i := 1) dL_addPump_4 rfl rfl ?_
  refine g_iload_n C (i := 2) dL_addPump_5 rfl rfl ?_
  refine g_iload_n C (i := 3) dL_addPump_6 rfl rfl ?_
  refine g_iload C (i := 4) dL_addPump_7 rfl ?_
  refine g_iload C (i := 5) dL_addPump_9 rfl ?_
  refine g_iload C (i := 6) dL_addPump_11 rfl ?_
  refine g_callV C (q := (RX5, TX5, 4)) (rest := _) dL_addPump_13 mm_X5_addPump ml_L_22 mv_yX5_addPump ms_yX5_addPump (h) rfl hX rfl rfl ⟨by decide, by omega, by omega, Nat.le_of_ble_eq_true rfl⟩ tk_noret (tk_thr fun n9 hn9 => ?_)
  refine g_catch C (name := "java/lang/IllegalStateException") [⟨0, 18, 21, 20⟩, ⟨0, 18, 25, 13⟩] ⟨0, 18, 29, 15⟩ [] rfl (fun z hz => by
    simp only [List.mem_cons, List.not_mem_nil, or_false] at hz
    rcases hz with rfl | rfl
    · exact Or.inr ⟨by decide, _, ml_L_20, by decide⟩
    · exact Or.inr ⟨by decide, _, ml_L_13, by decide⟩) rfl (by decide) ml_L_15 mk_java_lang_IllegalStateException (fun q9 => ?_)
  refine g_astore C (i := 8) dL_addPump_29 (by decide) ?_
  refine g_iconst C (3) dL_addPump_31 rfl ?_
  exact g_ireturn C dL_addPump_32 ⟨by omega, by omega⟩ ⟨rfl, ⟨hn9, fun z => by cases z⟩, rfl, rfl, rfl⟩
theorem w_addSwitch_ok (hX : σ.2.1 x = (5, 0)) (hO : σ'.2.1 o = (11, 1)) (a0 a1 a2 : Int32) (y : Int32) (h : tkCon false (.code yX5_addSwitch cX5_addSwitch 4 (some .int)) yX5_addSwitch 10 [.ref x, .int a0, .int a1, .int a2] σ I L mc ms (.inl (some (.int y))) σ' I' L') :
    tkCon true (.codeWith yL_addSwitch cL_addSwitch 6 (some .int) [(0, 12, 15, 20), (0, 12, 19, 13), (0, 12, 23, 15)]) yL_addSwitch 11 [.ref x, .int a0, .int a1, .int a2, .ref o] σ I L mc ms (.inl (some (.int 0))) σ' I' (tk2 L' o 0 y.toInt64) := by
  refine tkCon.ofH (by decide) (Nat.le_of_ble_eq_true rfl) (fun X C => ?_)
  refine g_aload C (i := 4) dL_addSwitch_0 rfl ?_
  refine g_iconst C (0) dL_addSwitch_2 rfl ?_
  refine g_aload_n C (i := 0) dL_addSwitch_3 rfl rfl ?_
  refine g_iload_n C (i := 1) dL_addSwitch_4 rfl rfl ?_
  refine g_iload_n C (i := 2) dL_addSwitch_5 rfl rfl ?_
  refine g_iload_n C (i := 3) dL_addSwitch_6 rfl rfl ?_
  refine g_callV C (q := (RX5, TX5, 4)) (rest := _) dL_addSwitch_7 mm_X5_addSwitch ml_L_17 mv_yX5_addSwitch ms_yX5_addSwitch (h) rfl hX rfl rfl ⟨by decide, by omega, by omega, Nat.le_of_ble_eq_true rfl⟩ (tk_retv ?_) tk_nothr
  refine g_i2l C dL_addSwitch_10 ?_
  refine g_ls C dL_addSwitch_11 hO rfl rfl (j := 0) (by decide) (by decide) ?_
  refine g_goto C 27 dL_addSwitch_12 (by decide) ?_
  refine g_iconst C (0) dL_addSwitch_27 rfl ?_
  exact g_ireturn C dL_addSwitch_28 ⟨by omega, by omega⟩ (tkEnd.rf rfl rfl rfl)
theorem w_addSwitch_iob (hX : σ.2.1 x = (5, 0)) (a0 a1 a2 : Int32) (h : tkCon false (.code yX5_addSwitch cX5_addSwitch 4 (some .int)) yX5_addSwitch 10 [.ref x, .int a0, .int a1, .int a2] σ I L mc ms xIOB σ' I' L') :
    tkCon true (.codeWith yL_addSwitch cL_addSwitch 6 (some .int) [(0, 12, 15, 20), (0, 12, 19, 13), (0, 12, 23, 15)]) yL_addSwitch 11 [.ref x, .int a0, .int a1, .int a2, .ref o] σ I L mc ms (.inl (some (.int 1))) σ' I' L' := by
  refine tkCon.ofH (by decide) (Nat.le_of_ble_eq_true rfl) (fun X C => ?_)
  refine g_aload C (i := 4) dL_addSwitch_0 rfl ?_
  refine g_iconst C (0) dL_addSwitch_2 rfl ?_
  refine g_aload_n C (i := 0) dL_addSwitch_3 rfl rfl ?_
  refine g_iload_n C (i := 1) dL_addSwitch_4 rfl rfl ?_
  refine g_iload_n C (i := 2) dL_addSwitch_5 rfl rfl ?_
  refine g_iload_n C (i := 3) dL_addSwitch_6 rfl rfl ?_
  refine g_callV C (q := (RX5, TX5, 4)) (rest := _) dL_addSwitch_7 mm_X5_addSwitch ml_L_17 mv_yX5_addSwitch ms_yX5_addSwitch (h) rfl hX rfl rfl ⟨by decide, by omega, by omega, Nat.le_of_ble_eq_true rfl⟩ tk_noret (tk_thr fun n9 hn9 => ?_)
  refine g_catch C (name := "java/lang/IndexOutOfBoundsException") [] ⟨0, 12, 15, 20⟩ [⟨0, 12, 19, 13⟩, ⟨0, 12, 23, 15⟩] rfl (fun z hz => by cases hz) rfl (by decide) ml_L_20 mk_java_lang_IndexOutOfBoundsException (fun q9 => ?_)
  refine g_astore C (i := 5) dL_addSwitch_15 (by decide) ?_
  refine g_iconst C (1) dL_addSwitch_17 rfl ?_
  exact g_ireturn C dL_addSwitch_18 ⟨by omega, by omega⟩ ⟨rfl, ⟨hn9, fun z => by cases z⟩, rfl, rfl, rfl⟩
theorem w_addSwitch_iae (hX : σ.2.1 x = (5, 0)) (a0 a1 a2 : Int32) (h : tkCon false (.code yX5_addSwitch cX5_addSwitch 4 (some .int)) yX5_addSwitch 10 [.ref x, .int a0, .int a1, .int a2] σ I L mc ms xIAE σ' I' L') :
    tkCon true (.codeWith yL_addSwitch cL_addSwitch 6 (some .int) [(0, 12, 15, 20), (0, 12, 19, 13), (0, 12, 23, 15)]) yL_addSwitch 11 [.ref x, .int a0, .int a1, .int a2, .ref o] σ I L mc ms (.inl (some (.int 2))) σ' I' L' := by
  refine tkCon.ofH (by decide) (Nat.le_of_ble_eq_true rfl) (fun X C => ?_)
  refine g_aload C (i := 4) dL_addSwitch_0 rfl ?_
  refine g_iconst C (0) dL_addSwitch_2 rfl ?_
  refine g_aload_n C (i := 0) dL_addSwitch_3 rfl rfl ?_
  refine g_iload_n C (i := 1) dL_addSwitch_4 rfl rfl ?_
  refine g_iload_n C (i := 2) dL_addSwitch_5 rfl rfl ?_
  refine g_iload_n C (i := 3) dL_addSwitch_6 rfl rfl ?_
  refine g_callV C (q := (RX5, TX5, 4)) (rest := _) dL_addSwitch_7 mm_X5_addSwitch ml_L_17 mv_yX5_addSwitch ms_yX5_addSwitch (h) rfl hX rfl rfl ⟨by decide, by omega, by omega, Nat.le_of_ble_eq_true rfl⟩ tk_noret (tk_thr fun n9 hn9 => ?_)
  refine g_catch C (name := "java/lang/IllegalArgumentException") [⟨0, 12, 15, 20⟩] ⟨0, 12, 19, 13⟩ [⟨0, 12, 23, 15⟩] rfl (fun z hz => by
    simp only [List.mem_cons, List.not_mem_nil, or_false] at hz
    rcases hz with rfl
    · exact Or.inr ⟨by decide, _, ml_L_20, by decide⟩) rfl (by decide) ml_L_13 mk_java_lang_IllegalArgumentException (fun q9 => ?_)
  refine g_astore C (i := 5) dL_addSwitch_19 (by decide) ?_
  refine g_iconst C (2) dL_addSwitch_21 rfl ?_
  exact g_ireturn C dL_addSwitch_22 ⟨by omega, by omega⟩ ⟨rfl, ⟨hn9, fun z => by cases z⟩, rfl, rfl, rfl⟩
theorem w_addSwitch_ise (hX : σ.2.1 x = (5, 0)) (a0 a1 a2 : Int32) (h : tkCon false (.code yX5_addSwitch cX5_addSwitch 4 (some .int)) yX5_addSwitch 10 [.ref x, .int a0, .int a1, .int a2] σ I L mc ms xISE σ' I' L') :
    tkCon true (.codeWith yL_addSwitch cL_addSwitch 6 (some .int) [(0, 12, 15, 20), (0, 12, 19, 13), (0, 12, 23, 15)]) yL_addSwitch 11 [.ref x, .int a0, .int a1, .int a2, .ref o] σ I L mc ms (.inl (some (.int 3))) σ' I' L' := by
  refine tkCon.ofH (by decide) (Nat.le_of_ble_eq_true rfl) (fun X C => ?_)
  refine g_aload C (i := 4) dL_addSwitch_0 rfl ?_
  refine g_iconst C (0) dL_addSwitch_2 rfl ?_
  refine g_aload_n C (i := 0) dL_addSwitch_3 rfl rfl ?_
  refine g_iload_n C (i := 1) dL_addSwitch_4 rfl rfl ?_
  refine g_iload_n C (i := 2) dL_addSwitch_5 rfl rfl ?_
  refine g_iload_n C (i := 3) dL_addSwitch_6 rfl rfl ?_
  refine g_callV C (q := (RX5, TX5, 4)) (rest := _) dL_addSwitch_7 mm_X5_addSwitch ml_L_17 mv_yX5_addSwitch ms_yX5_addSwitch (h) rfl hX rfl rfl ⟨by decide, by omega, by omega, Nat.le_of_ble_eq_true rfl⟩ tk_noret (tk_thr fun n9 hn9 => ?_)
  refine g_catch C (name := "java/lang/IllegalStateException") [⟨0, 12, 15, 20⟩, ⟨0, 12, 19, 13⟩] ⟨0, 12, 23, 15⟩ [] rfl (fun z hz => by
    simp only [List.mem_cons, List.not_mem_nil, or_false] at hz
    rcases hz with rfl | rfl
    · exact Or.inr ⟨by decide, _, ml_L_20, by decide⟩
    · exact Or.inr ⟨by decide, _, ml_L_13, by decide⟩) rfl (by decide) ml_L_15 mk_java_lang_IllegalStateException (fun q9 => ?_)
  refine g_astore C (i := 5) dL_addSwitch_23 (by decide) ?_
  refine g_iconst C (3) dL_addSwitch_25 rfl ?_
  exact g_ireturn C dL_addSwitch_26 ⟨by omega, by omega⟩ ⟨rfl, ⟨hn9, fun z => by cases z⟩, rfl, rfl, rfl⟩
theorem w_addTank_ok (hX : σ.2.1 x = (5, 0)) (hO : σ'.2.1 o = (11, 1)) (a0 a1 a2 : Int32) (y : Int32) (h : tkCon false (.code yX5_addTank cX5_addTank 4 (some .int)) yX5_addTank 10 [.ref x, .int a0, .int a1, .int a2] σ I L mc ms (.inl (some (.int y))) σ' I' L') :
    tkCon true (.codeWith yL_addTank cL_addTank 6 (some .int) [(0, 12, 15, 13), (0, 12, 19, 15)]) yL_addTank 11 [.ref x, .int a0, .int a1, .int a2, .ref o] σ I L mc ms (.inl (some (.int 0))) σ' I' (tk2 L' o 0 y.toInt64) := by
  refine tkCon.ofH (by decide) (Nat.le_of_ble_eq_true rfl) (fun X C => ?_)
  refine g_aload C (i := 4) dL_addTank_0 rfl ?_
  refine g_iconst C (0) dL_addTank_2 rfl ?_
  refine g_aload_n C (i := 0) dL_addTank_3 rfl rfl ?_
  refine g_iload_n C (i := 1) dL_addTank_4 rfl rfl ?_
  refine g_iload_n C (i := 2) dL_addTank_5 rfl rfl ?_
  refine g_iload_n C (i := 3) dL_addTank_6 rfl rfl ?_
  refine g_callV C (q := (RX5, TX5, 4)) (rest := _) dL_addTank_7 mm_X5_addTank ml_L_7 mv_yX5_addTank ms_yX5_addTank (h) rfl hX rfl rfl ⟨by decide, by omega, by omega, Nat.le_of_ble_eq_true rfl⟩ (tk_retv ?_) tk_nothr
  refine g_i2l C dL_addTank_10 ?_
  refine g_ls C dL_addTank_11 hO rfl rfl (j := 0) (by decide) (by decide) ?_
  refine g_goto C 23 dL_addTank_12 (by decide) ?_
  refine g_iconst C (0) dL_addTank_23 rfl ?_
  exact g_ireturn C dL_addTank_24 ⟨by omega, by omega⟩ (tkEnd.rf rfl rfl rfl)
theorem w_addTank_iae (hX : σ.2.1 x = (5, 0)) (a0 a1 a2 : Int32) (h : tkCon false (.code yX5_addTank cX5_addTank 4 (some .int)) yX5_addTank 10 [.ref x, .int a0, .int a1, .int a2] σ I L mc ms xIAE σ' I' L') :
    tkCon true (.codeWith yL_addTank cL_addTank 6 (some .int) [(0, 12, 15, 13), (0, 12, 19, 15)]) yL_addTank 11 [.ref x, .int a0, .int a1, .int a2, .ref o] σ I L mc ms (.inl (some (.int 1))) σ' I' L' := by
  refine tkCon.ofH (by decide) (Nat.le_of_ble_eq_true rfl) (fun X C => ?_)
  refine g_aload C (i := 4) dL_addTank_0 rfl ?_
  refine g_iconst C (0) dL_addTank_2 rfl ?_
  refine g_aload_n C (i := 0) dL_addTank_3 rfl rfl ?_
  refine g_iload_n C (i := 1) dL_addTank_4 rfl rfl ?_
  refine g_iload_n C (i := 2) dL_addTank_5 rfl rfl ?_
  refine g_iload_n C (i := 3) dL_addTank_6 rfl rfl ?_
  refine g_callV C (q := (RX5, TX5, 4)) (rest := _) dL_addTank_7 mm_X5_addTank ml_L_7 mv_yX5_addTank ms_yX5_addTank (h) rfl hX rfl rfl ⟨by decide, by omega, by omega, Nat.le_of_ble_eq_true rfl⟩ tk_noret (tk_thr fun n9 hn9 => ?_)
  refine g_catch C (name := "java/lang/IllegalArgumentException") [] ⟨0, 12, 15, 13⟩ [⟨0, 12, 19, 15⟩] rfl (fun z hz => by cases hz) rfl (by decide) ml_L_13 mk_java_lang_IllegalArgumentException (fun q9 => ?_)
  refine g_astore C (i := 5) dL_addTank_15 (by decide) ?_
  refine g_iconst C (1) dL_addTank_17 rfl ?_
  exact g_ireturn C dL_addTank_18 ⟨by omega, by omega⟩ ⟨rfl, ⟨hn9, fun z => by cases z⟩, rfl, rfl, rfl⟩
theorem w_addTank_ise (hX : σ.2.1 x = (5, 0)) (a0 a1 a2 : Int32) (h : tkCon false (.code yX5_addTank cX5_addTank 4 (some .int)) yX5_addTank 10 [.ref x, .int a0, .int a1, .int a2] σ I L mc ms xISE σ' I' L') :
    tkCon true (.codeWith yL_addTank cL_addTank 6 (some .int) [(0, 12, 15, 13), (0, 12, 19, 15)]) yL_addTank 11 [.ref x, .int a0, .int a1, .int a2, .ref o] σ I L mc ms (.inl (some (.int 2))) σ' I' L' := by
  refine tkCon.ofH (by decide) (Nat.le_of_ble_eq_true rfl) (fun X C => ?_)
  refine g_aload C (i := 4) dL_addTank_0 rfl ?_
  refine g_iconst C (0) dL_addTank_2 rfl ?_
  refine g_aload_n C (i := 0) dL_addTank_3 rfl rfl ?_
  refine g_iload_n C (i := 1) dL_addTank_4 rfl rfl ?_
  refine g_iload_n C (i := 2) dL_addTank_5 rfl rfl ?_
  refine g_iload_n C (i := 3) dL_addTank_6 rfl rfl ?_
  refine g_callV C (q := (RX5, TX5, 4)) (rest := _) dL_addTank_7 mm_X5_addTank ml_L_7 mv_yX5_addTank ms_yX5_addTank (h) rfl hX rfl rfl ⟨by decide, by omega, by omega, Nat.le_of_ble_eq_true rfl⟩ tk_noret (tk_thr fun n9 hn9 => ?_)
  refine g_catch C (name := "java/lang/IllegalStateException") [⟨0, 12, 15, 13⟩] ⟨0, 12, 19, 15⟩ [] rfl (fun z hz => by
    simp only [List.mem_cons, List.not_mem_nil, or_false] at hz
    rcases hz with rfl
    · exact Or.inr ⟨by decide, _, ml_L_13, by decide⟩) rfl (by decide) ml_L_15 mk_java_lang_IllegalStateException (fun q9 => ?_)
  refine g_astore C (i := 5) dL_addTank_19 (by decide) ?_
  refine g_iconst C (2) dL_addTank_21 rfl ?_
  exact g_ireturn C dL_addTank_22 ⟨by omega, by omega⟩ ⟨rfl, ⟨hn9, fun z => by cases z⟩, rfl, rfl, rfl⟩
theorem w_changeSwitch_ok (hX : σ.2.1 x = (5, 0)) (hO : σ'.2.1 o = (11, 1)) (a0 : Int32) (y : Int32) (h : tkCon false (.code yX5_changeSwitch cX5_changeSwitch 2 (some .int)) yX5_changeSwitch 10 [.ref x, .int a0] σ I L mc ms (.inl (some (.int y))) σ' I' L') :
    tkCon true (.codeWith yL_changeSwitch cL_changeSwitch 4 (some .int) [(0, 9, 12, 20)]) yL_changeSwitch 11 [.ref x, .int a0, .ref o] σ I L mc ms (.inl (some (.int 0))) σ' I' (tk2 L' o 0 y.toInt64) := by
  refine tkCon.ofH (by decide) (Nat.le_of_ble_eq_true rfl) (fun X C => ?_)
  refine g_aload_n C (i := 2) dL_changeSwitch_0 rfl rfl ?_
  refine g_iconst C (0) dL_changeSwitch_1 rfl ?_
  refine g_aload_n C (i := 0) dL_changeSwitch_2 rfl rfl ?_
  refine g_iload_n C (i := 1) dL_changeSwitch_3 rfl rfl ?_
  refine g_callV C (q := (RX5, TX5, 4)) (rest := _) dL_changeSwitch_4 mm_X5_changeSwitch ml_L_74 mv_yX5_changeSwitch ms_yX5_changeSwitch (h) rfl hX rfl rfl ⟨by decide, by omega, by omega, Nat.le_of_ble_eq_true rfl⟩ (tk_retv ?_) tk_nothr
  refine g_i2l C dL_changeSwitch_7 ?_
  refine g_ls C dL_changeSwitch_8 hO rfl rfl (j := 0) (by decide) (by decide) ?_
  refine g_goto C 15 dL_changeSwitch_9 (by decide) ?_
  refine g_iconst C (0) dL_changeSwitch_15 rfl ?_
  exact g_ireturn C dL_changeSwitch_16 ⟨by omega, by omega⟩ (tkEnd.rf rfl rfl rfl)
theorem w_changeSwitch_iob (hX : σ.2.1 x = (5, 0)) (a0 : Int32) (h : tkCon false (.code yX5_changeSwitch cX5_changeSwitch 2 (some .int)) yX5_changeSwitch 10 [.ref x, .int a0] σ I L mc ms xIOB σ' I' L') :
    tkCon true (.codeWith yL_changeSwitch cL_changeSwitch 4 (some .int) [(0, 9, 12, 20)]) yL_changeSwitch 11 [.ref x, .int a0, .ref o] σ I L mc ms (.inl (some (.int 1))) σ' I' L' := by
  refine tkCon.ofH (by decide) (Nat.le_of_ble_eq_true rfl) (fun X C => ?_)
  refine g_aload_n C (i := 2) dL_changeSwitch_0 rfl rfl ?_
  refine g_iconst C (0) dL_changeSwitch_1 rfl ?_
  refine g_aload_n C (i := 0) dL_changeSwitch_2 rfl rfl ?_
  refine g_iload_n C (i := 1) dL_changeSwitch_3 rfl rfl ?_
  refine g_callV C (q := (RX5, TX5, 4)) (rest := _) dL_changeSwitch_4 mm_X5_changeSwitch ml_L_74 mv_yX5_changeSwitch ms_yX5_changeSwitch (h) rfl hX rfl rfl ⟨by decide, by omega, by omega, Nat.le_of_ble_eq_true rfl⟩ tk_noret (tk_thr fun n9 hn9 => ?_)
  refine g_catch C (name := "java/lang/IndexOutOfBoundsException") [] ⟨0, 9, 12, 20⟩ [] rfl (fun z hz => by cases hz) rfl (by decide) ml_L_20 mk_java_lang_IndexOutOfBoundsException (fun q9 => ?_)
  refine g_astore_n C (i := 3) dL_changeSwitch_12 rfl (by decide) ?_
  refine g_iconst C (1) dL_changeSwitch_13 rfl ?_
  exact g_ireturn C dL_changeSwitch_14 ⟨by omega, by omega⟩ ⟨rfl, ⟨hn9, fun z => by cases z⟩, rfl, rfl, rfl⟩
theorem w_changeTime_ok (hX : σ.2.1 x = (5, 0)) (hO : σ'.2.1 o = (11, 1)) (a0 : Int32) (y : Int64) (h : tkCon false (.code yX5_changeTime cX5_changeTime 2 (some .long)) yX5_changeTime 10 [.ref x, .int a0] σ I L mc ms (.inl (some (.long y))) σ' I' L') :
    tkCon true (.codeWith yL_changeTime cL_changeTime 4 (some .int) [(0, 8, 11, 20)]) yL_changeTime 11 [.ref x, .int a0, .ref o] σ I L mc ms (.inl (some (.int 0))) σ' I' (tk2 L' o 0 y) := by
  refine tkCon.ofH (by decide) (Nat.le_of_ble_eq_true rfl) (fun X C => ?_)
  refine g_aload_n C (i := 2) dL_changeTime_0 rfl rfl ?_
  refine g_iconst C (0) dL_changeTime_1 rfl ?_
  refine g_aload_n C (i := 0) dL_changeTime_2 rfl rfl ?_
  refine g_iload_n C (i := 1) dL_changeTime_3 rfl rfl ?_
  refine g_callV C (q := (RX5, TX5, 4)) (rest := _) dL_changeTime_4 mm_X5_changeTime ml_L_71 mv_yX5_changeTime ms_yX5_changeTime (h) rfl hX rfl rfl ⟨by decide, by omega, by omega, Nat.le_of_ble_eq_true rfl⟩ (tk_retv ?_) tk_nothr
  refine g_ls C dL_changeTime_7 hO rfl rfl (j := 0) (by decide) (by decide) ?_
  refine g_goto C 14 dL_changeTime_8 (by decide) ?_
  refine g_iconst C (0) dL_changeTime_14 rfl ?_
  exact g_ireturn C dL_changeTime_15 ⟨by omega, by omega⟩ (tkEnd.rf rfl rfl rfl)
theorem w_changeTime_iob (hX : σ.2.1 x = (5, 0)) (a0 : Int32) (h : tkCon false (.code yX5_changeTime cX5_changeTime 2 (some .long)) yX5_changeTime 10 [.ref x, .int a0] σ I L mc ms xIOB σ' I' L') :
    tkCon true (.codeWith yL_changeTime cL_changeTime 4 (some .int) [(0, 8, 11, 20)]) yL_changeTime 11 [.ref x, .int a0, .ref o] σ I L mc ms (.inl (some (.int 1))) σ' I' L' := by
  refine tkCon.ofH (by decide) (Nat.le_of_ble_eq_true rfl) (fun X C => ?_)
  refine g_aload_n C (i := 2) dL_changeTime_0 rfl rfl ?_
  refine g_iconst C (0) dL_changeTime_1 rfl ?_
  refine g_aload_n C (i := 0) dL_changeTime_2 rfl rfl ?_
  refine g_iload_n C (i := 1) dL_changeTime_3 rfl rfl ?_
  refine g_callV C (q := (RX5, TX5, 4)) (rest := _) dL_changeTime_4 mm_X5_changeTime ml_L_71 mv_yX5_changeTime ms_yX5_changeTime (h) rfl hX rfl rfl ⟨by decide, by omega, by omega, Nat.le_of_ble_eq_true rfl⟩ tk_noret (tk_thr fun n9 hn9 => ?_)
  refine g_catch C (name := "java/lang/IndexOutOfBoundsException") [] ⟨0, 8, 11, 20⟩ [] rfl (fun z hz => by cases hz) rfl (by decide) ml_L_20 mk_java_lang_IndexOutOfBoundsException (fun q9 => ?_)
  refine g_astore_n C (i := 3) dL_changeTime_11 rfl (by decide) ?_
  refine g_iconst C (1) dL_changeTime_12 rfl ?_
  exact g_ireturn C dL_changeTime_13 ⟨by omega, by omega⟩ ⟨rfl, ⟨hn9, fun z => by cases z⟩, rfl, rfl, rfl⟩
theorem w_energy_ok (hX : σ.2.1 x = (5, 0)) (hO : σ'.2.1 o = (11, 1)) (a0 : Int32) (y : Int64) (h : tkCon false (.code yX5_energy cX5_energy 2 (some .long)) yX5_energy 10 [.ref x, .int a0] σ I L mc ms (.inl (some (.long y))) σ' I' L') :
    tkCon true (.codeWith yL_energy cL_energy 4 (some .int) [(0, 8, 11, 20)]) yL_energy 11 [.ref x, .int a0, .ref o] σ I L mc ms (.inl (some (.int 0))) σ' I' (tk2 L' o 0 y) := by
  refine tkCon.ofH (by decide) (Nat.le_of_ble_eq_true rfl) (fun X C => ?_)
  refine g_aload_n C (i := 2) dL_energy_0 rfl rfl ?_
  refine g_iconst C (0) dL_energy_1 rfl ?_
  refine g_aload_n C (i := 0) dL_energy_2 rfl rfl ?_
  refine g_iload_n C (i := 1) dL_energy_3 rfl rfl ?_
  refine g_callV C (q := (RX5, TX5, 4)) (rest := _) dL_energy_4 mm_X5_energy ml_L_65 mv_yX5_energy ms_yX5_energy (h) rfl hX rfl rfl ⟨by decide, by omega, by omega, Nat.le_of_ble_eq_true rfl⟩ (tk_retv ?_) tk_nothr
  refine g_ls C dL_energy_7 hO rfl rfl (j := 0) (by decide) (by decide) ?_
  refine g_goto C 14 dL_energy_8 (by decide) ?_
  refine g_iconst C (0) dL_energy_14 rfl ?_
  exact g_ireturn C dL_energy_15 ⟨by omega, by omega⟩ (tkEnd.rf rfl rfl rfl)
theorem w_energy_iob (hX : σ.2.1 x = (5, 0)) (a0 : Int32) (h : tkCon false (.code yX5_energy cX5_energy 2 (some .long)) yX5_energy 10 [.ref x, .int a0] σ I L mc ms xIOB σ' I' L') :
    tkCon true (.codeWith yL_energy cL_energy 4 (some .int) [(0, 8, 11, 20)]) yL_energy 11 [.ref x, .int a0, .ref o] σ I L mc ms (.inl (some (.int 1))) σ' I' L' := by
  refine tkCon.ofH (by decide) (Nat.le_of_ble_eq_true rfl) (fun X C => ?_)
  refine g_aload_n C (i := 2) dL_energy_0 rfl rfl ?_
  refine g_iconst C (0) dL_energy_1 rfl ?_
  refine g_aload_n C (i := 0) dL_energy_2 rfl rfl ?_
  refine g_iload_n C (i := 1) dL_energy_3 rfl rfl ?_
  refine g_callV C (q := (RX5, TX5, 4)) (rest := _) dL_energy_4 mm_X5_energy ml_L_65 mv_yX5_energy ms_yX5_energy (h) rfl hX rfl rfl ⟨by decide, by omega, by omega, Nat.le_of_ble_eq_true rfl⟩ tk_noret (tk_thr fun n9 hn9 => ?_)
  refine g_catch C (name := "java/lang/IndexOutOfBoundsException") [] ⟨0, 8, 11, 20⟩ [] rfl (fun z hz => by cases hz) rfl (by decide) ml_L_20 mk_java_lang_IndexOutOfBoundsException (fun q9 => ?_)
  refine g_astore_n C (i := 3) dL_energy_11 rfl (by decide) ?_
  refine g_iconst C (1) dL_energy_12 rfl ?_
  exact g_ireturn C dL_energy_13 ⟨by omega, by omega⟩ ⟨rfl, ⟨hn9, fun z => by cases z⟩, rfl, rfl, rfl⟩
theorem w_isOn_ok (hX : σ.2.1 x = (5, 0)) (hO : σ'.2.1 o = (11, 1)) (a0 : Int32) (y : Int32) (h : tkCon false (.code yX5_isOn cX5_isOn 2 (some .boolean)) yX5_isOn 10 [.ref x, .int a0] σ I L mc ms (.inl (some (.int y))) σ' I' L') :
    tkCon true (.codeWith yL_isOn cL_isOn 4 (some .int) [(0, 16, 19, 20)]) yL_isOn 11 [.ref x, .int a0, .ref o] σ I L mc ms (.inl (some (.int 0))) σ' I' (tk2 L' o 0 (if y = 0 then 0 else 1)) := by
  refine tkCon.ofH (by decide) (Nat.le_of_ble_eq_true rfl) (fun X C => ?_)
  refine g_aload_n C (i := 2) dL_isOn_0 rfl rfl ?_
  refine g_iconst C (0) dL_isOn_1 rfl ?_
  refine g_aload_n C (i := 0) dL_isOn_2 rfl rfl ?_
  refine g_iload_n C (i := 1) dL_isOn_3 rfl rfl ?_
  refine g_callV C (q := (RX5, TX5, 4)) (rest := _) dL_isOn_4 mm_X5_isOn ml_L_58 mv_yX5_isOn ms_yX5_isOn (h) rfl hX rfl rfl ⟨by decide, by omega, by omega, Nat.le_of_ble_eq_true rfl⟩ (tk_retv ?_) tk_nothr
  refine g_if_eq C 14 dL_isOn_7 (by decide) (fun h7 => ?_) (fun h7 => ?_)
  · rw [if_pos h7]
    refine g_lconst C 0 dL_isOn_14 rfl ?_
    refine g_ls C dL_isOn_15 hO rfl rfl (j := 0) (by decide) (by decide) ?_
    refine g_goto C 22 dL_isOn_16 (by decide) ?_
    refine g_iconst C (0) dL_isOn_22 rfl ?_
    exact g_ireturn C dL_isOn_23 ⟨by omega, by omega⟩ (tkEnd.rf rfl rfl rfl)
  · rw [if_neg h7]
    refine g_lconst C 1 dL_isOn_10 rfl ?_
    refine g_goto C 15 dL_isOn_11 (by decide) ?_
    refine g_ls C dL_isOn_15 hO rfl rfl (j := 0) (by decide) (by decide) ?_
    refine g_goto C 22 dL_isOn_16 (by decide) ?_
    refine g_iconst C (0) dL_isOn_22 rfl ?_
    exact g_ireturn C dL_isOn_23 ⟨by omega, by omega⟩ (tkEnd.rf rfl rfl rfl)
theorem w_isOn_iob (hX : σ.2.1 x = (5, 0)) (a0 : Int32) (h : tkCon false (.code yX5_isOn cX5_isOn 2 (some .boolean)) yX5_isOn 10 [.ref x, .int a0] σ I L mc ms xIOB σ' I' L') :
    tkCon true (.codeWith yL_isOn cL_isOn 4 (some .int) [(0, 16, 19, 20)]) yL_isOn 11 [.ref x, .int a0, .ref o] σ I L mc ms (.inl (some (.int 1))) σ' I' L' := by
  refine tkCon.ofH (by decide) (Nat.le_of_ble_eq_true rfl) (fun X C => ?_)
  refine g_aload_n C (i := 2) dL_isOn_0 rfl rfl ?_
  refine g_iconst C (0) dL_isOn_1 rfl ?_
  refine g_aload_n C (i := 0) dL_isOn_2 rfl rfl ?_
  refine g_iload_n C (i := 1) dL_isOn_3 rfl rfl ?_
  refine g_callV C (q := (RX5, TX5, 4)) (rest := _) dL_isOn_4 mm_X5_isOn ml_L_58 mv_yX5_isOn ms_yX5_isOn (h) rfl hX rfl rfl ⟨by decide, by omega, by omega, Nat.le_of_ble_eq_true rfl⟩ tk_noret (tk_thr fun n9 hn9 => ?_)
  refine g_catch C (name := "java/lang/IndexOutOfBoundsException") [] ⟨0, 16, 19, 20⟩ [] rfl (fun z hz => by cases hz) rfl (by decide) ml_L_20 mk_java_lang_IndexOutOfBoundsException (fun q9 => ?_)
  refine g_astore_n C (i := 3) dL_isOn_19 rfl (by decide) ?_
  refine g_iconst C (1) dL_isOn_20 rfl ?_
  exact g_ireturn C dL_isOn_21 ⟨by omega, by omega⟩ ⟨rfl, ⟨hn9, fun z => by cases z⟩, rfl, rfl, rfl⟩
theorem w_level_ok (hX : σ.2.1 x = (5, 0)) (hO : σ'.2.1 o = (11, 1)) (a0 : Int32) (y : Int32) (h : tkCon false (.code yX5_level cX5_level 2 (some .int)) yX5_level 10 [.ref x, .int a0] σ I L mc ms (.inl (some (.int y))) σ' I' L') :
    tkCon true (.codeWith yL_level cL_level 4 (some .int) [(0, 9, 12, 20)]) yL_level 11 [.ref x, .int a0, .ref o] σ I L mc ms (.inl (some (.int 0))) σ' I' (tk2 L' o 0 y.toInt64) := by
  refine tkCon.ofH (by decide) (Nat.le_of_ble_eq_true rfl) (fun X C => ?_)
  refine g_aload_n C (i := 2) dL_level_0 rfl rfl ?_
  refine g_iconst C (0) dL_level_1 rfl ?_
  refine g_aload_n C (i := 0) dL_level_2 rfl rfl ?_
  refine g_iload_n C (i := 1) dL_level_3 rfl rfl ?_
  refine g_callV C (q := (RX5, TX5, 4)) (rest := _) dL_level_4 mm_X5_level ml_L_47 mv_yX5_level ms_yX5_level (h) rfl hX rfl rfl ⟨by decide, by omega, by omega, Nat.le_of_ble_eq_true rfl⟩ (tk_retv ?_) tk_nothr
  refine g_i2l C dL_level_7 ?_
  refine g_ls C dL_level_8 hO rfl rfl (j := 0) (by decide) (by decide) ?_
  refine g_goto C 15 dL_level_9 (by decide) ?_
  refine g_iconst C (0) dL_level_15 rfl ?_
  exact g_ireturn C dL_level_16 ⟨by omega, by omega⟩ (tkEnd.rf rfl rfl rfl)
theorem w_level_iob (hX : σ.2.1 x = (5, 0)) (a0 : Int32) (h : tkCon false (.code yX5_level cX5_level 2 (some .int)) yX5_level 10 [.ref x, .int a0] σ I L mc ms xIOB σ' I' L') :
    tkCon true (.codeWith yL_level cL_level 4 (some .int) [(0, 9, 12, 20)]) yL_level 11 [.ref x, .int a0, .ref o] σ I L mc ms (.inl (some (.int 1))) σ' I' L' := by
  refine tkCon.ofH (by decide) (Nat.le_of_ble_eq_true rfl) (fun X C => ?_)
  refine g_aload_n C (i := 2) dL_level_0 rfl rfl ?_
  refine g_iconst C (0) dL_level_1 rfl ?_
  refine g_aload_n C (i := 0) dL_level_2 rfl rfl ?_
  refine g_iload_n C (i := 1) dL_level_3 rfl rfl ?_
  refine g_callV C (q := (RX5, TX5, 4)) (rest := _) dL_level_4 mm_X5_level ml_L_47 mv_yX5_level ms_yX5_level (h) rfl hX rfl rfl ⟨by decide, by omega, by omega, Nat.le_of_ble_eq_true rfl⟩ tk_noret (tk_thr fun n9 hn9 => ?_)
  refine g_catch C (name := "java/lang/IndexOutOfBoundsException") [] ⟨0, 9, 12, 20⟩ [] rfl (fun z hz => by cases hz) rfl (by decide) ml_L_20 mk_java_lang_IndexOutOfBoundsException (fun q9 => ?_)
  refine g_astore_n C (i := 3) dL_level_12 rfl (by decide) ?_
  refine g_iconst C (1) dL_level_13 rfl ?_
  exact g_ireturn C dL_level_14 ⟨by omega, by omega⟩ ⟨rfl, ⟨hn9, fun z => by cases z⟩, rfl, rfl, rfl⟩
theorem w_levelSum_ok (hX : σ.2.1 x = (5, 0)) (hO : σ'.2.1 o = (11, 1)) (a0 : Int32) (y : Int64) (h : tkCon false (.code yX5_levelSum cX5_levelSum 2 (some .long)) yX5_levelSum 10 [.ref x, .int a0] σ I L mc ms (.inl (some (.long y))) σ' I' L') :
    tkCon true (.codeWith yL_levelSum cL_levelSum 4 (some .int) [(0, 8, 11, 20)]) yL_levelSum 11 [.ref x, .int a0, .ref o] σ I L mc ms (.inl (some (.int 0))) σ' I' (tk2 L' o 0 y) := by
  refine tkCon.ofH (by decide) (Nat.le_of_ble_eq_true rfl) (fun X C => ?_)
  refine g_aload_n C (i := 2) dL_levelSum_0 rfl rfl ?_
  refine g_iconst C (0) dL_levelSum_1 rfl ?_
  refine g_aload_n C (i := 0) dL_levelSum_2 rfl rfl ?_
  refine g_iload_n C (i := 1) dL_levelSum_3 rfl rfl ?_
  refine g_callV C (q := (RX5, TX5, 4)) (rest := _) dL_levelSum_4 mm_X5_levelSum ml_L_50 mv_yX5_levelSum ms_yX5_levelSum (h) rfl hX rfl rfl ⟨by decide, by omega, by omega, Nat.le_of_ble_eq_true rfl⟩ (tk_retv ?_) tk_nothr
  refine g_ls C dL_levelSum_7 hO rfl rfl (j := 0) (by decide) (by decide) ?_
  refine g_goto C 14 dL_levelSum_8 (by decide) ?_
  refine g_iconst C (0) dL_levelSum_14 rfl ?_
  exact g_ireturn C dL_levelSum_15 ⟨by omega, by omega⟩ (tkEnd.rf rfl rfl rfl)
theorem w_levelSum_iob (hX : σ.2.1 x = (5, 0)) (a0 : Int32) (h : tkCon false (.code yX5_levelSum cX5_levelSum 2 (some .long)) yX5_levelSum 10 [.ref x, .int a0] σ I L mc ms xIOB σ' I' L') :
    tkCon true (.codeWith yL_levelSum cL_levelSum 4 (some .int) [(0, 8, 11, 20)]) yL_levelSum 11 [.ref x, .int a0, .ref o] σ I L mc ms (.inl (some (.int 1))) σ' I' L' := by
  refine tkCon.ofH (by decide) (Nat.le_of_ble_eq_true rfl) (fun X C => ?_)
  refine g_aload_n C (i := 2) dL_levelSum_0 rfl rfl ?_
  refine g_iconst C (0) dL_levelSum_1 rfl ?_
  refine g_aload_n C (i := 0) dL_levelSum_2 rfl rfl ?_
  refine g_iload_n C (i := 1) dL_levelSum_3 rfl rfl ?_
  refine g_callV C (q := (RX5, TX5, 4)) (rest := _) dL_levelSum_4 mm_X5_levelSum ml_L_50 mv_yX5_levelSum ms_yX5_levelSum (h) rfl hX rfl rfl ⟨by decide, by omega, by omega, Nat.le_of_ble_eq_true rfl⟩ tk_noret (tk_thr fun n9 hn9 => ?_)
  refine g_catch C (name := "java/lang/IndexOutOfBoundsException") [] ⟨0, 8, 11, 20⟩ [] rfl (fun z hz => by cases hz) rfl (by decide) ml_L_20 mk_java_lang_IndexOutOfBoundsException (fun q9 => ?_)
  refine g_astore_n C (i := 3) dL_levelSum_11 rfl (by decide) ?_
  refine g_iconst C (1) dL_levelSum_12 rfl ?_
  exact g_ireturn C dL_levelSum_13 ⟨by omega, by omega⟩ ⟨rfl, ⟨hn9, fun z => by cases z⟩, rfl, rfl, rfl⟩
theorem w_meanLevel_ok (hX : σ.2.1 x = (5, 0)) (hO : σ'.2.1 o = (13, 1)) (a0 : Int32) (y : UInt64) (h : tkCon false (.code yX5_meanLevel cX5_meanLevel 2 (some .double)) yX5_meanLevel 10 [.ref x, .int a0] σ I L mc ms (.inl (some (.double y))) σ' I' L') :
    tkCon true (.codeWith yL_meanLevel cL_meanLevel 4 (some .int) [(0, 8, 11, 20)]) yL_meanLevel 11 [.ref x, .int a0, .ref o] σ I L mc ms (.inl (some (.int 0))) σ' I' (tk2 L' o 0 y.toInt64) := by
  refine tkCon.ofH (by decide) (Nat.le_of_ble_eq_true rfl) (fun X C => ?_)
  refine g_aload_n C (i := 2) dL_meanLevel_0 rfl rfl ?_
  refine g_iconst C (0) dL_meanLevel_1 rfl ?_
  refine g_aload_n C (i := 0) dL_meanLevel_2 rfl rfl ?_
  refine g_iload_n C (i := 1) dL_meanLevel_3 rfl rfl ?_
  refine g_callV C (q := (RX5, TX5, 4)) (rest := _) dL_meanLevel_4 mm_X5_meanLevel ml_L_54 mv_yX5_meanLevel ms_yX5_meanLevel (h) rfl hX rfl rfl ⟨by decide, by omega, by omega, Nat.le_of_ble_eq_true rfl⟩ (tk_retv ?_) tk_nothr
  refine g_ds C dL_meanLevel_7 hO rfl rfl (j := 0) (by decide) (by decide) ?_
  refine g_goto C 14 dL_meanLevel_8 (by decide) ?_
  refine g_iconst C (0) dL_meanLevel_14 rfl ?_
  exact g_ireturn C dL_meanLevel_15 ⟨by omega, by omega⟩ (tkEnd.rf rfl rfl rfl)
theorem w_meanLevel_iob (hX : σ.2.1 x = (5, 0)) (a0 : Int32) (h : tkCon false (.code yX5_meanLevel cX5_meanLevel 2 (some .double)) yX5_meanLevel 10 [.ref x, .int a0] σ I L mc ms xIOB σ' I' L') :
    tkCon true (.codeWith yL_meanLevel cL_meanLevel 4 (some .int) [(0, 8, 11, 20)]) yL_meanLevel 11 [.ref x, .int a0, .ref o] σ I L mc ms (.inl (some (.int 1))) σ' I' L' := by
  refine tkCon.ofH (by decide) (Nat.le_of_ble_eq_true rfl) (fun X C => ?_)
  refine g_aload_n C (i := 2) dL_meanLevel_0 rfl rfl ?_
  refine g_iconst C (0) dL_meanLevel_1 rfl ?_
  refine g_aload_n C (i := 0) dL_meanLevel_2 rfl rfl ?_
  refine g_iload_n C (i := 1) dL_meanLevel_3 rfl rfl ?_
  refine g_callV C (q := (RX5, TX5, 4)) (rest := _) dL_meanLevel_4 mm_X5_meanLevel ml_L_54 mv_yX5_meanLevel ms_yX5_meanLevel (h) rfl hX rfl rfl ⟨by decide, by omega, by omega, Nat.le_of_ble_eq_true rfl⟩ tk_noret (tk_thr fun n9 hn9 => ?_)
  refine g_catch C (name := "java/lang/IndexOutOfBoundsException") [] ⟨0, 8, 11, 20⟩ [] rfl (fun z hz => by cases hz) rfl (by decide) ml_L_20 mk_java_lang_IndexOutOfBoundsException (fun q9 => ?_)
  refine g_astore_n C (i := 3) dL_meanLevel_11 rfl (by decide) ?_
  refine g_iconst C (1) dL_meanLevel_12 rfl ?_
  exact g_ireturn C dL_meanLevel_13 ⟨by omega, by omega⟩ ⟨rfl, ⟨hn9, fun z => by cases z⟩, rfl, rfl, rfl⟩
theorem w_nextChange_ok (hX : σ.2.1 x = (5, 0)) (hO : σ'.2.1 o = (11, 1)) (a0 : Int32) (y : Int32) (h : tkCon false (.code yX5_nextChange cX5_nextChange 2 (some .int)) yX5_nextChange 10 [.ref x, .int a0] σ I L mc ms (.inl (some (.int y))) σ' I' L') :
    tkCon true (.codeWith yL_nextChange cL_nextChange 4 (some .int) [(0, 9, 12, 13)]) yL_nextChange 11 [.ref x, .int a0, .ref o] σ I L mc ms (.inl (some (.int 0))) σ' I' (tk2 L' o 0 y.toInt64) := by
  refine tkCon.ofH (by decide) (Nat.le_of_ble_eq_true rfl) (fun X C => ?_)
  refine g_aload_n C (i := 2) dL_nextChange_0 rfl rfl ?_
  refine g_iconst C (0) dL_nextChange_1 rfl ?_
  refine g_aload_n C (i := 0) dL_nextChange_2 rfl rfl ?_
  refine g_iload_n C (i := 1) dL_nextChange_3 rfl rfl ?_
  refine g_callV C (q := (RX5, TX5, 4)) (rest := _) dL_nextChange_4 mm_X5_nextChange ml_L_44 mv_yX5_nextChange ms_yX5_nextChange (h) rfl hX rfl rfl ⟨by decide, by omega, by omega, Nat.le_of_ble_eq_true rfl⟩ (tk_retv ?_) tk_nothr
  refine g_i2l C dL_nextChange_7 ?_
  refine g_ls C dL_nextChange_8 hO rfl rfl (j := 0) (by decide) (by decide) ?_
  refine g_goto C 15 dL_nextChange_9 (by decide) ?_
  refine g_iconst C (0) dL_nextChange_15 rfl ?_
  exact g_ireturn C dL_nextChange_16 ⟨by omega, by omega⟩ (tkEnd.rf rfl rfl rfl)
theorem w_nextChange_iae (hX : σ.2.1 x = (5, 0)) (a0 : Int32) (h : tkCon false (.code yX5_nextChange cX5_nextChange 2 (some .int)) yX5_nextChange 10 [.ref x, .int a0] σ I L mc ms xIAE σ' I' L') :
    tkCon true (.codeWith yL_nextChange cL_nextChange 4 (some .int) [(0, 9, 12, 13)]) yL_nextChange 11 [.ref x, .int a0, .ref o] σ I L mc ms (.inl (some (.int 1))) σ' I' L' := by
  refine tkCon.ofH (by decide) (Nat.le_of_ble_eq_true rfl) (fun X C => ?_)
  refine g_aload_n C (i := 2) dL_nextChange_0 rfl rfl ?_
  refine g_iconst C (0) dL_nextChange_1 rfl ?_
  refine g_aload_n C (i := 0) dL_nextChange_2 rfl rfl ?_
  refine g_iload_n C (i := 1) dL_nextChange_3 rfl rfl ?_
  refine g_callV C (q := (RX5, TX5, 4)) (rest := _) dL_nextChange_4 mm_X5_nextChange ml_L_44 mv_yX5_nextChange ms_yX5_nextChange (h) rfl hX rfl rfl ⟨by decide, by omega, by omega, Nat.le_of_ble_eq_true rfl⟩ tk_noret (tk_thr fun n9 hn9 => ?_)
  refine g_catch C (name := "java/lang/IllegalArgumentException") [] ⟨0, 9, 12, 13⟩ [] rfl (fun z hz => by cases hz) rfl (by decide) ml_L_13 mk_java_lang_IllegalArgumentException (fun q9 => ?_)
  refine g_astore_n C (i := 3) dL_nextChange_12 rfl (by decide) ?_
  refine g_iconst C (1) dL_nextChange_13 rfl ?_
  exact g_ireturn C dL_nextChange_14 ⟨by omega, by omega⟩ ⟨rfl, ⟨hn9, fun z => by cases z⟩, rfl, rfl, rfl⟩
theorem w_restore_ok (hX : σ.2.1 x = (5, 0)) (hO : σ'.2.1 o = (11, 1)) (y : Int32) (h : tkCon false (.code yX5_restore cX5_restore 2 (some .int)) yX5_restore 10 [.ref x] σ I L mc ms (.inl (some (.int y))) σ' I' L') :
    tkCon true (.codeWith yL_restore cL_restore 3 (some .int) [(0, 8, 11, 15)]) yL_restore 11 [.ref x, .ref o] σ I L mc ms (.inl (some (.int 0))) σ' I' (tk2 L' o 0 y.toInt64) := by
  refine tkCon.ofH (by decide) (Nat.le_of_ble_eq_true rfl) (fun X C => ?_)
  refine g_aload_n C (i := 1) dL_restore_0 rfl rfl ?_
  refine g_iconst C (0) dL_restore_1 rfl ?_
  refine g_aload_n C (i := 0) dL_restore_2 rfl rfl ?_
  refine g_callV C (q := (RX5, TX5, 4)) (rest := _) dL_restore_3 mm_X5_restore ml_L_81 mv_yX5_restore ms_yX5_restore (h) rfl hX rfl rfl ⟨by decide, by omega, by omega, Nat.le_of_ble_eq_true rfl⟩ (tk_retv ?_) tk_nothr
  refine g_i2l C dL_restore_6 ?_
  refine g_ls C dL_restore_7 hO rfl rfl (j := 0) (by decide) (by decide) ?_
  refine g_goto C 14 dL_restore_8 (by decide) ?_
  refine g_iconst C (0) dL_restore_14 rfl ?_
  exact g_ireturn C dL_restore_15 ⟨by omega, by omega⟩ (tkEnd.rf rfl rfl rfl)
theorem w_restore_ise (hX : σ.2.1 x = (5, 0)) (h : tkCon false (.code yX5_restore cX5_restore 2 (some .int)) yX5_restore 10 [.ref x] σ I L mc ms xISE σ' I' L') :
    tkCon true (.codeWith yL_restore cL_restore 3 (some .int) [(0, 8, 11, 15)]) yL_restore 11 [.ref x, .ref o] σ I L mc ms (.inl (some (.int 1))) σ' I' L' := by
  refine tkCon.ofH (by decide) (Nat.le_of_ble_eq_true rfl) (fun X C => ?_)
  refine g_aload_n C (i := 1) dL_restore_0 rfl rfl ?_
  refine g_iconst C (0) dL_restore_1 rfl ?_
  refine g_aload_n C (i := 0) dL_restore_2 rfl rfl ?_
  refine g_callV C (q := (RX5, TX5, 4)) (rest := _) dL_restore_3 mm_X5_restore ml_L_81 mv_yX5_restore ms_yX5_restore (h) rfl hX rfl rfl ⟨by decide, by omega, by omega, Nat.le_of_ble_eq_true rfl⟩ tk_noret (tk_thr fun n9 hn9 => ?_)
  refine g_catch C (name := "java/lang/IllegalStateException") [] ⟨0, 8, 11, 15⟩ [] rfl (fun z hz => by cases hz) rfl (by decide) ml_L_15 mk_java_lang_IllegalStateException (fun q9 => ?_)
  refine g_astore_n C (i := 2) dL_restore_11 rfl (by decide) ?_
  refine g_iconst C (1) dL_restore_12 rfl ?_
  exact g_ireturn C dL_restore_13 ⟨by omega, by omega⟩ ⟨rfl, ⟨hn9, fun z => by cases z⟩, rfl, rfl, rfl⟩
theorem w_run_ok (hX : σ.2.1 x = (5, 0)) (hO : σ'.2.1 o = (11, 1)) (a0 : Int32) (y : Int32) (h : tkCon false (.code yX5_run cX5_run 2 (some .int)) yX5_run 10 [.ref x, .int a0] σ I L mc ms (.inl (some (.int y))) σ' I' L') :
    tkCon true (.codeWith yL_run cL_run 4 (some .int) [(0, 9, 12, 13)]) yL_run 11 [.ref x, .int a0, .ref o] σ I L mc ms (.inl (some (.int 0))) σ' I' (tk2 L' o 0 y.toInt64) := by
  refine tkCon.ofH (by decide) (Nat.le_of_ble_eq_true rfl) (fun X C => ?_)
  refine g_aload_n C (i := 2) dL_run_0 rfl rfl ?_
  refine g_iconst C (0) dL_run_1 rfl ?_
  refine g_aload_n C (i := 0) dL_run_2 rfl rfl ?_
  refine g_iload_n C (i := 1) dL_run_3 rfl rfl ?_
  refine g_callV C (q := (RX5, TX5, 4)) (rest := _) dL_run_4 mm_X5_run ml_L_36 mv_yX5_run ms_yX5_run (h) rfl hX rfl rfl ⟨by decide, by omega, by omega, Nat.le_of_ble_eq_true rfl⟩ (tk_retv ?_) tk_nothr
  refine g_i2l C dL_run_7 ?_
  refine g_ls C dL_run_8 hO rfl rfl (j := 0) (by decide) (by decide) ?_
  refine g_goto C 15 dL_run_9 (by decide) ?_
  refine g_iconst C (0) dL_run_15 rfl ?_
  exact g_ireturn C dL_run_16 ⟨by omega, by omega⟩ (tkEnd.rf rfl rfl rfl)
theorem w_run_iae (hX : σ.2.1 x = (5, 0)) (a0 : Int32) (h : tkCon false (.code yX5_run cX5_run 2 (some .int)) yX5_run 10 [.ref x, .int a0] σ I L mc ms xIAE σ' I' L') :
    tkCon true (.codeWith yL_run cL_run 4 (some .int) [(0, 9, 12, 13)]) yL_run 11 [.ref x, .int a0, .ref o] σ I L mc ms (.inl (some (.int 1))) σ' I' L' := by
  refine tkCon.ofH (by decide) (Nat.le_of_ble_eq_true rfl) (fun X C => ?_)
  refine g_aload_n C (i := 2) dL_run_0 rfl rfl ?_
  refine g_iconst C (0) dL_run_1 rfl ?_
  refine g_aload_n C (i := 0) dL_run_2 rfl rfl ?_
  refine g_iload_n C (i := 1) dL_run_3 rfl rfl ?_
  refine g_callV C (q := (RX5, TX5, 4)) (rest := _) dL_run_4 mm_X5_run ml_L_36 mv_yX5_run ms_yX5_run (h) rfl hX rfl rfl ⟨by decide, by omega, by omega, Nat.le_of_ble_eq_true rfl⟩ tk_noret (tk_thr fun n9 hn9 => ?_)
  refine g_catch C (name := "java/lang/IllegalArgumentException") [] ⟨0, 9, 12, 13⟩ [] rfl (fun z hz => by cases hz) rfl (by decide) ml_L_13 mk_java_lang_IllegalArgumentException (fun q9 => ?_)
  refine g_astore_n C (i := 3) dL_run_12 rfl (by decide) ?_
  refine g_iconst C (1) dL_run_13 rfl ?_
  exact g_ireturn C dL_run_14 ⟨by omega, by omega⟩ ⟨rfl, ⟨hn9, fun z => by cases z⟩, rfl, rfl, rfl⟩
theorem w_runUntil_ok (hX : σ.2.1 x = (5, 0)) (hO : σ'.2.1 o = (11, 1)) (a0 a1 a2 a3 : Int32) (y : Int32) (h : tkCon false (.code yX5_runUntil cX5_runUntil 5 (some .int)) yX5_runUntil 10 [.ref x, .int a0, .int a1, .int a2, .int a3] σ I L mc ms (.inl (some (.int y))) σ' I' L') :
    tkCon true (.codeWith yL_runUntil cL_runUntil 7 (some .int) [(0, 14, 17, 20), (0, 14, 21, 13)]) yL_runUntil 11 [.ref x, .int a0, .int a1, .int a2, .int a3, .ref o] σ I L mc ms (.inl (some (.int 0))) σ' I' (tk2 L' o 0 y.toInt64) := by
  refine tkCon.ofH (by decide) (Nat.le_of_ble_eq_true rfl) (fun X C => ?_)
  refine g_aload C (i := 5) dL_runUntil_0 rfl ?_
  refine g_iconst C (0) dL_runUntil_2 rfl ?_
  refine g_aload_n C (i := 0) dL_runUntil_3 rfl rfl ?_
  refine g_iload_n C (i := 1) dL_runUntil_4 rfl rfl ?_
  refine g_iload_n C (i := 2) dL_runUntil_5 rfl rfl ?_
  refine g_iload_n C (i := 3) dL_runUntil_6 rfl rfl ?_
  refine g_iload C (i := 4) dL_runUntil_7 rfl ?_
  refine g_callV C (q := (RX5, TX5, 4)) (rest := _) dL_runUntil_9 mm_X5_runUntil ml_L_40 mv_yX5_runUntil ms_yX5_runUntil (h) rfl hX rfl rfl ⟨by decide, by omega, by omega, Nat.le_of_ble_eq_true rfl⟩ (tk_retv ?_) tk_nothr
  refine g_i2l C dL_runUntil_12 ?_
  refine g_ls C dL_runUntil_13 hO rfl rfl (j := 0) (by decide) (by decide) ?_
  refine g_goto C 25 dL_runUntil_14 (by decide) ?_
  refine g_iconst C (0) dL_runUntil_25 rfl ?_
  exact g_ireturn C dL_runUntil_26 ⟨by omega, by omega⟩ (tkEnd.rf rfl rfl rfl)
theorem w_runUntil_iob (hX : σ.2.1 x = (5, 0)) (a0 a1 a2 a3 : Int32) (h : tkCon false (.code yX5_runUntil cX5_runUntil 5 (some .int)) yX5_runUntil 10 [.ref x, .int a0, .int a1, .int a2, .int a3] σ I L mc ms xIOB σ' I' L') :
    tkCon true (.codeWith yL_runUntil cL_runUntil 7 (some .int) [(0, 14, 17, 20), (0, 14, 21, 13)]) yL_runUntil 11 [.ref x, .int a0, .int a1, .int a2, .int a3, .ref o] σ I L mc ms (.inl (some (.int 1))) σ' I' L' := by
  refine tkCon.ofH (by decide) (Nat.le_of_ble_eq_true rfl) (fun X C => ?_)
  refine g_aload C (i := 5) dL_runUntil_0 rfl ?_
  refine g_iconst C (0) dL_runUntil_2 rfl ?_
  refine g_aload_n C (i := 0) dL_runUntil_3 rfl rfl ?_
  refine g_iload_n C (i := 1) dL_runUntil_4 rfl rfl ?_
  refine g_iload_n C (i := 2) dL_runUntil_5 rfl rfl ?_
  refine g_iload_n C (i := 3) dL_runUntil_6 rfl rfl ?_
  refine g_iload C (i := 4) dL_runUntil_7 rfl ?_
  refine g_callV C (q := (RX5, TX5, 4)) (rest := _) dL_runUntil_9 mm_X5_runUntil ml_L_40 mv_yX5_runUntil ms_yX5_runUntil (h) rfl hX rfl rfl ⟨by decide, by omega, by omega, Nat.le_of_ble_eq_true rfl⟩ tk_noret (tk_thr fun n9 hn9 => ?_)
  refine g_catch C (name := "java/lang/IndexOutOfBoundsException") [] ⟨0, 14, 17, 20⟩ [⟨0, 14, 21, 13⟩] rfl (fun z hz => by cases hz) rfl (by decide) ml_L_20 mk_java_lang_IndexOutOfBoundsException (fun q9 => ?_)
  refine g_astore C (i := 6) dL_runUntil_17 (by decide) ?_
  refine g_iconst C (1) dL_runUntil_19 rfl ?_
  exact g_ireturn C dL_runUntil_20 ⟨by omega, by omega⟩ ⟨rfl, ⟨hn9, fun z => by cases z⟩, rfl, rfl, rfl⟩
theorem w_runUntil_iae (hX : σ.2.1 x = (5, 0)) (a0 a1 a2 a3 : Int32) (h : tkCon false (.code yX5_runUntil cX5_runUntil 5 (some .int)) yX5_runUntil 10 [.ref x, .int a0, .int a1, .int a2, .int a3] σ I L mc ms xIAE σ' I' L') :
    tkCon true (.codeWith yL_runUntil cL_runUntil 7 (some .int) [(0, 14, 17, 20), (0, 14, 21, 13)]) yL_runUntil 11 [.ref x, .int a0, .int a1, .int a2, .int a3, .ref o] σ I L mc ms (.inl (some (.int 2))) σ' I' L' := by
  refine tkCon.ofH (by decide) (Nat.le_of_ble_eq_true rfl) (fun X C => ?_)
  refine g_aload C (i := 5) dL_runUntil_0 rfl ?_
  refine g_iconst C (0) dL_runUntil_2 rfl ?_
  refine g_aload_n C (i := 0) dL_runUntil_3 rfl rfl ?_
  refine g_iload_n C (i := 1) dL_runUntil_4 rfl rfl ?_
  refine g_iload_n C (i := 2) dL_runUntil_5 rfl rfl ?_
  refine g_iload_n C (i := 3) dL_runUntil_6 rfl rfl ?_
  refine g_iload C (i := 4) dL_runUntil_7 rfl ?_
  refine g_callV C (q := (RX5, TX5, 4)) (rest := _) dL_runUntil_9 mm_X5_runUntil ml_L_40 mv_yX5_runUntil ms_yX5_runUntil (h) rfl hX rfl rfl ⟨by decide, by omega, by omega, Nat.le_of_ble_eq_true rfl⟩ tk_noret (tk_thr fun n9 hn9 => ?_)
  refine g_catch C (name := "java/lang/IllegalArgumentException") [⟨0, 14, 17, 20⟩] ⟨0, 14, 21, 13⟩ [] rfl (fun z hz => by
    simp only [List.mem_cons, List.not_mem_nil, or_false] at hz
    rcases hz with rfl
    · exact Or.inr ⟨by decide, _, ml_L_20, by decide⟩) rfl (by decide) ml_L_13 mk_java_lang_IllegalArgumentException (fun q9 => ?_)
  refine g_astore C (i := 6) dL_runUntil_21 (by decide) ?_
  refine g_iconst C (2) dL_runUntil_23 rfl ?_
  exact g_ireturn C dL_runUntil_24 ⟨by omega, by omega⟩ ⟨rfl, ⟨hn9, fun z => by cases z⟩, rfl, rfl, rfl⟩
theorem w_save_ok (hX : σ.2.1 x = (5, 0)) (hO : σ'.2.1 o = (11, 1)) (y : Int32) (h : tkCon false (.code yX5_save cX5_save 2 (some .int)) yX5_save 10 [.ref x] σ I L mc ms (.inl (some (.int y))) σ' I' L') :
    tkCon true (.codeWith yL_save cL_save 3 (some .int) [(0, 8, 11, 15)]) yL_save 11 [.ref x, .ref o] σ I L mc ms (.inl (some (.int 0))) σ' I' (tk2 L' o 0 y.toInt64) := by
  refine tkCon.ofH (by decide) (Nat.le_of_ble_eq_true rfl) (fun X C => ?_)
  refine g_aload_n C (i := 1) dL_save_0 rfl rfl ?_
  refine g_iconst C (0) dL_save_1 rfl ?_
  refine g_aload_n C (i := 0) dL_save_2 rfl rfl ?_
  refine g_callV C (q := (RX5, TX5, 4)) (rest := _) dL_save_3 mm_X5_save ml_L_77 mv_yX5_save ms_yX5_save (h) rfl hX rfl rfl ⟨by decide, by omega, by omega, Nat.le_of_ble_eq_true rfl⟩ (tk_retv ?_) tk_nothr
  refine g_i2l C dL_save_6 ?_
  refine g_ls C dL_save_7 hO rfl rfl (j := 0) (by decide) (by decide) ?_
  refine g_goto C 14 dL_save_8 (by decide) ?_
  refine g_iconst C (0) dL_save_14 rfl ?_
  exact g_ireturn C dL_save_15 ⟨by omega, by omega⟩ (tkEnd.rf rfl rfl rfl)
theorem w_save_ise (hX : σ.2.1 x = (5, 0)) (h : tkCon false (.code yX5_save cX5_save 2 (some .int)) yX5_save 10 [.ref x] σ I L mc ms xISE σ' I' L') :
    tkCon true (.codeWith yL_save cL_save 3 (some .int) [(0, 8, 11, 15)]) yL_save 11 [.ref x, .ref o] σ I L mc ms (.inl (some (.int 1))) σ' I' L' := by
  refine tkCon.ofH (by decide) (Nat.le_of_ble_eq_true rfl) (fun X C => ?_)
  refine g_aload_n C (i := 1) dL_save_0 rfl rfl ?_
  refine g_iconst C (0) dL_save_1 rfl ?_
  refine g_aload_n C (i := 0) dL_save_2 rfl rfl ?_
  refine g_callV C (q := (RX5, TX5, 4)) (rest := _) dL_save_3 mm_X5_save ml_L_77 mv_yX5_save ms_yX5_save (h) rfl hX rfl rfl ⟨by decide, by omega, by omega, Nat.le_of_ble_eq_true rfl⟩ tk_noret (tk_thr fun n9 hn9 => ?_)
  refine g_catch C (name := "java/lang/IllegalStateException") [] ⟨0, 8, 11, 15⟩ [] rfl (fun z hz => by cases hz) rfl (by decide) ml_L_15 mk_java_lang_IllegalStateException (fun q9 => ?_)
  refine g_astore_n C (i := 2) dL_save_11 rfl (by decide) ?_
  refine g_iconst C (1) dL_save_12 rfl ?_
  exact g_ireturn C dL_save_13 ⟨by omega, by omega⟩ ⟨rfl, ⟨hn9, fun z => by cases z⟩, rfl, rfl, rfl⟩
theorem w_setLeak_ok (hX : σ.2.1 x = (5, 0)) (hO : σ'.2.1 o = (11, 1)) (a0 a1 : Int32) (y : Int32) (h : tkCon false (.code yX5_setLeak cX5_setLeak 4 (some .int)) yX5_setLeak 10 [.ref x, .int a0, .int a1] σ I L mc ms (.inl (some (.int y))) σ' I' L') :
    tkCon true (.codeWith yL_setLeak cL_setLeak 5 (some .int) [(0, 10, 13, 20), (0, 10, 17, 13)]) yL_setLeak 11 [.ref x, .int a0, .int a1, .ref o] σ I L mc ms (.inl (some (.int 0))) σ' I' (tk2 L' o 0 y.toInt64) := by
  refine tkCon.ofH (by decide) (Nat.le_of_ble_eq_true rfl) (fun X C => ?_)
  refine g_aload_n C (i := 3) dL_setLeak_0 rfl rfl ?_
  refine g_iconst C (0) dL_setLeak_1 rfl ?_
  refine g_aload_n C (i := 0) dL_setLeak_2 rfl rfl ?_
  refine g_iload_n C (i := 1) dL_setLeak_3 rfl rfl ?_
  refine g_iload_n C (i := 2) dL_setLeak_4 rfl rfl ?_
  refine g_callV C (q := (RX5, TX5, 4)) (rest := _) dL_setLeak_5 mm_X5_setLeak ml_L_30 mv_yX5_setLeak ms_yX5_setLeak (h) rfl hX rfl rfl ⟨by decide, by omega, by omega, Nat.le_of_ble_eq_true rfl⟩ (tk_retv ?_) tk_nothr
  refine g_i2l C dL_setLeak_8 ?_
  refine g_ls C dL_setLeak_9 hO rfl rfl (j := 0) (by decide) (by decide) ?_
  refine g_goto C 21 dL_setLeak_10 (by decide) ?_
  refine g_iconst C (0) dL_setLeak_21 rfl ?_
  exact g_ireturn C dL_setLeak_22 ⟨by omega, by omega⟩ (tkEnd.rf rfl rfl rfl)
theorem w_setLeak_iob (hX : σ.2.1 x = (5, 0)) (a0 a1 : Int32) (h : tkCon false (.code yX5_setLeak cX5_setLeak 4 (some .int)) yX5_setLeak 10 [.ref x, .int a0, .int a1] σ I L mc ms xIOB σ' I' L') :
    tkCon true (.codeWith yL_setLeak cL_setLeak 5 (some .int) [(0, 10, 13, 20), (0, 10, 17, 13)]) yL_setLeak 11 [.ref x, .int a0, .int a1, .ref o] σ I L mc ms (.inl (some (.int 1))) σ' I' L' := by
  refine tkCon.ofH (by decide) (Nat.le_of_ble_eq_true rfl) (fun X C => ?_)
  refine g_aload_n C (i := 3) dL_setLeak_0 rfl rfl ?_
  refine g_iconst C (0) dL_setLeak_1 rfl ?_
  refine g_aload_n C (i := 0) dL_setLeak_2 rfl rfl ?_
  refine g_iload_n C (i := 1) dL_setLeak_3 rfl rfl ?_
  refine g_iload_n C (i := 2) dL_setLeak_4 rfl rfl ?_
  refine g_callV C (q := (RX5, TX5, 4)) (rest := _) dL_setLeak_5 mm_X5_setLeak ml_L_30 mv_yX5_setLeak ms_yX5_setLeak (h) rfl hX rfl rfl ⟨by decide, by omega, by omega, Nat.le_of_ble_eq_true rfl⟩ tk_noret (tk_thr fun n9 hn9 => ?_)
  refine g_catch C (name := "java/lang/IndexOutOfBoundsException") [] ⟨0, 10, 13, 20⟩ [⟨0, 10, 17, 13⟩] rfl (fun z hz => by cases hz) rfl (by decide) ml_L_20 mk_java_lang_IndexOutOfBoundsException (fun q9 => ?_)
  refine g_astore C (i := 4) dL_setLeak_13 (by decide) ?_
  refine g_iconst C (1) dL_setLeak_15 rfl ?_
  exact g_ireturn C dL_setLeak_16 ⟨by omega, by omega⟩ ⟨rfl, ⟨hn9, fun z => by cases z⟩, rfl, rfl, rfl⟩
theorem w_setLeak_iae (hX : σ.2.1 x = (5, 0)) (a0 a1 : Int32) (h : tkCon false (.code yX5_setLeak cX5_setLeak 4 (some .int)) yX5_setLeak 10 [.ref x, .int a0, .int a1] σ I L mc ms xIAE σ' I' L') :
    tkCon true (.codeWith yL_setLeak cL_setLeak 5 (some .int) [(0, 10, 13, 20), (0, 10, 17, 13)]) yL_setLeak 11 [.ref x, .int a0, .int a1, .ref o] σ I L mc ms (.inl (some (.int 2))) σ' I' L' := by
  refine tkCon.ofH (by decide) (Nat.le_of_ble_eq_true rfl) (fun X C => ?_)
  refine g_aload_n C (i := 3) dL_setLeak_0 rfl rfl ?_
  refine g_iconst C (0) dL_setLeak_1 rfl ?_
  refine g_aload_n C (i := 0) dL_setLeak_2 rfl rfl ?_
  refine g_iload_n C (i := 1) dL_setLeak_3 rfl rfl ?_
  refine g_iload_n C (i := 2) dL_setLeak_4 rfl rfl ?_
  refine g_callV C (q := (RX5, TX5, 4)) (rest := _) dL_setLeak_5 mm_X5_setLeak ml_L_30 mv_yX5_setLeak ms_yX5_setLeak (h) rfl hX rfl rfl ⟨by decide, by omega, by omega, Nat.le_of_ble_eq_true rfl⟩ tk_noret (tk_thr fun n9 hn9 => ?_)
  refine g_catch C (name := "java/lang/IllegalArgumentException") [⟨0, 10, 13, 20⟩] ⟨0, 10, 17, 13⟩ [] rfl (fun z hz => by
    simp only [List.mem_cons, List.not_mem_nil, or_false] at hz
    rcases hz with rfl
    · exact Or.inr ⟨by decide, _, ml_L_20, by decide⟩) rfl (by decide) ml_L_13 mk_java_lang_IllegalArgumentException (fun q9 => ?_)
  refine g_astore C (i := 4) dL_setLeak_17 (by decide) ?_
  refine g_iconst C (2) dL_setLeak_19 rfl ?_
  exact g_ireturn C dL_setLeak_20 ⟨by omega, by omega⟩ ⟨rfl, ⟨hn9, fun z => by cases z⟩, rfl, rfl, rfl⟩
theorem w_setLevel_ok (hX : σ.2.1 x = (5, 0)) (hO : σ'.2.1 o = (11, 1)) (a0 a1 : Int32) (y : Int32) (h : tkCon false (.code yX5_setLevel cX5_setLevel 4 (some .int)) yX5_setLevel 10 [.ref x, .int a0, .int a1] σ I L mc ms (.inl (some (.int y))) σ' I' L') :
    tkCon true (.codeWith yL_setLevel cL_setLevel 5 (some .int) [(0, 10, 13, 20), (0, 10, 17, 13)]) yL_setLevel 11 [.ref x, .int a0, .int a1, .ref o] σ I L mc ms (.inl (some (.int 0))) σ' I' (tk2 L' o 0 y.toInt64) := by
  refine tkCon.ofH (by decide) (Nat.le_of_ble_eq_true rfl) (fun X C => ?_)
  refine g_aload_n C (i := 3) dL_setLevel_0 rfl rfl ?_
  refine g_iconst C (0) dL_setLevel_1 rfl ?_
  refine g_aload_n C (i := 0) dL_setLevel_2 rfl rfl ?_
  refine g_iload_n C (i := 1) dL_setLevel_3 rfl rfl ?_
  refine g_iload_n C (i := 2) dL_setLevel_4 rfl rfl ?_
  refine g_callV C (q := (RX5, TX5, 4)) (rest := _) dL_setLevel_5 mm_X5_setLevel ml_L_26 mv_yX5_setLevel ms_yX5_setLevel (h) rfl hX rfl rfl ⟨by decide, by omega, by omega, Nat.le_of_ble_eq_true rfl⟩ (tk_retv ?_) tk_nothr
  refine g_i2l C dL_setLevel_8 ?_
  refine g_ls C dL_setLevel_9 hO rfl rfl (j := 0) (by decide) (by decide) ?_
  refine g_goto C 21 dL_setLevel_10 (by decide) ?_
  refine g_iconst C (0) dL_setLevel_21 rfl ?_
  exact g_ireturn C dL_setLevel_22 ⟨by omega, by omega⟩ (tkEnd.rf rfl rfl rfl)
theorem w_setLevel_iob (hX : σ.2.1 x = (5, 0)) (a0 a1 : Int32) (h : tkCon false (.code yX5_setLevel cX5_setLevel 4 (some .int)) yX5_setLevel 10 [.ref x, .int a0, .int a1] σ I L mc ms xIOB σ' I' L') :
    tkCon true (.codeWith yL_setLevel cL_setLevel 5 (some .int) [(0, 10, 13, 20), (0, 10, 17, 13)]) yL_setLevel 11 [.ref x, .int a0, .int a1, .ref o] σ I L mc ms (.inl (some (.int 1))) σ' I' L' := by
  refine tkCon.ofH (by decide) (Nat.le_of_ble_eq_true rfl) (fun X C => ?_)
  refine g_aload_n C (i := 3) dL_setLevel_0 rfl rfl ?_
  refine g_iconst C (0) dL_setLevel_1 rfl ?_
  refine g_aload_n C (i := 0) dL_setLevel_2 rfl rfl ?_
  refine g_iload_n C (i := 1) dL_setLevel_3 rfl rfl ?_
  refine g_iload_n C (i := 2) dL_setLevel_4 rfl rfl ?_
  refine g_callV C (q := (RX5, TX5, 4)) (rest := _) dL_setLevel_5 mm_X5_setLevel ml_L_26 mv_yX5_setLevel ms_yX5_setLevel (h) rfl hX rfl rfl ⟨by decide, by omega, by omega, Nat.le_of_ble_eq_true rfl⟩ tk_noret (tk_thr fun n9 hn9 => ?_)
  refine g_catch C (name := "java/lang/IndexOutOfBoundsException") [] ⟨0, 10, 13, 20⟩ [⟨0, 10, 17, 13⟩] rfl (fun z hz => by cases hz) rfl (by decide) ml_L_20 mk_java_lang_IndexOutOfBoundsException (fun q9 => ?_)
  refine g_astore C (i := 4) dL_setLevel_13 (by decide) ?_
  refine g_iconst C (1) dL_setLevel_15 rfl ?_
  exact g_ireturn C dL_setLevel_16 ⟨by omega, by omega⟩ ⟨rfl, ⟨hn9, fun z => by cases z⟩, rfl, rfl, rfl⟩
theorem w_setLevel_iae (hX : σ.2.1 x = (5, 0)) (a0 a1 : Int32) (h : tkCon false (.code yX5_setLevel cX5_setLevel 4 (some .int)) yX5_setLevel 10 [.ref x, .int a0, .int a1] σ I L mc ms xIAE σ' I' L') :
    tkCon true (.codeWith yL_setLevel cL_setLevel 5 (some .int) [(0, 10, 13, 20), (0, 10, 17, 13)]) yL_setLevel 11 [.ref x, .int a0, .int a1, .ref o] σ I L mc ms (.inl (some (.int 2))) σ' I' L' := by
  refine tkCon.ofH (by decide) (Nat.le_of_ble_eq_true rfl) (fun X C => ?_)
  refine g_aload_n C (i := 3) dL_setLevel_0 rfl rfl ?_
  refine g_iconst C (0) dL_setLevel_1 rfl ?_
  refine g_aload_n C (i := 0) dL_setLevel_2 rfl rfl ?_
  refine g_iload_n C (i := 1) dL_setLevel_3 rfl rfl ?_
  refine g_iload_n C (i := 2) dL_setLevel_4 rfl rfl ?_
  refine g_callV C (q := (RX5, TX5, 4)) (rest := _) dL_setLevel_5 mm_X5_setLevel ml_L_26 mv_yX5_setLevel ms_yX5_setLevel (h) rfl hX rfl rfl ⟨by decide, by omega, by omega, Nat.le_of_ble_eq_true rfl⟩ tk_noret (tk_thr fun n9 hn9 => ?_)
  refine g_catch C (name := "java/lang/IllegalArgumentException") [⟨0, 10, 13, 20⟩] ⟨0, 10, 17, 13⟩ [] rfl (fun z hz => by
    simp only [List.mem_cons, List.not_mem_nil, or_false] at hz
    rcases hz with rfl
    · exact Or.inr ⟨by decide, _, ml_L_20, by decide⟩) rfl (by decide) ml_L_13 mk_java_lang_IllegalArgumentException (fun q9 => ?_)
  refine g_astore C (i := 4) dL_setLevel_17 (by decide) ?_
  refine g_iconst C (2) dL_setLevel_19 rfl ?_
  exact g_ireturn C dL_setLevel_20 ⟨by omega, by omega⟩ ⟨rfl, ⟨hn9, fun z => by cases z⟩, rfl, rfl, rfl⟩
theorem w_setRate_ok (hX : σ.2.1 x = (5, 0)) (hO : σ'.2.1 o = (11, 1)) (a0 a1 : Int32) (y : Int32) (h : tkCon false (.code yX5_setRate cX5_setRate 4 (some .int)) yX5_setRate 10 [.ref x, .int a0, .int a1] σ I L mc ms (.inl (some (.int y))) σ' I' L') :
    tkCon true (.codeWith yL_setRate cL_setRate 5 (some .int) [(0, 10, 13, 20), (0, 10, 17, 13)]) yL_setRate 11 [.ref x, .int a0, .int a1, .ref o] σ I L mc ms (.inl (some (.int 0))) σ' I' (tk2 L' o 0 y.toInt64) := by
  refine tkCon.ofH (by decide) (Nat.le_of_ble_eq_true rfl) (fun X C => ?_)
  refine g_aload_n C (i := 3) dL_setRate_0 rfl rfl ?_
  refine g_iconst C (0) dL_setRate_1 rfl ?_
  refine g_aload_n C (i := 0) dL_setRate_2 rfl rfl ?_
  refine g_iload_n C (i := 1) dL_setRate_3 rfl rfl ?_
  refine g_iload_n C (i := 2) dL_setRate_4 rfl rfl ?_
  refine g_callV C (q := (RX5, TX5, 4)) (rest := _) dL_setRate_5 mm_X5_setRate ml_L_33 mv_yX5_setRate ms_yX5_setRate (h) rfl hX rfl rfl ⟨by decide, by omega, by omega, Nat.le_of_ble_eq_true rfl⟩ (tk_retv ?_) tk_nothr
  refine g_i2l C dL_setRate_8 ?_
  refine g_ls C dL_setRate_9 hO rfl rfl (j := 0) (by decide) (by decide) ?_
  refine g_goto C 21 dL_setRate_10 (by decide) ?_
  refine g_iconst C (0) dL_setRate_21 rfl ?_
  exact g_ireturn C dL_setRate_22 ⟨by omega, by omega⟩ (tkEnd.rf rfl rfl rfl)
theorem w_setRate_iob (hX : σ.2.1 x = (5, 0)) (a0 a1 : Int32) (h : tkCon false (.code yX5_setRate cX5_setRate 4 (some .int)) yX5_setRate 10 [.ref x, .int a0, .int a1] σ I L mc ms xIOB σ' I' L') :
    tkCon true (.codeWith yL_setRate cL_setRate 5 (some .int) [(0, 10, 13, 20), (0, 10, 17, 13)]) yL_setRate 11 [.ref x, .int a0, .int a1, .ref o] σ I L mc ms (.inl (some (.int 1))) σ' I' L' := by
  refine tkCon.ofH (by decide) (Nat.le_of_ble_eq_true rfl) (fun X C => ?_)
  refine g_aload_n C (i := 3) dL_setRate_0 rfl rfl ?_
  refine g_iconst C (0) dL_setRate_1 rfl ?_
  refine g_aload_n C (i := 0) dL_setRate_2 rfl rfl ?_
  refine g_iload_n C (i := 1) dL_setRate_3 rfl rfl ?_
  refine g_iload_n C (i := 2) dL_setRate_4 rfl rfl ?_
  refine g_callV C (q := (RX5, TX5, 4)) (rest := _) dL_setRate_5 mm_X5_setRate ml_L_33 mv_yX5_setRate ms_yX5_setRate (h) rfl hX rfl rfl ⟨by decide, by omega, by omega, Nat.le_of_ble_eq_true rfl⟩ tk_noret (tk_thr fun n9 hn9 => ?_)
  refine g_catch C (name := "java/lang/IndexOutOfBoundsException") [] ⟨0, 10, 13, 20⟩ [⟨0, 10, 17, 13⟩] rfl (fun z hz => by cases hz) rfl (by decide) ml_L_20 mk_java_lang_IndexOutOfBoundsException (fun q9 => ?_)
  refine g_astore C (i := 4) dL_setRate_13 (by decide) ?_
  refine g_iconst C (1) dL_setRate_15 rfl ?_
  exact g_ireturn C dL_setRate_16 ⟨by omega, by omega⟩ ⟨rfl, ⟨hn9, fun z => by cases z⟩, rfl, rfl, rfl⟩
theorem w_setRate_iae (hX : σ.2.1 x = (5, 0)) (a0 a1 : Int32) (h : tkCon false (.code yX5_setRate cX5_setRate 4 (some .int)) yX5_setRate 10 [.ref x, .int a0, .int a1] σ I L mc ms xIAE σ' I' L') :
    tkCon true (.codeWith yL_setRate cL_setRate 5 (some .int) [(0, 10, 13, 20), (0, 10, 17, 13)]) yL_setRate 11 [.ref x, .int a0, .int a1, .ref o] σ I L mc ms (.inl (some (.int 2))) σ' I' L' := by
  refine tkCon.ofH (by decide) (Nat.le_of_ble_eq_true rfl) (fun X C => ?_)
  refine g_aload_n C (i := 3) dL_setRate_0 rfl rfl ?_
  refine g_iconst C (0) dL_setRate_1 rfl ?_
  refine g_aload_n C (i := 0) dL_setRate_2 rfl rfl ?_
  refine g_iload_n C (i := 1) dL_setRate_3 rfl rfl ?_
  refine g_iload_n C (i := 2) dL_setRate_4 rfl rfl ?_
  refine g_callV C (q := (RX5, TX5, 4)) (rest := _) dL_setRate_5 mm_X5_setRate ml_L_33 mv_yX5_setRate ms_yX5_setRate (h) rfl hX rfl rfl ⟨by decide, by omega, by omega, Nat.le_of_ble_eq_true rfl⟩ tk_noret (tk_thr fun n9 hn9 => ?_)
  refine g_catch C (name := "java/lang/IllegalArgumentException") [⟨0, 10, 13, 20⟩] ⟨0, 10, 17, 13⟩ [] rfl (fun z hz => by
    simp only [List.mem_cons, List.not_mem_nil, or_false] at hz
    rcases hz with rfl
    · exact Or.inr ⟨by decide, _, ml_L_20, by decide⟩) rfl (by decide) ml_L_13 mk_java_lang_IllegalArgumentException (fun q9 => ?_)
  refine g_astore C (i := 4) dL_setRate_17 (by decide) ?_
  refine g_iconst C (2) dL_setRate_19 rfl ?_
  exact g_ireturn C dL_setRate_20 ⟨by omega, by omega⟩ ⟨rfl, ⟨hn9, fun z => by cases z⟩, rfl, rfl, rfl⟩
theorem w_shortTicks_ok (hX : σ.2.1 x = (5, 0)) (hO : σ'.2.1 o = (11, 1)) (a0 : Int32) (y : Int64) (h : tkCon false (.code yX5_shortTicks cX5_shortTicks 2 (some .long)) yX5_shortTicks 10 [.ref x, .int a0] σ I L mc ms (.inl (some (.long y))) σ' I' L') :
    tkCon true (.codeWith yL_shortTicks cL_shortTicks 4 (some .int) [(0, 8, 11, 20)]) yL_shortTicks 11 [.ref x, .int a0, .ref o] σ I L mc ms (.inl (some (.int 0))) σ' I' (tk2 L' o 0 y) := by
  refine tkCon.ofH (by decide) (Nat.le_of_ble_eq_true rfl) (fun X C => ?_)
  refine g_aload_n C (i := 2) dL_shortTicks_0 rfl rfl ?_
  refine g_iconst C (0) dL_shortTicks_1 rfl ?_
  refine g_aload_n C (i := 0) dL_shortTicks_2 rfl rfl ?_
  refine g_iload_n C (i := 1) dL_shortTicks_3 rfl rfl ?_
  refine g_callV C (q := (RX5, TX5, 4)) (rest := _) dL_shortTicks_4 mm_X5_shortTicks ml_L_68 mv_yX5_shortTicks ms_yX5_shortTicks (h) rfl hX rfl rfl ⟨by decide, by omega, by omega, Nat.le_of_ble_eq_true rfl⟩ (tk_retv ?_) tk_nothr
  refine g_ls C dL_shortTicks_7 hO rfl rfl (j := 0) (by decide) (by decide) ?_
  refine g_goto C 14 dL_shortTicks_8 (by decide) ?_
  refine g_iconst C (0) dL_shortTicks_14 rfl ?_
  exact g_ireturn C dL_shortTicks_15 ⟨by omega, by omega⟩ (tkEnd.rf rfl rfl rfl)
theorem w_shortTicks_iob (hX : σ.2.1 x = (5, 0)) (a0 : Int32) (h : tkCon false (.code yX5_shortTicks cX5_shortTicks 2 (some .long)) yX5_shortTicks 10 [.ref x, .int a0] σ I L mc ms xIOB σ' I' L') :
    tkCon true (.codeWith yL_shortTicks cL_shortTicks 4 (some .int) [(0, 8, 11, 20)]) yL_shortTicks 11 [.ref x, .int a0, .ref o] σ I L mc ms (.inl (some (.int 1))) σ' I' L' := by
  refine tkCon.ofH (by decide) (Nat.le_of_ble_eq_true rfl) (fun X C => ?_)
  refine g_aload_n C (i := 2) dL_shortTicks_0 rfl rfl ?_
  refine g_iconst C (0) dL_shortTicks_1 rfl ?_
  refine g_aload_n C (i := 0) dL_shortTicks_2 rfl rfl ?_
  refine g_iload_n C (i := 1) dL_shortTicks_3 rfl rfl ?_
  refine g_callV C (q := (RX5, TX5, 4)) (rest := _) dL_shortTicks_4 mm_X5_shortTicks ml_L_68 mv_yX5_shortTicks ms_yX5_shortTicks (h) rfl hX rfl rfl ⟨by decide, by omega, by omega, Nat.le_of_ble_eq_true rfl⟩ tk_noret (tk_thr fun n9 hn9 => ?_)
  refine g_catch C (name := "java/lang/IndexOutOfBoundsException") [] ⟨0, 8, 11, 20⟩ [] rfl (fun z hz => by cases hz) rfl (by decide) ml_L_20 mk_java_lang_IndexOutOfBoundsException (fun q9 => ?_)
  refine g_astore_n C (i := 3) dL_shortTicks_11 rfl (by decide) ?_
  refine g_iconst C (1) dL_shortTicks_12 rfl ?_
  exact g_ireturn C dL_shortTicks_13 ⟨by omega, by omega⟩ ⟨rfl, ⟨hn9, fun z => by cases z⟩, rfl, rfl, rfl⟩
theorem w_total_ok (hX : σ.2.1 x = (5, 0)) (hO : σ'.2.1 o = (11, 1)) (a0 : Int32) (y : Int64) (h : tkCon false (.code yX5_total cX5_total 2 (some .long)) yX5_total 10 [.ref x, .int a0] σ I L mc ms (.inl (some (.long y))) σ' I' L') :
    tkCon true (.codeWith yL_total cL_total 4 (some .int) [(0, 8, 11, 20)]) yL_total 11 [.ref x, .int a0, .ref o] σ I L mc ms (.inl (some (.int 0))) σ' I' (tk2 L' o 0 y) := by
  refine tkCon.ofH (by decide) (Nat.le_of_ble_eq_true rfl) (fun X C => ?_)
  refine g_aload_n C (i := 2) dL_total_0 rfl rfl ?_
  refine g_iconst C (0) dL_total_1 rfl ?_
  refine g_aload_n C (i := 0) dL_total_2 rfl rfl ?_
  refine g_iload_n C (i := 1) dL_total_3 rfl rfl ?_
  refine g_callV C (q := (RX5, TX5, 4)) (rest := _) dL_total_4 mm_X5_total ml_L_62 mv_yX5_total ms_yX5_total (h) rfl hX rfl rfl ⟨by decide, by omega, by omega, Nat.le_of_ble_eq_true rfl⟩ (tk_retv ?_) tk_nothr
  refine g_ls C dL_total_7 hO rfl rfl (j := 0) (by decide) (by decide) ?_
  refine g_goto C 14 dL_total_8 (by decide) ?_
  refine g_iconst C (0) dL_total_14 rfl ?_
  exact g_ireturn C dL_total_15 ⟨by omega, by omega⟩ (tkEnd.rf rfl rfl rfl)
theorem w_total_iob (hX : σ.2.1 x = (5, 0)) (a0 : Int32) (h : tkCon false (.code yX5_total cX5_total 2 (some .long)) yX5_total 10 [.ref x, .int a0] σ I L mc ms xIOB σ' I' L') :
    tkCon true (.codeWith yL_total cL_total 4 (some .int) [(0, 8, 11, 20)]) yL_total 11 [.ref x, .int a0, .ref o] σ I L mc ms (.inl (some (.int 1))) σ' I' L' := by
  refine tkCon.ofH (by decide) (Nat.le_of_ble_eq_true rfl) (fun X C => ?_)
  refine g_aload_n C (i := 2) dL_total_0 rfl rfl ?_
  refine g_iconst C (0) dL_total_1 rfl ?_
  refine g_aload_n C (i := 0) dL_total_2 rfl rfl ?_
  refine g_iload_n C (i := 1) dL_total_3 rfl rfl ?_
  refine g_callV C (q := (RX5, TX5, 4)) (rest := _) dL_total_4 mm_X5_total ml_L_62 mv_yX5_total ms_yX5_total (h) rfl hX rfl rfl ⟨by decide, by omega, by omega, Nat.le_of_ble_eq_true rfl⟩ tk_noret (tk_thr fun n9 hn9 => ?_)
  refine g_catch C (name := "java/lang/IndexOutOfBoundsException") [] ⟨0, 8, 11, 20⟩ [] rfl (fun z hz => by cases hz) rfl (by decide) ml_L_20 mk_java_lang_IndexOutOfBoundsException (fun q9 => ?_)
  refine g_astore_n C (i := 3) dL_total_11 rfl (by decide) ?_
  refine g_iconst C (1) dL_total_12 rfl ?_
  exact g_ireturn C dL_total_13 ⟨by omega, by omega⟩ ⟨rfl, ⟨hn9, fun z => by cases z⟩, rfl, rfl, rfl⟩
end TKWRAP

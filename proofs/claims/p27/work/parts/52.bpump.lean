section TKBPU
variable {X : tkX} {Q : State → Prop} {nm : String} {hh : List (Nat × Nat × Nat × Nat)} {cs ss : Nat} {σ : tkM} {sb B q n : Nat} {xs : Nat → Int32} {J P : tkI}
theorem end_m1 {f m : Nat} (h : f < m + 1) : nI f - 1 = -1 ∨ ∃ t, t < m ∧ nI f - 1 = nI t := by
  cases f with
  | zero => exact Or.inl (by decide)
  | succ g => exact Or.inr ⟨g, by omega, nI_pred g⟩
theorem sub1_inj {x y : Int32} (h : x - 1 = y - 1) : x = y := by
  have e := congrArg (fun z : Int32 => z + 1) h
  simpa [Int32.sub_add_cancel] using e
theorem wrap_to {f g : Nat} (hf : f < 4) (hg : g < 3) : (nI f - 1 + 2 + nI g) - (nI f - 1 + 2 + nI g) / 4 * 4 - 1 = nI ((f + 1 + g) % 4) - 1 := by
  have e : nI f - 1 + 2 + nI g = nI (f + 1 + g) := by
    rw [Int32.sub_eq_add_neg, Int32.add_assoc (nI f), show (-1 : Int32) + 2 = 1 by decide, nI_1, nI_add]
  rw [e]
  exact congrArg (fun z : Int32 => z - 1) (pk_rem (a := f + 1 + g) (d := 4) (by omega) (by omega) (by omega))
theorem not_badE {x : Int32} (h : x = -1 ∨ ∃ t, t < 3 ∧ x = nI t) (hc : P 1 0 = nI 3) : ¬ badE x P := by
  rintro ⟨z1, z2⟩
  obtain ⟨t, ht, rfl⟩ := h.resolve_left z1
  rw [hc] at z2
  exact not_bad (n := 3) (by omega) ht z2
theorem bR.pu {k : Nat} (h : bR 3 2 k J P) (hk : k ≤ 4) : wPu P k := ⟨h.1.2.2, by omega, fun i hi => by
  obtain ⟨e13, e14, -, -, e17, -, q8, q9, -, -, q11⟩ := h.2.2.2.1 i hi
  rw [e13, e14, e17]
  exact ⟨q8.imp id (fun ⟨t, ht, et⟩ => ⟨t, by omega, et⟩), q9.imp id (fun ⟨t, ht, et⟩ => ⟨t, by omega, et⟩), q11.imp id (fun ⟨t, ht, et⟩ => ⟨t, by omega, et⟩)⟩⟩
/-- one pump is made -/
theorem law_bp1 (C : tkC X cL_law RL nm 24 (some .boolean) hh 10 161 1460) (S : lwX X sb n xs) (hn : n ≤ 260) (hcs : cs ≤ 161 ∧ ss ≤ 1460) (hP : lwP B q 15 σ) {k : Nat} (hk : k < 4) {l18 : Option Value} (hb : bR 3 2 k J P)
    (kk : ∀ J1 P1 l, bR 3 2 (k + 1) J1 P1 → tkG X Q cs ss 287 (lvC sb B q (some (.int (nI (k + 1)))) l) [] σ (mI B q J1 P1) (mL B q zL zL)) :
    tkG X Q cs ss 287 (lvC sb B q (some (.int (nI k))) l18) [] σ (mI B q J P) (mL B q zL zL) := by
  have hL := hP.2.1
  have hB : σ.2.1 B = (5, 0) := hP.1.1.1
  have hW : wPu P k := hb.pu (by omega)
  have J393 : ∀ (c : Int32) (J1 : tkI) (fr to rt ct b : Int32), (b = 0 ∨ b = 1) → J1 = tk2 (tk2 (tk2 (tk2 J 8 k fr) 9 k to) 10 k rt) 11 k ct → end_ 3 fr → end_ 3 to → fr ≠ to → (∃ r, 1 ≤ r ∧ r < 16 ∧ rt = nI r) → (ct = -1 ∨ ∃ t, t < 2 ∧ ct = nI t) →
      tkG X Q cs ss 393 (lvC sb B q (some (.int (nI k))) (some (.int c))) [.int b, .int (nI k), .ref (q + 12)] σ (mI B q J1 P) (mL B q zL zL) := by
    intro c J1 fr to rt ct b h01 eJ q8 q9 qn qr qc
    refine g_zs C dL_law_393 (hL.1 12 (by decide)) (tk2_reg (k := 12) (by decide)) rfl (by omega) (by decide) (by first | assumption | exact Or.inl rfl | exact Or.inr rfl) ?_
    rw [eJ]
    show tkG X Q cs ss 394 _ _ _ (mI B q (tk2 (tk2 (tk2 (tk2 (tk2 J 8 k fr) 9 k to) 10 k rt) 11 k ct) 12 k b) P) (mL B q zL zL)
    have j8 : tk2 (tk2 (tk2 (tk2 (tk2 J 8 k fr) 9 k to) 10 k rt) 11 k ct) 12 k b 8 k = fr := by simp [tk2]
    have j9 : tk2 (tk2 (tk2 (tk2 (tk2 J 8 k fr) 9 k to) 10 k rt) 11 k ct) 12 k b 9 k = to := by simp [tk2]
    have j10 : tk2 (tk2 (tk2 (tk2 (tk2 J 8 k fr) 9 k to) 10 k rt) 11 k ct) 12 k b 10 k = rt := by simp [tk2]
    have j11 : tk2 (tk2 (tk2 (tk2 (tk2 J 8 k fr) 9 k to) 10 k rt) 11 k ct) 12 k b 11 k = ct := by simp [tk2]
    have j12 : tk2 (tk2 (tk2 (tk2 (tk2 J 8 k fr) 9 k to) 10 k rt) 11 k ct) 12 k b 12 k = b := by simp [tk2]
    have jo : ∀ j, j ≠ k → tk2 (tk2 (tk2 (tk2 (tk2 J 8 k fr) 9 k to) 10 k rt) 11 k ct) 12 k b 8 j = J 8 j ∧ tk2 (tk2 (tk2 (tk2 (tk2 J 8 k fr) 9 k to) 10 k rt) 11 k ct) 12 k b 9 j = J 9 j ∧ tk2 (tk2 (tk2 (tk2 (tk2 J 8 k fr) 9 k to) 10 k rt) 11 k ct) 12 k b 10 j = J 10 j ∧ tk2 (tk2 (tk2 (tk2 (tk2 J 8 k fr) 9 k to) 10 k rt) 11 k ct) 12 k b 11 j = J 11 j ∧ tk2 (tk2 (tk2 (tk2 (tk2 J 8 k fr) 9 k to) 10 k rt) 11 k ct) 12 k b 12 j = J 12 j := fun j hj => by simp [tk2, hj]
    have jr : ∀ r, r ≠ 8 → r ≠ 9 → r ≠ 10 → r ≠ 11 → r ≠ 12 → tk2 (tk2 (tk2 (tk2 (tk2 J 8 k fr) 9 k to) 10 k rt) 11 k ct) 12 k b r = J r := fun r x1 x2 x3 x4 x5 => by
      funext j
      simp [tk2, x1, x2, x3, x4, x5]
    generalize tk2 (tk2 (tk2 (tk2 (tk2 J 8 k fr) 9 k to) 10 k rt) 11 k ct) 12 k b = J2 at *
    have hbt := hb.pump (J1 := J2) j8 j9 j10 j11 j12 q8 q9 qn qr qc jo jr
    have g5 : ¬ bad rt 1 1000000 := by
      obtain ⟨r, r1, r2, rfl⟩ := qr
      exact nI_bad (lo := 1) (hi := 1000000) r1 (by omega) (by omega)
    have g3 : ¬ (¬ ct = -1 ∧ bad ct 0 (P 7 0 - 1)) := by
      rintro ⟨z1, z2⟩
      obtain ⟨t, ht, rfl⟩ := qc.resolve_left z1
      rw [hb.1.2.1] at z2
      exact not_bad (n := 2) (by omega) ht z2
    have hcon := k_addPump (J := J2) (K := zL) (L := zL) hP hW fr to rt 2 ct b h01 (not_badE q8 hb.1.1) (not_badE q9 hb.1.1) g3 qn g5 (nI_bad (a := 2) (lo := 0) (hi := 100) (by omega) (by omega) (by omega)) (by omega)
    rw [aPump_L] at hcon
    refine g_aload_n C (i := 1) dL_law_394 rfl rfl ?_
    refine g_aload C (i := 10) dL_law_395 rfl ?_
    refine g_iload C (i := 17) dL_law_397 rfl ?_
    refine g_ia C dL_law_399 (hL.1 8 (by decide)) (reg_at (k := 8) (by decide)) rfl (by omega) (by decide) ?_
    refine g_aload C (i := 11) dL_law_400 rfl ?_
    refine g_iload C (i := 17) dL_law_402 rfl ?_
    refine g_ia C dL_law_404 (hL.1 9 (by decide)) (reg_at (k := 9) (by decide)) rfl (by omega) (by decide) ?_
    refine g_aload C (i := 12) dL_law_405 rfl ?_
    refine g_iload C (i := 17) dL_law_407 rfl ?_
    refine g_ia C dL_law_409 (hL.1 10 (by decide)) (reg_at (k := 10) (by decide)) rfl (by omega) (by decide) ?_
    refine g_iconst C (2) dL_law_410 rfl ?_
    refine g_aload C (i := 13) dL_law_411 rfl ?_
    refine g_iload C (i := 17) dL_law_413 rfl ?_
    refine g_ia C dL_law_415 (hL.1 11 (by decide)) (reg_at (k := 11) (by decide)) rfl (by omega) (by decide) ?_
    refine g_aload C (i := 14) dL_law_416 rfl ?_
    refine g_iload C (i := 17) dL_law_418 rfl ?_
    refine g_za C dL_law_420 (hL.1 12 (by decide)) (reg_at (k := 12) (by decide)) rfl (by omega) (by decide) (fun _ => ?_)
    rw [j8, j9, j10, j11, j12]
    refine g_callV C (q := (RX5, TX5, 4)) (rest := _) dL_law_421 mm_X5_addPump ml_L_29 mv_yX5_addPump ms_yX5_addPump (hcon) rfl hB rfl rfl ⟨by decide, by omega, by omega, Nat.le_of_ble_eq_true rfl⟩ (tk_retv ?_) tk_nothr
    refine g_iload C (i := 17) dL_law_424 rfl ?_
    refine g_icmp_eq C 431 dL_law_426 (by decide) (fun h426 => ?_) (fun h426 => ?_)
    · refine g_iinc C (i := 17) (nI (k + 1)) dL_law_431 rfl (nI_1 k) (by decide) ?_
      refine g_goto C 287 dL_law_434 (by decide) ?_
      exact kk _ _ _ hbt
    · exact absurd rfl h426
  refine g_iload C (i := 17) dL_law_287 rfl ?_
  refine g_iconst C (4) dL_law_289 rfl ?_
  refine g_icmp_ge C 437 dL_law_290 (by decide) (fun h290 => ?_) (fun h290 => ?_)
  · exact absurd h290 (nI_ge (a := k) (b := 4) hk (by omega))
  · refine g_aload_n C (i := 0) dL_law_293 rfl rfl ?_
    refine g_iconst C (5) dL_law_294 rfl ?_
    refine g_iload C (i := 17) dL_law_295 rfl ?_
    refine g_iadd C dL_law_297 ?_
    refine g_cell C S dL_law_298 ml_L_12 (nI_add 5 k) hn (by omega) (by decide) hcs.1 hcs.2 (Nat.le_of_ble_eq_true rfl) ?_
    generalize jcell xs n (5 + k) = c
    obtain ⟨f, hf, ef⟩ := jbel_in c (n := 4) (by omega) (by omega)
    have ef' : jbel c 4 = nI f := ef
    obtain ⟨g, hg, eg⟩ := jbel_in (c >>> (2 &&& 31)) (n := 3) (by omega) (by omega)
    have eg' : jbel (c >>> (2 &&& 31)) 3 = nI g := eg
    obtain ⟨r, hr, er⟩ := jbel_in (c >>> (5 &&& 31)) (n := 15) (by omega) (by omega)
    have er' : (1 : Int32) + jbel (c >>> (5 &&& 31)) 15 = nI (1 + r) := (congrArg (fun z => nI 1 + z) er).trans (nI_add 1 r)
    obtain ⟨d, hd, ed⟩ := jbel_in (c >>> (10 &&& 31)) (n := 3) (by omega) (by omega)
    have ed' : jbel (c >>> (10 &&& 31)) 3 = nI d := ed
    have hne : nI f - 1 ≠ nI ((f + 1 + g) % 4) - 1 := fun z => by
      have := (nI_eq (by omega) (by omega)).mp (sub1_inj z)
      omega
    have q9 : end_ 3 (nI ((f + 1 + g) % 4) - 1) := end_m1 (m := 3) (by omega)
    refine g_istore C (i := 18) dL_law_301 (by decide) ?_
    refine g_aload C (i := 10) dL_law_303 rfl ?_
    refine g_iload C (i := 17) dL_law_305 rfl ?_
    refine g_iload C (i := 18) dL_law_307 rfl ?_
    refine g_iconst C (4) dL_law_309 rfl ?_
    refine g_callS C dL_law_310 mm_L_below ml_L_18 mt_yL_below (c_L_below _ _ (by decide)) rfl ⟨by decide, by omega, by omega, Nat.le_of_ble_eq_true rfl⟩ (tk_retv ?_) tk_nothr
    rw [ef']
    refine g_iconst C (1) dL_law_313 rfl ?_
    refine g_isub C dL_law_314 ?_
    refine g_is C dL_law_315 (hL.1 8 (by decide)) (tk2_reg (k := 8) (by decide)) rfl (by omega) (by decide) ?_
    refine g_aload C (i := 11) dL_law_316 rfl ?_
    refine g_iload C (i := 17) dL_law_318 rfl ?_
    refine g_aload C (i := 10) dL_law_320 rfl ?_
    refine g_iload C (i := 17) dL_law_322 rfl ?_
    refine g_ia C dL_law_324 (hL.1 8 (by decide)) (reg_at (k := 8) (by decide)) rfl (by omega) (by decide) ?_
    rw [tk2_at]
    refine g_iconst C (2) dL_law_325 rfl ?_
    refine g_iadd C dL_law_326 ?_
    refine g_iload C (i := 18) dL_law_327 rfl ?_
    refine g_iconst C (2) dL_law_329 rfl ?_
    refine g_ishr C dL_law_330 ?_
    refine g_iconst C (3) dL_law_331 rfl ?_
    refine g_callS C dL_law_332 mm_L_below ml_L_18 mt_yL_below (c_L_below _ _ (by decide)) rfl ⟨by decide, by omega, by omega, Nat.le_of_ble_eq_true rfl⟩ (tk_retv ?_) tk_nothr
    rw [eg']
    refine g_iadd C dL_law_335 ?_
    refine g_iconst C (4) dL_law_336 rfl ?_
    refine g_irem C dL_law_337 (by decide) ?_
    refine g_iconst C (1) dL_law_338 rfl ?_
    refine g_isub C dL_law_339 ?_
    rw [wrap_to hf hg]
    refine g_is C dL_law_340 (hL.1 9 (by decide)) (tk2_reg (k := 9) (by decide)) rfl (by omega) (by decide) ?_
    refine g_aload C (i := 12) dL_law_341 rfl ?_
    refine g_iload C (i := 17) dL_law_343 rfl ?_
    refine g_iconst C (1) dL_law_345 rfl ?_
    refine g_iload C (i := 18) dL_law_346 rfl ?_
    refine g_iconst C (5) dL_law_348 rfl ?_
    refine g_ishr C dL_law_349 ?_
    refine g_bipush C (15) dL_law_350 rfl ?_
    refine g_callS C dL_law_352 mm_L_below ml_L_18 mt_yL_below (c_L_below _ _ (by decide)) rfl ⟨by decide, by omega, by omega, Nat.le_of_ble_eq_true rfl⟩ (tk_retv ?_) tk_nothr
    refine g_iadd C dL_law_355 ?_
    rw [er']
    refine g_is C dL_law_356 (hL.1 10 (by decide)) (tk2_reg (k := 10) (by decide)) rfl (by omega) (by decide) ?_
    refine g_aload C (i := 13) dL_law_357 rfl ?_
    refine g_iload C (i := 17) dL_law_359 rfl ?_
    refine g_iload C (i := 18) dL_law_361 rfl ?_
    refine g_bipush C (10) dL_law_363 rfl ?_
    refine g_ishr C dL_law_365 ?_
    refine g_iconst C (3) dL_law_366 rfl ?_
    refine g_callS C dL_law_367 mm_L_below ml_L_18 mt_yL_below (c_L_below _ _ (by decide)) rfl ⟨by decide, by omega, by omega, Nat.le_of_ble_eq_true rfl⟩ (tk_retv ?_) tk_nothr
    rw [ed']
    refine g_iconst C (1) dL_law_370 rfl ?_
    refine g_isub C dL_law_371 ?_
    refine g_is C dL_law_372 (hL.1 11 (by decide)) (tk2_reg (k := 11) (by decide)) rfl (by omega) (by decide) ?_
    refine g_aload C (i := 14) dL_law_373 rfl ?_
    refine g_iload C (i := 17) dL_law_375 rfl ?_
    refine g_iload C (i := 18) dL_law_377 rfl ?_
    refine g_bipush C (13) dL_law_379 rfl ?_
    refine g_ishr C dL_law_381 ?_
    refine g_iconst C (1) dL_law_382 rfl ?_
    refine g_iand C dL_law_383 ?_
    refine g_iconst C (1) dL_law_384 rfl ?_
    refine g_icmp_ne C 392 dL_law_385 (by decide) (fun h385 => ?_) (fun h385 => ?_)
    · refine g_iconst C (0) dL_law_392 rfl ?_
      exact J393 c _ _ _ _ _ 0 (Or.inl rfl) rfl (end_m1 (m := 3) hf) q9 hne ⟨1 + r, by omega, by omega, rfl⟩ (end_m1 (m := 2) hd)
    · refine g_iconst C (1) dL_law_388 rfl ?_
      refine g_goto C 393 dL_law_389 (by decide) ?_
      exact J393 c _ _ _ _ _ 1 (Or.inr rfl) rfl (end_m1 (m := 3) hf) q9 hne ⟨1 + r, by omega, by omega, rfl⟩ (end_m1 (m := 2) hd)
end TKBPU

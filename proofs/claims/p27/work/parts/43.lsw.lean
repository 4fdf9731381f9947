section TKLSW
variable {X : tkX} {Q : State → Prop} {nm : String} {hh : List (Nat × Nat × Nat × Nat)} {cs ss : Nat} {σ : tkM} {sb B q : Nat} {J P : tkI} {K L : tkL} {c17 c18 t19 many t21 : Int32}
/-- one switch of a tick -/
theorem law_sw1 (C : tkC X cL_law RL nm 24 (some .boolean) hh 10 161 1460) (hcs : cs ≤ 161 ∧ ss ≤ 1460) (hP : lwP B q 15 σ) {i : Nat} {l23 : Option Value} (hw : wl J) (hi : i < 2)
    (kk : ∀ l, tkG X Q cs ss 482 (lvM sb B q c17 c18 (some (.int t19)) (some (.int (lFol i (J, many)).2)) (some (.int t21)) (some (.int (nI (i + 1)))) l) [] σ (mI B q (lFol i (J, many)).1 P) (mL B q K L)) :
    tkG X Q cs ss 482 (lvM sb B q c17 c18 (some (.int t19)) (some (.int many)) (some (.int t21)) (some (.int (nI i))) l23) [] σ (mI B q J P) (mL B q K L) := by
  obtain ⟨j, hj, ej⟩ := hw.1 i hi
  have hL := hP.2.1
  have ejc : (J 4 i).toNatClampNeg = j := by rw [ej]; exact nI_clamp (by omega)
  have J531 : ∀ x, x = lDue J i → (x = 0 ∨ x = 1) → tkG X Q cs ss 531 (lvM sb B q c17 c18 (some (.int t19)) (some (.int many)) (some (.int t21)) (some (.int (nI i))) l23) [.int x] σ (mI B q J P) (mL B q K L) := by
    intro x hx h01
    unfold lFol at kk
    dsimp only at kk
    rw [← hx] at kk
    refine g_istore C (i := 23) dL_law_531 (by decide) ?_
    refine g_iload C (i := 20) dL_law_533 rfl ?_
    refine g_iload C (i := 23) dL_law_535 rfl ?_
    refine g_aload C (i := 9) dL_law_537 rfl ?_
    refine g_iload C (i := 22) dL_law_539 rfl ?_
    refine g_za C dL_law_541 (hL.1 7 (by decide)) (reg_at (k := 7) (by decide)) rfl (by omega) (by decide) (fun _ => ?_)
    refine g_icmp_ne C 549 dL_law_542 (by decide) (fun h542 => ?_) (fun h542 => ?_)
    · rw [if_neg h542] at kk
      refine g_iconst C (1) dL_law_549 rfl ?_
      refine g_iadd C dL_law_550 ?_
      refine g_istore C (i := 20) dL_law_551 (by decide) ?_
      refine g_aload C (i := 9) dL_law_553 rfl ?_
      refine g_iload C (i := 22) dL_law_555 rfl ?_
      refine g_iload C (i := 23) dL_law_557 rfl ?_
      refine g_zs C dL_law_559 (hL.1 7 (by decide)) (tk2_reg (k := 7) (by decide)) rfl (by omega) (by decide) (by first | assumption | exact Or.inl rfl | exact Or.inr rfl) ?_
      refine g_iinc C (i := 22) (nI (i + 1)) dL_law_560 rfl (nI_1 i) (by decide) ?_
      refine g_goto C 482 dL_law_563 (by decide) ?_
      exact kk _
    · rw [if_pos h542] at kk
      refine g_iconst C (0) dL_law_545 rfl ?_
      refine g_goto C 550 dL_law_546 (by decide) ?_
      refine g_iadd C dL_law_550 ?_
      refine g_istore C (i := 20) dL_law_551 (by decide) ?_
      refine g_aload C (i := 9) dL_law_553 rfl ?_
      refine g_iload C (i := 22) dL_law_555 rfl ?_
      refine g_iload C (i := 23) dL_law_557 rfl ?_
      refine g_zs C dL_law_559 (hL.1 7 (by decide)) (tk2_reg (k := 7) (by decide)) rfl (by omega) (by decide) (by first | assumption | exact Or.inl rfl | exact Or.inr rfl) ?_
      refine g_iinc C (i := 22) (nI (i + 1)) dL_law_560 rfl (nI_1 i) (by decide) ?_
      refine g_goto C 482 dL_law_563 (by decide) ?_
      exact kk _
  refine g_iload C (i := 22) dL_law_482 rfl ?_
  refine g_iconst C (2) dL_law_484 rfl ?_
  refine g_icmp_ge C 566 dL_law_485 (by decide) (fun h485 => ?_) (fun h485 => ?_)
  · exact absurd h485 (nI_ge (a := i) (b := 2) hi (by omega))
  · refine g_aload_n C (i := 3) dL_law_488 rfl rfl ?_
    refine g_aload C (i := 6) dL_law_489 rfl ?_
    refine g_iload C (i := 22) dL_law_491 rfl ?_
    refine g_ia C dL_law_493 (hL.1 4 (by decide)) (reg_at (k := 4) (by decide)) rfl (by omega) (by decide) ?_
    refine g_ia C dL_law_494 (hL.1 1 (by decide)) (reg_at (k := 1) (by decide)) ej hj (by decide) ?_
    refine g_aload C (i := 7) dL_law_495 rfl ?_
    refine g_iload C (i := 22) dL_law_497 rfl ?_
    refine g_ia C dL_law_499 (hL.1 5 (by decide)) (reg_at (k := 5) (by decide)) rfl (by omega) (by decide) ?_
    refine g_icmp_gt C 507 dL_law_500 (by decide) (fun h500 => ?_) (fun h500 => ?_)
    · refine g_aload_n C (i := 3) dL_law_507 rfl rfl ?_
      refine g_aload C (i := 6) dL_law_508 rfl ?_
      refine g_iload C (i := 22) dL_law_510 rfl ?_
      refine g_ia C dL_law_512 (hL.1 4 (by decide)) (reg_at (k := 4) (by decide)) rfl (by omega) (by decide) ?_
      refine g_ia C dL_law_513 (hL.1 1 (by decide)) (reg_at (k := 1) (by decide)) ej hj (by decide) ?_
      refine g_aload C (i := 8) dL_law_514 rfl ?_
      refine g_iload C (i := 22) dL_law_516 rfl ?_
      refine g_ia C dL_law_518 (hL.1 6 (by decide)) (reg_at (k := 6) (by decide)) rfl (by omega) (by decide) ?_
      refine g_icmp_lt C 526 dL_law_519 (by decide) (fun h519 => ?_) (fun h519 => ?_)
      · refine g_aload C (i := 9) dL_law_526 rfl ?_
        refine g_iload C (i := 22) dL_law_528 rfl ?_
        refine g_za C dL_law_530 (hL.1 7 (by decide)) (reg_at (k := 7) (by decide)) rfl (by omega) (by decide) (fun h01 => ?_)
        exact J531 _ (by unfold lDue; rw [ejc, if_neg (Int32.not_le.mpr h500), if_neg (Int32.not_le.mpr h519)]) h01
      · refine g_iconst C (0) dL_law_522 rfl ?_
        refine g_goto C 531 dL_law_523 (by decide) ?_
        exact J531 _ (by unfold lDue; rw [ejc, if_neg (Int32.not_le.mpr h500), if_pos (Int32.not_lt.mp h519)]) (Or.inl rfl)
    · refine g_iconst C (1) dL_law_503 rfl ?_
      refine g_goto C 531 dL_law_504 (by decide) ?_
      exact J531 _ (by unfold lDue; rw [ejc, if_pos (Int32.not_lt.mp h500)]) (Or.inr rfl)
theorem law_sw (C : tkC X cL_law RL nm 24 (some .boolean) hh 10 161 1460) (hcs : cs ≤ 161 ∧ ss ≤ 1460) (hP : lwP B q 15 σ) {l23 : Option Value} (hw : wl J)
    (kk : ∀ l, tkG X Q cs ss 566 (lvM sb B q c17 c18 (some (.int t19)) (some (.int (itr lFol 2 (J, many)).2)) (some (.int t21)) (some (.int (nI 2))) l) [] σ (mI B q (itr lFol 2 (J, many)).1 P) (mL B q K L)) :
    tkG X Q cs ss 482 (lvM sb B q c17 c18 (some (.int t19)) (some (.int many)) (some (.int t21)) (some (.int (nI 0))) l23) [] σ (mI B q J P) (mL B q K L) := by
  refine law_sw1 C hcs hP hw (i := 0) (by omega) fun l1 => ?_
  refine law_sw1 C hcs hP (wl.fol (x := (J, many)) hw) (i := 1) (by omega) fun l2 => ?_
  refine g_iload C (i := 22) dL_law_482 rfl ?_
  refine g_iconst C (2) dL_law_484 rfl ?_
  refine g_icmp_ge C 566 dL_law_485 (by decide) (fun h485 => ?_) (fun h485 => ?_)
  · skip
    exact kk _
  · exact absurd (Int32.le_refl _) h485
end TKLSW

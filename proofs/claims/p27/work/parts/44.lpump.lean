section TKLPU
variable {X : tkX} {Q : State → Prop} {nm : String} {hh : List (Nat × Nat × Nat × Nat)} {cs ss : Nat} {σ : tkM} {sb B q : Nat} {J P : tkI} {K L : tkL} {c17 c18 t19 many t21 : Int32}
/-- one pump of a tick -/
theorem law_pu1 (C : tkC X cL_law RL nm 24 (some .boolean) hh 10 161 1460) (hcs : cs ≤ 161 ∧ ss ≤ 1460) (hP : lwP B q 15 σ) {i : Nat} {l23 : Option Value} (hw : wl J) (hi : i < 4)
    (kk : ∀ l, tkG X Q cs ss 569 (lvM sb B q c17 c18 (some (.int t19)) (some (.int many)) (some (.int t21)) (some (.int (nI (i + 1)))) l) [] σ (mI B q (lPump i (J, K)).1 P) (mL B q (lPump i (J, K)).2 L)) :
    tkG X Q cs ss 569 (lvM sb B q c17 c18 (some (.int t19)) (some (.int many)) (some (.int t21)) (some (.int (nI i))) l23) [] σ (mI B q J P) (mL B q K L) := by
  obtain ⟨w8, w9, w11⟩ := hw.2 i hi
  have hL := hP.2.1
  have J701 : ∀ (J2 : tkI) (m : Int32), lPump i (J, K) = (J2, lEnt m i J2 K) → tkG X Q cs ss 701 (lvM sb B q c17 c18 (some (.int t19)) (some (.int many)) (some (.int t21)) (some (.int (nI i))) (some (.int m))) [] σ (mI B q J2 P) (mL B q K L) := by
    intro J2 m e
    rw [e] at kk
    unfold lEnt at kk
    dsimp only at kk
    refine g_aload C (i := 15) dL_law_701 rfl ?_
    refine g_iload C (i := 22) dL_law_703 rfl ?_
    refine g_dup2 C dL_law_705 rfl rfl ?_
    refine g_la C dL_law_706 (hL.1 13 (by decide)) (reg_at (k := 13) (by decide)) rfl (by omega) (by decide) ?_
    refine g_iload C (i := 23) dL_law_707 rfl ?_
    refine g_i2l C dL_law_709 ?_
    refine g_ladd C dL_law_710 ?_
    refine g_ls C dL_law_711 (hL.1 13 (by decide)) (tk2_reg (k := 13) (by decide)) rfl (by omega) (by decide) ?_
    refine g_aload C (i := 16) dL_law_712 rfl ?_
    refine g_iload C (i := 22) dL_law_714 rfl ?_
    refine g_dup2 C dL_law_716 rfl rfl ?_
    refine g_la C dL_law_717 (hL.1 14 (by decide)) (reg_at (k := 14) (by decide)) rfl (by omega) (by decide) ?_
    refine g_iload C (i := 23) dL_law_718 rfl ?_
    refine g_aload C (i := 12) dL_law_720 rfl ?_
    refine g_iload C (i := 22) dL_law_722 rfl ?_
    refine g_ia C dL_law_724 (hL.1 10 (by decide)) (reg_at (k := 10) (by decide)) rfl (by omega) (by decide) ?_
    refine g_icmp_ge C 732 dL_law_725 (by decide) (fun h725 => ?_) (fun h725 => ?_)
    · rw [if_pos h725] at kk
      refine g_lconst C 0 dL_law_732 rfl ?_
      refine g_ladd C dL_law_733 ?_
      refine g_ls C dL_law_734 (hL.1 14 (by decide)) (tk2_reg (k := 14) (by decide)) rfl (by omega) (by decide) ?_
      refine g_iinc C (i := 22) (nI (i + 1)) dL_law_735 rfl (nI_1 i) (by decide) ?_
      refine g_goto C 569 dL_law_738 (by decide) ?_
      exact kk _
    · rw [if_neg h725] at kk
      refine g_lconst C 1 dL_law_728 rfl ?_
      refine g_goto C 733 dL_law_729 (by decide) ?_
      refine g_ladd C dL_law_733 ?_
      refine g_ls C dL_law_734 (hL.1 14 (by decide)) (tk2_reg (k := 14) (by decide)) rfl (by omega) (by decide) ?_
      refine g_iinc C (i := 22) (nI (i + 1)) dL_law_735 rfl (nI_1 i) (by decide) ?_
      refine g_goto C 569 dL_law_738 (by decide) ?_
      exact kk _
  have J681 : ∀ (J1 : tkI) (m : Int32), J1 9 = J 9 → lPump i (J, K) = (lMv2 m i J1, lEnt m i (lMv2 m i J1) K) → tkG X Q cs ss 681 (lvM sb B q c17 c18 (some (.int t19)) (some (.int many)) (some (.int t21)) (some (.int (nI i))) (some (.int m))) [] σ (mI B q J1 P) (mL B q K L) := by
    intro J1 m e9 e
    rw [← e9] at w9
    refine g_aload C (i := 11) dL_law_681 rfl ?_
    refine g_iload C (i := 22) dL_law_683 rfl ?_
    refine g_ia C dL_law_685 (hL.1 9 (by decide)) (reg_at (k := 9) (by decide)) rfl (by omega) (by decide) ?_
    refine g_if_lt C 701 dL_law_686 (by decide) (fun h686 => ?_) (fun h686 => ?_)
    · rw [show lMv2 m i J1 = J1 from if_pos h686] at e
      skip
      exact J701 _ _ e
    · obtain ⟨s, hs, es⟩ := wl_end w9 h686
      have esc : (J1 9 i).toNatClampNeg = s := by rw [es]; exact nI_clamp (by omega)
      rw [show lMv2 m i J1 = tk2 J1 1 s (J1 1 s + m) by unfold lMv2; rw [if_neg h686, esc]] at e
      refine g_aload_n C (i := 3) dL_law_689 rfl rfl ?_
      refine g_aload C (i := 11) dL_law_690 rfl ?_
      refine g_iload C (i := 22) dL_law_692 rfl ?_
      refine g_ia C dL_law_694 (hL.1 9 (by decide)) (reg_at (k := 9) (by decide)) rfl (by omega) (by decide) ?_
      refine g_dup2 C dL_law_695 rfl rfl ?_
      refine g_ia C dL_law_696 (hL.1 1 (by decide)) (reg_at (k := 1) (by decide)) es hs (by decide) ?_
      refine g_iload C (i := 23) dL_law_697 rfl ?_
      refine g_iadd C dL_law_699 ?_
      refine g_is C dL_law_700 (hL.1 1 (by decide)) (tk2_reg (k := 1) (by decide)) es hs (by decide) ?_
      exact J701 _ _ e
  have J661 : tkG X Q cs ss 661 (lvM sb B q c17 c18 (some (.int t19)) (some (.int many)) (some (.int t21)) (some (.int (nI i))) (some (.int (lAmt J i)))) [] σ (mI B q J P) (mL B q K L) ∨ (¬ J 11 i < 0 ∧ J 7 (J 11 i).toNatClampNeg = J 12 i) := by
    by_cases hoff : ¬ J 11 i < 0 ∧ J 7 (J 11 i).toNatClampNeg = J 12 i
    · exact Or.inr hoff
    · refine Or.inl ?_
      have e : lPump i (J, K) = (lMv2 (lAmt J i) i (lMv1 (lAmt J i) i J), lEnt (lAmt J i) i (lMv2 (lAmt J i) i (lMv1 (lAmt J i) i J)) K) := if_neg hoff
      generalize lAmt J i = m at e ⊢
      have e9 := lMv1_keep m i J (r := 9) (by decide)
      refine g_aload C (i := 10) dL_law_661 rfl ?_
      refine g_iload C (i := 22) dL_law_663 rfl ?_
      refine g_ia C dL_law_665 (hL.1 8 (by decide)) (reg_at (k := 8) (by decide)) rfl (by omega) (by decide) ?_
      refine g_if_lt C 681 dL_law_666 (by decide) (fun h666 => ?_) (fun h666 => ?_)
      · rw [show lMv1 m i J = J from if_pos h666] at e
        skip
        exact J681 _ _ rfl e
      · obtain ⟨s, hs, es⟩ := wl_end w8 h666
        have esc : (J 8 i).toNatClampNeg = s := by rw [es]; exact nI_clamp (by omega)
        have e1 : lMv1 m i J = tk2 J 1 s (J 1 s - m) := by unfold lMv1; rw [if_neg h666, esc]
        rw [e1] at e e9
        refine g_aload_n C (i := 3) dL_law_669 rfl rfl ?_
        refine g_aload C (i := 10) dL_law_670 rfl ?_
        refine g_iload C (i := 22) dL_law_672 rfl ?_
        refine g_ia C dL_law_674 (hL.1 8 (by decide)) (reg_at (k := 8) (by decide)) rfl (by omega) (by decide) ?_
        refine g_dup2 C dL_law_675 rfl rfl ?_
        refine g_ia C dL_law_676 (hL.1 1 (by decide)) (reg_at (k := 1) (by decide)) es hs (by decide) ?_
        refine g_iload C (i := 23) dL_law_677 rfl ?_
        refine g_isub C dL_law_679 ?_
        refine g_is C dL_law_680 (hL.1 1 (by decide)) (tk2_reg (k := 1) (by decide)) es hs (by decide) ?_
        exact J681 _ _ e9 e
  have J631 : ¬ (¬ J 11 i < 0 ∧ J 7 (J 11 i).toNatClampNeg = J 12 i) → tkG X Q cs ss 631 (lvM sb B q c17 c18 (some (.int t19)) (some (.int many)) (some (.int t21)) (some (.int (nI i))) (some (.int (lA1 J i)))) [] σ (mI B q J P) (mL B q K L) := by
    intro hon
    have h661 := J661.resolve_right hon
    refine g_aload C (i := 11) dL_law_631 rfl ?_
    refine g_iload C (i := 22) dL_law_633 rfl ?_
    refine g_ia C dL_law_635 (hL.1 9 (by decide)) (reg_at (k := 9) (by decide)) rfl (by omega) (by decide) ?_
    refine g_if_lt C 661 dL_law_636 (by decide) (fun h636 => ?_) (fun h636 => ?_)
    · have e : lAmt J i = lA1 J i := if_pos h636
      rw [e] at h661
      skip
      exact h661
    · obtain ⟨s, hs, es⟩ := wl_end w9 h636
      have esc : (J 9 i).toNatClampNeg = s := by rw [es]; exact nI_clamp (by omega)
      have e : lAmt J i = jmin (lA1 J i) (J 0 s - J 1 s) := by unfold lAmt; rw [if_neg h636, esc]
      rw [e] at h661
      refine g_iload C (i := 23) dL_law_639 rfl ?_
      refine g_aload_n C (i := 2) dL_law_641 rfl rfl ?_
      refine g_aload C (i := 11) dL_law_642 rfl ?_
      refine g_iload C (i := 22) dL_law_644 rfl ?_
      refine g_ia C dL_law_646 (hL.1 9 (by decide)) (reg_at (k := 9) (by decide)) rfl (by omega) (by decide) ?_
      refine g_ia C dL_law_647 (hL.1 0 (by decide)) (reg_at (k := 0) (by decide)) es hs (by decide) ?_
      refine g_aload_n C (i := 3) dL_law_648 rfl rfl ?_
      refine g_aload C (i := 11) dL_law_649 rfl ?_
      refine g_iload C (i := 22) dL_law_651 rfl ?_
      refine g_ia C dL_law_653 (hL.1 9 (by decide)) (reg_at (k := 9) (by decide)) rfl (by omega) (by decide) ?_
      refine g_ia C dL_law_654 (hL.1 1 (by decide)) (reg_at (k := 1) (by decide)) es hs (by decide) ?_
      refine g_isub C dL_law_655 ?_
      refine g_min C dL_law_656 ml_L_33 (by decide) (by omega) (by omega) (Nat.le_of_ble_eq_true rfl) ?_
      refine g_istore C (i := 23) dL_law_659 (by decide) ?_
      exact h661
  have J602 : ¬ (¬ J 11 i < 0 ∧ J 7 (J 11 i).toNatClampNeg = J 12 i) → tkG X Q cs ss 602 (lvM sb B q c17 c18 (some (.int t19)) (some (.int many)) (some (.int t21)) (some (.int (nI i))) l23) [] σ (mI B q J P) (mL B q K L) := by
    intro hon
    have h631 := J631 hon
    refine g_aload C (i := 12) dL_law_602 rfl ?_
    refine g_iload C (i := 22) dL_law_604 rfl ?_
    refine g_ia C dL_law_606 (hL.1 10 (by decide)) (reg_at (k := 10) (by decide)) rfl (by omega) (by decide) ?_
    refine g_istore C (i := 23) dL_law_607 (by decide) ?_
    refine g_aload C (i := 10) dL_law_609 rfl ?_
    refine g_iload C (i := 22) dL_law_611 rfl ?_
    refine g_ia C dL_law_613 (hL.1 8 (by decide)) (reg_at (k := 8) (by decide)) rfl (by omega) (by decide) ?_
    refine g_if_lt C 631 dL_law_614 (by decide) (fun h614 => ?_) (fun h614 => ?_)
    · have e : lA1 J i = J 10 i := if_pos h614
      rw [e] at h631
      skip
      exact h631
    · obtain ⟨s, hs, es⟩ := wl_end w8 h614
      have esc : (J 8 i).toNatClampNeg = s := by rw [es]; exact nI_clamp (by omega)
      have e : lA1 J i = jmin (J 10 i) (J 1 s) := by unfold lA1; rw [if_neg h614, esc]
      rw [e] at h631
      refine g_iload C (i := 23) dL_law_617 rfl ?_
      refine g_aload_n C (i := 3) dL_law_619 rfl rfl ?_
      refine g_aload C (i := 10) dL_law_620 rfl ?_
      refine g_iload C (i := 22) dL_law_622 rfl ?_
      refine g_ia C dL_law_624 (hL.1 8 (by decide)) (reg_at (k := 8) (by decide)) rfl (by omega) (by decide) ?_
      refine g_ia C dL_law_625 (hL.1 1 (by decide)) (reg_at (k := 1) (by decide)) es hs (by decide) ?_
      refine g_min C dL_law_626 ml_L_33 (by decide) (by omega) (by omega) (Nat.le_of_ble_eq_true rfl) ?_
      refine g_istore C (i := 23) dL_law_629 (by decide) ?_
      exact h631
  refine g_iload C (i := 22) dL_law_569 rfl ?_
  refine g_iconst C (4) dL_law_571 rfl ?_
  refine g_icmp_ge C 741 dL_law_572 (by decide) (fun h572 => ?_) (fun h572 => ?_)
  · exact absurd h572 (nI_ge (a := i) (b := 4) hi (by omega))
  · refine g_aload C (i := 13) dL_law_575 rfl ?_
    refine g_iload C (i := 22) dL_law_577 rfl ?_
    refine g_ia C dL_law_579 (hL.1 11 (by decide)) (reg_at (k := 11) (by decide)) rfl (by omega) (by decide) ?_
    refine g_if_lt C 602 dL_law_580 (by decide) (fun h580 => ?_) (fun h580 => ?_)
    · skip
      exact J602 (fun z => z.1 h580)
    · obtain ⟨s, hs, es⟩ := wl_end w11 h580
      have esc : (J 11 i).toNatClampNeg = s := by rw [es]; exact nI_clamp (by omega)
      refine g_aload C (i := 9) dL_law_583 rfl ?_
      refine g_aload C (i := 13) dL_law_585 rfl ?_
      refine g_iload C (i := 22) dL_law_587 rfl ?_
      refine g_ia C dL_law_589 (hL.1 11 (by decide)) (reg_at (k := 11) (by decide)) rfl (by omega) (by decide) ?_
      refine g_za C dL_law_590 (hL.1 7 (by decide)) (reg_at (k := 7) (by decide)) es hs (by decide) (fun _ => ?_)
      refine g_aload C (i := 14) dL_law_591 rfl ?_
      refine g_iload C (i := 22) dL_law_593 rfl ?_
      refine g_za C dL_law_595 (hL.1 12 (by decide)) (reg_at (k := 12) (by decide)) rfl (by omega) (by decide) (fun _ => ?_)
      refine g_icmp_ne C 602 dL_law_596 (by decide) (fun h596 => ?_) (fun h596 => ?_)
      · skip
        exact J602 (fun z => h596 (by rw [← esc]; exact z.2))
      · have e : lPump i (J, K) = (J, K) := if_pos ⟨h580, by rw [esc]; exact h596⟩
        rw [e] at kk
        refine g_goto C 735 dL_law_599 (by decide) ?_
        refine g_iinc C (i := 22) (nI (i + 1)) dL_law_735 rfl (nI_1 i) (by decide) ?_
        refine g_goto C 569 dL_law_738 (by decide) ?_
        exact kk _
theorem law_pu (C : tkC X cL_law RL nm 24 (some .boolean) hh 10 161 1460) (hcs : cs ≤ 161 ∧ ss ≤ 1460) (hP : lwP B q 15 σ) {l23 : Option Value} {a : tkI × tkL} (hw : wl a.1)
    (kk : ∀ l, tkG X Q cs ss 741 (lvM sb B q c17 c18 (some (.int t19)) (some (.int many)) (some (.int t21)) (some (.int (nI 4))) l) [] σ (mI B q (itr lPump 4 a).1 P) (mL B q (itr lPump 4 a).2 L)) :
    tkG X Q cs ss 569 (lvM sb B q c17 c18 (some (.int t19)) (some (.int many)) (some (.int t21)) (some (.int (nI 0))) l23) [] σ (mI B q a.1 P) (mL B q a.2 L) := by
  refine law_pu1 C hcs hP (J := a.1) (K := a.2) hw (i := 0) (by omega) fun l1 => ?_
  refine law_pu1 C hcs hP (J := (lPump 0 a).1) (K := (lPump 0 a).2) hw.pump (i := 1) (by omega) fun l2 => ?_
  refine law_pu1 C hcs hP (J := (lPump 1 (lPump 0 a)).1) (K := (lPump 1 (lPump 0 a)).2) hw.pump.pump (i := 2) (by omega) fun l3 => ?_
  refine law_pu1 C hcs hP (J := (lPump 2 (lPump 1 (lPump 0 a))).1) (K := (lPump 2 (lPump 1 (lPump 0 a))).2) hw.pump.pump.pump (i := 3) (by omega) fun l4 => ?_
  refine g_iload C (i := 22) dL_law_569 rfl ?_
  refine g_iconst C (4) dL_law_571 rfl ?_
  refine g_icmp_ge C 741 dL_law_572 (by decide) (fun h572 => ?_) (fun h572 => ?_)
  · skip
    exact kk _
  · exact absurd (Int32.le_refl _) h572
end TKLPU

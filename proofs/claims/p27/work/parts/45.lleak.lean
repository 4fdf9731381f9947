section TKLLK
variable {X : tkX} {Q : State → Prop} {nm : String} {hh : List (Nat × Nat × Nat × Nat)} {cs ss : Nat} {σ : tkM} {sb B q : Nat} {J P : tkI} {K L : tkL} {c17 c18 t19 many t21 : Int32}
/-- one tank of a tick -/
theorem law_lk1 (C : tkC X cL_law RL nm 24 (some .boolean) hh 10 161 1460) (hcs : cs ≤ 161 ∧ ss ≤ 1460) (hP : lwP B q 15 σ) {i : Nat} {l23 : Option Value} (hi : i < 3)
    (kk : tkG X Q cs ss 744 (lvM sb B q c17 c18 (some (.int t19)) (some (.int many)) (some (.int t21)) (some (.int (nI (i + 1)))) l23) [] σ (mI B q (lLeak i (J, K)).1 P) (mL B q (lLeak i (J, K)).2 L)) :
    tkG X Q cs ss 744 (lvM sb B q c17 c18 (some (.int t19)) (some (.int many)) (some (.int t21)) (some (.int (nI i))) l23) [] σ (mI B q J P) (mL B q K L) := by
  have hL := hP.2.1
  refine g_iload C (i := 22) dL_law_744 rfl ?_
  refine g_iconst C (3) dL_law_746 rfl ?_
  refine g_icmp_ge C 787 dL_law_747 (by decide) (fun h747 => ?_) (fun h747 => ?_)
  · exact absurd h747 (nI_ge (a := i) (b := 3) hi (by omega))
  · refine g_aload_n C (i := 3) dL_law_750 rfl rfl ?_
    refine g_iload C (i := 22) dL_law_751 rfl ?_
    refine g_aload_n C (i := 3) dL_law_753 rfl rfl ?_
    refine g_iload C (i := 22) dL_law_754 rfl ?_
    refine g_ia C dL_law_756 (hL.1 1 (by decide)) (reg_at (k := 1) (by decide)) rfl (by omega) (by decide) ?_
    refine g_aload C (i := 4) dL_law_757 rfl ?_
    refine g_iload C (i := 22) dL_law_759 rfl ?_
    refine g_ia C dL_law_761 (hL.1 2 (by decide)) (reg_at (k := 2) (by decide)) rfl (by omega) (by decide) ?_
    refine g_isub C dL_law_762 ?_
    refine g_iconst C (0) dL_law_763 rfl ?_
    refine g_max C dL_law_764 ml_L_38 (by decide) (by omega) (by omega) (Nat.le_of_ble_eq_true rfl) ?_
    refine g_is C dL_law_767 (hL.1 1 (by decide)) (tk2_reg (k := 1) (by decide)) rfl (by omega) (by decide) ?_
    refine g_aload C (i := 5) dL_law_768 rfl ?_
    refine g_iload C (i := 22) dL_law_770 rfl ?_
    refine g_dup2 C dL_law_772 rfl rfl ?_
    refine g_la C dL_law_773 (hL.1 3 (by decide)) (reg_at (k := 3) (by decide)) rfl (by omega) (by decide) ?_
    refine g_aload_n C (i := 3) dL_law_774 rfl rfl ?_
    refine g_iload C (i := 22) dL_law_775 rfl ?_
    refine g_ia C dL_law_777 (hL.1 1 (by decide)) (reg_at (k := 1) (by decide)) rfl (by omega) (by decide) ?_
    refine g_i2l C dL_law_778 ?_
    refine g_ladd C dL_law_779 ?_
    refine g_ls C dL_law_780 (hL.1 3 (by decide)) (tk2_reg (k := 3) (by decide)) rfl (by omega) (by decide) ?_
    refine g_iinc C (i := 22) (nI (i + 1)) dL_law_781 rfl (nI_1 i) (by decide) ?_
    refine g_goto C 744 dL_law_784 (by decide) ?_
    exact kk
theorem law_lk (C : tkC X cL_law RL nm 24 (some .boolean) hh 10 161 1460) (hcs : cs ≤ 161 ∧ ss ≤ 1460) (hP : lwP B q 15 σ) {l23 : Option Value} {a : tkI × tkL}
    (kk : tkG X Q cs ss 787 (lvM sb B q c17 c18 (some (.int t19)) (some (.int many)) (some (.int t21)) (some (.int (nI 3))) l23) [] σ (mI B q (itr lLeak 3 a).1 P) (mL B q (itr lLeak 3 a).2 L)) :
    tkG X Q cs ss 744 (lvM sb B q c17 c18 (some (.int t19)) (some (.int many)) (some (.int t21)) (some (.int (nI 0))) l23) [] σ (mI B q a.1 P) (mL B q a.2 L) := by
  refine law_lk1 C hcs hP (J := a.1) (K := a.2) (i := 0) (by omega) ?_
  refine law_lk1 C hcs hP (J := (lLeak 0 a).1) (K := (lLeak 0 a).2) (i := 1) (by omega) ?_
  refine law_lk1 C hcs hP (J := (lLeak 1 (lLeak 0 a)).1) (K := (lLeak 1 (lLeak 0 a)).2) (i := 2) (by omega) ?_
  refine g_iload C (i := 22) dL_law_744 rfl ?_
  refine g_iconst C (3) dL_law_746 rfl ?_
  refine g_icmp_ge C 787 dL_law_747 (by decide) (fun h747 => ?_) (fun h747 => ?_)
  · skip
    exact kk
  · exact absurd (Int32.le_refl _) h747
/-- the ticks of a run -/
theorem law_ticks (C : tkC X cL_law RL nm 24 (some .boolean) hh 10 161 1460) (hcs : cs ≤ 161 ∧ ss ≤ 1460) (hP : lwP B q 15 σ) {n : Nat} (hn : n < 1000)
    (kk : ∀ a t21 l22 l23, a = lTks n ((J, K), 0) → tkG X Q cs ss 793 (lvM sb B q c17 c18 (some (.int (nI n))) (some (.int a.2)) (some (.int t21)) l22 l23) [] σ (mI B q a.1.1 P) (mL B q a.1.2 L)) :
    ∀ (f k : Nat) (a : (tkI × tkL) × Int32) (l22 l23 : Option Value), k + f = n → wl a.1.1 → itr (fun _ => lTick) k ((J, K), 0) = a → tkG X Q cs ss 472 (lvM sb B q c17 c18 (some (.int (nI n))) (some (.int a.2)) (some (.int (nI k))) l22 l23) [] σ (mI B q a.1.1 P) (mL B q a.1.2 L)
  | 0, k, a, l22, l23, hk, hw, e => by
    obtain rfl : k = n := hk
    refine g_iload C (i := 21) dL_law_472 rfl ?_
    refine g_iload C (i := 19) dL_law_474 rfl ?_
    refine g_icmp_ge C 793 dL_law_476 (by decide) (fun h476 => ?_) (fun h476 => ?_)
    · skip
      exact kk a _ _ _ e.symm
    · exact absurd (Int32.le_refl _) h476
  | f + 1, k, a, l22, l23, hk, hw, e => by
    have ih := law_ticks C hcs hP hn kk f (k + 1) (lTick a) (some (.int (nI 3)))
    refine g_iload C (i := 21) dL_law_472 rfl ?_
    refine g_iload C (i := 19) dL_law_474 rfl ?_
    refine g_icmp_ge C 793 dL_law_476 (by decide) (fun h476 => ?_) (fun h476 => ?_)
    · exact absurd h476 (nI_ge (by omega) (by omega))
    · refine g_iconst C (0) dL_law_479 rfl ?_
      refine g_istore C (i := 22) dL_law_480 (by decide) ?_
      refine law_sw C hcs hP (J := a.1.1) (K := a.1.2) (many := a.2) hw fun l1 => ?_
      refine g_iconst C (0) dL_law_566 rfl ?_
      refine g_istore C (i := 22) dL_law_567 (by decide) ?_
      refine law_pu C hcs hP (a := ((itr lFol 2 (a.1.1, a.2)).1, a.1.2)) ((wl.fol (x := (a.1.1, a.2)) (k := 0) hw).fol (k := 1)) fun l2 => ?_
      refine g_iconst C (0) dL_law_741 rfl ?_
      refine g_istore C (i := 22) dL_law_742 (by decide) ?_
      refine law_lk C hcs hP (a := itr lPump 4 ((itr lFol 2 (a.1.1, a.2)).1, a.1.2)) ?_
      refine g_iinc C (i := 21) (nI (k + 1)) dL_law_787 rfl (nI_1 k) (by decide) ?_
      refine g_goto C 472 dL_law_790 (by decide) ?_
      exact ih _ (by omega) hw.tick (by rw [← e]; rfl)
end TKLLK

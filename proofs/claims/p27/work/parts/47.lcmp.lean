section TKLCMP
variable {X : tkX} {Q : State → Prop} {nm : String} {hh : List (Nat × Nat × Nat × Nat)} {cs ss : Nat} {σ : tkM} {sb B q n : Nat} {J P : tkI} {K L : tkL} {c17 c18 t19 many t21 : Int32}
theorem wRel.all {c : Nat} {x m : tkI × tkL} (h : wRel 3 2 4 c x m) : wAll 3 2 4 c x := by
  obtain ⟨-, hB2, hB3⟩ := h.1.2.2
  refine ⟨⟨h.1.1.1.1, by decide⟩, ⟨h.1.1.2.1.1, by decide, fun i hi => ?_⟩, ⟨h.1.1.2.2.1, by decide, fun i hi => ?_⟩, c, Nat.le_refl _, h.2.2.2.2.2.2.1⟩
  · obtain ⟨⟨t, ht, et⟩, -⟩ := hB2 i hi
    exact ⟨t, by omega, et⟩
  · obtain ⟨h1, h2, h3, -⟩ := hB3 i hi
    exact ⟨h1.imp id (fun ⟨t, ht, et⟩ => ⟨t, by omega, et⟩), h2.imp id (fun ⟨t, ht, et⟩ => ⟨t, by omega, et⟩), h3.imp id (fun ⟨t, ht, et⟩ => ⟨t, by omega, et⟩)⟩
/-! the calls, beside the law's rows -/
theorem k_run (hP : lwP B q n σ) {b k : Nat} (hW : wAll 3 2 4 b (P, L)) (hB : b + 60000 < 2 ^ 62) (hk : k ≤ 5000) :
    tkCon false (.code yX5_run cX5_run 2 (some .int)) yX5_run 8 [.ref B, .int (nI k)] σ (mI B q J P) (mL B q K L) 0 0 (.inl (some (.int (sAdv 3 2 4 (nI k) k 0 ((P, L), 0)).2))) σ (mI B q J (sAdv 3 2 4 (nI k) k 0 ((P, L), 0)).1.1) (mL B q K (sAdv 3 2 4 (nI k) k 0 ((P, L), 0)).1.2) := by
  simp only [mI_swap hP.2.2.2, mL_swap hP.2.2.2]
  exact o_run hP.1.1 hP.1.2 hW hB hk
theorem k_time (hP : lwP B q n σ) : tkCon false (.code yX5_time cX5_time 1 (some .long)) yX5_time 8 [.ref B] σ (mI B q J P) (mL B q K L) 0 0 (.inl (some (.long (L 0 4)))) σ (mI B q J P) (mL B q K L) := by
  simp only [mI_swap hP.2.2.2, mL_swap hP.2.2.2]
  exact o_time hP.1.1 hP.1.2
theorem k_changeCount (hP : lwP B q n σ) : tkCon false (.code yX5_changeCount cX5_changeCount 1 (some .long)) yX5_changeCount 8 [.ref B] σ (mI B q J P) (mL B q K L) 0 0 (.inl (some (.long (L 25 0)))) σ (mI B q J P) (mL B q K L) := by
  simp only [mI_swap hP.2.2.2, mL_swap hP.2.2.2]
  exact o_changeCount hP.1.1 hP.1.2
theorem k_level (hP : lwP B q n σ) {j : Nat} (hW : wTk P 3) (hj : j < 3) : tkCon false (.code yX5_level cX5_level 2 (some .int)) yX5_level 8 [.ref B, .int (nI j)] σ (mI B q J P) (mL B q K L) 0 0 (.inl (some (.int (P 3 j)))) σ (mI B q J P) (mL B q K L) := by
  simp only [mI_swap hP.2.2.2, mL_swap hP.2.2.2]
  exact o_level hP.1.1 hP.1.2 hW hj
theorem k_levelSum (hP : lwP B q n σ) {j : Nat} (hW : wTk P 3) (hj : j < 3) : tkCon false (.code yX5_levelSum cX5_levelSum 2 (some .long)) yX5_levelSum 8 [.ref B, .int (nI j)] σ (mI B q J P) (mL B q K L) 0 0 (.inl (some (.long (L 5 j)))) σ (mI B q J P) (mL B q K L) := by
  simp only [mI_swap hP.2.2.2, mL_swap hP.2.2.2]
  exact o_levelSum hP.1.1 hP.1.2 hW hj
theorem k_isOn (hP : lwP B q n σ) {j : Nat} (hW : wSw P 2) (hj : j < 2) : tkCon false (.code yX5_isOn cX5_isOn 2 (some .boolean)) yX5_isOn 8 [.ref B, .int (nI j)] σ (mI B q J P) (mL B q K L) 0 0 (.inl (some (.int (P 11 j)))) σ (mI B q J P) (mL B q K L) := by
  simp only [mI_swap hP.2.2.2, mL_swap hP.2.2.2]
  exact o_isOn hP.1.1 hP.1.2 hW hj
theorem k_total (hP : lwP B q n σ) {j : Nat} (hW : wPu P 4) (hj : j < 4) : tkCon false (.code yX5_total cX5_total 2 (some .long)) yX5_total 8 [.ref B, .int (nI j)] σ (mI B q J P) (mL B q K L) 0 0 (.inl (some (.long (L 19 j)))) σ (mI B q J P) (mL B q K L) := by
  simp only [mI_swap hP.2.2.2, mL_swap hP.2.2.2]
  exact o_total hP.1.1 hP.1.2 hW hj
theorem k_energy (hP : lwP B q n σ) {j : Nat} (hW : wPu P 4) (hj : j < 4) : tkCon false (.code yX5_energy cX5_energy 2 (some .long)) yX5_energy 8 [.ref B, .int (nI j)] σ (mI B q J P) (mL B q K L) 0 0 (.inl (some (.long (L 20 j)))) σ (mI B q J P) (mL B q K L) := by
  simp only [mI_swap hP.2.2.2, mL_swap hP.2.2.2]
  exact o_energy hP.1.1 hP.1.2 hW hj
theorem k_shortTicks (hP : lwP B q n σ) {j : Nat} (hW : wPu P 4) (hj : j < 4) : tkCon false (.code yX5_shortTicks cX5_shortTicks 2 (some .long)) yX5_shortTicks 8 [.ref B, .int (nI j)] σ (mI B q J P) (mL B q K L) 0 0 (.inl (some (.long (L 21 j)))) σ (mI B q J P) (mL B q K L) := by
  simp only [mI_swap hP.2.2.2, mL_swap hP.2.2.2]
  exact o_shortTicks hP.1.1 hP.1.2 hW hj
/-! what is compared behind a run -/
theorem law_ct1 (C : tkC X cL_law RL nm 24 (some .boolean) hh 10 161 1460) (hcs : cs ≤ 161 ∧ ss ≤ 1460) (hP : lwP B q 15 σ) {i : Nat} {l22 l23 : Option Value} (hW : wTk P 3) (hi : i < 3) (e1 : P 3 i = J 1 i) (e2 : L 5 i = K 3 i)
    (kk : tkG X Q cs ss 827 (lvM sb B q c17 c18 (some (.int t19)) (some (.int many)) (some (.int (nI (i + 1)))) l22 l23) [] σ (mI B q J P) (mL B q K L)) :
    tkG X Q cs ss 827 (lvM sb B q c17 c18 (some (.int t19)) (some (.int many)) (some (.int (nI i))) l22 l23) [] σ (mI B q J P) (mL B q K L) := by
  have hL := hP.2.1
  have hB : σ.2.1 B = (5, 0) := hP.1.1.1
  refine g_iload C (i := 21) dL_law_827 rfl ?_
  refine g_iconst C (3) dL_law_829 rfl ?_
  refine g_icmp_ge C 869 dL_law_830 (by decide) (fun h830 => ?_) (fun h830 => ?_)
  · exact absurd h830 (nI_ge (a := i) (b := 3) hi (by omega))
  · refine g_aload_n C (i := 1) dL_law_833 rfl rfl ?_
    refine g_iload C (i := 21) dL_law_834 rfl ?_
    refine g_callV C (q := (RX5, TX5, 4)) (rest := _) dL_law_836 mm_X5_level ml_L_49 mv_yX5_level ms_yX5_level (k_level hP hW hi) rfl hB rfl rfl ⟨by decide, by omega, by omega, Nat.le_of_ble_eq_true rfl⟩ (tk_retv ?_) tk_nothr
    refine g_aload_n C (i := 3) dL_law_839 rfl rfl ?_
    refine g_iload C (i := 21) dL_law_840 rfl ?_
    refine g_ia C dL_law_842 (hL.1 1 (by decide)) (reg_at (k := 1) (by decide)) rfl (by omega) (by decide) ?_
    refine g_icmp_ne C 861 dL_law_843 (by decide) (fun h843 => ?_) (fun h843 => ?_)
    · exact absurd e1 h843
    · refine g_aload_n C (i := 1) dL_law_846 rfl rfl ?_
      refine g_iload C (i := 21) dL_law_847 rfl ?_
      refine g_callV C (q := (RX5, TX5, 4)) (rest := _) dL_law_849 mm_X5_levelSum ml_L_52 mv_yX5_levelSum ms_yX5_levelSum (k_levelSum hP hW hi) rfl hB rfl rfl ⟨by decide, by omega, by omega, Nat.le_of_ble_eq_true rfl⟩ (tk_retv ?_) tk_nothr
      refine g_aload C (i := 5) dL_law_852 rfl ?_
      refine g_iload C (i := 21) dL_law_854 rfl ?_
      refine g_la C dL_law_856 (hL.1 3 (by decide)) (reg_at (k := 3) (by decide)) rfl (by omega) (by decide) ?_
      refine g_lcmp C dL_law_857 ?_
      refine g_if_eq C 863 dL_law_858 (by decide) (fun h858 => ?_) (fun h858 => ?_)
      · refine g_iinc C (i := 21) (nI (i + 1)) dL_law_863 rfl (nI_1 i) (by decide) ?_
        refine g_goto C 827 dL_law_866 (by decide) ?_
        exact kk
      · exact absurd ((lg_cmp_eq _ _).mpr e2) h858
theorem law_cs1 (C : tkC X cL_law RL nm 24 (some .boolean) hh 10 161 1460) (hcs : cs ≤ 161 ∧ ss ≤ 1460) (hP : lwP B q 15 σ) {i : Nat} {l22 l23 : Option Value} (hW : wSw P 2) (hi : i < 2) (e1 : P 11 i = J 7 i)
    (kk : tkG X Q cs ss 872 (lvM sb B q c17 c18 (some (.int t19)) (some (.int many)) (some (.int (nI (i + 1)))) l22 l23) [] σ (mI B q J P) (mL B q K L)) :
    tkG X Q cs ss 872 (lvM sb B q c17 c18 (some (.int t19)) (some (.int many)) (some (.int (nI i))) l22 l23) [] σ (mI B q J P) (mL B q K L) := by
  have hL := hP.2.1
  have hB : σ.2.1 B = (5, 0) := hP.1.1.1
  refine g_iload C (i := 21) dL_law_872 rfl ?_
  refine g_iconst C (2) dL_law_874 rfl ?_
  refine g_icmp_ge C 900 dL_law_875 (by decide) (fun h875 => ?_) (fun h875 => ?_)
  · exact absurd h875 (nI_ge (a := i) (b := 2) hi (by omega))
  · refine g_aload_n C (i := 1) dL_law_878 rfl rfl ?_
    refine g_iload C (i := 21) dL_law_879 rfl ?_
    refine g_callV C (q := (RX5, TX5, 4)) (rest := _) dL_law_881 mm_X5_isOn ml_L_56 mv_yX5_isOn ms_yX5_isOn (k_isOn hP hW hi) rfl hB rfl rfl ⟨by decide, by omega, by omega, Nat.le_of_ble_eq_true rfl⟩ (tk_retv ?_) tk_nothr
    refine g_aload C (i := 9) dL_law_884 rfl ?_
    refine g_iload C (i := 21) dL_law_886 rfl ?_
    refine g_za C dL_law_888 (hL.1 7 (by decide)) (reg_at (k := 7) (by decide)) rfl (by omega) (by decide) (fun _ => ?_)
    refine g_icmp_eq C 894 dL_law_889 (by decide) (fun h889 => ?_) (fun h889 => ?_)
    · refine g_iinc C (i := 21) (nI (i + 1)) dL_law_894 rfl (nI_1 i) (by decide) ?_
      refine g_goto C 872 dL_law_897 (by decide) ?_
      exact kk
    · exact absurd e1 h889
theorem law_cp1 (C : tkC X cL_law RL nm 24 (some .boolean) hh 10 161 1460) (hcs : cs ≤ 161 ∧ ss ≤ 1460) (hP : lwP B q 15 σ) {i : Nat} {l22 l23 : Option Value} (hW : wPu P 4) (hi : i < 4) (e1 : L 19 i = K 13 i) (e2 : L 20 i = 2 * K 13 i) (e3 : L 21 i = K 14 i)
    (kk : tkG X Q cs ss 903 (lvM sb B q c17 c18 (some (.int t19)) (some (.int many)) (some (.int (nI (i + 1)))) l22 l23) [] σ (mI B q J P) (mL B q K L)) :
    tkG X Q cs ss 903 (lvM sb B q c17 c18 (some (.int t19)) (some (.int many)) (some (.int (nI i))) l22 l23) [] σ (mI B q J P) (mL B q K L) := by
  have hL := hP.2.1
  have hB : σ.2.1 B = (5, 0) := hP.1.1.1
  refine g_iload C (i := 21) dL_law_903 rfl ?_
  refine g_iconst C (4) dL_law_905 rfl ?_
  refine g_icmp_ge C 966 dL_law_906 (by decide) (fun h906 => ?_) (fun h906 => ?_)
  · exact absurd h906 (nI_ge (a := i) (b := 4) hi (by omega))
  · refine g_aload_n C (i := 1) dL_law_909 rfl rfl ?_
    refine g_iload C (i := 21) dL_law_910 rfl ?_
    refine g_callV C (q := (RX5, TX5, 4)) (rest := _) dL_law_912 mm_X5_total ml_L_60 mv_yX5_total ms_yX5_total (k_total hP hW hi) rfl hB rfl rfl ⟨by decide, by omega, by omega, Nat.le_of_ble_eq_true rfl⟩ (tk_retv ?_) tk_nothr
    refine g_aload C (i := 15) dL_law_915 rfl ?_
    refine g_iload C (i := 21) dL_law_917 rfl ?_
    refine g_la C dL_law_919 (hL.1 13 (by decide)) (reg_at (k := 13) (by decide)) rfl (by omega) (by decide) ?_
    refine g_lcmp C dL_law_920 ?_
    refine g_if_ne C 958 dL_law_921 (by decide) (fun h921 => ?_) (fun h921 => ?_)
    · exact absurd ((lg_cmp_eq _ _).mpr e1) h921
    · refine g_aload_n C (i := 1) dL_law_924 rfl rfl ?_
      refine g_iload C (i := 21) dL_law_925 rfl ?_
      refine g_callV C (q := (RX5, TX5, 4)) (rest := _) dL_law_927 mm_X5_energy ml_L_63 mv_yX5_energy ms_yX5_energy (k_energy hP hW hi) rfl hB rfl rfl ⟨by decide, by omega, by omega, Nat.le_of_ble_eq_true rfl⟩ (tk_retv ?_) tk_nothr
      refine g_ldc2 C (2) dL_law_930 ml_L_66 ?_
      refine g_aload C (i := 15) dL_law_933 rfl ?_
      refine g_iload C (i := 21) dL_law_935 rfl ?_
      refine g_la C dL_law_937 (hL.1 13 (by decide)) (reg_at (k := 13) (by decide)) rfl (by omega) (by decide) ?_
      refine g_lmul C dL_law_938 ?_
      refine g_lcmp C dL_law_939 ?_
      refine g_if_ne C 958 dL_law_940 (by decide) (fun h940 => ?_) (fun h940 => ?_)
      · exact absurd ((lg_cmp_eq _ _).mpr e2) h940
      · refine g_aload_n C (i := 1) dL_law_943 rfl rfl ?_
        refine g_iload C (i := 21) dL_law_944 rfl ?_
        refine g_callV C (q := (RX5, TX5, 4)) (rest := _) dL_law_946 mm_X5_shortTicks ml_L_68 mv_yX5_shortTicks ms_yX5_shortTicks (k_shortTicks hP hW hi) rfl hB rfl rfl ⟨by decide, by omega, by omega, Nat.le_of_ble_eq_true rfl⟩ (tk_retv ?_) tk_nothr
        refine g_aload C (i := 16) dL_law_949 rfl ?_
        refine g_iload C (i := 21) dL_law_951 rfl ?_
        refine g_la C dL_law_953 (hL.1 14 (by decide)) (reg_at (k := 14) (by decide)) rfl (by omega) (by decide) ?_
        refine g_lcmp C dL_law_954 ?_
        refine g_if_eq C 960 dL_law_955 (by decide) (fun h955 => ?_) (fun h955 => ?_)
        · refine g_iinc C (i := 21) (nI (i + 1)) dL_law_960 rfl (nI_1 i) (by decide) ?_
          refine g_goto C 903 dL_law_963 (by decide) ?_
          exact kk
        · exact absurd ((lg_cmp_eq _ _).mpr e3) h955
/-- from the first comparison of the levels to the next run -/
theorem law_cmp (C : tkC X cL_law RL nm 24 (some .boolean) hh 10 161 1460) (hcs : cs ≤ 161 ∧ ss ≤ 1460) (hP : lwP B q 15 σ) {c : Nat} {m : tkI × tkL} {l21 l22 l23 : Option Value} (hR : wRel 3 2 4 c (P, L) m) (hl : lR (J, K) m)
    (kk : ∀ t21, tkG X Q cs ss 966 (lvM sb B q c17 c18 (some (.int t19)) (some (.int many)) (some (.int t21)) l22 l23) [] σ (mI B q J P) (mL B q K L)) :
    tkG X Q cs ss 824 (lvM sb B q c17 c18 (some (.int t19)) (some (.int many)) l21 l22 l23) [] σ (mI B q J P) (mL B q K L) := by
  obtain ⟨hW1, hW2, hW3, -⟩ := hR.all
  obtain ⟨-, ⟨r3, -⟩, ⟨r11, -⟩, r5, ⟨r19, r20, r21⟩, -⟩ := hR
  obtain ⟨-, -, ⟨l10, -⟩, ⟨l13, -⟩, l12, l15, l16, l17⟩ := hl
  dsimp only at *
  have t3 : ∀ i, i < 3 → P 3 i = J 1 i := fun i hi => (r3 i hi).trans (l10 i hi)
  have t5 : ∀ i, i < 3 → L 5 i = K 3 i := fun i hi => (r5 i hi).trans (l12 i hi)
  have t11 : ∀ i, i < 2 → P 11 i = J 7 i := fun i hi => (r11 i hi).trans (l13 i hi)
  have t19' : ∀ i, i < 4 → L 19 i = K 13 i := fun i hi => (r19 i hi).trans (l15 i hi)
  have t20 : ∀ i, i < 4 → L 20 i = 2 * K 13 i := fun i hi => (r20 i hi).trans (l16 i hi)
  have t21' : ∀ i, i < 4 → L 21 i = K 14 i := fun i hi => (r21 i hi).trans (l17 i hi)
  refine g_iconst C (0) dL_law_824 rfl ?_
  refine g_istore C (i := 21) dL_law_825 (by decide) ?_
  refine law_ct1 C hcs hP (i := 0) hW1 (by omega) (t3 _ (by omega)) (t5 _ (by omega)) ?_
  refine law_ct1 C hcs hP (i := 1) hW1 (by omega) (t3 _ (by omega)) (t5 _ (by omega)) ?_
  refine law_ct1 C hcs hP (i := 2) hW1 (by omega) (t3 _ (by omega)) (t5 _ (by omega)) ?_
  refine g_iload C (i := 21) dL_law_827 rfl ?_
  refine g_iconst C (3) dL_law_829 rfl ?_
  refine g_icmp_ge C 869 dL_law_830 (by decide) (fun h830 => ?_) (fun h830 => ?_)
  · refine g_iconst C (0) dL_law_869 rfl ?_
    refine g_istore C (i := 21) dL_law_870 (by decide) ?_
    refine law_cs1 C hcs hP (i := 0) hW2 (by omega) (t11 _ (by omega)) ?_
    refine law_cs1 C hcs hP (i := 1) hW2 (by omega) (t11 _ (by omega)) ?_
    refine g_iload C (i := 21) dL_law_872 rfl ?_
    refine g_iconst C (2) dL_law_874 rfl ?_
    refine g_icmp_ge C 900 dL_law_875 (by decide) (fun h875 => ?_) (fun h875 => ?_)
    · refine g_iconst C (0) dL_law_900 rfl ?_
      refine g_istore C (i := 21) dL_law_901 (by decide) ?_
      refine law_cp1 C hcs hP (i := 0) hW3 (by omega) (t19' _ (by omega)) (t20 _ (by omega)) (t21' _ (by omega)) ?_
      refine law_cp1 C hcs hP (i := 1) hW3 (by omega) (t19' _ (by omega)) (t20 _ (by omega)) (t21' _ (by omega)) ?_
      refine law_cp1 C hcs hP (i := 2) hW3 (by omega) (t19' _ (by omega)) (t20 _ (by omega)) (t21' _ (by omega)) ?_
      refine law_cp1 C hcs hP (i := 3) hW3 (by omega) (t19' _ (by omega)) (t20 _ (by omega)) (t21' _ (by omega)) ?_
      refine g_iload C (i := 21) dL_law_903 rfl ?_
      refine g_iconst C (4) dL_law_905 rfl ?_
      refine g_icmp_ge C 966 dL_law_906 (by decide) (fun h906 => ?_) (fun h906 => ?_)
      · skip
        exact kk _
      · exact absurd (Int32.le_refl _) h906
    · exact absurd (Int32.le_refl _) h875
  · exact absurd (Int32.le_refl _) h830
end TKLCMP

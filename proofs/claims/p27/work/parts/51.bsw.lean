section TKBSW
variable {X : tkX} {Q : State → Prop} {nm : String} {hh : List (Nat × Nat × Nat × Nat)} {cs ss : Nat} {σ : tkM} {sb B q n : Nat} {xs : Nat → Int32} {J P : tkI}
theorem bR.sw {k : Nat} (h : bR 3 k 0 J P) (hk : k ≤ 2) : wSw P k := ⟨h.1.2.1, by omega, fun i hi => by
  obtain ⟨e, -, -, -, t, lo, hi, ht, j4, -⟩ := h.2.2.1 i hi
  exact ⟨t, by omega, e.trans j4⟩⟩
/-- one switch is made -/
theorem law_bs1 (C : tkC X cL_law RL nm 24 (some .boolean) hh 10 161 1460) (S : lwX X sb n xs) (hn : n ≤ 260) (hcs : cs ≤ 161 ∧ ss ≤ 1460) (hP : lwP B q 8 σ) {k : Nat} (hk : k < 2) {l11 : Option Value} (hb : bR 3 k 0 J P)
    (kk : ∀ J1 P1 l, bR 3 (k + 1) 0 J1 P1 → tkG X Q cs ss 143 (lvSw sb B q (some (.int (nI (k + 1)))) l) [] σ (mI B q J1 P1) (mL B q zL zL)) :
    tkG X Q cs ss 143 (lvSw sb B q (some (.int (nI k))) l11) [] σ (mI B q J P) (mL B q zL zL) := by
  have hL := hP.2.1
  have hB : σ.2.1 B = (5, 0) := hP.1.1.1
  have hT : wTk P 3 := ⟨hb.1.1, by omega⟩
  have hW : wSw P k := hb.sw (by omega)
  refine g_iload C (i := 10) dL_law_143 rfl ?_
  refine g_iconst C (2) dL_law_145 rfl ?_
  refine g_icmp_ge C 249 dL_law_146 (by decide) (fun h146 => ?_) (fun h146 => ?_)
  · exact absurd h146 (nI_ge (a := k) (b := 2) hk (by omega))
  · refine g_aload_n C (i := 0) dL_law_149 rfl rfl ?_
    refine g_iconst C (3) dL_law_150 rfl ?_
    refine g_iload C (i := 10) dL_law_151 rfl ?_
    refine g_iadd C dL_law_153 ?_
    refine g_cell C S dL_law_154 ml_L_12 (nI_add 3 k) hn (by omega) (by decide) hcs.1 hcs.2 (Nat.le_of_ble_eq_true rfl) ?_
    generalize jcell xs n (3 + k) = c
    obtain ⟨w, hw, ew⟩ := jbel_in c (n := 3) (by omega) (by omega)
    have ew' : jbel c 3 = nI w := ew
    obtain ⟨lo, hlo, el⟩ := jbel_in (c >>> (2 &&& 31)) (n := 6) (by omega) (by omega)
    have el' : jbel (c >>> (2 &&& 31)) 6 = nI lo := el
    obtain ⟨p2, -, -, a, b9, c9, ja, -, -, ha, ha2, -, -⟩ := hb.2.1 w hw
    obtain ⟨h, hh1, eh⟩ := jbel_in (c >>> (5 &&& 31)) (n := a - lo) (by omega) (by omega)
    refine g_istore C (i := 11) dL_law_157 (by decide) ?_
    refine g_aload C (i := 6) dL_law_159 rfl ?_
    refine g_iload C (i := 10) dL_law_161 rfl ?_
    refine g_iload C (i := 11) dL_law_163 rfl ?_
    refine g_iconst C (3) dL_law_165 rfl ?_
    refine g_callS C dL_law_166 mm_L_below ml_L_18 mt_yL_below (c_L_below _ _ (by decide)) rfl ⟨by decide, by omega, by omega, Nat.le_of_ble_eq_true rfl⟩ (tk_retv ?_) tk_nothr
    rw [ew']
    refine g_is C dL_law_169 (hL.1 4 (by decide)) (tk2_reg (k := 4) (by decide)) rfl (by omega) (by decide) ?_
    refine g_aload C (i := 7) dL_law_170 rfl ?_
    refine g_iload C (i := 10) dL_law_172 rfl ?_
    refine g_iload C (i := 11) dL_law_174 rfl ?_
    refine g_iconst C (2) dL_law_176 rfl ?_
    refine g_ishr C dL_law_177 ?_
    refine g_bipush C (6) dL_law_178 rfl ?_
    refine g_callS C dL_law_180 mm_L_below ml_L_18 mt_yL_below (c_L_below _ _ (by decide)) rfl ⟨by decide, by omega, by omega, Nat.le_of_ble_eq_true rfl⟩ (tk_retv ?_) tk_nothr
    rw [el']
    refine g_is C dL_law_183 (hL.1 5 (by decide)) (tk2_reg (k := 5) (by decide)) rfl (by omega) (by decide) ?_
    show tkG X Q cs ss 184 _ _ _ (mI B q (tk2 (tk2 J 4 k (nI w)) 5 k (nI lo)) P) (mL B q zL zL)
    have j4 : tk2 (tk2 J 4 k (nI w)) 5 k (nI lo) 4 k = nI w := by simp [tk2]
    have j5 : tk2 (tk2 J 4 k (nI w)) 5 k (nI lo) 5 k = nI lo := by simp [tk2]
    have j0 : tk2 (tk2 J 4 k (nI w)) 5 k (nI lo) 0 w = nI a := by
      rw [← ja]
      simp [tk2]
    have jo : ∀ j, j ≠ k → tk2 (tk2 J 4 k (nI w)) 5 k (nI lo) 4 j = J 4 j ∧ tk2 (tk2 J 4 k (nI w)) 5 k (nI lo) 5 j = J 5 j := fun j hj => by simp [tk2, hj]
    have jr : ∀ r, r ≠ 4 → r ≠ 5 → tk2 (tk2 J 4 k (nI w)) 5 k (nI lo) r = J r := fun r x y => by
      funext j
      simp [tk2, x, y]
    generalize tk2 (tk2 J 4 k (nI w)) 5 k (nI lo) = J2 at *
    refine g_aload C (i := 8) dL_law_184 rfl ?_
    refine g_iload C (i := 10) dL_law_186 rfl ?_
    refine g_aload C (i := 7) dL_law_188 rfl ?_
    refine g_iload C (i := 10) dL_law_190 rfl ?_
    refine g_ia C dL_law_192 (hL.1 5 (by decide)) (reg_at (k := 5) (by decide)) rfl (by omega) (by decide) ?_
    refine g_iconst C (1) dL_law_193 rfl ?_
    refine g_iadd C dL_law_194 ?_
    refine g_iload C (i := 11) dL_law_195 rfl ?_
    refine g_iconst C (5) dL_law_197 rfl ?_
    refine g_ishr C dL_law_198 ?_
    refine g_aload_n C (i := 2) dL_law_199 rfl rfl ?_
    refine g_aload C (i := 6) dL_law_200 rfl ?_
    refine g_iload C (i := 10) dL_law_202 rfl ?_
    refine g_ia C dL_law_204 (hL.1 4 (by decide)) (reg_at (k := 4) (by decide)) rfl (by omega) (by decide) ?_
    refine g_ia C dL_law_205 (hL.1 0 (by decide)) (reg_at (k := 0) (by decide)) j4 hw (by decide) ?_
    refine g_aload C (i := 7) dL_law_206 rfl ?_
    refine g_iload C (i := 10) dL_law_208 rfl ?_
    refine g_ia C dL_law_210 (hL.1 5 (by decide)) (reg_at (k := 5) (by decide)) rfl (by omega) (by decide) ?_
    refine g_isub C dL_law_211 ?_
    rw [j0, j5, pk_sub (by omega), nI_1]
    refine g_callS C dL_law_212 mm_L_below ml_L_18 mt_yL_below (c_L_below _ _ (nI_ne0 (by omega) (by omega))) rfl ⟨by decide, by omega, by omega, Nat.le_of_ble_eq_true rfl⟩ (tk_retv ?_) tk_nothr
    rw [eh]
    refine g_iadd C dL_law_215 ?_
    rw [nI_add]
    refine g_is C dL_law_216 (hL.1 6 (by decide)) (tk2_reg (k := 6) (by decide)) rfl (by omega) (by decide) ?_
    show tkG X Q cs ss 217 _ _ _ (mI B q (tk2 J2 6 k (nI (lo + 1 + h))) P) (mL B q zL zL)
    have i4 : tk2 J2 6 k (nI (lo + 1 + h)) 4 k = nI w := by
      rw [← j4]
      simp [tk2]
    have i5 : tk2 J2 6 k (nI (lo + 1 + h)) 5 k = nI lo := by
      rw [← j5]
      simp [tk2]
    have i6 : tk2 J2 6 k (nI (lo + 1 + h)) 6 k = nI (lo + 1 + h) := tk2_at
    have io : ∀ j, j ≠ k → tk2 J2 6 k (nI (lo + 1 + h)) 4 j = J 4 j ∧ tk2 J2 6 k (nI (lo + 1 + h)) 5 j = J 5 j ∧ tk2 J2 6 k (nI (lo + 1 + h)) 6 j = J 6 j := fun j hj => by
      rw [← (jo j hj).1, ← (jo j hj).2, ← jr 6 (by decide) (by decide)]
      simp [tk2, hj]
    have ir : ∀ r, r ≠ 4 → r ≠ 5 → r ≠ 6 → tk2 J2 6 k (nI (lo + 1 + h)) r = J r := fun r x y z => by
      rw [← jr r x y]
      funext j
      exact tk2_ne z
    generalize tk2 J2 6 k (nI (lo + 1 + h)) = J3 at *
    have hbt := hb.switch (J1 := J3) i4 i5 i6 hw (by omega) (by omega) io ir
    have hcon := k_addSwitch (J := J3) (K := zL) (L := zL) hP hT hW (nI lo) (nI (lo + 1 + h)) hw (nI_pos (by omega)) (nI_ge (by omega) (by omega)) (by rw [p2, ja]; exact nI_le (by omega) (by omega)) (by omega)
    refine g_aload_n C (i := 1) dL_law_217 rfl rfl ?_
    refine g_aload C (i := 6) dL_law_218 rfl ?_
    refine g_iload C (i := 10) dL_law_220 rfl ?_
    refine g_ia C dL_law_222 (hL.1 4 (by decide)) (reg_at (k := 4) (by decide)) rfl (by omega) (by decide) ?_
    refine g_aload C (i := 7) dL_law_223 rfl ?_
    refine g_iload C (i := 10) dL_law_225 rfl ?_
    refine g_ia C dL_law_227 (hL.1 5 (by decide)) (reg_at (k := 5) (by decide)) rfl (by omega) (by decide) ?_
    refine g_aload C (i := 8) dL_law_228 rfl ?_
    refine g_iload C (i := 10) dL_law_230 rfl ?_
    refine g_ia C dL_law_232 (hL.1 6 (by decide)) (reg_at (k := 6) (by decide)) rfl (by omega) (by decide) ?_
    rw [i4, i5, i6]
    refine g_callV C (q := (RX5, TX5, 4)) (rest := _) dL_law_233 mm_X5_addSwitch ml_L_26 mv_yX5_addSwitch ms_yX5_addSwitch (hcon) rfl hB rfl rfl ⟨by decide, by omega, by omega, Nat.le_of_ble_eq_true rfl⟩ (tk_retv ?_) tk_nothr
    refine g_iload C (i := 10) dL_law_236 rfl ?_
    refine g_icmp_eq C 243 dL_law_238 (by decide) (fun h238 => ?_) (fun h238 => ?_)
    · refine g_iinc C (i := 10) (nI (k + 1)) dL_law_243 rfl (nI_1 k) (by decide) ?_
      refine g_goto C 143 dL_law_246 (by decide) ?_
      exact kk _ _ _ hbt
    · exact absurd rfl h238
end TKBSW

section TKENTRY
variable {X : tkX} {Q : State → Prop} {nm : String} {hh : List (Nat × Nat × Nat × Nat)} {σ : tkM} {sb B q n : Nat} {xs : Nat → Int32}
theorem bR.nil : bR 0 0 0 zI zI := ⟨⟨rfl, rfl, rfl⟩, fun j hj => absurd hj (Nat.not_lt_zero j), fun j hj => absurd hj (Nat.not_lt_zero j), fun j hj => absurd hj (Nat.not_lt_zero j), fun _ => rfl⟩
/-- the law from the making of its pumps' rows -/
theorem law_from249 (C : tkC X cL_law RL nm 24 (some .boolean) hh 10 161 1460) (S : lwX X sb n xs) (hn : n ≤ 260) {cs ss : Nat} (hcs : cs + 7 ≤ 161 ∧ ss + 28 ≤ 1460) (hP : lwP B q 8 σ) (hend : ∀ cs ss lv σ I L, cs ≤ 161 → ss ≤ 1460 → tkG X Q cs ss 986 lv [.int 1] σ I L) {J P : tkI} {l10 l11 : Option Value} (hb : bR 3 2 0 J P) :
    tkG X Q cs ss 249 (lvSw sb B q l10 l11) [] σ (mI B q J P) (mL B q zL zL) := by
  refine g_iconst C (4) dL_law_249 rfl ?_
  refine nw_i C hP 4 (by decide) rfl dL_law_250 (by decide) (by decide) (by decide) (by omega) (by omega) fun σ9 hP9 => ?_
  refine g_astore C (i := 10) dL_law_252 (by decide) ?_
  show tkG X Q _ _ 254 [some (.ref sb), some (.ref B), some (.ref (q + 0)), some (.ref (q + 1)), some (.ref (q + 2)), some (.ref (q + 3)), some (.ref (q + 4)), some (.ref (q + 5)), some (.ref (q + 6)), some (.ref (q + 7)), some (.ref (q + 8)), l11, none, none, none, none, none, none, none, none, none, none, none, none] [] _ _ _
  refine g_iconst C (4) dL_law_254 rfl ?_
  refine nw_i C hP9 4 (by decide) rfl dL_law_255 (by decide) (by decide) (by decide) (by omega) (by omega) fun σ10 hP10 => ?_
  refine g_astore C (i := 11) dL_law_257 (by decide) ?_
  show tkG X Q _ _ 259 [some (.ref sb), some (.ref B), some (.ref (q + 0)), some (.ref (q + 1)), some (.ref (q + 2)), some (.ref (q + 3)), some (.ref (q + 4)), some (.ref (q + 5)), some (.ref (q + 6)), some (.ref (q + 7)), some (.ref (q + 8)), some (.ref (q + 9)), none, none, none, none, none, none, none, none, none, none, none, none] [] _ _ _
  refine g_iconst C (4) dL_law_259 rfl ?_
  refine nw_i C hP10 4 (by decide) rfl dL_law_260 (by decide) (by decide) (by decide) (by omega) (by omega) fun σ11 hP11 => ?_
  refine g_astore C (i := 12) dL_law_262 (by decide) ?_
  show tkG X Q _ _ 264 [some (.ref sb), some (.ref B), some (.ref (q + 0)), some (.ref (q + 1)), some (.ref (q + 2)), some (.ref (q + 3)), some (.ref (q + 4)), some (.ref (q + 5)), some (.ref (q + 6)), some (.ref (q + 7)), some (.ref (q + 8)), some (.ref (q + 9)), some (.ref (q + 10)), none, none, none, none, none, none, none, none, none, none, none] [] _ _ _
  refine g_iconst C (4) dL_law_264 rfl ?_
  refine nw_i C hP11 4 (by decide) rfl dL_law_265 (by decide) (by decide) (by decide) (by omega) (by omega) fun σ12 hP12 => ?_
  refine g_astore C (i := 13) dL_law_267 (by decide) ?_
  show tkG X Q _ _ 269 [some (.ref sb), some (.ref B), some (.ref (q + 0)), some (.ref (q + 1)), some (.ref (q + 2)), some (.ref (q + 3)), some (.ref (q + 4)), some (.ref (q + 5)), some (.ref (q + 6)), some (.ref (q + 7)), some (.ref (q + 8)), some (.ref (q + 9)), some (.ref (q + 10)), some (.ref (q + 11)), none, none, none, none, none, none, none, none, none, none] [] _ _ _
  refine g_iconst C (4) dL_law_269 rfl ?_
  refine nw_z C hP12 4 (by decide) rfl dL_law_270 (by decide) (by decide) (by decide) (by omega) (by omega) fun σ13 hP13 => ?_
  refine g_astore C (i := 14) dL_law_272 (by decide) ?_
  show tkG X Q _ _ 274 [some (.ref sb), some (.ref B), some (.ref (q + 0)), some (.ref (q + 1)), some (.ref (q + 2)), some (.ref (q + 3)), some (.ref (q + 4)), some (.ref (q + 5)), some (.ref (q + 6)), some (.ref (q + 7)), some (.ref (q + 8)), some (.ref (q + 9)), some (.ref (q + 10)), some (.ref (q + 11)), some (.ref (q + 12)), none, none, none, none, none, none, none, none, none] [] _ _ _
  refine g_iconst C (4) dL_law_274 rfl ?_
  refine nw_l C hP13 4 (by decide) rfl dL_law_275 (by decide) (by decide) (by decide) (by omega) (by omega) fun σ14 hP14 => ?_
  refine g_astore C (i := 15) dL_law_277 (by decide) ?_
  show tkG X Q _ _ 279 [some (.ref sb), some (.ref B), some (.ref (q + 0)), some (.ref (q + 1)), some (.ref (q + 2)), some (.ref (q + 3)), some (.ref (q + 4)), some (.ref (q + 5)), some (.ref (q + 6)), some (.ref (q + 7)), some (.ref (q + 8)), some (.ref (q + 9)), some (.ref (q + 10)), some (.ref (q + 11)), some (.ref (q + 12)), some (.ref (q + 13)), none, none, none, none, none, none, none, none] [] _ _ _
  refine g_iconst C (4) dL_law_279 rfl ?_
  refine nw_l C hP14 4 (by decide) rfl dL_law_280 (by decide) (by decide) (by decide) (by omega) (by omega) fun σ15 hP15 => ?_
  refine g_astore C (i := 16) dL_law_282 (by decide) ?_
  show tkG X Q _ _ 284 [some (.ref sb), some (.ref B), some (.ref (q + 0)), some (.ref (q + 1)), some (.ref (q + 2)), some (.ref (q + 3)), some (.ref (q + 4)), some (.ref (q + 5)), some (.ref (q + 6)), some (.ref (q + 7)), some (.ref (q + 8)), some (.ref (q + 9)), some (.ref (q + 10)), some (.ref (q + 11)), some (.ref (q + 12)), some (.ref (q + 13)), some (.ref (q + 14)), none, none, none, none, none, none, none] [] _ _ _
  refine g_iconst C (0) dL_law_284 rfl ?_
  refine g_istore C (i := 17) dL_law_285 (by decide) ?_
  have hb7 := ((((((hb.zero (n := 8) (by decide) (by omega) rfl).zero (n := 9) (by decide) (by omega) rfl).zero (n := 10) (by decide) (by omega) rfl).zero (n := 11) (by decide) (by omega) rfl).zero (n := 12) (by decide) (by omega) rfl).zero (n := 13) (by decide) (by omega) rfl).zero (n := 14) (by decide) (by omega) rfl
  refine law_bp1 C S hn (by omega) hP15 (k := 0) (by omega) hb7 fun J1 P1 l1 b1 => ?_
  refine law_bp1 C S hn (by omega) hP15 (k := 1) (by omega) b1 fun J2 P2 l2 b2 => ?_
  refine law_bp1 C S hn (by omega) hP15 (k := 2) (by omega) b2 fun J3 P3 l3 b3 => ?_
  refine law_bp1 C S hn (by omega) hP15 (k := 3) (by omega) b3 fun J4 P4 l4 b4 => ?_
  refine g_iload C (i := 17) dL_law_287 rfl ?_
  refine g_iconst C (4) dL_law_289 rfl ?_
  refine g_icmp_ge C 437 dL_law_290 (by decide) (fun h290 => ?_) (fun h290 => ?_)
  · refine g_iconst C (0) dL_law_437 rfl ?_
    refine g_istore C (i := 17) dL_law_438 (by decide) ?_
    refine g_iconst C (0) dL_law_440 rfl ?_
    refine g_istore C (i := 18) dL_law_441 (by decide) ?_
    exact law_main C S hn (by omega) hP15 hend 5 0 J4 P4 zL zL 0 _ _ _ _ _ (by omega) b4.inv
  · exact absurd (Int32.le_refl _) h290
/-- from the making of its switches' rows -/
theorem law_from120 (C : tkC X cL_law RL nm 24 (some .boolean) hh 10 161 1460) (S : lwX X sb n xs) (hn : n ≤ 260) {cs ss : Nat} (hcs : cs + 11 ≤ 161 ∧ ss + 36 ≤ 1460) (hP : lwP B q 4 σ) (hend : ∀ cs ss lv σ I L, cs ≤ 161 → ss ≤ 1460 → tkG X Q cs ss 986 lv [.int 1] σ I L) {J P : tkI} {l6 l7 : Option Value} (hb : bR 3 0 0 J P) :
    tkG X Q cs ss 120 (lvA sb B q l6 l7) [] σ (mI B q J P) (mL B q zL zL) := by
  refine g_iconst C (2) dL_law_120 rfl ?_
  refine nw_i C hP 2 (by decide) rfl dL_law_121 (by decide) (by decide) (by decide) (by omega) (by omega) fun σ5 hP5 => ?_
  refine g_astore C (i := 6) dL_law_123 (by decide) ?_
  show tkG X Q _ _ 125 [some (.ref sb), some (.ref B), some (.ref (q + 0)), some (.ref (q + 1)), some (.ref (q + 2)), some (.ref (q + 3)), some (.ref (q + 4)), l7, none, none, none, none, none, none, none, none, none, none, none, none, none, none, none, none] [] _ _ _
  refine g_iconst C (2) dL_law_125 rfl ?_
  refine nw_i C hP5 2 (by decide) rfl dL_law_126 (by decide) (by decide) (by decide) (by omega) (by omega) fun σ6 hP6 => ?_
  refine g_astore C (i := 7) dL_law_128 (by decide) ?_
  show tkG X Q _ _ 130 [some (.ref sb), some (.ref B), some (.ref (q + 0)), some (.ref (q + 1)), some (.ref (q + 2)), some (.ref (q + 3)), some (.ref (q + 4)), some (.ref (q + 5)), none, none, none, none, none, none, none, none, none, none, none, none, none, none, none, none] [] _ _ _
  refine g_iconst C (2) dL_law_130 rfl ?_
  refine nw_i C hP6 2 (by decide) rfl dL_law_131 (by decide) (by decide) (by decide) (by omega) (by omega) fun σ7 hP7 => ?_
  refine g_astore C (i := 8) dL_law_133 (by decide) ?_
  show tkG X Q _ _ 135 [some (.ref sb), some (.ref B), some (.ref (q + 0)), some (.ref (q + 1)), some (.ref (q + 2)), some (.ref (q + 3)), some (.ref (q + 4)), some (.ref (q + 5)), some (.ref (q + 6)), none, none, none, none, none, none, none, none, none, none, none, none, none, none, none] [] _ _ _
  refine g_iconst C (2) dL_law_135 rfl ?_
  refine nw_z C hP7 2 (by decide) rfl dL_law_136 (by decide) (by decide) (by decide) (by omega) (by omega) fun σ8 hP8 => ?_
  refine g_astore C (i := 9) dL_law_138 (by decide) ?_
  show tkG X Q _ _ 140 [some (.ref sb), some (.ref B), some (.ref (q + 0)), some (.ref (q + 1)), some (.ref (q + 2)), some (.ref (q + 3)), some (.ref (q + 4)), some (.ref (q + 5)), some (.ref (q + 6)), some (.ref (q + 7)), none, none, none, none, none, none, none, none, none, none, none, none, none, none] [] _ _ _
  refine g_iconst C (0) dL_law_140 rfl ?_
  refine g_istore C (i := 10) dL_law_141 (by decide) ?_
  have hb4 := (((hb.zero (n := 4) (by decide) (fun _ => rfl) rfl).zero (n := 5) (by decide) (fun _ => rfl) rfl).zero (n := 6) (by decide) (fun _ => rfl) rfl).zero (n := 7) (by decide) (fun _ => rfl) rfl
  refine law_bs1 C S hn (by omega) hP8 (k := 0) (by omega) hb4 fun J1 P1 l1 b1 => ?_
  refine law_bs1 C S hn (by omega) hP8 (k := 1) (by omega) b1 fun J2 P2 l2 b2 => ?_
  refine g_iload C (i := 10) dL_law_143 rfl ?_
  refine g_iconst C (2) dL_law_145 rfl ?_
  refine g_icmp_ge C 249 dL_law_146 (by decide) (fun h146 => ?_) (fun h146 => ?_)
  · skip
    exact law_from249 C S hn (by omega) hP8 hend b2
  · exact absurd (Int32.le_refl _) h146
/-- from the making of its tanks' rows -/
theorem law_from8 (C : tkC X cL_law RL nm 24 (some .boolean) hh 10 161 1460) (S : lwX X sb n xs) (hn : n ≤ 260) {cs ss : Nat} (hcs : cs + 15 ≤ 161 ∧ ss + 48 ≤ 1460) (hP : lwP B q 0 σ) (hend : ∀ cs ss lv σ I L, cs ≤ 161 → ss ≤ 1460 → tkG X Q cs ss 986 lv [.int 1] σ I L) :
    tkG X Q cs ss 8 [some (.ref sb), some (.ref B), none, none, none, none, none, none, none, none, none, none, none, none, none, none, none, none, none, none, none, none, none, none] [] σ (mI B q zI zI) (mL B q zL zL) := by
  refine g_iconst C (3) dL_law_8 rfl ?_
  refine nw_i C hP 3 (by decide) rfl dL_law_9 (by decide) (by decide) (by decide) (by omega) (by omega) fun σ1 hP1 => ?_
  rw [zI_1]
  refine g_astore_n C (i := 2) dL_law_11 rfl (by decide) ?_
  show tkG X Q _ _ 12 [some (.ref sb), some (.ref B), some (.ref (q + 0)), none, none, none, none, none, none, none, none, none, none, none, none, none, none, none, none, none, none, none, none, none] [] _ _ _
  refine g_iconst C (3) dL_law_12 rfl ?_
  refine nw_i C hP1 3 (by decide) rfl dL_law_13 (by decide) (by decide) (by decide) (by omega) (by omega) fun σ2 hP2 => ?_
  rw [zI_1]
  refine g_astore_n C (i := 3) dL_law_15 rfl (by decide) ?_
  show tkG X Q _ _ 16 [some (.ref sb), some (.ref B), some (.ref (q + 0)), some (.ref (q + 1)), none, none, none, none, none, none, none, none, none, none, none, none, none, none, none, none, none, none, none, none] [] _ _ _
  refine g_iconst C (3) dL_law_16 rfl ?_
  refine nw_i C hP2 3 (by decide) rfl dL_law_17 (by decide) (by decide) (by decide) (by omega) (by omega) fun σ3 hP3 => ?_
  rw [zI_1]
  refine g_astore C (i := 4) dL_law_19 (by decide) ?_
  show tkG X Q _ _ 21 [some (.ref sb), some (.ref B), some (.ref (q + 0)), some (.ref (q + 1)), some (.ref (q + 2)), none, none, none, none, none, none, none, none, none, none, none, none, none, none, none, none, none, none, none] [] _ _ _
  refine g_iconst C (3) dL_law_21 rfl ?_
  refine nw_l C hP3 3 (by decide) rfl dL_law_22 (by decide) (by decide) (by decide) (by omega) (by omega) fun σ4 hP4 => ?_
  rw [zI_1]
  refine g_astore C (i := 5) dL_law_24 (by decide) ?_
  show tkG X Q _ _ 26 [some (.ref sb), some (.ref B), some (.ref (q + 0)), some (.ref (q + 1)), some (.ref (q + 2)), some (.ref (q + 3)), none, none, none, none, none, none, none, none, none, none, none, none, none, none, none, none, none, none] [] _ _ _
  refine g_iconst C (0) dL_law_26 rfl ?_
  refine g_istore C (i := 6) dL_law_27 (by decide) ?_
  refine law_bt1 C S hn (by omega) hP4 (t := 0) (by omega) bR.nil fun J1 P1 l1 b1 => ?_
  refine law_bt1 C S hn (by omega) hP4 (t := 1) (by omega) b1 fun J2 P2 l2 b2 => ?_
  refine law_bt1 C S hn (by omega) hP4 (t := 2) (by omega) b2 fun J3 P3 l3 b3 => ?_
  refine g_iload C (i := 6) dL_law_29 rfl ?_
  refine g_iconst C (3) dL_law_31 rfl ?_
  refine g_icmp_ge C 120 dL_law_32 (by decide) (fun h32 => ?_) (fun h32 => ?_)
  · skip
    exact law_from120 C S hn (by omega) hP4 hend b3
  · exact absurd (Int32.le_refl _) h32
/-- the law from its entry -/
theorem law_entry (C : tkC X cL_law RL nm 24 (some .boolean) hh 10 161 1460) (S : lwX X sb n xs) (hn : n ≤ 260) (hend : ∀ cs ss lv σ I L, cs ≤ 161 → ss ≤ 1460 → tkG X Q cs ss 986 lv [.int 1] σ I L)
    {σ0 : tkM} (h0 : σ0.1 = B) : tkG X Q 0 0 0 [some (.ref sb), none, none, none, none, none, none, none, none, none, none, none, none, none, none, none, none, none, none, none, none, none, none, none] [] σ0 zI zL := by
  subst h0
  refine g_new C 5 (RX5, TX5, 4) dL_law_0 ml_L_9 mn_X5 mi_X5 rfl (Nat.le_of_ble_eq_true rfl) (Nat.le_of_ble_eq_true rfl) ?_
  rw [tkZI_z, tkZL_z]
  have x1 : (tkNw σ0 (5, 0)).2.1 σ0.1 = (5, 0) := if_pos rfl
  have x2 : (tkNw σ0 (5, 0)).1 = σ0.1 + 1 := rfl
  have hc := c_newX x1 (by omega)
  obtain ⟨hP5, hz⟩ := nX5_P5 x2 x1
  generalize nX5 (tkNw σ0 (5, 0)) σ0.1 = σ5 at *
  refine g_dup C dL_law_3 rfl ?_
  refine g_callI C dL_law_4 mm_X5_init ml_L_11 mv_yX5_init rfl (hc) rfl ⟨by decide, Nat.le_of_ble_eq_true rfl, Nat.le_of_ble_eq_true rfl, Nat.le_of_ble_eq_true rfl⟩ (tk_retn ?_) tk_nothr
  refine g_astore_n C (i := 1) dL_law_7 rfl (by decide) ?_
  have hP : lwP σ0.1 (σ0.1 + 58) 0 σ5 := ⟨hP5, ⟨fun k hk => absurd hk (Nat.not_lt_zero k), fun k j o hk => absurd hk (Nat.not_lt_zero k)⟩, hz, Nat.le_refl _⟩
  have h8 := law_from8 (cs := 58) (ss := 736) C S hn (by omega) hP hend
  rw [mI_z, mL_z] at h8
  exact h8
end TKENTRY

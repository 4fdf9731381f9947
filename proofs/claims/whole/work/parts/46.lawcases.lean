section TKLAWC
/-- a call on either side: the wrapper's mark k, the reference's answer b and its mark, the memory behind -/
def lwPair (w1 : Cond) (y1 : MethodName) (a1 : List Value) (w2 : Cond) (y2 : MethodName) (d2 : Nat) (a2 : List Value) (T : Type) (V : T → Value) (E : T → tkL → Prop) (B : Nat) (N : tkM → tkI → tkL → Prop) (σ : tkM) (I : tkI) (L : tkL) : Prop :=
  ∃ (k : Int32) (mc ms : Nat) (σ1 : tkM) (I1 : tkI) (L1 : tkL) (b : T) (I2 : tkI) (L2 : tkL), (mc ≤ 28 ∧ ms ≤ 364) ∧ tkCon true w1 y1 11 a1 σ I L mc ms (.inl (some (.int k))) σ1 I1 L1 ∧ (∀ n, σ1.1 ≤ n → tkCon false w2 y2 d2 a2 (n, σ1.2) I1 L1 0 0 (.inl (some (V b))) (n, σ1.2) I2 L2) ∧
    I2 (B + 58) 0 = k ∧ (k = 0 → E b L2) ∧ (tkReg 21 mT mF σ1 (B + 58) ∧ σ1.2.1 (B + 79) = (11, 1) ∧ σ1.2.1 (B + 80) = (13, 1)) ∧ ∀ n, σ1.1 ≤ n → N (n, σ1.2) I2 L2
/-- a question without a wrapper -/
def lwAsk (w1 : Cond) (y1 : MethodName) (w2 : Cond) (y2 : MethodName) (B : Nat) (N : tkM → tkI → tkL → Prop) (σ : tkM) (I : tkI) (L : tkL) : Prop :=
  ∃ (mc ms : Nat) (I1 : tkI) (L1 : tkL) (b : Int64) (I2 : tkI) (L2 : tkL), (mc ≤ 28 ∧ ms ≤ 364) ∧ tkCon false w1 y1 10 [.ref B] σ I L mc ms (.inl (some (.long b))) σ I1 L1 ∧ tkCon false w2 y2 2 [.ref (B + 58)] σ I1 L1 0 0 (.inl (some (.long b))) σ I2 L2 ∧
    (σ.2.1 B = (5, 0) ∧ tkReg 21 mT mF σ (B + 58)) ∧ N σ I2 L2
variable {X : tkX} {Q : State → Prop} {nm : String} {sb n B i cs ss : Nat} {xs : Nat → Int32} {hh : List (Nat × Nat × Nat × Nat)} {l6 l7 l8 : Option Value} {σ : tkM} {I : tkI} {L : tkL} {N : tkM → tkI → tkL → Prop}
theorem lc_addTank (C : tkC X cL_law RL nm 9 (some .boolean) hh 12 601024 7293034) (S : lwX X sb n xs) (hn : n < 2 ^ 31) (hi : i + 3 < n) (hcs : cs + 28 ≤ 601024) (hss : ss + 364 ≤ 7293034)
    (h : lwPair (.codeWith yL_addTank cL_addTank 6 (some .int) [(0, 12, 15, 13), (0, 12, 19, 15)]) yL_addTank [.ref B, .int (xs (i + 1)), .int (xs (i + 2)), .int (xs (i + 3)), .ref (B + 79)] (.code yX6_addTank cX6_addTank 4 (some .int)) yX6_addTank 2 [.ref (B + 58), .int (xs (i + 1)), .int (xs (i + 2)), .int (xs (i + 3))] Int32 Value.int (fun b L2 => L2 (B + 79) 0 = b.toInt64) B N σ I L)
    (kk : ∀ σ2 I2 L2 l6 l7 l8, N σ2 I2 L2 → tkG X Q (cs + 28) (ss + 364) 1545 [some (.ref sb), some (.ref B), some (.ref (B + 58)), some (.ref (B + 79)), some (.ref (B + 80)), some (.int (nI i)), l6, l7, l8] [] σ2 I2 L2) : tkG X Q cs ss 156 [some (.ref sb), some (.ref B), some (.ref (B + 58)), some (.ref (B + 79)), some (.ref (B + 80)), some (.int (nI i)), l6, l7, l8] [] σ I L := by
  obtain ⟨k, mc, ms, σ1, I1, L1, b, I2, L2, ⟨z1, z2⟩, h1, h2, h3, h4, ⟨hM, hO, hD⟩, hN⟩ := h
  refine g_aload_n C (i := 1) dL_law_156 rfl rfl ?_
  refine g_aload_n C (i := 0) dL_law_157 rfl rfl ?_
  refine g_iload C (i := 5) dL_law_158 rfl ?_
  refine g_iconst C (1) dL_law_160 rfl ?_
  refine g_iadd C dL_law_161 ?_
  refine g_scr C S dL_law_162 (nI_add i 1) (by omega) hn ?_
  refine g_aload_n C (i := 0) dL_law_163 rfl rfl ?_
  refine g_iload C (i := 5) dL_law_164 rfl ?_
  refine g_iconst C (2) dL_law_166 rfl ?_
  refine g_iadd C dL_law_167 ?_
  refine g_scr C S dL_law_168 (nI_add i 2) (by omega) hn ?_
  refine g_aload_n C (i := 0) dL_law_169 rfl rfl ?_
  refine g_iload C (i := 5) dL_law_170 rfl ?_
  refine g_iconst C (3) dL_law_172 rfl ?_
  refine g_iadd C dL_law_173 ?_
  refine g_scr C S dL_law_174 (nI_add i 3) (by omega) hn ?_
  refine g_aload_n C (i := 3) dL_law_175 rfl rfl ?_
  refine g_callSH C dL_law_176 mm_L_addTank ml_L_88 mt_yL_addTank (h1) rfl ⟨by decide, by omega, by omega, Nat.le_of_ble_eq_true rfl⟩ (tk_retl fun n1 hn1 => ?_) tk_nothr
  refine g_istore C (i := 6) dL_law_179 (by decide) ?_
  refine g_aload_n C (i := 2) dL_law_181 rfl rfl ?_
  refine g_aload_n C (i := 0) dL_law_182 rfl rfl ?_
  refine g_iload C (i := 5) dL_law_183 rfl ?_
  refine g_iconst C (1) dL_law_185 rfl ?_
  refine g_iadd C dL_law_186 ?_
  refine g_scr C S dL_law_187 (nI_add i 1) (by omega) hn ?_
  refine g_aload_n C (i := 0) dL_law_188 rfl rfl ?_
  refine g_iload C (i := 5) dL_law_189 rfl ?_
  refine g_iconst C (2) dL_law_191 rfl ?_
  refine g_iadd C dL_law_192 ?_
  refine g_scr C S dL_law_193 (nI_add i 2) (by omega) hn ?_
  refine g_aload_n C (i := 0) dL_law_194 rfl rfl ?_
  refine g_iload C (i := 5) dL_law_195 rfl ?_
  refine g_iconst C (3) dL_law_197 rfl ?_
  refine g_iadd C dL_law_198 ?_
  refine g_scr C S dL_law_199 (nI_add i 3) (by omega) hn ?_
  refine g_callV C (q := (RX6, TX6, 29)) (rest := _) dL_law_200 mm_X6_addTank ml_L_93 mv_yX6_addTank ms_yX6_addTank (h2 n1 hn1) rfl (hM.1 0 (by decide)) rfl rfl ⟨by decide, by omega, by omega, Nat.le_of_ble_eq_true rfl⟩ (tk_retv ?_) tk_nothr
  refine g_istore C (i := 7) dL_law_203 (by decide) ?_
  refine g_aload_n C (i := 2) dL_law_205 rfl rfl ?_
  refine g_callV C (q := (RX6, TX6, 29)) (rest := _) dL_law_206 mm_X6_thrown ml_L_94 mv_yX6_thrown ms_yX6_thrown (c_thr (σ := (n1, σ1.2)) hM) rfl (hM.1 0 (by decide)) rfl rfl ⟨by decide, by omega, by omega, Nat.le_of_ble_eq_true rfl⟩ (tk_retv ?_) tk_nothr
  refine g_iload C (i := 6) dL_law_209 rfl ?_
  refine g_icmp_eq C 216 dL_law_211 (by decide) (fun h211 => ?_) (fun h211 => ?_)
  · refine g_iload C (i := 6) dL_law_216 rfl ?_
    refine g_if_ne C 233 dL_law_218 (by decide) (fun h218 => ?_) (fun h218 => ?_)
    · refine g_goto C 1545 dL_law_233 (by decide) ?_
      exact g_wid (by omega) (by omega) (kk _ _ _ _ _ _ (hN n1 hn1))
    · refine g_aload_n C (i := 3) dL_law_221 rfl rfl ?_
      refine g_iconst C (0) dL_law_222 rfl ?_
      refine g_la C dL_law_223 hO rfl rfl (by decide) (by decide) ?_
      refine g_iload C (i := 7) dL_law_224 rfl ?_
      refine g_i2l C dL_law_226 ?_
      refine g_lcmp C dL_law_227 ?_
      refine g_if_eq C 233 dL_law_228 (by decide) (fun h228 => ?_) (fun h228 => ?_)
      · refine g_goto C 1545 dL_law_233 (by decide) ?_
        exact g_wid (by omega) (by omega) (kk _ _ _ _ _ _ (hN n1 hn1))
      · exact absurd ((lg_cmp_eq _ _).mpr (h4 h218)) h228
  · exact absurd h3 h211
theorem lc_addSwitch (C : tkC X cL_law RL nm 9 (some .boolean) hh 12 601024 7293034) (S : lwX X sb n xs) (hn : n < 2 ^ 31) (hi : i + 3 < n) (hcs : cs + 28 ≤ 601024) (hss : ss + 364 ≤ 7293034)
    (h : lwPair (.codeWith yL_addSwitch cL_addSwitch 6 (some .int) [(0, 12, 15, 20), (0, 12, 19, 13), (0, 12, 23, 15)]) yL_addSwitch [.ref B, .int (xs (i + 1)), .int (xs (i + 2)), .int (xs (i + 3)), .ref (B + 79)] (.code yX6_addSwitch cX6_addSwitch 4 (some .int)) yX6_addSwitch 2 [.ref (B + 58), .int (xs (i + 1)), .int (xs (i + 2)), .int (xs (i + 3))] Int32 Value.int (fun b L2 => L2 (B + 79) 0 = b.toInt64) B N σ I L)
    (kk : ∀ σ2 I2 L2 l6 l7 l8, N σ2 I2 L2 → tkG X Q (cs + 28) (ss + 364) 1545 [some (.ref sb), some (.ref B), some (.ref (B + 58)), some (.ref (B + 79)), some (.ref (B + 80)), some (.int (nI i)), l6, l7, l8] [] σ2 I2 L2) : tkG X Q cs ss 236 [some (.ref sb), some (.ref B), some (.ref (B + 58)), some (.ref (B + 79)), some (.ref (B + 80)), some (.int (nI i)), l6, l7, l8] [] σ I L := by
  obtain ⟨k, mc, ms, σ1, I1, L1, b, I2, L2, ⟨z1, z2⟩, h1, h2, h3, h4, ⟨hM, hO, hD⟩, hN⟩ := h
  refine g_aload_n C (i := 1) dL_law_236 rfl rfl ?_
  refine g_aload_n C (i := 0) dL_law_237 rfl rfl ?_
  refine g_iload C (i := 5) dL_law_238 rfl ?_
  refine g_iconst C (1) dL_law_240 rfl ?_
  refine g_iadd C dL_law_241 ?_
  refine g_scr C S dL_law_242 (nI_add i 1) (by omega) hn ?_
  refine g_aload_n C (i := 0) dL_law_243 rfl rfl ?_
  refine g_iload C (i := 5) dL_law_244 rfl ?_
  refine g_iconst C (2) dL_law_246 rfl ?_
  refine g_iadd C dL_law_247 ?_
  refine g_scr C S dL_law_248 (nI_add i 2) (by omega) hn ?_
  refine g_aload_n C (i := 0) dL_law_249 rfl rfl ?_
  refine g_iload C (i := 5) dL_law_250 rfl ?_
  refine g_iconst C (3) dL_law_252 rfl ?_
  refine g_iadd C dL_law_253 ?_
  refine g_scr C S dL_law_254 (nI_add i 3) (by omega) hn ?_
  refine g_aload_n C (i := 3) dL_law_255 rfl rfl ?_
  refine g_callSH C dL_law_256 mm_L_addSwitch ml_L_97 mt_yL_addSwitch (h1) rfl ⟨by decide, by omega, by omega, Nat.le_of_ble_eq_true rfl⟩ (tk_retl fun n1 hn1 => ?_) tk_nothr
  refine g_istore C (i := 6) dL_law_259 (by decide) ?_
  refine g_aload_n C (i := 2) dL_law_261 rfl rfl ?_
  refine g_aload_n C (i := 0) dL_law_262 rfl rfl ?_
  refine g_iload C (i := 5) dL_law_263 rfl ?_
  refine g_iconst C (1) dL_law_265 rfl ?_
  refine g_iadd C dL_law_266 ?_
  refine g_scr C S dL_law_267 (nI_add i 1) (by omega) hn ?_
  refine g_aload_n C (i := 0) dL_law_268 rfl rfl ?_
  refine g_iload C (i := 5) dL_law_269 rfl ?_
  refine g_iconst C (2) dL_law_271 rfl ?_
  refine g_iadd C dL_law_272 ?_
  refine g_scr C S dL_law_273 (nI_add i 2) (by omega) hn ?_
  refine g_aload_n C (i := 0) dL_law_274 rfl rfl ?_
  refine g_iload C (i := 5) dL_law_275 rfl ?_
  refine g_iconst C (3) dL_law_277 rfl ?_
  refine g_iadd C dL_law_278 ?_
  refine g_scr C S dL_law_279 (nI_add i 3) (by omega) hn ?_
  refine g_callV C (q := (RX6, TX6, 29)) (rest := _) dL_law_280 mm_X6_addSwitch ml_L_99 mv_yX6_addSwitch ms_yX6_addSwitch (h2 n1 hn1) rfl (hM.1 0 (by decide)) rfl rfl ⟨by decide, by omega, by omega, Nat.le_of_ble_eq_true rfl⟩ (tk_retv ?_) tk_nothr
  refine g_istore C (i := 7) dL_law_283 (by decide) ?_
  refine g_aload_n C (i := 2) dL_law_285 rfl rfl ?_
  refine g_callV C (q := (RX6, TX6, 29)) (rest := _) dL_law_286 mm_X6_thrown ml_L_94 mv_yX6_thrown ms_yX6_thrown (c_thr (σ := (n1, σ1.2)) hM) rfl (hM.1 0 (by decide)) rfl rfl ⟨by decide, by omega, by omega, Nat.le_of_ble_eq_true rfl⟩ (tk_retv ?_) tk_nothr
  refine g_iload C (i := 6) dL_law_289 rfl ?_
  refine g_icmp_eq C 296 dL_law_291 (by decide) (fun h291 => ?_) (fun h291 => ?_)
  · refine g_iload C (i := 6) dL_law_296 rfl ?_
    refine g_if_ne C 313 dL_law_298 (by decide) (fun h298 => ?_) (fun h298 => ?_)
    · refine g_goto C 1545 dL_law_313 (by decide) ?_
      exact g_wid (by omega) (by omega) (kk _ _ _ _ _ _ (hN n1 hn1))
    · refine g_aload_n C (i := 3) dL_law_301 rfl rfl ?_
      refine g_iconst C (0) dL_law_302 rfl ?_
      refine g_la C dL_law_303 hO rfl rfl (by decide) (by decide) ?_
      refine g_iload C (i := 7) dL_law_304 rfl ?_
      refine g_i2l C dL_law_306 ?_
      refine g_lcmp C dL_law_307 ?_
      refine g_if_eq C 313 dL_law_308 (by decide) (fun h308 => ?_) (fun h308 => ?_)
      · refine g_goto C 1545 dL_law_313 (by decide) ?_
        exact g_wid (by omega) (by omega) (kk _ _ _ _ _ _ (hN n1 hn1))
      · exact absurd ((lg_cmp_eq _ _).mpr (h4 h298)) h308
  · exact absurd h3 h291
theorem lc_addPump (C : tkC X cL_law RL nm 9 (some .boolean) hh 12 601024 7293034) (S : lwX X sb n xs) (hn : n < 2 ^ 31) (hi : i + 6 < n) (bz : Int32) (hbz : bz = if xs (i + 6) = 0 then 0 else 1) (hcs : cs + 28 ≤ 601024) (hss : ss + 364 ≤ 7293034)
    (h : lwPair (.codeWith yL_addPump cL_addPump 9 (some .int) [(0, 18, 21, 20), (0, 18, 25, 13), (0, 18, 29, 15)]) yL_addPump [.ref B, .int (xs (i + 1)), .int (xs (i + 2)), .int (xs (i + 3)), .int (xs (i + 4)), .int (xs (i + 5)), .int bz, .ref (B + 79)] (.code yX6_addPump cX6_addPump 7 (some .int)) yX6_addPump 2 [.ref (B + 58), .int (xs (i + 1)), .int (xs (i + 2)), .int (xs (i + 3)), .int (xs (i + 4)), .int (xs (i + 5)), .int bz] Int32 Value.int (fun b L2 => L2 (B + 79) 0 = b.toInt64) B N σ I L)
    (kk : ∀ σ2 I2 L2 l6 l7 l8, N σ2 I2 L2 → tkG X Q (cs + 28) (ss + 364) 1545 [some (.ref sb), some (.ref B), some (.ref (B + 58)), some (.ref (B + 79)), some (.ref (B + 80)), some (.int (nI i)), l6, l7, l8] [] σ2 I2 L2) : tkG X Q cs ss 316 [some (.ref sb), some (.ref B), some (.ref (B + 58)), some (.ref (B + 79)), some (.ref (B + 80)), some (.int (nI i)), l6, l7, l8] [] σ I L := by
  obtain ⟨k, mc, ms, σ1, I1, L1, b, I2, L2, ⟨z1, z2⟩, h1, h2, h3, h4, ⟨hM, hO, hD⟩, hN⟩ := h
  by_cases hz : xs (i + 6) = 0
  · rw [if_pos hz] at hbz
    subst hbz
    refine g_aload_n C (i := 1) dL_law_316 rfl rfl ?_
    refine g_aload_n C (i := 0) dL_law_317 rfl rfl ?_
    refine g_iload C (i := 5) dL_law_318 rfl ?_
    refine g_iconst C (1) dL_law_320 rfl ?_
    refine g_iadd C dL_law_321 ?_
    refine g_scr C S dL_law_322 (nI_add i 1) (by omega) hn ?_
    refine g_aload_n C (i := 0) dL_law_323 rfl rfl ?_
    refine g_iload C (i := 5) dL_law_324 rfl ?_
    refine g_iconst C (2) dL_law_326 rfl ?_
    refine g_iadd C dL_law_327 ?_
    refine g_scr C S dL_law_328 (nI_add i 2) (by omega) hn ?_
    refine g_aload_n C (i := 0) dL_law_329 rfl rfl ?_
    refine g_iload C (i := 5) dL_law_330 rfl ?_
    refine g_iconst C (3) dL_law_332 rfl ?_
    refine g_iadd C dL_law_333 ?_
    refine g_scr C S dL_law_334 (nI_add i 3) (by omega) hn ?_
    refine g_aload_n C (i := 0) dL_law_335 rfl rfl ?_
    refine g_iload C (i := 5) dL_law_336 rfl ?_
    refine g_iconst C (4) dL_law_338 rfl ?_
    refine g_iadd C dL_law_339 ?_
    refine g_scr C S dL_law_340 (nI_add i 4) (by omega) hn ?_
    refine g_aload_n C (i := 0) dL_law_341 rfl rfl ?_
    refine g_iload C (i := 5) dL_law_342 rfl ?_
    refine g_iconst C (5) dL_law_344 rfl ?_
    refine g_iadd C dL_law_345 ?_
    refine g_scr C S dL_law_346 (nI_add i 5) (by omega) hn ?_
    refine g_aload_n C (i := 0) dL_law_347 rfl rfl ?_
    refine g_iload C (i := 5) dL_law_348 rfl ?_
    refine g_bipush C (6) dL_law_350 rfl ?_
    refine g_iadd C dL_law_352 ?_
    refine g_scr C S dL_law_353 (nI_add i 6) (by omega) hn ?_
    refine g_if_eq C 361 dL_law_354 (by decide) (fun h354 => ?_) (fun h354 => ?_)
    · refine g_iconst C (0) dL_law_361 rfl ?_
      refine g_aload_n C (i := 3) dL_law_362 rfl rfl ?_
      refine g_callSH C dL_law_363 mm_L_addPump ml_L_100 mt_yL_addPump (h1) rfl ⟨by decide, by omega, by omega, Nat.le_of_ble_eq_true rfl⟩ (tk_retl fun n1 hn1 => ?_) tk_nothr
      refine g_istore C (i := 6) dL_law_366 (by decide) ?_
      refine g_aload_n C (i := 2) dL_law_368 rfl rfl ?_
      refine g_aload_n C (i := 0) dL_law_369 rfl rfl ?_
      refine g_iload C (i := 5) dL_law_370 rfl ?_
      refine g_iconst C (1) dL_law_372 rfl ?_
      refine g_iadd C dL_law_373 ?_
      refine g_scr C S dL_law_374 (nI_add i 1) (by omega) hn ?_
      refine g_aload_n C (i := 0) dL_law_375 rfl rfl ?_
      refine g_iload C (i := 5) dL_law_376 rfl ?_
      refine g_iconst C (2) dL_law_378 rfl ?_
      refine g_iadd C dL_law_379 ?_
      refine g_scr C S dL_law_380 (nI_add i 2) (by omega) hn ?_
      refine g_aload_n C (i := 0) dL_law_381 rfl rfl ?_
      refine g_iload C (i := 5) dL_law_382 rfl ?_
      refine g_iconst C (3) dL_law_384 rfl ?_
      refine g_iadd C dL_law_385 ?_
      refine g_scr C S dL_law_386 (nI_add i 3) (by omega) hn ?_
      refine g_aload_n C (i := 0) dL_law_387 rfl rfl ?_
      refine g_iload C (i := 5) dL_law_388 rfl ?_
      refine g_iconst C (4) dL_law_390 rfl ?_
      refine g_iadd C dL_law_391 ?_
      refine g_scr C S dL_law_392 (nI_add i 4) (by omega) hn ?_
      refine g_aload_n C (i := 0) dL_law_393 rfl rfl ?_
      refine g_iload C (i := 5) dL_law_394 rfl ?_
      refine g_iconst C (5) dL_law_396 rfl ?_
      refine g_iadd C dL_law_397 ?_
      refine g_scr C S dL_law_398 (nI_add i 5) (by omega) hn ?_
      refine g_aload_n C (i := 0) dL_law_399 rfl rfl ?_
      refine g_iload C (i := 5) dL_law_400 rfl ?_
      refine g_bipush C (6) dL_law_402 rfl ?_
      refine g_iadd C dL_law_404 ?_
      refine g_scr C S dL_law_405 (nI_add i 6) (by omega) hn ?_
      refine g_if_eq C 413 dL_law_406 (by decide) (fun h406 => ?_) (fun h406 => ?_)
      · refine g_iconst C (0) dL_law_413 rfl ?_
        refine g_callV C (q := (RX6, TX6, 29)) (rest := _) dL_law_414 mm_X6_addPump ml_L_103 mv_yX6_addPump ms_yX6_addPump (h2 n1 hn1) rfl (hM.1 0 (by decide)) rfl rfl ⟨by decide, by omega, by omega, Nat.le_of_ble_eq_true rfl⟩ (tk_retv ?_) tk_nothr
        refine g_istore C (i := 7) dL_law_417 (by decide) ?_
        refine g_aload_n C (i := 2) dL_law_419 rfl rfl ?_
        refine g_callV C (q := (RX6, TX6, 29)) (rest := _) dL_law_420 mm_X6_thrown ml_L_94 mv_yX6_thrown ms_yX6_thrown (c_thr (σ := (n1, σ1.2)) hM) rfl (hM.1 0 (by decide)) rfl rfl ⟨by decide, by omega, by omega, Nat.le_of_ble_eq_true rfl⟩ (tk_retv ?_) tk_nothr
        refine g_iload C (i := 6) dL_law_423 rfl ?_
        refine g_icmp_eq C 430 dL_law_425 (by decide) (fun h425 => ?_) (fun h425 => ?_)
        · refine g_iload C (i := 6) dL_law_430 rfl ?_
          refine g_if_ne C 447 dL_law_432 (by decide) (fun h432 => ?_) (fun h432 => ?_)
          · refine g_goto C 1545 dL_law_447 (by decide) ?_
            exact g_wid (by omega) (by omega) (kk _ _ _ _ _ _ (hN n1 hn1))
          · refine g_aload_n C (i := 3) dL_law_435 rfl rfl ?_
            refine g_iconst C (0) dL_law_436 rfl ?_
            refine g_la C dL_law_437 hO rfl rfl (by decide) (by decide) ?_
            refine g_iload C (i := 7) dL_law_438 rfl ?_
            refine g_i2l C dL_law_440 ?_
            refine g_lcmp C dL_law_441 ?_
            refine g_if_eq C 447 dL_law_442 (by decide) (fun h442 => ?_) (fun h442 => ?_)
            · refine g_goto C 1545 dL_law_447 (by decide) ?_
              exact g_wid (by omega) (by omega) (kk _ _ _ _ _ _ (hN n1 hn1))
            · exact absurd ((lg_cmp_eq _ _).mpr (h4 h432)) h442
        · exact absurd h3 h425
      · exact absurd hz h406
    · exact absurd hz h354
  · rw [if_neg hz] at hbz
    subst hbz
    refine g_aload_n C (i := 1) dL_law_316 rfl rfl ?_
    refine g_aload_n C (i := 0) dL_law_317 rfl rfl ?_
    refine g_iload C (i := 5) dL_law_318 rfl ?_
    refine g_iconst C (1) dL_law_320 rfl ?_
    refine g_iadd C dL_law_321 ?_
    refine g_scr C S dL_law_322 (nI_add i 1) (by omega) hn ?_
    refine g_aload_n C (i := 0) dL_law_323 rfl rfl ?_
    refine g_iload C (i := 5) dL_law_324 rfl ?_
    refine g_iconst C (2) dL_law_326 rfl ?_
    refine g_iadd C dL_law_327 ?_
    refine g_scr C S dL_law_328 (nI_add i 2) (by omega) hn ?_
    refine g_aload_n C (i := 0) dL_law_329 rfl rfl ?_
    refine g_iload C (i := 5) dL_law_330 rfl ?_
    refine g_iconst C (3) dL_law_332 rfl ?_
    refine g_iadd C dL_law_333 ?_
    refine g_scr C S dL_law_334 (nI_add i 3) (by omega) hn ?_
    refine g_aload_n C (i := 0) dL_law_335 rfl rfl ?_
    refine g_iload C (i := 5) dL_law_336 rfl ?_
    refine g_iconst C (4) dL_law_338 rfl ?_
    refine g_iadd C dL_law_339 ?_
    refine g_scr C S dL_law_340 (nI_add i 4) (by omega) hn ?_
    refine g_aload_n C (i := 0) dL_law_341 rfl rfl ?_
    refine g_iload C (i := 5) dL_law_342 rfl ?_
    refine g_iconst C (5) dL_law_344 rfl ?_
    refine g_iadd C dL_law_345 ?_
    refine g_scr C S dL_law_346 (nI_add i 5) (by omega) hn ?_
    refine g_aload_n C (i := 0) dL_law_347 rfl rfl ?_
    refine g_iload C (i := 5) dL_law_348 rfl ?_
    refine g_bipush C (6) dL_law_350 rfl ?_
    refine g_iadd C dL_law_352 ?_
    refine g_scr C S dL_law_353 (nI_add i 6) (by omega) hn ?_
    refine g_if_eq C 361 dL_law_354 (by decide) (fun h354 => ?_) (fun h354 => ?_)
    · exact absurd h354 hz
    · refine g_iconst C (1) dL_law_357 rfl ?_
      refine g_goto C 362 dL_law_358 (by decide) ?_
      refine g_aload_n C (i := 3) dL_law_362 rfl rfl ?_
      refine g_callSH C dL_law_363 mm_L_addPump ml_L_100 mt_yL_addPump (h1) rfl ⟨by decide, by omega, by omega, Nat.le_of_ble_eq_true rfl⟩ (tk_retl fun n1 hn1 => ?_) tk_nothr
      refine g_istore C (i := 6) dL_law_366 (by decide) ?_
      refine g_aload_n C (i := 2) dL_law_368 rfl rfl ?_
      refine g_aload_n C (i := 0) dL_law_369 rfl rfl ?_
      refine g_iload C (i := 5) dL_law_370 rfl ?_
      refine g_iconst C (1) dL_law_372 rfl ?_
      refine g_iadd C dL_law_373 ?_
      refine g_scr C S dL_law_374 (nI_add i 1) (by omega) hn ?_
      refine g_aload_n C (i := 0) dL_law_375 rfl rfl ?_
      refine g_iload C (i := 5) dL_law_376 rfl ?_
      refine g_iconst C (2) dL_law_378 rfl ?_
      refine g_iadd C dL_law_379 ?_
      refine g_scr C S dL_law_380 (nI_add i 2) (by omega) hn ?_
      refine g_aload_n C (i := 0) dL_law_381 rfl rfl ?_
      refine g_iload C (i := 5) dL_law_382 rfl ?_
      refine g_iconst C (3) dL_law_384 rfl ?_
      refine g_iadd C dL_law_385 ?_
      refine g_scr C S dL_law_386 (nI_add i 3) (by omega) hn ?_
      refine g_aload_n C (i := 0) dL_law_387 rfl rfl ?_
      refine g_iload C (i := 5) dL_law_388 rfl ?_
      refine g_iconst C (4) dL_law_390 rfl ?_
      refine g_iadd C dL_law_391 ?_
      refine g_scr C S dL_law_392 (nI_add i 4) (by omega) hn ?_
      refine g_aload_n C (i := 0) dL_law_393 rfl rfl ?_
      refine g_iload C (i := 5) dL_law_394 rfl ?_
      refine g_iconst C (5) dL_law_396 rfl ?_
      refine g_iadd C dL_law_397 ?_
      refine g_scr C S dL_law_398 (nI_add i 5) (by omega) hn ?_
      refine g_aload_n C (i := 0) dL_law_399 rfl rfl ?_
      refine g_iload C (i := 5) dL_law_400 rfl ?_
      refine g_bipush C (6) dL_law_402 rfl ?_
      refine g_iadd C dL_law_404 ?_
      refine g_scr C S dL_law_405 (nI_add i 6) (by omega) hn ?_
      refine g_if_eq C 413 dL_law_406 (by decide) (fun h406 => ?_) (fun h406 => ?_)
      · exact absurd h406 hz
      · refine g_iconst C (1) dL_law_409 rfl ?_
        refine g_goto C 414 dL_law_410 (by decide) ?_
        refine g_callV C (q := (RX6, TX6, 29)) (rest := _) dL_law_414 mm_X6_addPump ml_L_103 mv_yX6_addPump ms_yX6_addPump (h2 n1 hn1) rfl (hM.1 0 (by decide)) rfl rfl ⟨by decide, by omega, by omega, Nat.le_of_ble_eq_true rfl⟩ (tk_retv ?_) tk_nothr
        refine g_istore C (i := 7) dL_law_417 (by decide) ?_
        refine g_aload_n C (i := 2) dL_law_419 rfl rfl ?_
        refine g_callV C (q := (RX6, TX6, 29)) (rest := _) dL_law_420 mm_X6_thrown ml_L_94 mv_yX6_thrown ms_yX6_thrown (c_thr (σ := (n1, σ1.2)) hM) rfl (hM.1 0 (by decide)) rfl rfl ⟨by decide, by omega, by omega, Nat.le_of_ble_eq_true rfl⟩ (tk_retv ?_) tk_nothr
        refine g_iload C (i := 6) dL_law_423 rfl ?_
        refine g_icmp_eq C 430 dL_law_425 (by decide) (fun h425 => ?_) (fun h425 => ?_)
        · refine g_iload C (i := 6) dL_law_430 rfl ?_
          refine g_if_ne C 447 dL_law_432 (by decide) (fun h432 => ?_) (fun h432 => ?_)
          · refine g_goto C 1545 dL_law_447 (by decide) ?_
            exact g_wid (by omega) (by omega) (kk _ _ _ _ _ _ (hN n1 hn1))
          · refine g_aload_n C (i := 3) dL_law_435 rfl rfl ?_
            refine g_iconst C (0) dL_law_436 rfl ?_
            refine g_la C dL_law_437 hO rfl rfl (by decide) (by decide) ?_
            refine g_iload C (i := 7) dL_law_438 rfl ?_
            refine g_i2l C dL_law_440 ?_
            refine g_lcmp C dL_law_441 ?_
            refine g_if_eq C 447 dL_law_442 (by decide) (fun h442 => ?_) (fun h442 => ?_)
            · refine g_goto C 1545 dL_law_447 (by decide) ?_
              exact g_wid (by omega) (by omega) (kk _ _ _ _ _ _ (hN n1 hn1))
            · exact absurd ((lg_cmp_eq _ _).mpr (h4 h432)) h442
        · exact absurd h3 h425
theorem lc_setLevel (C : tkC X cL_law RL nm 9 (some .boolean) hh 12 601024 7293034) (S : lwX X sb n xs) (hn : n < 2 ^ 31) (hi : i + 2 < n) (hcs : cs + 28 ≤ 601024) (hss : ss + 364 ≤ 7293034)
    (h : lwPair (.codeWith yL_setLevel cL_setLevel 5 (some .int) [(0, 10, 13, 20), (0, 10, 17, 13)]) yL_setLevel [.ref B, .int (xs (i + 1)), .int (xs (i + 2)), .ref (B + 79)] (.code yX6_setLevel cX6_setLevel 4 (some .int)) yX6_setLevel 2 [.ref (B + 58), .int (xs (i + 1)), .int (xs (i + 2))] Int32 Value.int (fun b L2 => L2 (B + 79) 0 = b.toInt64) B N σ I L)
    (kk : ∀ σ2 I2 L2 l6 l7 l8, N σ2 I2 L2 → tkG X Q (cs + 28) (ss + 364) 1545 [some (.ref sb), some (.ref B), some (.ref (B + 58)), some (.ref (B + 79)), some (.ref (B + 80)), some (.int (nI i)), l6, l7, l8] [] σ2 I2 L2) : tkG X Q cs ss 450 [some (.ref sb), some (.ref B), some (.ref (B + 58)), some (.ref (B + 79)), some (.ref (B + 80)), some (.int (nI i)), l6, l7, l8] [] σ I L := by
  obtain ⟨k, mc, ms, σ1, I1, L1, b, I2, L2, ⟨z1, z2⟩, h1, h2, h3, h4, ⟨hM, hO, hD⟩, hN⟩ := h
  refine g_aload_n C (i := 1) dL_law_450 rfl rfl ?_
  refine g_aload_n C (i := 0) dL_law_451 rfl rfl ?_
  refine g_iload C (i := 5) dL_law_452 rfl ?_
  refine g_iconst C (1) dL_law_454 rfl ?_
  refine g_iadd C dL_law_455 ?_
  refine g_scr C S dL_law_456 (nI_add i 1) (by omega) hn ?_
  refine g_aload_n C (i := 0) dL_law_457 rfl rfl ?_
  refine g_iload C (i := 5) dL_law_458 rfl ?_
  refine g_iconst C (2) dL_law_460 rfl ?_
  refine g_iadd C dL_law_461 ?_
  refine g_scr C S dL_law_462 (nI_add i 2) (by omega) hn ?_
  refine g_aload_n C (i := 3) dL_law_463 rfl rfl ?_
  refine g_callSH C dL_law_464 mm_L_setLevel ml_L_104 mt_yL_setLevel (h1) rfl ⟨by decide, by omega, by omega, Nat.le_of_ble_eq_true rfl⟩ (tk_retl fun n1 hn1 => ?_) tk_nothr
  refine g_istore C (i := 6) dL_law_467 (by decide) ?_
  refine g_aload_n C (i := 2) dL_law_469 rfl rfl ?_
  refine g_aload_n C (i := 0) dL_law_470 rfl rfl ?_
  refine g_iload C (i := 5) dL_law_471 rfl ?_
  refine g_iconst C (1) dL_law_473 rfl ?_
  refine g_iadd C dL_law_474 ?_
  refine g_scr C S dL_law_475 (nI_add i 1) (by omega) hn ?_
  refine g_aload_n C (i := 0) dL_law_476 rfl rfl ?_
  refine g_iload C (i := 5) dL_law_477 rfl ?_
  refine g_iconst C (2) dL_law_479 rfl ?_
  refine g_iadd C dL_law_480 ?_
  refine g_scr C S dL_law_481 (nI_add i 2) (by omega) hn ?_
  refine g_callV C (q := (RX6, TX6, 29)) (rest := _) dL_law_482 mm_X6_setLevel ml_L_107 mv_yX6_setLevel ms_yX6_setLevel (h2 n1 hn1) rfl (hM.1 0 (by decide)) rfl rfl ⟨by decide, by omega, by omega, Nat.le_of_ble_eq_true rfl⟩ (tk_retv ?_) tk_nothr
  refine g_istore C (i := 7) dL_law_485 (by decide) ?_
  refine g_aload_n C (i := 2) dL_law_487 rfl rfl ?_
  refine g_callV C (q := (RX6, TX6, 29)) (rest := _) dL_law_488 mm_X6_thrown ml_L_94 mv_yX6_thrown ms_yX6_thrown (c_thr (σ := (n1, σ1.2)) hM) rfl (hM.1 0 (by decide)) rfl rfl ⟨by decide, by omega, by omega, Nat.le_of_ble_eq_true rfl⟩ (tk_retv ?_) tk_nothr
  refine g_iload C (i := 6) dL_law_491 rfl ?_
  refine g_icmp_eq C 498 dL_law_493 (by decide) (fun h493 => ?_) (fun h493 => ?_)
  · refine g_iload C (i := 6) dL_law_498 rfl ?_
    refine g_if_ne C 515 dL_law_500 (by decide) (fun h500 => ?_) (fun h500 => ?_)
    · refine g_goto C 1545 dL_law_515 (by decide) ?_
      exact g_wid (by omega) (by omega) (kk _ _ _ _ _ _ (hN n1 hn1))
    · refine g_aload_n C (i := 3) dL_law_503 rfl rfl ?_
      refine g_iconst C (0) dL_law_504 rfl ?_
      refine g_la C dL_law_505 hO rfl rfl (by decide) (by decide) ?_
      refine g_iload C (i := 7) dL_law_506 rfl ?_
      refine g_i2l C dL_law_508 ?_
      refine g_lcmp C dL_law_509 ?_
      refine g_if_eq C 515 dL_law_510 (by decide) (fun h510 => ?_) (fun h510 => ?_)
      · refine g_goto C 1545 dL_law_515 (by decide) ?_
        exact g_wid (by omega) (by omega) (kk _ _ _ _ _ _ (hN n1 hn1))
      · exact absurd ((lg_cmp_eq _ _).mpr (h4 h500)) h510
  · exact absurd h3 h493
theorem lc_setLeak (C : tkC X cL_law RL nm 9 (some .boolean) hh 12 601024 7293034) (S : lwX X sb n xs) (hn : n < 2 ^ 31) (hi : i + 2 < n) (hcs : cs + 28 ≤ 601024) (hss : ss + 364 ≤ 7293034)
    (h : lwPair (.codeWith yL_setLeak cL_setLeak 5 (some .int) [(0, 10, 13, 20), (0, 10, 17, 13)]) yL_setLeak [.ref B, .int (xs (i + 1)), .int (xs (i + 2)), .ref (B + 79)] (.code yX6_setLeak cX6_setLeak 4 (some .int)) yX6_setLeak 2 [.ref (B + 58), .int (xs (i + 1)), .int (xs (i + 2))] Int32 Value.int (fun b L2 => L2 (B + 79) 0 = b.toInt64) B N σ I L)
    (kk : ∀ σ2 I2 L2 l6 l7 l8, N σ2 I2 L2 → tkG X Q (cs + 28) (ss + 364) 1545 [some (.ref sb), some (.ref B), some (.ref (B + 58)), some (.ref (B + 79)), some (.ref (B + 80)), some (.int (nI i)), l6, l7, l8] [] σ2 I2 L2) : tkG X Q cs ss 518 [some (.ref sb), some (.ref B), some (.ref (B + 58)), some (.ref (B + 79)), some (.ref (B + 80)), some (.int (nI i)), l6, l7, l8] [] σ I L := by
  obtain ⟨k, mc, ms, σ1, I1, L1, b, I2, L2, ⟨z1, z2⟩, h1, h2, h3, h4, ⟨hM, hO, hD⟩, hN⟩ := h
  refine g_aload_n C (i := 1) dL_law_518 rfl rfl ?_
  refine g_aload_n C (i := 0) dL_law_519 rfl rfl ?_
  refine g_iload C (i := 5) dL_law_520 rfl ?_
  refine g_iconst C (1) dL_law_522 rfl ?_
  refine g_iadd C dL_law_523 ?_
  refine g_scr C S dL_law_524 (nI_add i 1) (by omega) hn ?_
  refine g_aload_n C (i := 0) dL_law_525 rfl rfl ?_
  refine g_iload C (i := 5) dL_law_526 rfl ?_
  refine g_iconst C (2) dL_law_528 rfl ?_
  refine g_iadd C dL_law_529 ?_
  refine g_scr C S dL_law_530 (nI_add i 2) (by omega) hn ?_
  refine g_aload_n C (i := 3) dL_law_531 rfl rfl ?_
  refine g_callSH C dL_law_532 mm_L_setLeak ml_L_108 mt_yL_setLeak (h1) rfl ⟨by decide, by omega, by omega, Nat.le_of_ble_eq_true rfl⟩ (tk_retl fun n1 hn1 => ?_) tk_nothr
  refine g_istore C (i := 6) dL_law_535 (by decide) ?_
  refine g_aload_n C (i := 2) dL_law_537 rfl rfl ?_
  refine g_aload_n C (i := 0) dL_law_538 rfl rfl ?_
  refine g_iload C (i := 5) dL_law_539 rfl ?_
  refine g_iconst C (1) dL_law_541 rfl ?_
  refine g_iadd C dL_law_542 ?_
  refine g_scr C S dL_law_543 (nI_add i 1) (by omega) hn ?_
  refine g_aload_n C (i := 0) dL_law_544 rfl rfl ?_
  refine g_iload C (i := 5) dL_law_545 rfl ?_
  refine g_iconst C (2) dL_law_547 rfl ?_
  refine g_iadd C dL_law_548 ?_
  refine g_scr C S dL_law_549 (nI_add i 2) (by omega) hn ?_
  refine g_callV C (q := (RX6, TX6, 29)) (rest := _) dL_law_550 mm_X6_setLeak ml_L_110 mv_yX6_setLeak ms_yX6_setLeak (h2 n1 hn1) rfl (hM.1 0 (by decide)) rfl rfl ⟨by decide, by omega, by omega, Nat.le_of_ble_eq_true rfl⟩ (tk_retv ?_) tk_nothr
  refine g_istore C (i := 7) dL_law_553 (by decide) ?_
  refine g_aload_n C (i := 2) dL_law_555 rfl rfl ?_
  refine g_callV C (q := (RX6, TX6, 29)) (rest := _) dL_law_556 mm_X6_thrown ml_L_94 mv_yX6_thrown ms_yX6_thrown (c_thr (σ := (n1, σ1.2)) hM) rfl (hM.1 0 (by decide)) rfl rfl ⟨by decide, by omega, by omega, Nat.le_of_ble_eq_true rfl⟩ (tk_retv ?_) tk_nothr
  refine g_iload C (i := 6) dL_law_559 rfl ?_
  refine g_icmp_eq C 566 dL_law_561 (by decide) (fun h561 => ?_) (fun h561 => ?_)
  · refine g_iload C (i := 6) dL_law_566 rfl ?_
    refine g_if_ne C 583 dL_law_568 (by decide) (fun h568 => ?_) (fun h568 => ?_)
    · refine g_goto C 1545 dL_law_583 (by decide) ?_
      exact g_wid (by omega) (by omega) (kk _ _ _ _ _ _ (hN n1 hn1))
    · refine g_aload_n C (i := 3) dL_law_571 rfl rfl ?_
      refine g_iconst C (0) dL_law_572 rfl ?_
      refine g_la C dL_law_573 hO rfl rfl (by decide) (by decide) ?_
      refine g_iload C (i := 7) dL_law_574 rfl ?_
      refine g_i2l C dL_law_576 ?_
      refine g_lcmp C dL_law_577 ?_
      refine g_if_eq C 583 dL_law_578 (by decide) (fun h578 => ?_) (fun h578 => ?_)
      · refine g_goto C 1545 dL_law_583 (by decide) ?_
        exact g_wid (by omega) (by omega) (kk _ _ _ _ _ _ (hN n1 hn1))
      · exact absurd ((lg_cmp_eq _ _).mpr (h4 h568)) h578
  · exact absurd h3 h561
theorem lc_setRate (C : tkC X cL_law RL nm 9 (some .boolean) hh 12 601024 7293034) (S : lwX X sb n xs) (hn : n < 2 ^ 31) (hi : i + 2 < n) (hcs : cs + 28 ≤ 601024) (hss : ss + 364 ≤ 7293034)
    (h : lwPair (.codeWith yL_setRate cL_setRate 5 (some .int) [(0, 10, 13, 20), (0, 10, 17, 13)]) yL_setRate [.ref B, .int (xs (i + 1)), .int (xs (i + 2)), .ref (B + 79)] (.code yX6_setRate cX6_setRate 4 (some .int)) yX6_setRate 2 [.ref (B + 58), .int (xs (i + 1)), .int (xs (i + 2))] Int32 Value.int (fun b L2 => L2 (B + 79) 0 = b.toInt64) B N σ I L)
    (kk : ∀ σ2 I2 L2 l6 l7 l8, N σ2 I2 L2 → tkG X Q (cs + 28) (ss + 364) 1545 [some (.ref sb), some (.ref B), some (.ref (B + 58)), some (.ref (B + 79)), some (.ref (B + 80)), some (.int (nI i)), l6, l7, l8] [] σ2 I2 L2) : tkG X Q cs ss 586 [some (.ref sb), some (.ref B), some (.ref (B + 58)), some (.ref (B + 79)), some (.ref (B + 80)), some (.int (nI i)), l6, l7, l8] [] σ I L := by
  obtain ⟨k, mc, ms, σ1, I1, L1, b, I2, L2, ⟨z1, z2⟩, h1, h2, h3, h4, ⟨hM, hO, hD⟩, hN⟩ := h
  refine g_aload_n C (i := 1) dL_law_586 rfl rfl ?_
  refine g_aload_n C (i := 0) dL_law_587 rfl rfl ?_
  refine g_iload C (i := 5) dL_law_588 rfl ?_
  refine g_iconst C (1) dL_law_590 rfl ?_
  refine g_iadd C dL_law_591 ?_
  refine g_scr C S dL_law_592 (nI_add i 1) (by omega) hn ?_
  refine g_aload_n C (i := 0) dL_law_593 rfl rfl ?_
  refine g_iload C (i := 5) dL_law_594 rfl ?_
  refine g_iconst C (2) dL_law_596 rfl ?_
  refine g_iadd C dL_law_597 ?_
  refine g_scr C S dL_law_598 (nI_add i 2) (by omega) hn ?_
  refine g_aload_n C (i := 3) dL_law_599 rfl rfl ?_
  refine g_callSH C dL_law_600 mm_L_setRate ml_L_111 mt_yL_setRate (h1) rfl ⟨by decide, by omega, by omega, Nat.le_of_ble_eq_true rfl⟩ (tk_retl fun n1 hn1 => ?_) tk_nothr
  refine g_istore C (i := 6) dL_law_603 (by decide) ?_
  refine g_aload_n C (i := 2) dL_law_605 rfl rfl ?_
  refine g_aload_n C (i := 0) dL_law_606 rfl rfl ?_
  refine g_iload C (i := 5) dL_law_607 rfl ?_
  refine g_iconst C (1) dL_law_609 rfl ?_
  refine g_iadd C dL_law_610 ?_
  refine g_scr C S dL_law_611 (nI_add i 1) (by omega) hn ?_
  refine g_aload_n C (i := 0) dL_law_612 rfl rfl ?_
  refine g_iload C (i := 5) dL_law_613 rfl ?_
  refine g_iconst C (2) dL_law_615 rfl ?_
  refine g_iadd C dL_law_616 ?_
  refine g_scr C S dL_law_617 (nI_add i 2) (by omega) hn ?_
  refine g_callV C (q := (RX6, TX6, 29)) (rest := _) dL_law_618 mm_X6_setRate ml_L_113 mv_yX6_setRate ms_yX6_setRate (h2 n1 hn1) rfl (hM.1 0 (by decide)) rfl rfl ⟨by decide, by omega, by omega, Nat.le_of_ble_eq_true rfl⟩ (tk_retv ?_) tk_nothr
  refine g_istore C (i := 7) dL_law_621 (by decide) ?_
  refine g_aload_n C (i := 2) dL_law_623 rfl rfl ?_
  refine g_callV C (q := (RX6, TX6, 29)) (rest := _) dL_law_624 mm_X6_thrown ml_L_94 mv_yX6_thrown ms_yX6_thrown (c_thr (σ := (n1, σ1.2)) hM) rfl (hM.1 0 (by decide)) rfl rfl ⟨by decide, by omega, by omega, Nat.le_of_ble_eq_true rfl⟩ (tk_retv ?_) tk_nothr
  refine g_iload C (i := 6) dL_law_627 rfl ?_
  refine g_icmp_eq C 634 dL_law_629 (by decide) (fun h629 => ?_) (fun h629 => ?_)
  · refine g_iload C (i := 6) dL_law_634 rfl ?_
    refine g_if_ne C 651 dL_law_636 (by decide) (fun h636 => ?_) (fun h636 => ?_)
    · refine g_goto C 1545 dL_law_651 (by decide) ?_
      exact g_wid (by omega) (by omega) (kk _ _ _ _ _ _ (hN n1 hn1))
    · refine g_aload_n C (i := 3) dL_law_639 rfl rfl ?_
      refine g_iconst C (0) dL_law_640 rfl ?_
      refine g_la C dL_law_641 hO rfl rfl (by decide) (by decide) ?_
      refine g_iload C (i := 7) dL_law_642 rfl ?_
      refine g_i2l C dL_law_644 ?_
      refine g_lcmp C dL_law_645 ?_
      refine g_if_eq C 651 dL_law_646 (by decide) (fun h646 => ?_) (fun h646 => ?_)
      · refine g_goto C 1545 dL_law_651 (by decide) ?_
        exact g_wid (by omega) (by omega) (kk _ _ _ _ _ _ (hN n1 hn1))
      · exact absurd ((lg_cmp_eq _ _).mpr (h4 h636)) h646
  · exact absurd h3 h629
theorem lc_run (C : tkC X cL_law RL nm 9 (some .boolean) hh 12 601024 7293034) (S : lwX X sb n xs) (hn : n < 2 ^ 31) (hi : i + 1 < n) (hcs : cs + 28 ≤ 601024) (hss : ss + 364 ≤ 7293034)
    (h : lwPair (.codeWith yL_run cL_run 4 (some .int) [(0, 9, 12, 13)]) yL_run [.ref B, .int (xs (i + 1)), .ref (B + 79)] (.code yX6_run cX6_run 4 (some .int)) yX6_run 5 [.ref (B + 58), .int (xs (i + 1))] Int32 Value.int (fun b L2 => L2 (B + 79) 0 = b.toInt64) B N σ I L)
    (kk : ∀ σ2 I2 L2 l6 l7 l8, N σ2 I2 L2 → tkG X Q (cs + 28) (ss + 364) 1545 [some (.ref sb), some (.ref B), some (.ref (B + 58)), some (.ref (B + 79)), some (.ref (B + 80)), some (.int (nI i)), l6, l7, l8] [] σ2 I2 L2) : tkG X Q cs ss 654 [some (.ref sb), some (.ref B), some (.ref (B + 58)), some (.ref (B + 79)), some (.ref (B + 80)), some (.int (nI i)), l6, l7, l8] [] σ I L := by
  obtain ⟨k, mc, ms, σ1, I1, L1, b, I2, L2, ⟨z1, z2⟩, h1, h2, h3, h4, ⟨hM, hO, hD⟩, hN⟩ := h
  refine g_aload_n C (i := 1) dL_law_654 rfl rfl ?_
  refine g_aload_n C (i := 0) dL_law_655 rfl rfl ?_
  refine g_iload C (i := 5) dL_law_656 rfl ?_
  refine g_iconst C (1) dL_law_658 rfl ?_
  refine g_iadd C dL_law_659 ?_
  refine g_scr C S dL_law_660 (nI_add i 1) (by omega) hn ?_
  refine g_aload_n C (i := 3) dL_law_661 rfl rfl ?_
  refine g_callSH C dL_law_662 mm_L_run ml_L_114 mt_yL_run (h1) rfl ⟨by decide, by omega, by omega, Nat.le_of_ble_eq_true rfl⟩ (tk_retl fun n1 hn1 => ?_) tk_nothr
  refine g_istore C (i := 6) dL_law_665 (by decide) ?_
  refine g_aload_n C (i := 2) dL_law_667 rfl rfl ?_
  refine g_aload_n C (i := 0) dL_law_668 rfl rfl ?_
  refine g_iload C (i := 5) dL_law_669 rfl ?_
  refine g_iconst C (1) dL_law_671 rfl ?_
  refine g_iadd C dL_law_672 ?_
  refine g_scr C S dL_law_673 (nI_add i 1) (by omega) hn ?_
  refine g_callV C (q := (RX6, TX6, 29)) (rest := _) dL_law_674 mm_X6_run ml_L_117 mv_yX6_run ms_yX6_run (h2 n1 hn1) rfl (hM.1 0 (by decide)) rfl rfl ⟨by decide, by omega, by omega, Nat.le_of_ble_eq_true rfl⟩ (tk_retv ?_) tk_nothr
  refine g_istore C (i := 7) dL_law_677 (by decide) ?_
  refine g_aload_n C (i := 2) dL_law_679 rfl rfl ?_
  refine g_callV C (q := (RX6, TX6, 29)) (rest := _) dL_law_680 mm_X6_thrown ml_L_94 mv_yX6_thrown ms_yX6_thrown (c_thr (σ := (n1, σ1.2)) hM) rfl (hM.1 0 (by decide)) rfl rfl ⟨by decide, by omega, by omega, Nat.le_of_ble_eq_true rfl⟩ (tk_retv ?_) tk_nothr
  refine g_iload C (i := 6) dL_law_683 rfl ?_
  refine g_icmp_eq C 690 dL_law_685 (by decide) (fun h685 => ?_) (fun h685 => ?_)
  · refine g_iload C (i := 6) dL_law_690 rfl ?_
    refine g_if_ne C 707 dL_law_692 (by decide) (fun h692 => ?_) (fun h692 => ?_)
    · refine g_goto C 1545 dL_law_707 (by decide) ?_
      exact g_wid (by omega) (by omega) (kk _ _ _ _ _ _ (hN n1 hn1))
    · refine g_aload_n C (i := 3) dL_law_695 rfl rfl ?_
      refine g_iconst C (0) dL_law_696 rfl ?_
      refine g_la C dL_law_697 hO rfl rfl (by decide) (by decide) ?_
      refine g_iload C (i := 7) dL_law_698 rfl ?_
      refine g_i2l C dL_law_700 ?_
      refine g_lcmp C dL_law_701 ?_
      refine g_if_eq C 707 dL_law_702 (by decide) (fun h702 => ?_) (fun h702 => ?_)
      · refine g_goto C 1545 dL_law_707 (by decide) ?_
        exact g_wid (by omega) (by omega) (kk _ _ _ _ _ _ (hN n1 hn1))
      · exact absurd ((lg_cmp_eq _ _).mpr (h4 h692)) h702
  · exact absurd h3 h685
theorem lc_runUntil (C : tkC X cL_law RL nm 9 (some .boolean) hh 12 601024 7293034) (S : lwX X sb n xs) (hn : n < 2 ^ 31) (hi : i + 4 < n) (bz : Int32) (hbz : bz = if xs (i + 3) = 0 then 0 else 1) (hcs : cs + 28 ≤ 601024) (hss : ss + 364 ≤ 7293034)
    (h : lwPair (.codeWith yL_runUntil cL_runUntil 7 (some .int) [(0, 14, 17, 20), (0, 14, 21, 13)]) yL_runUntil [.ref B, .int (xs (i + 1)), .int (xs (i + 2)), .int bz, .int (xs (i + 4)), .ref (B + 79)] (.code yX6_runUntil cX6_runUntil 6 (some .int)) yX6_runUntil 5 [.ref (B + 58), .int (xs (i + 1)), .int (xs (i + 2)), .int bz, .int (xs (i + 4))] Int32 Value.int (fun b L2 => L2 (B + 79) 0 = b.toInt64) B N σ I L)
    (kk : ∀ σ2 I2 L2 l6 l7 l8, N σ2 I2 L2 → tkG X Q (cs + 28) (ss + 364) 1545 [some (.ref sb), some (.ref B), some (.ref (B + 58)), some (.ref (B + 79)), some (.ref (B + 80)), some (.int (nI i)), l6, l7, l8] [] σ2 I2 L2) : tkG X Q cs ss 710 [some (.ref sb), some (.ref B), some (.ref (B + 58)), some (.ref (B + 79)), some (.ref (B + 80)), some (.int (nI i)), l6, l7, l8] [] σ I L := by
  obtain ⟨k, mc, ms, σ1, I1, L1, b, I2, L2, ⟨z1, z2⟩, h1, h2, h3, h4, ⟨hM, hO, hD⟩, hN⟩ := h
  by_cases hz : xs (i + 3) = 0
  · rw [if_pos hz] at hbz
    subst hbz
    refine g_aload_n C (i := 1) dL_law_710 rfl rfl ?_
    refine g_aload_n C (i := 0) dL_law_711 rfl rfl ?_
    refine g_iload C (i := 5) dL_law_712 rfl ?_
    refine g_iconst C (1) dL_law_714 rfl ?_
    refine g_iadd C dL_law_715 ?_
    refine g_scr C S dL_law_716 (nI_add i 1) (by omega) hn ?_
    refine g_aload_n C (i := 0) dL_law_717 rfl rfl ?_
    refine g_iload C (i := 5) dL_law_718 rfl ?_
    refine g_iconst C (2) dL_law_720 rfl ?_
    refine g_iadd C dL_law_721 ?_
    refine g_scr C S dL_law_722 (nI_add i 2) (by omega) hn ?_
    refine g_aload_n C (i := 0) dL_law_723 rfl rfl ?_
    refine g_iload C (i := 5) dL_law_724 rfl ?_
    refine g_iconst C (3) dL_law_726 rfl ?_
    refine g_iadd C dL_law_727 ?_
    refine g_scr C S dL_law_728 (nI_add i 3) (by omega) hn ?_
    refine g_if_eq C 736 dL_law_729 (by decide) (fun h729 => ?_) (fun h729 => ?_)
    · refine g_iconst C (0) dL_law_736 rfl ?_
      refine g_aload_n C (i := 0) dL_law_737 rfl rfl ?_
      refine g_iload C (i := 5) dL_law_738 rfl ?_
      refine g_iconst C (4) dL_law_740 rfl ?_
      refine g_iadd C dL_law_741 ?_
      refine g_scr C S dL_law_742 (nI_add i 4) (by omega) hn ?_
      refine g_aload_n C (i := 3) dL_law_743 rfl rfl ?_
      refine g_callSH C dL_law_744 mm_L_runUntil ml_L_118 mt_yL_runUntil (h1) rfl ⟨by decide, by omega, by omega, Nat.le_of_ble_eq_true rfl⟩ (tk_retl fun n1 hn1 => ?_) tk_nothr
      refine g_istore C (i := 6) dL_law_747 (by decide) ?_
      refine g_aload_n C (i := 2) dL_law_749 rfl rfl ?_
      refine g_aload_n C (i := 0) dL_law_750 rfl rfl ?_
      refine g_iload C (i := 5) dL_law_751 rfl ?_
      refine g_iconst C (1) dL_law_753 rfl ?_
      refine g_iadd C dL_law_754 ?_
      refine g_scr C S dL_law_755 (nI_add i 1) (by omega) hn ?_
      refine g_aload_n C (i := 0) dL_law_756 rfl rfl ?_
      refine g_iload C (i := 5) dL_law_757 rfl ?_
      refine g_iconst C (2) dL_law_759 rfl ?_
      refine g_iadd C dL_law_760 ?_
      refine g_scr C S dL_law_761 (nI_add i 2) (by omega) hn ?_
      refine g_aload_n C (i := 0) dL_law_762 rfl rfl ?_
      refine g_iload C (i := 5) dL_law_763 rfl ?_
      refine g_iconst C (3) dL_law_765 rfl ?_
      refine g_iadd C dL_law_766 ?_
      refine g_scr C S dL_law_767 (nI_add i 3) (by omega) hn ?_
      refine g_if_eq C 775 dL_law_768 (by decide) (fun h768 => ?_) (fun h768 => ?_)
      · refine g_iconst C (0) dL_law_775 rfl ?_
        refine g_aload_n C (i := 0) dL_law_776 rfl rfl ?_
        refine g_iload C (i := 5) dL_law_777 rfl ?_
        refine g_iconst C (4) dL_law_779 rfl ?_
        refine g_iadd C dL_law_780 ?_
        refine g_scr C S dL_law_781 (nI_add i 4) (by omega) hn ?_
        refine g_callV C (q := (RX6, TX6, 29)) (rest := _) dL_law_782 mm_X6_runUntil ml_L_121 mv_yX6_runUntil ms_yX6_runUntil (h2 n1 hn1) rfl (hM.1 0 (by decide)) rfl rfl ⟨by decide, by omega, by omega, Nat.le_of_ble_eq_true rfl⟩ (tk_retv ?_) tk_nothr
        refine g_istore C (i := 7) dL_law_785 (by decide) ?_
        refine g_aload_n C (i := 2) dL_law_787 rfl rfl ?_
        refine g_callV C (q := (RX6, TX6, 29)) (rest := _) dL_law_788 mm_X6_thrown ml_L_94 mv_yX6_thrown ms_yX6_thrown (c_thr (σ := (n1, σ1.2)) hM) rfl (hM.1 0 (by decide)) rfl rfl ⟨by decide, by omega, by omega, Nat.le_of_ble_eq_true rfl⟩ (tk_retv ?_) tk_nothr
        refine g_iload C (i := 6) dL_law_791 rfl ?_
        refine g_icmp_eq C 798 dL_law_793 (by decide) (fun h793 => ?_) (fun h793 => ?_)
        · refine g_iload C (i := 6) dL_law_798 rfl ?_
          refine g_if_ne C 815 dL_law_800 (by decide) (fun h800 => ?_) (fun h800 => ?_)
          · refine g_goto C 1545 dL_law_815 (by decide) ?_
            exact g_wid (by omega) (by omega) (kk _ _ _ _ _ _ (hN n1 hn1))
          · refine g_aload_n C (i := 3) dL_law_803 rfl rfl ?_
            refine g_iconst C (0) dL_law_804 rfl ?_
            refine g_la C dL_law_805 hO rfl rfl (by decide) (by decide) ?_
            refine g_iload C (i := 7) dL_law_806 rfl ?_
            refine g_i2l C dL_law_808 ?_
            refine g_lcmp C dL_law_809 ?_
            refine g_if_eq C 815 dL_law_810 (by decide) (fun h810 => ?_) (fun h810 => ?_)
            · refine g_goto C 1545 dL_law_815 (by decide) ?_
              exact g_wid (by omega) (by omega) (kk _ _ _ _ _ _ (hN n1 hn1))
            · exact absurd ((lg_cmp_eq _ _).mpr (h4 h800)) h810
        · exact absurd h3 h793
      · exact absurd hz h768
    · exact absurd hz h729
  · rw [if_neg hz] at hbz
    subst hbz
    refine g_aload_n C (i := 1) dL_law_710 rfl rfl ?_
    refine g_aload_n C (i := 0) dL_law_711 rfl rfl ?_
    refine g_iload C (i := 5) dL_law_712 rfl ?_
    refine g_iconst C (1) dL_law_714 rfl ?_
    refine g_iadd C dL_law_715 ?_
    refine g_scr C S dL_law_716 (nI_add i 1) (by omega) hn ?_
    refine g_aload_n C (i := 0) dL_law_717 rfl rfl ?_
    refine g_iload C (i := 5) dL_law_718 rfl ?_
    refine g_iconst C (2) dL_law_720 rfl ?_
    refine g_iadd C dL_law_721 ?_
    refine g_scr C S dL_law_722 (nI_add i 2) (by omega) hn ?_
    refine g_aload_n C (i := 0) dL_law_723 rfl rfl ?_
    refine g_iload C (i := 5) dL_law_724 rfl ?_
    refine g_iconst C (3) dL_law_726 rfl ?_
    refine g_iadd C dL_law_727 ?_
    refine g_scr C S dL_law_728 (nI_add i 3) (by omega) hn ?_
    refine g_if_eq C 736 dL_law_729 (by decide) (fun h729 => ?_) (fun h729 => ?_)
    · exact absurd h729 hz
    · refine g_iconst C (1) dL_law_732 rfl ?_
      refine g_goto C 737 dL_law_733 (by decide) ?_
      refine g_aload_n C (i := 0) dL_law_737 rfl rfl ?_
      refine g_iload C (i := 5) dL_law_738 rfl ?_
      refine g_iconst C (4) dL_law_740 rfl ?_
      refine g_iadd C dL_law_741 ?_
      refine g_scr C S dL_law_742 (nI_add i 4) (by omega) hn ?_
      refine g_aload_n C (i := 3) dL_law_743 rfl rfl ?_
      refine g_callSH C dL_law_744 mm_L_runUntil ml_L_118 mt_yL_runUntil (h1) rfl ⟨by decide, by omega, by omega, Nat.le_of_ble_eq_true rfl⟩ (tk_retl fun n1 hn1 => ?_) tk_nothr
      refine g_istore C (i := 6) dL_law_747 (by decide) ?_
      refine g_aload_n C (i := 2) dL_law_749 rfl rfl ?_
      refine g_aload_n C (i := 0) dL_law_750 rfl rfl ?_
      refine g_iload C (i := 5) dL_law_751 rfl ?_
      refine g_iconst C (1) dL_law_753 rfl ?_
      refine g_iadd C dL_law_754 ?_
      refine g_scr C S dL_law_755 (nI_add i 1) (by omega) hn ?_
      refine g_aload_n C (i := 0) dL_law_756 rfl rfl ?_
      refine g_iload C (i := 5) dL_law_757 rfl ?_
      refine g_iconst C (2) dL_law_759 rfl ?_
      refine g_iadd C dL_law_760 ?_
      refine g_scr C S dL_law_761 (nI_add i 2) (by omega) hn ?_
      refine g_aload_n C (i := 0) dL_law_762 rfl rfl ?_
      refine g_iload C (i := 5) dL_law_763 rfl ?_
      refine g_iconst C (3) dL_law_765 rfl ?_
      refine g_iadd C dL_law_766 ?_
      refine g_scr C S dL_law_767 (nI_add i 3) (by omega) hn ?_
      refine g_if_eq C 775 dL_law_768 (by decide) (fun h768 => ?_) (fun h768 => ?_)
      · exact absurd h768 hz
      · refine g_iconst C (1) dL_law_771 rfl ?_
        refine g_goto C 776 dL_law_772 (by decide) ?_
        refine g_aload_n C (i := 0) dL_law_776 rfl rfl ?_
        refine g_iload C (i := 5) dL_law_777 rfl ?_
        refine g_iconst C (4) dL_law_779 rfl ?_
        refine g_iadd C dL_law_780 ?_
        refine g_scr C S dL_law_781 (nI_add i 4) (by omega) hn ?_
        refine g_callV C (q := (RX6, TX6, 29)) (rest := _) dL_law_782 mm_X6_runUntil ml_L_121 mv_yX6_runUntil ms_yX6_runUntil (h2 n1 hn1) rfl (hM.1 0 (by decide)) rfl rfl ⟨by decide, by omega, by omega, Nat.le_of_ble_eq_true rfl⟩ (tk_retv ?_) tk_nothr
        refine g_istore C (i := 7) dL_law_785 (by decide) ?_
        refine g_aload_n C (i := 2) dL_law_787 rfl rfl ?_
        refine g_callV C (q := (RX6, TX6, 29)) (rest := _) dL_law_788 mm_X6_thrown ml_L_94 mv_yX6_thrown ms_yX6_thrown (c_thr (σ := (n1, σ1.2)) hM) rfl (hM.1 0 (by decide)) rfl rfl ⟨by decide, by omega, by omega, Nat.le_of_ble_eq_true rfl⟩ (tk_retv ?_) tk_nothr
        refine g_iload C (i := 6) dL_law_791 rfl ?_
        refine g_icmp_eq C 798 dL_law_793 (by decide) (fun h793 => ?_) (fun h793 => ?_)
        · refine g_iload C (i := 6) dL_law_798 rfl ?_
          refine g_if_ne C 815 dL_law_800 (by decide) (fun h800 => ?_) (fun h800 => ?_)
          · refine g_goto C 1545 dL_law_815 (by decide) ?_
            exact g_wid (by omega) (by omega) (kk _ _ _ _ _ _ (hN n1 hn1))
          · refine g_aload_n C (i := 3) dL_law_803 rfl rfl ?_
            refine g_iconst C (0) dL_law_804 rfl ?_
            refine g_la C dL_law_805 hO rfl rfl (by decide) (by decide) ?_
            refine g_iload C (i := 7) dL_law_806 rfl ?_
            refine g_i2l C dL_law_808 ?_
            refine g_lcmp C dL_law_809 ?_
            refine g_if_eq C 815 dL_law_810 (by decide) (fun h810 => ?_) (fun h810 => ?_)
            · refine g_goto C 1545 dL_law_815 (by decide) ?_
              exact g_wid (by omega) (by omega) (kk _ _ _ _ _ _ (hN n1 hn1))
            · exact absurd ((lg_cmp_eq _ _).mpr (h4 h800)) h810
        · exact absurd h3 h793
theorem lc_nextChange (C : tkC X cL_law RL nm 9 (some .boolean) hh 12 601024 7293034) (S : lwX X sb n xs) (hn : n < 2 ^ 31) (hi : i + 1 < n) (hcs : cs + 28 ≤ 601024) (hss : ss + 364 ≤ 7293034)
    (h : lwPair (.codeWith yL_nextChange cL_nextChange 4 (some .int) [(0, 9, 12, 13)]) yL_nextChange [.ref B, .int (xs (i + 1)), .ref (B + 79)] (.code yX6_nextChange cX6_nextChange 4 (some .int)) yX6_nextChange 5 [.ref (B + 58), .int (xs (i + 1))] Int32 Value.int (fun b L2 => L2 (B + 79) 0 = b.toInt64) B N σ I L)
    (kk : ∀ σ2 I2 L2 l6 l7 l8, N σ2 I2 L2 → tkG X Q (cs + 28) (ss + 364) 1545 [some (.ref sb), some (.ref B), some (.ref (B + 58)), some (.ref (B + 79)), some (.ref (B + 80)), some (.int (nI i)), l6, l7, l8] [] σ2 I2 L2) : tkG X Q cs ss 818 [some (.ref sb), some (.ref B), some (.ref (B + 58)), some (.ref (B + 79)), some (.ref (B + 80)), some (.int (nI i)), l6, l7, l8] [] σ I L := by
  obtain ⟨k, mc, ms, σ1, I1, L1, b, I2, L2, ⟨z1, z2⟩, h1, h2, h3, h4, ⟨hM, hO, hD⟩, hN⟩ := h
  refine g_aload_n C (i := 1) dL_law_818 rfl rfl ?_
  refine g_aload_n C (i := 0) dL_law_819 rfl rfl ?_
  refine g_iload C (i := 5) dL_law_820 rfl ?_
  refine g_iconst C (1) dL_law_822 rfl ?_
  refine g_iadd C dL_law_823 ?_
  refine g_scr C S dL_law_824 (nI_add i 1) (by omega) hn ?_
  refine g_aload_n C (i := 3) dL_law_825 rfl rfl ?_
  refine g_callSH C dL_law_826 mm_L_nextChange ml_L_122 mt_yL_nextChange (h1) rfl ⟨by decide, by omega, by omega, Nat.le_of_ble_eq_true rfl⟩ (tk_retl fun n1 hn1 => ?_) tk_nothr
  refine g_istore C (i := 6) dL_law_829 (by decide) ?_
  refine g_aload_n C (i := 2) dL_law_831 rfl rfl ?_
  refine g_aload_n C (i := 0) dL_law_832 rfl rfl ?_
  refine g_iload C (i := 5) dL_law_833 rfl ?_
  refine g_iconst C (1) dL_law_835 rfl ?_
  refine g_iadd C dL_law_836 ?_
  refine g_scr C S dL_law_837 (nI_add i 1) (by omega) hn ?_
  refine g_callV C (q := (RX6, TX6, 29)) (rest := _) dL_law_838 mm_X6_nextChange ml_L_124 mv_yX6_nextChange ms_yX6_nextChange (h2 n1 hn1) rfl (hM.1 0 (by decide)) rfl rfl ⟨by decide, by omega, by omega, Nat.le_of_ble_eq_true rfl⟩ (tk_retv ?_) tk_nothr
  refine g_istore C (i := 7) dL_law_841 (by decide) ?_
  refine g_aload_n C (i := 2) dL_law_843 rfl rfl ?_
  refine g_callV C (q := (RX6, TX6, 29)) (rest := _) dL_law_844 mm_X6_thrown ml_L_94 mv_yX6_thrown ms_yX6_thrown (c_thr (σ := (n1, σ1.2)) hM) rfl (hM.1 0 (by decide)) rfl rfl ⟨by decide, by omega, by omega, Nat.le_of_ble_eq_true rfl⟩ (tk_retv ?_) tk_nothr
  refine g_iload C (i := 6) dL_law_847 rfl ?_
  refine g_icmp_eq C 854 dL_law_849 (by decide) (fun h849 => ?_) (fun h849 => ?_)
  · refine g_iload C (i := 6) dL_law_854 rfl ?_
    refine g_if_ne C 871 dL_law_856 (by decide) (fun h856 => ?_) (fun h856 => ?_)
    · refine g_goto C 1545 dL_law_871 (by decide) ?_
      exact g_wid (by omega) (by omega) (kk _ _ _ _ _ _ (hN n1 hn1))
    · refine g_aload_n C (i := 3) dL_law_859 rfl rfl ?_
      refine g_iconst C (0) dL_law_860 rfl ?_
      refine g_la C dL_law_861 hO rfl rfl (by decide) (by decide) ?_
      refine g_iload C (i := 7) dL_law_862 rfl ?_
      refine g_i2l C dL_law_864 ?_
      refine g_lcmp C dL_law_865 ?_
      refine g_if_eq C 871 dL_law_866 (by decide) (fun h866 => ?_) (fun h866 => ?_)
      · refine g_goto C 1545 dL_law_871 (by decide) ?_
        exact g_wid (by omega) (by omega) (kk _ _ _ _ _ _ (hN n1 hn1))
      · exact absurd ((lg_cmp_eq _ _).mpr (h4 h856)) h866
  · exact absurd h3 h849
theorem lc_time (C : tkC X cL_law RL nm 9 (some .boolean) hh 12 601024 7293034) (hcs : cs + 28 ≤ 601024) (hss : ss + 364 ≤ 7293034) (h : lwAsk (.code yX5_time cX5_time 1 (some .long)) yX5_time (.code yX6_time cX6_time 1 (some .long)) yX6_time B N σ I L)
    (kk : ∀ σ2 I2 L2 l6 l7 l8, N σ2 I2 L2 → tkG X Q (cs + 28) (ss + 364) 1545 [some (.ref sb), some (.ref B), some (.ref (B + 58)), some (.ref (B + 79)), some (.ref (B + 80)), some (.int (nI i)), l6, l7, l8] [] σ2 I2 L2) : tkG X Q cs ss 874 [some (.ref sb), some (.ref B), some (.ref (B + 58)), some (.ref (B + 79)), some (.ref (B + 80)), some (.int (nI i)), l6, l7, l8] [] σ I L := by
  obtain ⟨mc, ms, I1, L1, b, I2, L2, ⟨z1, z2⟩, h1, h2, ⟨hX, hM⟩, hN⟩ := h
  refine g_aload_n C (i := 1) dL_law_874 rfl rfl ?_
  refine g_callV C (q := (RX5, TX5, 4)) (rest := _) dL_law_875 mm_X5_time ml_L_125 mv_yX5_time ms_yX5_time (h1) rfl hX rfl rfl ⟨by decide, by omega, by omega, Nat.le_of_ble_eq_true rfl⟩ (tk_retv ?_) tk_nothr
  refine g_aload_n C (i := 2) dL_law_878 rfl rfl ?_
  refine g_callV C (q := (RX6, TX6, 29)) (rest := _) dL_law_879 mm_X6_time ml_L_129 mv_yX6_time ms_yX6_time (h2) rfl (hM.1 0 (by decide)) rfl rfl ⟨by decide, by omega, by omega, Nat.le_of_ble_eq_true rfl⟩ (tk_retv ?_) tk_nothr
  refine g_lcmp C dL_law_882 ?_
  refine g_if_eq C 1545 dL_law_883 (by decide) (fun h883 => ?_) (fun h883 => ?_)
  · skip
    exact g_wid (by omega) (by omega) (kk _ _ _ _ _ _ hN)
  · exact absurd ((lg_cmp_eq _ _).mpr rfl) h883
theorem lc_level (C : tkC X cL_law RL nm 9 (some .boolean) hh 12 601024 7293034) (S : lwX X sb n xs) (hn : n < 2 ^ 31) (hi : i + 1 < n) (hcs : cs + 28 ≤ 601024) (hss : ss + 364 ≤ 7293034)
    (h : lwPair (.codeWith yL_level cL_level 4 (some .int) [(0, 9, 12, 20)]) yL_level [.ref B, .int (xs (i + 1)), .ref (B + 79)] (.code yX6_level cX6_level 2 (some .int)) yX6_level 2 [.ref (B + 58), .int (xs (i + 1))] Int32 Value.int (fun b L2 => L2 (B + 79) 0 = b.toInt64) B N σ I L)
    (kk : ∀ σ2 I2 L2 l6 l7 l8, N σ2 I2 L2 → tkG X Q (cs + 28) (ss + 364) 1545 [some (.ref sb), some (.ref B), some (.ref (B + 58)), some (.ref (B + 79)), some (.ref (B + 80)), some (.int (nI i)), l6, l7, l8] [] σ2 I2 L2) : tkG X Q cs ss 888 [some (.ref sb), some (.ref B), some (.ref (B + 58)), some (.ref (B + 79)), some (.ref (B + 80)), some (.int (nI i)), l6, l7, l8] [] σ I L := by
  obtain ⟨k, mc, ms, σ1, I1, L1, b, I2, L2, ⟨z1, z2⟩, h1, h2, h3, h4, ⟨hM, hO, hD⟩, hN⟩ := h
  refine g_aload_n C (i := 1) dL_law_888 rfl rfl ?_
  refine g_aload_n C (i := 0) dL_law_889 rfl rfl ?_
  refine g_iload C (i := 5) dL_law_890 rfl ?_
  refine g_iconst C (1) dL_law_892 rfl ?_
  refine g_iadd C dL_law_893 ?_
  refine g_scr C S dL_law_894 (nI_add i 1) (by omega) hn ?_
  refine g_aload_n C (i := 3) dL_law_895 rfl rfl ?_
  refine g_callSH C dL_law_896 mm_L_level ml_L_130 mt_yL_level (h1) rfl ⟨by decide, by omega, by omega, Nat.le_of_ble_eq_true rfl⟩ (tk_retl fun n1 hn1 => ?_) tk_nothr
  refine g_istore C (i := 6) dL_law_899 (by decide) ?_
  refine g_aload_n C (i := 2) dL_law_901 rfl rfl ?_
  refine g_aload_n C (i := 0) dL_law_902 rfl rfl ?_
  refine g_iload C (i := 5) dL_law_903 rfl ?_
  refine g_iconst C (1) dL_law_905 rfl ?_
  refine g_iadd C dL_law_906 ?_
  refine g_scr C S dL_law_907 (nI_add i 1) (by omega) hn ?_
  refine g_callV C (q := (RX6, TX6, 29)) (rest := _) dL_law_908 mm_X6_level ml_L_132 mv_yX6_level ms_yX6_level (h2 n1 hn1) rfl (hM.1 0 (by decide)) rfl rfl ⟨by decide, by omega, by omega, Nat.le_of_ble_eq_true rfl⟩ (tk_retv ?_) tk_nothr
  refine g_istore C (i := 7) dL_law_911 (by decide) ?_
  refine g_aload_n C (i := 2) dL_law_913 rfl rfl ?_
  refine g_callV C (q := (RX6, TX6, 29)) (rest := _) dL_law_914 mm_X6_thrown ml_L_94 mv_yX6_thrown ms_yX6_thrown (c_thr (σ := (n1, σ1.2)) hM) rfl (hM.1 0 (by decide)) rfl rfl ⟨by decide, by omega, by omega, Nat.le_of_ble_eq_true rfl⟩ (tk_retv ?_) tk_nothr
  refine g_iload C (i := 6) dL_law_917 rfl ?_
  refine g_icmp_eq C 924 dL_law_919 (by decide) (fun h919 => ?_) (fun h919 => ?_)
  · refine g_iload C (i := 6) dL_law_924 rfl ?_
    refine g_if_ne C 941 dL_law_926 (by decide) (fun h926 => ?_) (fun h926 => ?_)
    · refine g_goto C 1545 dL_law_941 (by decide) ?_
      exact g_wid (by omega) (by omega) (kk _ _ _ _ _ _ (hN n1 hn1))
    · refine g_aload_n C (i := 3) dL_law_929 rfl rfl ?_
      refine g_iconst C (0) dL_law_930 rfl ?_
      refine g_la C dL_law_931 hO rfl rfl (by decide) (by decide) ?_
      refine g_iload C (i := 7) dL_law_932 rfl ?_
      refine g_i2l C dL_law_934 ?_
      refine g_lcmp C dL_law_935 ?_
      refine g_if_eq C 941 dL_law_936 (by decide) (fun h936 => ?_) (fun h936 => ?_)
      · refine g_goto C 1545 dL_law_941 (by decide) ?_
        exact g_wid (by omega) (by omega) (kk _ _ _ _ _ _ (hN n1 hn1))
      · exact absurd ((lg_cmp_eq _ _).mpr (h4 h926)) h936
  · exact absurd h3 h919
theorem lc_levelSum (C : tkC X cL_law RL nm 9 (some .boolean) hh 12 601024 7293034) (S : lwX X sb n xs) (hn : n < 2 ^ 31) (hi : i + 1 < n) (hcs : cs + 28 ≤ 601024) (hss : ss + 364 ≤ 7293034)
    (h : lwPair (.codeWith yL_levelSum cL_levelSum 4 (some .int) [(0, 8, 11, 20)]) yL_levelSum [.ref B, .int (xs (i + 1)), .ref (B + 79)] (.code yX6_levelSum cX6_levelSum 2 (some .long)) yX6_levelSum 2 [.ref (B + 58), .int (xs (i + 1))] Int64 Value.long (fun b L2 => L2 (B + 79) 0 = b) B N σ I L)
    (kk : ∀ σ2 I2 L2 l6 l7 l8, N σ2 I2 L2 → tkG X Q (cs + 28) (ss + 364) 1545 [some (.ref sb), some (.ref B), some (.ref (B + 58)), some (.ref (B + 79)), some (.ref (B + 80)), some (.int (nI i)), l6, l7, l8] [] σ2 I2 L2) : tkG X Q cs ss 944 [some (.ref sb), some (.ref B), some (.ref (B + 58)), some (.ref (B + 79)), some (.ref (B + 80)), some (.int (nI i)), l6, l7, l8] [] σ I L := by
  obtain ⟨k, mc, ms, σ1, I1, L1, b, I2, L2, ⟨z1, z2⟩, h1, h2, h3, h4, ⟨hM, hO, hD⟩, hN⟩ := h
  refine g_aload_n C (i := 1) dL_law_944 rfl rfl ?_
  refine g_aload_n C (i := 0) dL_law_945 rfl rfl ?_
  refine g_iload C (i := 5) dL_law_946 rfl ?_
  refine g_iconst C (1) dL_law_948 rfl ?_
  refine g_iadd C dL_law_949 ?_
  refine g_scr C S dL_law_950 (nI_add i 1) (by omega) hn ?_
  refine g_aload_n C (i := 3) dL_law_951 rfl rfl ?_
  refine g_callSH C dL_law_952 mm_L_levelSum ml_L_133 mt_yL_levelSum (h1) rfl ⟨by decide, by omega, by omega, Nat.le_of_ble_eq_true rfl⟩ (tk_retl fun n1 hn1 => ?_) tk_nothr
  refine g_istore C (i := 6) dL_law_955 (by decide) ?_
  refine g_aload_n C (i := 2) dL_law_957 rfl rfl ?_
  refine g_aload_n C (i := 0) dL_law_958 rfl rfl ?_
  refine g_iload C (i := 5) dL_law_959 rfl ?_
  refine g_iconst C (1) dL_law_961 rfl ?_
  refine g_iadd C dL_law_962 ?_
  refine g_scr C S dL_law_963 (nI_add i 1) (by omega) hn ?_
  refine g_callV C (q := (RX6, TX6, 29)) (rest := _) dL_law_964 mm_X6_levelSum ml_L_135 mv_yX6_levelSum ms_yX6_levelSum (h2 n1 hn1) rfl (hM.1 0 (by decide)) rfl rfl ⟨by decide, by omega, by omega, Nat.le_of_ble_eq_true rfl⟩ (tk_retv ?_) tk_nothr
  refine g_lstore C (i := 7) dL_law_967 (by decide) ?_
  refine g_aload_n C (i := 2) dL_law_969 rfl rfl ?_
  refine g_callV C (q := (RX6, TX6, 29)) (rest := _) dL_law_970 mm_X6_thrown ml_L_94 mv_yX6_thrown ms_yX6_thrown (c_thr (σ := (n1, σ1.2)) hM) rfl (hM.1 0 (by decide)) rfl rfl ⟨by decide, by omega, by omega, Nat.le_of_ble_eq_true rfl⟩ (tk_retv ?_) tk_nothr
  refine g_iload C (i := 6) dL_law_973 rfl ?_
  refine g_icmp_eq C 980 dL_law_975 (by decide) (fun h975 => ?_) (fun h975 => ?_)
  · refine g_iload C (i := 6) dL_law_980 rfl ?_
    refine g_if_ne C 996 dL_law_982 (by decide) (fun h982 => ?_) (fun h982 => ?_)
    · refine g_goto C 1545 dL_law_996 (by decide) ?_
      exact g_wid (by omega) (by omega) (kk _ _ _ _ _ _ (hN n1 hn1))
    · refine g_aload_n C (i := 3) dL_law_985 rfl rfl ?_
      refine g_iconst C (0) dL_law_986 rfl ?_
      refine g_la C dL_law_987 hO rfl rfl (by decide) (by decide) ?_
      refine g_lload C (i := 7) dL_law_988 rfl ?_
      refine g_lcmp C dL_law_990 ?_
      refine g_if_eq C 996 dL_law_991 (by decide) (fun h991 => ?_) (fun h991 => ?_)
      · refine g_goto C 1545 dL_law_996 (by decide) ?_
        exact g_wid (by omega) (by omega) (kk _ _ _ _ _ _ (hN n1 hn1))
      · exact absurd ((lg_cmp_eq _ _).mpr (h4 h982)) h991
  · exact absurd h3 h975
theorem lc_meanLevel (C : tkC X cL_law RL nm 9 (some .boolean) hh 12 601024 7293034) (S : lwX X sb n xs) (hn : n < 2 ^ 31) (hi : i + 1 < n) (hcs : cs + 28 ≤ 601024) (hss : ss + 364 ≤ 7293034)
    (h : lwPair (.codeWith yL_meanLevel cL_meanLevel 4 (some .int) [(0, 8, 11, 20)]) yL_meanLevel [.ref B, .int (xs (i + 1)), .ref (B + 80)] (.code yX6_meanLevel cX6_meanLevel 2 (some .double)) yX6_meanLevel 2 [.ref (B + 58), .int (xs (i + 1))] UInt64 Value.double (fun b L2 => (L2 (B + 80) 0).toUInt64 = b ∧ Jvm.FP.Core.dIsNaN b = false) B N σ I L)
    (kk : ∀ σ2 I2 L2 l6 l7 l8, N σ2 I2 L2 → tkG X Q (cs + 28) (ss + 364) 1545 [some (.ref sb), some (.ref B), some (.ref (B + 58)), some (.ref (B + 79)), some (.ref (B + 80)), some (.int (nI i)), l6, l7, l8] [] σ2 I2 L2) : tkG X Q cs ss 999 [some (.ref sb), some (.ref B), some (.ref (B + 58)), some (.ref (B + 79)), some (.ref (B + 80)), some (.int (nI i)), l6, l7, l8] [] σ I L := by
  obtain ⟨k, mc, ms, σ1, I1, L1, b, I2, L2, ⟨z1, z2⟩, h1, h2, h3, h4, ⟨hM, hO, hD⟩, hN⟩ := h
  refine g_aload_n C (i := 1) dL_law_999 rfl rfl ?_
  refine g_aload_n C (i := 0) dL_law_1000 rfl rfl ?_
  refine g_iload C (i := 5) dL_law_1001 rfl ?_
  refine g_iconst C (1) dL_law_1003 rfl ?_
  refine g_iadd C dL_law_1004 ?_
  refine g_scr C S dL_law_1005 (nI_add i 1) (by omega) hn ?_
  refine g_aload C (i := 4) dL_law_1006 rfl ?_
  refine g_callSH C dL_law_1008 mm_L_meanLevel ml_L_136 mt_yL_meanLevel (h1) rfl ⟨by decide, by omega, by omega, Nat.le_of_ble_eq_true rfl⟩ (tk_retl fun n1 hn1 => ?_) tk_nothr
  refine g_istore C (i := 6) dL_law_1011 (by decide) ?_
  refine g_aload_n C (i := 2) dL_law_1013 rfl rfl ?_
  refine g_aload_n C (i := 0) dL_law_1014 rfl rfl ?_
  refine g_iload C (i := 5) dL_law_1015 rfl ?_
  refine g_iconst C (1) dL_law_1017 rfl ?_
  refine g_iadd C dL_law_1018 ?_
  refine g_scr C S dL_law_1019 (nI_add i 1) (by omega) hn ?_
  refine g_callV C (q := (RX6, TX6, 29)) (rest := _) dL_law_1020 mm_X6_meanLevel ml_L_139 mv_yX6_meanLevel ms_yX6_meanLevel (h2 n1 hn1) rfl (hM.1 0 (by decide)) rfl rfl ⟨by decide, by omega, by omega, Nat.le_of_ble_eq_true rfl⟩ (tk_retv ?_) tk_nothr
  refine g_dstore C (i := 7) dL_law_1023 (by decide) ?_
  refine g_aload_n C (i := 2) dL_law_1025 rfl rfl ?_
  refine g_callV C (q := (RX6, TX6, 29)) (rest := _) dL_law_1026 mm_X6_thrown ml_L_94 mv_yX6_thrown ms_yX6_thrown (c_thr (σ := (n1, σ1.2)) hM) rfl (hM.1 0 (by decide)) rfl rfl ⟨by decide, by omega, by omega, Nat.le_of_ble_eq_true rfl⟩ (tk_retv ?_) tk_nothr
  refine g_iload C (i := 6) dL_law_1029 rfl ?_
  refine g_icmp_eq C 1036 dL_law_1031 (by decide) (fun h1031 => ?_) (fun h1031 => ?_)
  · refine g_iload C (i := 6) dL_law_1036 rfl ?_
    refine g_if_ne C 1073 dL_law_1038 (by decide) (fun h1038 => ?_) (fun h1038 => ?_)
    · refine g_goto C 1545 dL_law_1073 (by decide) ?_
      exact g_wid (by omega) (by omega) (kk _ _ _ _ _ _ (hN n1 hn1))
    · refine g_aload C (i := 4) dL_law_1041 rfl ?_
      refine g_iconst C (0) dL_law_1043 rfl ?_
      refine g_da C dL_law_1044 hD rfl rfl (by decide) (by decide) ?_
      refine g_dload C (i := 7) dL_law_1045 rfl ?_
      refine g_dcmp C dL_law_1047 ?_
      refine g_if_eq C 1073 dL_law_1048 (by decide) (fun h1048 => ?_) (fun h1048 => ?_)
      · refine g_goto C 1545 dL_law_1073 (by decide) ?_
        exact g_wid (by omega) (by omega) (kk _ _ _ _ _ _ (hN n1 hn1))
      · exact absurd (by rw [(h4 h1038).1]; exact fp_eq (h4 h1038).2 _) h1048
  · exact absurd h3 h1031
theorem lc_isOn (C : tkC X cL_law RL nm 9 (some .boolean) hh 12 601024 7293034) (S : lwX X sb n xs) (hn : n < 2 ^ 31) (hi : i + 1 < n) (hcs : cs + 28 ≤ 601024) (hss : ss + 364 ≤ 7293034)
    (h : lwPair (.codeWith yL_isOn cL_isOn 4 (some .int) [(0, 16, 19, 20)]) yL_isOn [.ref B, .int (xs (i + 1)), .ref (B + 79)] (.code yX6_isOn cX6_isOn 2 (some .boolean)) yX6_isOn 2 [.ref (B + 58), .int (xs (i + 1))] Int32 Value.int (fun b L2 => L2 (B + 79) 0 = if b = 0 then 0 else 1) B N σ I L)
    (kk : ∀ σ2 I2 L2 l6 l7 l8, N σ2 I2 L2 → tkG X Q (cs + 28) (ss + 364) 1545 [some (.ref sb), some (.ref B), some (.ref (B + 58)), some (.ref (B + 79)), some (.ref (B + 80)), some (.int (nI i)), l6, l7, l8] [] σ2 I2 L2) : tkG X Q cs ss 1076 [some (.ref sb), some (.ref B), some (.ref (B + 58)), some (.ref (B + 79)), some (.ref (B + 80)), some (.int (nI i)), l6, l7, l8] [] σ I L := by
  obtain ⟨k, mc, ms, σ1, I1, L1, b, I2, L2, ⟨z1, z2⟩, h1, h2, h3, h4, ⟨hM, hO, hD⟩, hN⟩ := h
  refine g_aload_n C (i := 1) dL_law_1076 rfl rfl ?_
  refine g_aload_n C (i := 0) dL_law_1077 rfl rfl ?_
  refine g_iload C (i := 5) dL_law_1078 rfl ?_
  refine g_iconst C (1) dL_law_1080 rfl ?_
  refine g_iadd C dL_law_1081 ?_
  refine g_scr C S dL_law_1082 (nI_add i 1) (by omega) hn ?_
  refine g_aload_n C (i := 3) dL_law_1083 rfl rfl ?_
  refine g_callSH C dL_law_1084 mm_L_isOn ml_L_140 mt_yL_isOn (h1) rfl ⟨by decide, by omega, by omega, Nat.le_of_ble_eq_true rfl⟩ (tk_retl fun n1 hn1 => ?_) tk_nothr
  refine g_istore C (i := 6) dL_law_1087 (by decide) ?_
  refine g_aload_n C (i := 2) dL_law_1089 rfl rfl ?_
  refine g_aload_n C (i := 0) dL_law_1090 rfl rfl ?_
  refine g_iload C (i := 5) dL_law_1091 rfl ?_
  refine g_iconst C (1) dL_law_1093 rfl ?_
  refine g_iadd C dL_law_1094 ?_
  refine g_scr C S dL_law_1095 (nI_add i 1) (by omega) hn ?_
  refine g_callV C (q := (RX6, TX6, 29)) (rest := _) dL_law_1096 mm_X6_isOn ml_L_142 mv_yX6_isOn ms_yX6_isOn (h2 n1 hn1) rfl (hM.1 0 (by decide)) rfl rfl ⟨by decide, by omega, by omega, Nat.le_of_ble_eq_true rfl⟩ (tk_retv ?_) tk_nothr
  refine g_istore C (i := 7) dL_law_1099 (by decide) ?_
  refine g_aload_n C (i := 2) dL_law_1101 rfl rfl ?_
  refine g_callV C (q := (RX6, TX6, 29)) (rest := _) dL_law_1102 mm_X6_thrown ml_L_94 mv_yX6_thrown ms_yX6_thrown (c_thr (σ := (n1, σ1.2)) hM) rfl (hM.1 0 (by decide)) rfl rfl ⟨by decide, by omega, by omega, Nat.le_of_ble_eq_true rfl⟩ (tk_retv ?_) tk_nothr
  refine g_iload C (i := 6) dL_law_1105 rfl ?_
  refine g_icmp_eq C 1112 dL_law_1107 (by decide) (fun h1107 => ?_) (fun h1107 => ?_)
  · refine g_iload C (i := 6) dL_law_1112 rfl ?_
    refine g_if_ne C 1136 dL_law_1114 (by decide) (fun h1114 => ?_) (fun h1114 => ?_)
    · refine g_goto C 1545 dL_law_1136 (by decide) ?_
      exact g_wid (by omega) (by omega) (kk _ _ _ _ _ _ (hN n1 hn1))
    · refine g_aload_n C (i := 3) dL_law_1117 rfl rfl ?_
      refine g_iconst C (0) dL_law_1118 rfl ?_
      refine g_la C dL_law_1119 hO rfl rfl (by decide) (by decide) ?_
      refine g_iload C (i := 7) dL_law_1120 rfl ?_
      refine g_if_eq C 1129 dL_law_1122 (by decide) (fun h1122 => ?_) (fun h1122 => ?_)
      · refine g_lconst C 0 dL_law_1129 rfl ?_
        refine g_lcmp C dL_law_1130 ?_
        refine g_if_eq C 1136 dL_law_1131 (by decide) (fun h1131 => ?_) (fun h1131 => ?_)
        · refine g_goto C 1545 dL_law_1136 (by decide) ?_
          exact g_wid (by omega) (by omega) (kk _ _ _ _ _ _ (hN n1 hn1))
        · exact absurd ((lg_cmp_eq _ _).mpr ((h4 h1114).trans (if_pos h1122))) h1131
      · refine g_lconst C 1 dL_law_1125 rfl ?_
        refine g_goto C 1130 dL_law_1126 (by decide) ?_
        refine g_lcmp C dL_law_1130 ?_
        refine g_if_eq C 1136 dL_law_1131 (by decide) (fun h1131 => ?_) (fun h1131 => ?_)
        · refine g_goto C 1545 dL_law_1136 (by decide) ?_
          exact g_wid (by omega) (by omega) (kk _ _ _ _ _ _ (hN n1 hn1))
        · exact absurd ((lg_cmp_eq _ _).mpr ((h4 h1114).trans (if_neg h1122))) h1131
  · exact absurd h3 h1107
theorem lc_total (C : tkC X cL_law RL nm 9 (some .boolean) hh 12 601024 7293034) (S : lwX X sb n xs) (hn : n < 2 ^ 31) (hi : i + 1 < n) (hcs : cs + 28 ≤ 601024) (hss : ss + 364 ≤ 7293034)
    (h : lwPair (.codeWith yL_total cL_total 4 (some .int) [(0, 8, 11, 20)]) yL_total [.ref B, .int (xs (i + 1)), .ref (B + 79)] (.code yX6_total cX6_total 2 (some .long)) yX6_total 2 [.ref (B + 58), .int (xs (i + 1))] Int64 Value.long (fun b L2 => L2 (B + 79) 0 = b) B N σ I L)
    (kk : ∀ σ2 I2 L2 l6 l7 l8, N σ2 I2 L2 → tkG X Q (cs + 28) (ss + 364) 1545 [some (.ref sb), some (.ref B), some (.ref (B + 58)), some (.ref (B + 79)), some (.ref (B + 80)), some (.int (nI i)), l6, l7, l8] [] σ2 I2 L2) : tkG X Q cs ss 1139 [some (.ref sb), some (.ref B), some (.ref (B + 58)), some (.ref (B + 79)), some (.ref (B + 80)), some (.int (nI i)), l6, l7, l8] [] σ I L := by
  obtain ⟨k, mc, ms, σ1, I1, L1, b, I2, L2, ⟨z1, z2⟩, h1, h2, h3, h4, ⟨hM, hO, hD⟩, hN⟩ := h
  refine g_aload_n C (i := 1) dL_law_1139 rfl rfl ?_
  refine g_aload_n C (i := 0) dL_law_1140 rfl rfl ?_
  refine g_iload C (i := 5) dL_law_1141 rfl ?_
  refine g_iconst C (1) dL_law_1143 rfl ?_
  refine g_iadd C dL_law_1144 ?_
  refine g_scr C S dL_law_1145 (nI_add i 1) (by omega) hn ?_
  refine g_aload_n C (i := 3) dL_law_1146 rfl rfl ?_
  refine g_callSH C dL_law_1147 mm_L_total ml_L_143 mt_yL_total (h1) rfl ⟨by decide, by omega, by omega, Nat.le_of_ble_eq_true rfl⟩ (tk_retl fun n1 hn1 => ?_) tk_nothr
  refine g_istore C (i := 6) dL_law_1150 (by decide) ?_
  refine g_aload_n C (i := 2) dL_law_1152 rfl rfl ?_
  refine g_aload_n C (i := 0) dL_law_1153 rfl rfl ?_
  refine g_iload C (i := 5) dL_law_1154 rfl ?_
  refine g_iconst C (1) dL_law_1156 rfl ?_
  refine g_iadd C dL_law_1157 ?_
  refine g_scr C S dL_law_1158 (nI_add i 1) (by omega) hn ?_
  refine g_callV C (q := (RX6, TX6, 29)) (rest := _) dL_law_1159 mm_X6_total ml_L_145 mv_yX6_total ms_yX6_total (h2 n1 hn1) rfl (hM.1 0 (by decide)) rfl rfl ⟨by decide, by omega, by omega, Nat.le_of_ble_eq_true rfl⟩ (tk_retv ?_) tk_nothr
  refine g_lstore C (i := 7) dL_law_1162 (by decide) ?_
  refine g_aload_n C (i := 2) dL_law_1164 rfl rfl ?_
  refine g_callV C (q := (RX6, TX6, 29)) (rest := _) dL_law_1165 mm_X6_thrown ml_L_94 mv_yX6_thrown ms_yX6_thrown (c_thr (σ := (n1, σ1.2)) hM) rfl (hM.1 0 (by decide)) rfl rfl ⟨by decide, by omega, by omega, Nat.le_of_ble_eq_true rfl⟩ (tk_retv ?_) tk_nothr
  refine g_iload C (i := 6) dL_law_1168 rfl ?_
  refine g_icmp_eq C 1175 dL_law_1170 (by decide) (fun h1170 => ?_) (fun h1170 => ?_)
  · refine g_iload C (i := 6) dL_law_1175 rfl ?_
    refine g_if_ne C 1191 dL_law_1177 (by decide) (fun h1177 => ?_) (fun h1177 => ?_)
    · refine g_goto C 1545 dL_law_1191 (by decide) ?_
      exact g_wid (by omega) (by omega) (kk _ _ _ _ _ _ (hN n1 hn1))
    · refine g_aload_n C (i := 3) dL_law_1180 rfl rfl ?_
      refine g_iconst C (0) dL_law_1181 rfl ?_
      refine g_la C dL_law_1182 hO rfl rfl (by decide) (by decide) ?_
      refine g_lload C (i := 7) dL_law_1183 rfl ?_
      refine g_lcmp C dL_law_1185 ?_
      refine g_if_eq C 1191 dL_law_1186 (by decide) (fun h1186 => ?_) (fun h1186 => ?_)
      · refine g_goto C 1545 dL_law_1191 (by decide) ?_
        exact g_wid (by omega) (by omega) (kk _ _ _ _ _ _ (hN n1 hn1))
      · exact absurd ((lg_cmp_eq _ _).mpr (h4 h1177)) h1186
  · exact absurd h3 h1170
theorem lc_energy (C : tkC X cL_law RL nm 9 (some .boolean) hh 12 601024 7293034) (S : lwX X sb n xs) (hn : n < 2 ^ 31) (hi : i + 1 < n) (hcs : cs + 28 ≤ 601024) (hss : ss + 364 ≤ 7293034)
    (h : lwPair (.codeWith yL_energy cL_energy 4 (some .int) [(0, 8, 11, 20)]) yL_energy [.ref B, .int (xs (i + 1)), .ref (B + 79)] (.code yX6_energy cX6_energy 2 (some .long)) yX6_energy 2 [.ref (B + 58), .int (xs (i + 1))] Int64 Value.long (fun b L2 => L2 (B + 79) 0 = b) B N σ I L)
    (kk : ∀ σ2 I2 L2 l6 l7 l8, N σ2 I2 L2 → tkG X Q (cs + 28) (ss + 364) 1545 [some (.ref sb), some (.ref B), some (.ref (B + 58)), some (.ref (B + 79)), some (.ref (B + 80)), some (.int (nI i)), l6, l7, l8] [] σ2 I2 L2) : tkG X Q cs ss 1194 [some (.ref sb), some (.ref B), some (.ref (B + 58)), some (.ref (B + 79)), some (.ref (B + 80)), some (.int (nI i)), l6, l7, l8] [] σ I L := by
  obtain ⟨k, mc, ms, σ1, I1, L1, b, I2, L2, ⟨z1, z2⟩, h1, h2, h3, h4, ⟨hM, hO, hD⟩, hN⟩ := h
  refine g_aload_n C (i := 1) dL_law_1194 rfl rfl ?_
  refine g_aload_n C (i := 0) dL_law_1195 rfl rfl ?_
  refine g_iload C (i := 5) dL_law_1196 rfl ?_
  refine g_iconst C (1) dL_law_1198 rfl ?_
  refine g_iadd C dL_law_1199 ?_
  refine g_scr C S dL_law_1200 (nI_add i 1) (by omega) hn ?_
  refine g_aload_n C (i := 3) dL_law_1201 rfl rfl ?_
  refine g_callSH C dL_law_1202 mm_L_energy ml_L_146 mt_yL_energy (h1) rfl ⟨by decide, by omega, by omega, Nat.le_of_ble_eq_true rfl⟩ (tk_retl fun n1 hn1 => ?_) tk_nothr
  refine g_istore C (i := 6) dL_law_1205 (by decide) ?_
  refine g_aload_n C (i := 2) dL_law_1207 rfl rfl ?_
  refine g_aload_n C (i := 0) dL_law_1208 rfl rfl ?_
  refine g_iload C (i := 5) dL_law_1209 rfl ?_
  refine g_iconst C (1) dL_law_1211 rfl ?_
  refine g_iadd C dL_law_1212 ?_
  refine g_scr C S dL_law_1213 (nI_add i 1) (by omega) hn ?_
  refine g_callV C (q := (RX6, TX6, 29)) (rest := _) dL_law_1214 mm_X6_energy ml_L_148 mv_yX6_energy ms_yX6_energy (h2 n1 hn1) rfl (hM.1 0 (by decide)) rfl rfl ⟨by decide, by omega, by omega, Nat.le_of_ble_eq_true rfl⟩ (tk_retv ?_) tk_nothr
  refine g_lstore C (i := 7) dL_law_1217 (by decide) ?_
  refine g_aload_n C (i := 2) dL_law_1219 rfl rfl ?_
  refine g_callV C (q := (RX6, TX6, 29)) (rest := _) dL_law_1220 mm_X6_thrown ml_L_94 mv_yX6_thrown ms_yX6_thrown (c_thr (σ := (n1, σ1.2)) hM) rfl (hM.1 0 (by decide)) rfl rfl ⟨by decide, by omega, by omega, Nat.le_of_ble_eq_true rfl⟩ (tk_retv ?_) tk_nothr
  refine g_iload C (i := 6) dL_law_1223 rfl ?_
  refine g_icmp_eq C 1230 dL_law_1225 (by decide) (fun h1225 => ?_) (fun h1225 => ?_)
  · refine g_iload C (i := 6) dL_law_1230 rfl ?_
    refine g_if_ne C 1246 dL_law_1232 (by decide) (fun h1232 => ?_) (fun h1232 => ?_)
    · refine g_goto C 1545 dL_law_1246 (by decide) ?_
      exact g_wid (by omega) (by omega) (kk _ _ _ _ _ _ (hN n1 hn1))
    · refine g_aload_n C (i := 3) dL_law_1235 rfl rfl ?_
      refine g_iconst C (0) dL_law_1236 rfl ?_
      refine g_la C dL_law_1237 hO rfl rfl (by decide) (by decide) ?_
      refine g_lload C (i := 7) dL_law_1238 rfl ?_
      refine g_lcmp C dL_law_1240 ?_
      refine g_if_eq C 1246 dL_law_1241 (by decide) (fun h1241 => ?_) (fun h1241 => ?_)
      · refine g_goto C 1545 dL_law_1246 (by decide) ?_
        exact g_wid (by omega) (by omega) (kk _ _ _ _ _ _ (hN n1 hn1))
      · exact absurd ((lg_cmp_eq _ _).mpr (h4 h1232)) h1241
  · exact absurd h3 h1225
theorem lc_shortTicks (C : tkC X cL_law RL nm 9 (some .boolean) hh 12 601024 7293034) (S : lwX X sb n xs) (hn : n < 2 ^ 31) (hi : i + 1 < n) (hcs : cs + 28 ≤ 601024) (hss : ss + 364 ≤ 7293034)
    (h : lwPair (.codeWith yL_shortTicks cL_shortTicks 4 (some .int) [(0, 8, 11, 20)]) yL_shortTicks [.ref B, .int (xs (i + 1)), .ref (B + 79)] (.code yX6_shortTicks cX6_shortTicks 2 (some .long)) yX6_shortTicks 2 [.ref (B + 58), .int (xs (i + 1))] Int64 Value.long (fun b L2 => L2 (B + 79) 0 = b) B N σ I L)
    (kk : ∀ σ2 I2 L2 l6 l7 l8, N σ2 I2 L2 → tkG X Q (cs + 28) (ss + 364) 1545 [some (.ref sb), some (.ref B), some (.ref (B + 58)), some (.ref (B + 79)), some (.ref (B + 80)), some (.int (nI i)), l6, l7, l8] [] σ2 I2 L2) : tkG X Q cs ss 1249 [some (.ref sb), some (.ref B), some (.ref (B + 58)), some (.ref (B + 79)), some (.ref (B + 80)), some (.int (nI i)), l6, l7, l8] [] σ I L := by
  obtain ⟨k, mc, ms, σ1, I1, L1, b, I2, L2, ⟨z1, z2⟩, h1, h2, h3, h4, ⟨hM, hO, hD⟩, hN⟩ := h
  refine g_aload_n C (i := 1) dL_law_1249 rfl rfl ?_
  refine g_aload_n C (i := 0) dL_law_1250 rfl rfl ?_
  refine g_iload C (i := 5) dL_law_1251 rfl ?_
  refine g_iconst C (1) dL_law_1253 rfl ?_
  refine g_iadd C dL_law_1254 ?_
  refine g_scr C S dL_law_1255 (nI_add i 1) (by omega) hn ?_
  refine g_aload_n C (i := 3) dL_law_1256 rfl rfl ?_
  refine g_callSH C dL_law_1257 mm_L_shortTicks ml_L_149 mt_yL_shortTicks (h1) rfl ⟨by decide, by omega, by omega, Nat.le_of_ble_eq_true rfl⟩ (tk_retl fun n1 hn1 => ?_) tk_nothr
  refine g_istore C (i := 6) dL_law_1260 (by decide) ?_
  refine g_aload_n C (i := 2) dL_law_1262 rfl rfl ?_
  refine g_aload_n C (i := 0) dL_law_1263 rfl rfl ?_
  refine g_iload C (i := 5) dL_law_1264 rfl ?_
  refine g_iconst C (1) dL_law_1266 rfl ?_
  refine g_iadd C dL_law_1267 ?_
  refine g_scr C S dL_law_1268 (nI_add i 1) (by omega) hn ?_
  refine g_callV C (q := (RX6, TX6, 29)) (rest := _) dL_law_1269 mm_X6_shortTicks ml_L_151 mv_yX6_shortTicks ms_yX6_shortTicks (h2 n1 hn1) rfl (hM.1 0 (by decide)) rfl rfl ⟨by decide, by omega, by omega, Nat.le_of_ble_eq_true rfl⟩ (tk_retv ?_) tk_nothr
  refine g_lstore C (i := 7) dL_law_1272 (by decide) ?_
  refine g_aload_n C (i := 2) dL_law_1274 rfl rfl ?_
  refine g_callV C (q := (RX6, TX6, 29)) (rest := _) dL_law_1275 mm_X6_thrown ml_L_94 mv_yX6_thrown ms_yX6_thrown (c_thr (σ := (n1, σ1.2)) hM) rfl (hM.1 0 (by decide)) rfl rfl ⟨by decide, by omega, by omega, Nat.le_of_ble_eq_true rfl⟩ (tk_retv ?_) tk_nothr
  refine g_iload C (i := 6) dL_law_1278 rfl ?_
  refine g_icmp_eq C 1285 dL_law_1280 (by decide) (fun h1280 => ?_) (fun h1280 => ?_)
  · refine g_iload C (i := 6) dL_law_1285 rfl ?_
    refine g_if_ne C 1301 dL_law_1287 (by decide) (fun h1287 => ?_) (fun h1287 => ?_)
    · refine g_goto C 1545 dL_law_1301 (by decide) ?_
      exact g_wid (by omega) (by omega) (kk _ _ _ _ _ _ (hN n1 hn1))
    · refine g_aload_n C (i := 3) dL_law_1290 rfl rfl ?_
      refine g_iconst C (0) dL_law_1291 rfl ?_
      refine g_la C dL_law_1292 hO rfl rfl (by decide) (by decide) ?_
      refine g_lload C (i := 7) dL_law_1293 rfl ?_
      refine g_lcmp C dL_law_1295 ?_
      refine g_if_eq C 1301 dL_law_1296 (by decide) (fun h1296 => ?_) (fun h1296 => ?_)
      · refine g_goto C 1545 dL_law_1301 (by decide) ?_
        exact g_wid (by omega) (by omega) (kk _ _ _ _ _ _ (hN n1 hn1))
      · exact absurd ((lg_cmp_eq _ _).mpr (h4 h1287)) h1296
  · exact absurd h3 h1280
theorem lc_balance (C : tkC X cL_law RL nm 9 (some .boolean) hh 12 601024 7293034) (hcs : cs + 28 ≤ 601024) (hss : ss + 364 ≤ 7293034) (h : lwAsk (.code yX5_balance cX5_balance 1 (some .long)) yX5_balance (.code yX6_balance cX6_balance 4 (some .long)) yX6_balance B N σ I L)
    (kk : ∀ σ2 I2 L2 l6 l7 l8, N σ2 I2 L2 → tkG X Q (cs + 28) (ss + 364) 1545 [some (.ref sb), some (.ref B), some (.ref (B + 58)), some (.ref (B + 79)), some (.ref (B + 80)), some (.int (nI i)), l6, l7, l8] [] σ2 I2 L2) : tkG X Q cs ss 1304 [some (.ref sb), some (.ref B), some (.ref (B + 58)), some (.ref (B + 79)), some (.ref (B + 80)), some (.int (nI i)), l6, l7, l8] [] σ I L := by
  obtain ⟨mc, ms, I1, L1, b, I2, L2, ⟨z1, z2⟩, h1, h2, ⟨hX, hM⟩, hN⟩ := h
  refine g_aload_n C (i := 1) dL_law_1304 rfl rfl ?_
  refine g_callV C (q := (RX5, TX5, 4)) (rest := _) dL_law_1305 mm_X5_balance ml_L_152 mv_yX5_balance ms_yX5_balance (h1) rfl hX rfl rfl ⟨by decide, by omega, by omega, Nat.le_of_ble_eq_true rfl⟩ (tk_retv ?_) tk_nothr
  refine g_aload_n C (i := 2) dL_law_1308 rfl rfl ?_
  refine g_callV C (q := (RX6, TX6, 29)) (rest := _) dL_law_1309 mm_X6_balance ml_L_155 mv_yX6_balance ms_yX6_balance (h2) rfl (hM.1 0 (by decide)) rfl rfl ⟨by decide, by omega, by omega, Nat.le_of_ble_eq_true rfl⟩ (tk_retv ?_) tk_nothr
  refine g_lcmp C dL_law_1312 ?_
  refine g_if_eq C 1545 dL_law_1313 (by decide) (fun h1313 => ?_) (fun h1313 => ?_)
  · skip
    exact g_wid (by omega) (by omega) (kk _ _ _ _ _ _ hN)
  · exact absurd ((lg_cmp_eq _ _).mpr rfl) h1313
theorem lc_changeCount (C : tkC X cL_law RL nm 9 (some .boolean) hh 12 601024 7293034) (hcs : cs + 28 ≤ 601024) (hss : ss + 364 ≤ 7293034) (h : lwAsk (.code yX5_changeCount cX5_changeCount 1 (some .long)) yX5_changeCount (.code yX6_changeCount cX6_changeCount 1 (some .long)) yX6_changeCount B N σ I L)
    (kk : ∀ σ2 I2 L2 l6 l7 l8, N σ2 I2 L2 → tkG X Q (cs + 28) (ss + 364) 1545 [some (.ref sb), some (.ref B), some (.ref (B + 58)), some (.ref (B + 79)), some (.ref (B + 80)), some (.int (nI i)), l6, l7, l8] [] σ2 I2 L2) : tkG X Q cs ss 1318 [some (.ref sb), some (.ref B), some (.ref (B + 58)), some (.ref (B + 79)), some (.ref (B + 80)), some (.int (nI i)), l6, l7, l8] [] σ I L := by
  obtain ⟨mc, ms, I1, L1, b, I2, L2, ⟨z1, z2⟩, h1, h2, ⟨hX, hM⟩, hN⟩ := h
  refine g_aload_n C (i := 1) dL_law_1318 rfl rfl ?_
  refine g_callV C (q := (RX5, TX5, 4)) (rest := _) dL_law_1319 mm_X5_changeCount ml_L_156 mv_yX5_changeCount ms_yX5_changeCount (h1) rfl hX rfl rfl ⟨by decide, by omega, by omega, Nat.le_of_ble_eq_true rfl⟩ (tk_retv ?_) tk_nothr
  refine g_aload_n C (i := 2) dL_law_1322 rfl rfl ?_
  refine g_callV C (q := (RX6, TX6, 29)) (rest := _) dL_law_1323 mm_X6_changeCount ml_L_159 mv_yX6_changeCount ms_yX6_changeCount (h2) rfl (hM.1 0 (by decide)) rfl rfl ⟨by decide, by omega, by omega, Nat.le_of_ble_eq_true rfl⟩ (tk_retv ?_) tk_nothr
  refine g_lcmp C dL_law_1326 ?_
  refine g_if_eq C 1545 dL_law_1327 (by decide) (fun h1327 => ?_) (fun h1327 => ?_)
  · skip
    exact g_wid (by omega) (by omega) (kk _ _ _ _ _ _ hN)
  · exact absurd ((lg_cmp_eq _ _).mpr rfl) h1327
theorem lc_changeTime (C : tkC X cL_law RL nm 9 (some .boolean) hh 12 601024 7293034) (S : lwX X sb n xs) (hn : n < 2 ^ 31) (hi : i + 1 < n) (hcs : cs + 28 ≤ 601024) (hss : ss + 364 ≤ 7293034)
    (h : lwPair (.codeWith yL_changeTime cL_changeTime 4 (some .int) [(0, 8, 11, 20)]) yL_changeTime [.ref B, .int (xs (i + 1)), .ref (B + 79)] (.code yX6_changeTime cX6_changeTime 2 (some .long)) yX6_changeTime 2 [.ref (B + 58), .int (xs (i + 1))] Int64 Value.long (fun b L2 => L2 (B + 79) 0 = b) B N σ I L)
    (kk : ∀ σ2 I2 L2 l6 l7 l8, N σ2 I2 L2 → tkG X Q (cs + 28) (ss + 364) 1545 [some (.ref sb), some (.ref B), some (.ref (B + 58)), some (.ref (B + 79)), some (.ref (B + 80)), some (.int (nI i)), l6, l7, l8] [] σ2 I2 L2) : tkG X Q cs ss 1332 [some (.ref sb), some (.ref B), some (.ref (B + 58)), some (.ref (B + 79)), some (.ref (B + 80)), some (.int (nI i)), l6, l7, l8] [] σ I L := by
  obtain ⟨k, mc, ms, σ1, I1, L1, b, I2, L2, ⟨z1, z2⟩, h1, h2, h3, h4, ⟨hM, hO, hD⟩, hN⟩ := h
  refine g_aload_n C (i := 1) dL_law_1332 rfl rfl ?_
  refine g_aload_n C (i := 0) dL_law_1333 rfl rfl ?_
  refine g_iload C (i := 5) dL_law_1334 rfl ?_
  refine g_iconst C (1) dL_law_1336 rfl ?_
  refine g_iadd C dL_law_1337 ?_
  refine g_scr C S dL_law_1338 (nI_add i 1) (by omega) hn ?_
  refine g_aload_n C (i := 3) dL_law_1339 rfl rfl ?_
  refine g_callSH C dL_law_1340 mm_L_changeTime ml_L_160 mt_yL_changeTime (h1) rfl ⟨by decide, by omega, by omega, Nat.le_of_ble_eq_true rfl⟩ (tk_retl fun n1 hn1 => ?_) tk_nothr
  refine g_istore C (i := 6) dL_law_1343 (by decide) ?_
  refine g_aload_n C (i := 2) dL_law_1345 rfl rfl ?_
  refine g_aload_n C (i := 0) dL_law_1346 rfl rfl ?_
  refine g_iload C (i := 5) dL_law_1347 rfl ?_
  refine g_iconst C (1) dL_law_1349 rfl ?_
  refine g_iadd C dL_law_1350 ?_
  refine g_scr C S dL_law_1351 (nI_add i 1) (by omega) hn ?_
  refine g_callV C (q := (RX6, TX6, 29)) (rest := _) dL_law_1352 mm_X6_changeTime ml_L_162 mv_yX6_changeTime ms_yX6_changeTime (h2 n1 hn1) rfl (hM.1 0 (by decide)) rfl rfl ⟨by decide, by omega, by omega, Nat.le_of_ble_eq_true rfl⟩ (tk_retv ?_) tk_nothr
  refine g_lstore C (i := 7) dL_law_1355 (by decide) ?_
  refine g_aload_n C (i := 2) dL_law_1357 rfl rfl ?_
  refine g_callV C (q := (RX6, TX6, 29)) (rest := _) dL_law_1358 mm_X6_thrown ml_L_94 mv_yX6_thrown ms_yX6_thrown (c_thr (σ := (n1, σ1.2)) hM) rfl (hM.1 0 (by decide)) rfl rfl ⟨by decide, by omega, by omega, Nat.le_of_ble_eq_true rfl⟩ (tk_retv ?_) tk_nothr
  refine g_iload C (i := 6) dL_law_1361 rfl ?_
  refine g_icmp_eq C 1368 dL_law_1363 (by decide) (fun h1363 => ?_) (fun h1363 => ?_)
  · refine g_iload C (i := 6) dL_law_1368 rfl ?_
    refine g_if_ne C 1384 dL_law_1370 (by decide) (fun h1370 => ?_) (fun h1370 => ?_)
    · refine g_goto C 1545 dL_law_1384 (by decide) ?_
      exact g_wid (by omega) (by omega) (kk _ _ _ _ _ _ (hN n1 hn1))
    · refine g_aload_n C (i := 3) dL_law_1373 rfl rfl ?_
      refine g_iconst C (0) dL_law_1374 rfl ?_
      refine g_la C dL_law_1375 hO rfl rfl (by decide) (by decide) ?_
      refine g_lload C (i := 7) dL_law_1376 rfl ?_
      refine g_lcmp C dL_law_1378 ?_
      refine g_if_eq C 1384 dL_law_1379 (by decide) (fun h1379 => ?_) (fun h1379 => ?_)
      · refine g_goto C 1545 dL_law_1384 (by decide) ?_
        exact g_wid (by omega) (by omega) (kk _ _ _ _ _ _ (hN n1 hn1))
      · exact absurd ((lg_cmp_eq _ _).mpr (h4 h1370)) h1379
  · exact absurd h3 h1363
theorem lc_changeSwitch (C : tkC X cL_law RL nm 9 (some .boolean) hh 12 601024 7293034) (S : lwX X sb n xs) (hn : n < 2 ^ 31) (hi : i + 1 < n) (hcs : cs + 28 ≤ 601024) (hss : ss + 364 ≤ 7293034)
    (h : lwPair (.codeWith yL_changeSwitch cL_changeSwitch 4 (some .int) [(0, 9, 12, 20)]) yL_changeSwitch [.ref B, .int (xs (i + 1)), .ref (B + 79)] (.code yX6_changeSwitch cX6_changeSwitch 2 (some .int)) yX6_changeSwitch 2 [.ref (B + 58), .int (xs (i + 1))] Int32 Value.int (fun b L2 => L2 (B + 79) 0 = b.toInt64) B N σ I L)
    (kk : ∀ σ2 I2 L2 l6 l7 l8, N σ2 I2 L2 → tkG X Q (cs + 28) (ss + 364) 1545 [some (.ref sb), some (.ref B), some (.ref (B + 58)), some (.ref (B + 79)), some (.ref (B + 80)), some (.int (nI i)), l6, l7, l8] [] σ2 I2 L2) : tkG X Q cs ss 1387 [some (.ref sb), some (.ref B), some (.ref (B + 58)), some (.ref (B + 79)), some (.ref (B + 80)), some (.int (nI i)), l6, l7, l8] [] σ I L := by
  obtain ⟨k, mc, ms, σ1, I1, L1, b, I2, L2, ⟨z1, z2⟩, h1, h2, h3, h4, ⟨hM, hO, hD⟩, hN⟩ := h
  refine g_aload_n C (i := 1) dL_law_1387 rfl rfl ?_
  refine g_aload_n C (i := 0) dL_law_1388 rfl rfl ?_
  refine g_iload C (i := 5) dL_law_1389 rfl ?_
  refine g_iconst C (1) dL_law_1391 rfl ?_
  refine g_iadd C dL_law_1392 ?_
  refine g_scr C S dL_law_1393 (nI_add i 1) (by omega) hn ?_
  refine g_aload_n C (i := 3) dL_law_1394 rfl rfl ?_
  refine g_callSH C dL_law_1395 mm_L_changeSwitch ml_L_163 mt_yL_changeSwitch (h1) rfl ⟨by decide, by omega, by omega, Nat.le_of_ble_eq_true rfl⟩ (tk_retl fun n1 hn1 => ?_) tk_nothr
  refine g_istore C (i := 6) dL_law_1398 (by decide) ?_
  refine g_aload_n C (i := 2) dL_law_1400 rfl rfl ?_
  refine g_aload_n C (i := 0) dL_law_1401 rfl rfl ?_
  refine g_iload C (i := 5) dL_law_1402 rfl ?_
  refine g_iconst C (1) dL_law_1404 rfl ?_
  refine g_iadd C dL_law_1405 ?_
  refine g_scr C S dL_law_1406 (nI_add i 1) (by omega) hn ?_
  refine g_callV C (q := (RX6, TX6, 29)) (rest := _) dL_law_1407 mm_X6_changeSwitch ml_L_165 mv_yX6_changeSwitch ms_yX6_changeSwitch (h2 n1 hn1) rfl (hM.1 0 (by decide)) rfl rfl ⟨by decide, by omega, by omega, Nat.le_of_ble_eq_true rfl⟩ (tk_retv ?_) tk_nothr
  refine g_istore C (i := 7) dL_law_1410 (by decide) ?_
  refine g_aload_n C (i := 2) dL_law_1412 rfl rfl ?_
  refine g_callV C (q := (RX6, TX6, 29)) (rest := _) dL_law_1413 mm_X6_thrown ml_L_94 mv_yX6_thrown ms_yX6_thrown (c_thr (σ := (n1, σ1.2)) hM) rfl (hM.1 0 (by decide)) rfl rfl ⟨by decide, by omega, by omega, Nat.le_of_ble_eq_true rfl⟩ (tk_retv ?_) tk_nothr
  refine g_iload C (i := 6) dL_law_1416 rfl ?_
  refine g_icmp_eq C 1423 dL_law_1418 (by decide) (fun h1418 => ?_) (fun h1418 => ?_)
  · refine g_iload C (i := 6) dL_law_1423 rfl ?_
    refine g_if_ne C 1440 dL_law_1425 (by decide) (fun h1425 => ?_) (fun h1425 => ?_)
    · refine g_goto C 1545 dL_law_1440 (by decide) ?_
      exact g_wid (by omega) (by omega) (kk _ _ _ _ _ _ (hN n1 hn1))
    · refine g_aload_n C (i := 3) dL_law_1428 rfl rfl ?_
      refine g_iconst C (0) dL_law_1429 rfl ?_
      refine g_la C dL_law_1430 hO rfl rfl (by decide) (by decide) ?_
      refine g_iload C (i := 7) dL_law_1431 rfl ?_
      refine g_i2l C dL_law_1433 ?_
      refine g_lcmp C dL_law_1434 ?_
      refine g_if_eq C 1440 dL_law_1435 (by decide) (fun h1435 => ?_) (fun h1435 => ?_)
      · refine g_goto C 1545 dL_law_1440 (by decide) ?_
        exact g_wid (by omega) (by omega) (kk _ _ _ _ _ _ (hN n1 hn1))
      · exact absurd ((lg_cmp_eq _ _).mpr (h4 h1425)) h1435
  · exact absurd h3 h1418
theorem lc_save (C : tkC X cL_law RL nm 9 (some .boolean) hh 12 601024 7293034) (S : lwX X sb n xs) (hn : n < 2 ^ 31) (hi : i + 0 < n) (hcs : cs + 28 ≤ 601024) (hss : ss + 364 ≤ 7293034)
    (h : lwPair (.codeWith yL_save cL_save 3 (some .int) [(0, 8, 11, 15)]) yL_save [.ref B, .ref (B + 79)] (.code yX6_save cX6_save 1 (some .int)) yX6_save 3 [.ref (B + 58)] Int32 Value.int (fun b L2 => L2 (B + 79) 0 = b.toInt64) B N σ I L)
    (kk : ∀ σ2 I2 L2 l6 l7 l8, N σ2 I2 L2 → tkG X Q (cs + 28) (ss + 364) 1545 [some (.ref sb), some (.ref B), some (.ref (B + 58)), some (.ref (B + 79)), some (.ref (B + 80)), some (.int (nI i)), l6, l7, l8] [] σ2 I2 L2) : tkG X Q cs ss 1443 [some (.ref sb), some (.ref B), some (.ref (B + 58)), some (.ref (B + 79)), some (.ref (B + 80)), some (.int (nI i)), l6, l7, l8] [] σ I L := by
  obtain ⟨k, mc, ms, σ1, I1, L1, b, I2, L2, ⟨z1, z2⟩, h1, h2, h3, h4, ⟨hM, hO, hD⟩, hN⟩ := h
  refine g_aload_n C (i := 1) dL_law_1443 rfl rfl ?_
  refine g_aload_n C (i := 3) dL_law_1444 rfl rfl ?_
  refine g_callSH C dL_law_1445 mm_L_save ml_L_166 mt_yL_save (h1) rfl ⟨by decide, by omega, by omega, Nat.le_of_ble_eq_true rfl⟩ (tk_retl fun n1 hn1 => ?_) tk_nothr
  refine g_istore C (i := 6) dL_law_1448 (by decide) ?_
  refine g_aload_n C (i := 2) dL_law_1450 rfl rfl ?_
  refine g_callV C (q := (RX6, TX6, 29)) (rest := _) dL_law_1451 mm_X6_save ml_L_169 mv_yX6_save ms_yX6_save (h2 n1 hn1) rfl (hM.1 0 (by decide)) rfl rfl ⟨by decide, by omega, by omega, Nat.le_of_ble_eq_true rfl⟩ (tk_retv ?_) tk_nothr
  refine g_istore C (i := 7) dL_law_1454 (by decide) ?_
  refine g_aload_n C (i := 2) dL_law_1456 rfl rfl ?_
  refine g_callV C (q := (RX6, TX6, 29)) (rest := _) dL_law_1457 mm_X6_thrown ml_L_94 mv_yX6_thrown ms_yX6_thrown (c_thr (σ := (n1, σ1.2)) hM) rfl (hM.1 0 (by decide)) rfl rfl ⟨by decide, by omega, by omega, Nat.le_of_ble_eq_true rfl⟩ (tk_retv ?_) tk_nothr
  refine g_iload C (i := 6) dL_law_1460 rfl ?_
  refine g_icmp_eq C 1467 dL_law_1462 (by decide) (fun h1462 => ?_) (fun h1462 => ?_)
  · refine g_iload C (i := 6) dL_law_1467 rfl ?_
    refine g_if_ne C 1484 dL_law_1469 (by decide) (fun h1469 => ?_) (fun h1469 => ?_)
    · refine g_goto C 1545 dL_law_1484 (by decide) ?_
      exact g_wid (by omega) (by omega) (kk _ _ _ _ _ _ (hN n1 hn1))
    · refine g_aload_n C (i := 3) dL_law_1472 rfl rfl ?_
      refine g_iconst C (0) dL_law_1473 rfl ?_
      refine g_la C dL_law_1474 hO rfl rfl (by decide) (by decide) ?_
      refine g_iload C (i := 7) dL_law_1475 rfl ?_
      refine g_i2l C dL_law_1477 ?_
      refine g_lcmp C dL_law_1478 ?_
      refine g_if_eq C 1484 dL_law_1479 (by decide) (fun h1479 => ?_) (fun h1479 => ?_)
      · refine g_goto C 1545 dL_law_1484 (by decide) ?_
        exact g_wid (by omega) (by omega) (kk _ _ _ _ _ _ (hN n1 hn1))
      · exact absurd ((lg_cmp_eq _ _).mpr (h4 h1469)) h1479
  · exact absurd h3 h1462
theorem lc_restore (C : tkC X cL_law RL nm 9 (some .boolean) hh 12 601024 7293034) (S : lwX X sb n xs) (hn : n < 2 ^ 31) (hi : i + 0 < n) (hcs : cs + 28 ≤ 601024) (hss : ss + 364 ≤ 7293034)
    (h : lwPair (.codeWith yL_restore cL_restore 3 (some .int) [(0, 8, 11, 15)]) yL_restore [.ref B, .ref (B + 79)] (.code yX6_restore cX6_restore 1 (some .int)) yX6_restore 3 [.ref (B + 58)] Int32 Value.int (fun b L2 => L2 (B + 79) 0 = b.toInt64) B N σ I L)
    (kk : ∀ σ2 I2 L2 l6 l7 l8, N σ2 I2 L2 → tkG X Q (cs + 28) (ss + 364) 1545 [some (.ref sb), some (.ref B), some (.ref (B + 58)), some (.ref (B + 79)), some (.ref (B + 80)), some (.int (nI i)), l6, l7, l8] [] σ2 I2 L2) : tkG X Q cs ss 1487 [some (.ref sb), some (.ref B), some (.ref (B + 58)), some (.ref (B + 79)), some (.ref (B + 80)), some (.int (nI i)), l6, l7, l8] [] σ I L := by
  obtain ⟨k, mc, ms, σ1, I1, L1, b, I2, L2, ⟨z1, z2⟩, h1, h2, h3, h4, ⟨hM, hO, hD⟩, hN⟩ := h
  refine g_aload_n C (i := 1) dL_law_1487 rfl rfl ?_
  refine g_aload_n C (i := 3) dL_law_1488 rfl rfl ?_
  refine g_callSH C dL_law_1489 mm_L_restore ml_L_170 mt_yL_restore (h1) rfl ⟨by decide, by omega, by omega, Nat.le_of_ble_eq_true rfl⟩ (tk_retl fun n1 hn1 => ?_) tk_nothr
  refine g_istore C (i := 6) dL_law_1492 (by decide) ?_
  refine g_aload_n C (i := 2) dL_law_1494 rfl rfl ?_
  refine g_callV C (q := (RX6, TX6, 29)) (rest := _) dL_law_1495 mm_X6_restore ml_L_172 mv_yX6_restore ms_yX6_restore (h2 n1 hn1) rfl (hM.1 0 (by decide)) rfl rfl ⟨by decide, by omega, by omega, Nat.le_of_ble_eq_true rfl⟩ (tk_retv ?_) tk_nothr
  refine g_istore C (i := 7) dL_law_1498 (by decide) ?_
  refine g_aload_n C (i := 2) dL_law_1500 rfl rfl ?_
  refine g_callV C (q := (RX6, TX6, 29)) (rest := _) dL_law_1501 mm_X6_thrown ml_L_94 mv_yX6_thrown ms_yX6_thrown (c_thr (σ := (n1, σ1.2)) hM) rfl (hM.1 0 (by decide)) rfl rfl ⟨by decide, by omega, by omega, Nat.le_of_ble_eq_true rfl⟩ (tk_retv ?_) tk_nothr
  refine g_iload C (i := 6) dL_law_1504 rfl ?_
  refine g_icmp_eq C 1511 dL_law_1506 (by decide) (fun h1506 => ?_) (fun h1506 => ?_)
  · refine g_iload C (i := 6) dL_law_1511 rfl ?_
    refine g_if_ne C 1528 dL_law_1513 (by decide) (fun h1513 => ?_) (fun h1513 => ?_)
    · refine g_goto C 1545 dL_law_1528 (by decide) ?_
      exact g_wid (by omega) (by omega) (kk _ _ _ _ _ _ (hN n1 hn1))
    · refine g_aload_n C (i := 3) dL_law_1516 rfl rfl ?_
      refine g_iconst C (0) dL_law_1517 rfl ?_
      refine g_la C dL_law_1518 hO rfl rfl (by decide) (by decide) ?_
      refine g_iload C (i := 7) dL_law_1519 rfl ?_
      refine g_i2l C dL_law_1521 ?_
      refine g_lcmp C dL_law_1522 ?_
      refine g_if_eq C 1528 dL_law_1523 (by decide) (fun h1523 => ?_) (fun h1523 => ?_)
      · refine g_goto C 1545 dL_law_1528 (by decide) ?_
        exact g_wid (by omega) (by omega) (kk _ _ _ _ _ _ (hN n1 hn1))
      · exact absurd ((lg_cmp_eq _ _).mpr (h4 h1513)) h1523
  · exact absurd h3 h1506
theorem lc_digest (C : tkC X cL_law RL nm 9 (some .boolean) hh 12 601024 7293034) (hcs : cs + 28 ≤ 601024) (hss : ss + 364 ≤ 7293034) (h : lwAsk (.code yX5_digest cX5_digest 3 (some .long)) yX5_digest (.code yX6_digest cX6_digest 4 (some .long)) yX6_digest B N σ I L)
    (kk : ∀ σ2 I2 L2 l6 l7 l8, N σ2 I2 L2 → tkG X Q (cs + 28) (ss + 364) 1545 [some (.ref sb), some (.ref B), some (.ref (B + 58)), some (.ref (B + 79)), some (.ref (B + 80)), some (.int (nI i)), l6, l7, l8] [] σ2 I2 L2) : tkG X Q cs ss 1531 [some (.ref sb), some (.ref B), some (.ref (B + 58)), some (.ref (B + 79)), some (.ref (B + 80)), some (.int (nI i)), l6, l7, l8] [] σ I L := by
  obtain ⟨mc, ms, I1, L1, b, I2, L2, ⟨z1, z2⟩, h1, h2, ⟨hX, hM⟩, hN⟩ := h
  refine g_aload_n C (i := 1) dL_law_1531 rfl rfl ?_
  refine g_callV C (q := (RX5, TX5, 4)) (rest := _) dL_law_1532 mm_X5_digest ml_L_173 mv_yX5_digest ms_yX5_digest (h1) rfl hX rfl rfl ⟨by decide, by omega, by omega, Nat.le_of_ble_eq_true rfl⟩ (tk_retv ?_) tk_nothr
  refine g_aload_n C (i := 2) dL_law_1535 rfl rfl ?_
  refine g_callV C (q := (RX6, TX6, 29)) (rest := _) dL_law_1536 mm_X6_digest ml_L_176 mv_yX6_digest ms_yX6_digest (h2) rfl (hM.1 0 (by decide)) rfl rfl ⟨by decide, by omega, by omega, Nat.le_of_ble_eq_true rfl⟩ (tk_retv ?_) tk_nothr
  refine g_lcmp C dL_law_1539 ?_
  refine g_if_eq C 1545 dL_law_1540 (by decide) (fun h1540 => ?_) (fun h1540 => ?_)
  · skip
    exact g_wid (by omega) (by omega) (kk _ _ _ _ _ _ hN)
  · exact absurd ((lg_cmp_eq _ _).mpr rfl) h1540
end TKLAWC

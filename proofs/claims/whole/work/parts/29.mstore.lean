section TKSTORE
variable {σ : tkM} {r : Nat} {J v : tkI} {K w : tkL}
/-- what a depot of the reference holds, place by place -/
def ser (J : tkI) (K : tkL) (c : Nat) : Int64 :=
  if c < 6 then (match c with | 0 => (J 0 1).toInt64 | 1 => (J 0 3).toInt64 | 2 => (J 0 7).toInt64 | 3 => K 0 21 | 4 => K 0 22 | _ => (J 0 23).toInt64)
  else if c < 30 then (match (c - 6) % 3 with | 0 => (J 10 ((c - 6) / 3)).toInt64 | 1 => (J 11 ((c - 6) / 3)).toInt64 | _ => K 12 ((c - 6) / 3))
  else if c < 40 then (if J 13 (c - 30) = 0 then 0 else 1)
  else if c < 104 then (match (c - 40) % 4 with | 0 => (J 14 ((c - 40) / 4)).toInt64 | 1 => K 15 ((c - 40) / 4) | 2 => K 16 ((c - 40) / 4) | _ => K 17 ((c - 40) / 4))
  else (match (c - 104) % 2 with | 0 => K 18 ((c - 104) / 2) | _ => (J 19 ((c - 104) / 2)).toInt64)
def rdS (b c : Nat) (q : tkI × tkL) (J1 : tkI) : tkI × tkL :=
  if c < 6 then (match c with | 0 => (tk2 J1 0 1 (q.2 20 (b + c)).toInt32, q.2) | 1 => (tk2 J1 0 3 (q.2 20 (b + c)).toInt32, q.2) | 2 => (tk2 J1 0 7 (q.2 20 (b + c)).toInt32, q.2) | 3 => (J1, tk2 q.2 0 21 (q.2 20 (b + c))) | 4 => (J1, tk2 q.2 0 22 (q.2 20 (b + c))) | _ => (tk2 J1 0 23 (q.2 20 (b + c)).toInt32, q.2))
  else if c < 30 then (match (c - 6) % 3 with | 0 => (tk2 J1 10 ((c - 6) / 3) (q.2 20 (b + c)).toInt32, q.2) | 1 => (tk2 J1 11 ((c - 6) / 3) (q.2 20 (b + c)).toInt32, q.2) | _ => (J1, tk2 q.2 12 ((c - 6) / 3) (q.2 20 (b + c))))
  else if c < 40 then (tk2 J1 13 (c - 30) (if q.2 20 (b + c) = 1 then 1 else 0), q.2)
  else if c < 104 then (match (c - 40) % 4 with | 0 => (tk2 J1 14 ((c - 40) / 4) (q.2 20 (b + c)).toInt32, q.2) | 1 => (J1, tk2 q.2 15 ((c - 40) / 4) (q.2 20 (b + c))) | 2 => (J1, tk2 q.2 16 ((c - 40) / 4) (q.2 20 (b + c))) | _ => (J1, tk2 q.2 17 ((c - 40) / 4) (q.2 20 (b + c))))
  else (match (c - 104) % 2 with | 0 => (J1, tk2 q.2 18 ((c - 104) / 2) (q.2 20 (b + c))) | _ => (tk2 J1 19 ((c - 104) / 2) (q.2 20 (b + c)).toInt32, q.2))
def rdStep (b c : Nat) (q : tkI × tkL) : tkI × tkL := rdS b c q (tk2 q.1 0 28 (nI (b + c + 1)))
def mRd (b c : Nat) (q : tkI × tkL) : tkI × tkL := itr (rdStep b) c q
theorem ser_10 (J : tkI) (K : tkL) {i : Nat} (h : i < 8) : ser J K (6 + 3 * i) = (J 10 i).toInt64 := by
  unfold ser
  rw [if_neg (by omega), if_pos (by omega), show (6 + 3 * i - 6) % 3 = 0 by omega, show (6 + 3 * i - 6) / 3 = i by omega]
  rfl
theorem rdS_10 (b : Nat) (q : tkI × tkL) (J1 : tkI) {i : Nat} (h : i < 8) : rdS b (6 + 3 * i) q J1 = (tk2 J1 10 i (q.2 20 (b + (6 + 3 * i))).toInt32, q.2) := by
  unfold rdS
  rw [if_neg (by omega), if_pos (by omega), show (6 + 3 * i - 6) % 3 = 0 by omega, show (6 + 3 * i - 6) / 3 = i by omega]
  rfl
theorem ser_11 (J : tkI) (K : tkL) {i : Nat} (h : i < 8) : ser J K (7 + 3 * i) = (J 11 i).toInt64 := by
  unfold ser
  rw [if_neg (by omega), if_pos (by omega), show (7 + 3 * i - 6) % 3 = 1 by omega, show (7 + 3 * i - 6) / 3 = i by omega]
  rfl
theorem rdS_11 (b : Nat) (q : tkI × tkL) (J1 : tkI) {i : Nat} (h : i < 8) : rdS b (7 + 3 * i) q J1 = (tk2 J1 11 i (q.2 20 (b + (7 + 3 * i))).toInt32, q.2) := by
  unfold rdS
  rw [if_neg (by omega), if_pos (by omega), show (7 + 3 * i - 6) % 3 = 1 by omega, show (7 + 3 * i - 6) / 3 = i by omega]
  rfl
theorem ser_12 (J : tkI) (K : tkL) {i : Nat} (h : i < 8) : ser J K (8 + 3 * i) = K 12 i := by
  unfold ser
  rw [if_neg (by omega), if_pos (by omega), show (8 + 3 * i - 6) % 3 = 2 by omega, show (8 + 3 * i - 6) / 3 = i by omega]
  rfl
theorem rdS_12 (b : Nat) (q : tkI × tkL) (J1 : tkI) {i : Nat} (h : i < 8) : rdS b (8 + 3 * i) q J1 = (J1, tk2 q.2 12 i (q.2 20 (b + (8 + 3 * i)))) := by
  unfold rdS
  rw [if_neg (by omega), if_pos (by omega), show (8 + 3 * i - 6) % 3 = 2 by omega, show (8 + 3 * i - 6) / 3 = i by omega]
  rfl
theorem ser_13 (J : tkI) (K : tkL) {i : Nat} (h : i < 10) : ser J K (30 + i) = (if J 13 i = 0 then 0 else 1) := by
  unfold ser
  rw [if_neg (by omega), if_neg (by omega), if_pos (by omega), show 30 + i - 30 = i by omega]
theorem rdS_13 (b : Nat) (q : tkI × tkL) (J1 : tkI) {i : Nat} (h : i < 10) : rdS b (30 + i) q J1 = (tk2 J1 13 i (if (q.2 20 (b + (30 + i))) = 1 then 1 else 0), q.2) := by
  unfold rdS
  rw [if_neg (by omega), if_neg (by omega), if_pos (by omega), show 30 + i - 30 = i by omega]
theorem ser_14 (J : tkI) (K : tkL) {i : Nat} (h : i < 16) : ser J K (40 + 4 * i) = (J 14 i).toInt64 := by
  unfold ser
  rw [if_neg (by omega), if_neg (by omega), if_neg (by omega), if_pos (by omega), show (40 + 4 * i - 40) % 4 = 0 by omega, show (40 + 4 * i - 40) / 4 = i by omega]
  rfl
theorem rdS_14 (b : Nat) (q : tkI × tkL) (J1 : tkI) {i : Nat} (h : i < 16) : rdS b (40 + 4 * i) q J1 = (tk2 J1 14 i (q.2 20 (b + (40 + 4 * i))).toInt32, q.2) := by
  unfold rdS
  rw [if_neg (by omega), if_neg (by omega), if_neg (by omega), if_pos (by omega), show (40 + 4 * i - 40) % 4 = 0 by omega, show (40 + 4 * i - 40) / 4 = i by omega]
  rfl
theorem ser_15 (J : tkI) (K : tkL) {i : Nat} (h : i < 16) : ser J K (41 + 4 * i) = K 15 i := by
  unfold ser
  rw [if_neg (by omega), if_neg (by omega), if_neg (by omega), if_pos (by omega), show (41 + 4 * i - 40) % 4 = 1 by omega, show (41 + 4 * i - 40) / 4 = i by omega]
  rfl
theorem rdS_15 (b : Nat) (q : tkI × tkL) (J1 : tkI) {i : Nat} (h : i < 16) : rdS b (41 + 4 * i) q J1 = (J1, tk2 q.2 15 i (q.2 20 (b + (41 + 4 * i)))) := by
  unfold rdS
  rw [if_neg (by omega), if_neg (by omega), if_neg (by omega), if_pos (by omega), show (41 + 4 * i - 40) % 4 = 1 by omega, show (41 + 4 * i - 40) / 4 = i by omega]
  rfl
theorem ser_16 (J : tkI) (K : tkL) {i : Nat} (h : i < 16) : ser J K (42 + 4 * i) = K 16 i := by
  unfold ser
  rw [if_neg (by omega), if_neg (by omega), if_neg (by omega), if_pos (by omega), show (42 + 4 * i - 40) % 4 = 2 by omega, show (42 + 4 * i - 40) / 4 = i by omega]
  rfl
theorem rdS_16 (b : Nat) (q : tkI × tkL) (J1 : tkI) {i : Nat} (h : i < 16) : rdS b (42 + 4 * i) q J1 = (J1, tk2 q.2 16 i (q.2 20 (b + (42 + 4 * i)))) := by
  unfold rdS
  rw [if_neg (by omega), if_neg (by omega), if_neg (by omega), if_pos (by omega), show (42 + 4 * i - 40) % 4 = 2 by omega, show (42 + 4 * i - 40) / 4 = i by omega]
  rfl
theorem ser_17 (J : tkI) (K : tkL) {i : Nat} (h : i < 16) : ser J K (43 + 4 * i) = K 17 i := by
  unfold ser
  rw [if_neg (by omega), if_neg (by omega), if_neg (by omega), if_pos (by omega), show (43 + 4 * i - 40) % 4 = 3 by omega, show (43 + 4 * i - 40) / 4 = i by omega]
  rfl
theorem rdS_17 (b : Nat) (q : tkI × tkL) (J1 : tkI) {i : Nat} (h : i < 16) : rdS b (43 + 4 * i) q J1 = (J1, tk2 q.2 17 i (q.2 20 (b + (43 + 4 * i)))) := by
  unfold rdS
  rw [if_neg (by omega), if_neg (by omega), if_neg (by omega), if_pos (by omega), show (43 + 4 * i - 40) % 4 = 3 by omega, show (43 + 4 * i - 40) / 4 = i by omega]
  rfl
theorem ser_18 (J : tkI) (K : tkL) {i : Nat} (h : i < 30) : ser J K (104 + 2 * i) = K 18 i := by
  unfold ser
  rw [if_neg (by omega), if_neg (by omega), if_neg (by omega), if_neg (by omega), show (104 + 2 * i - 104) % 2 = 0 by omega, show (104 + 2 * i - 104) / 2 = i by omega]
  rfl
theorem rdS_18 (b : Nat) (q : tkI × tkL) (J1 : tkI) {i : Nat} (h : i < 30) : rdS b (104 + 2 * i) q J1 = (J1, tk2 q.2 18 i (q.2 20 (b + (104 + 2 * i)))) := by
  unfold rdS
  rw [if_neg (by omega), if_neg (by omega), if_neg (by omega), if_neg (by omega), show (104 + 2 * i - 104) % 2 = 0 by omega, show (104 + 2 * i - 104) / 2 = i by omega]
  rfl
theorem ser_19 (J : tkI) (K : tkL) {i : Nat} (h : i < 30) : ser J K (105 + 2 * i) = (J 19 i).toInt64 := by
  unfold ser
  rw [if_neg (by omega), if_neg (by omega), if_neg (by omega), if_neg (by omega), show (105 + 2 * i - 104) % 2 = 1 by omega, show (105 + 2 * i - 104) / 2 = i by omega]
  rfl
theorem rdS_19 (b : Nat) (q : tkI × tkL) (J1 : tkI) {i : Nat} (h : i < 30) : rdS b (105 + 2 * i) q J1 = (tk2 J1 19 i (q.2 20 (b + (105 + 2 * i))).toInt32, q.2) := by
  unfold rdS
  rw [if_neg (by omega), if_neg (by omega), if_neg (by omega), if_neg (by omega), show (105 + 2 * i - 104) % 2 = 1 by omega, show (105 + 2 * i - 104) / 2 = i by omega]
  rfl
def wr (b c : Nat) (f g : Nat → Int64) (j : Nat) : Int64 := if b ≤ j ∧ j < b + c then f (j - b) else g j
def mWr (b c : Nat) (q : tkI × tkL) : tkI × tkL := (tk2 q.1 0 28 (nI (b + c)), tk1 q.2 20 (wr b c (ser q.1 q.2) (q.2 20)))
theorem tk2_tk2 {α : Type} {f : Nat → Nat → α} {a i : Nat} {x y : α} : tk2 (tk2 f a i x) a i y = tk2 f a i y := by
  funext b j
  simp only [tk2]
  split <;> rfl
theorem wr_step (b c : Nat) (K : tkL) (f g : Nat → Int64) : tk2 (tk1 K 20 (wr b c f g)) 20 (b + c) (f c) = tk1 K 20 (wr b (c + 1) f g) := by
  funext a j
  simp only [tk2, tk1, wr]
  by_cases h : a = 20
  · rw [if_pos h, if_pos h]
    by_cases h2 : j = b + c
    · rw [if_pos ⟨h, h2⟩]
      unfold wr
      rw [if_pos (by omega), h2, Nat.add_sub_cancel_left]
    · rw [if_neg (fun z => h2 z.2)]
      unfold wr
      by_cases h3 : b ≤ j ∧ j < b + c
      · rw [if_pos h3, if_pos (by omega)]
      · rw [if_neg h3, if_neg (by omega)]
  · rw [if_neg h, if_neg h, if_neg (fun z => h z.1)]
theorem wr_0 (b : Nat) (K : tkL) (f : Nat → Int64) : tk1 K 20 (wr b 0 f (K 20)) = K := by
  funext a j
  simp only [tk1, wr]
  by_cases h : a = 20
  · rw [if_pos h]
    unfold wr
    rw [if_neg (by omega), h]
  · rw [if_neg h]
theorem c_X6_put (hM : tkReg 21 mT mF σ r) {a : Nat} (hc : J 0 28 = nI a) (ha : a < 820) (x : Int64) :
    tkCon false (.code yX6_put cX6_put 3 none) yX6_put 1 [.ref r, .long x] σ (reg r 21 J v) (reg r 21 K w) 0 0 (.inl none) σ (reg r 21 (tk2 J 0 28 (nI (a + 1))) v) (reg r 21 (tk2 K 20 a x) w) := by
  refine tkCon.of (by decide) (Nat.le_of_ble_eq_true rfl) (fun X C => ?_)
  refine g_aload_n C (i := 0) dX6_put_0 rfl rfl ?_
  refine g_getR C 6 27 (RX6, TX6, 29) dX6_put_1 (hM.1 0 (by decide)) (hM.2 0 27 20 (by decide) rfl) ml_X6_69 rfl (by decide) rfl ?_
  refine g_aload_n C (i := 0) dX6_put_4 rfl rfl ?_
  refine g_getI C 6 28 (RX6, TX6, 29) dX6_put_5 (hM.1 0 (by decide)) (reg_at (k := 0) (by decide)) ml_X6_140 rfl (by decide) (Or.inl rfl) ?_
  refine g_lload_n C (i := 1) dX6_put_8 rfl rfl ?_
  refine g_ls C dX6_put_9 (hM.1 20 (by decide)) (tk2_reg (k := 20) (by decide)) hc (by omega) (by decide) ?_
  refine g_aload_n C (i := 0) dX6_put_10 rfl rfl ?_
  refine g_dup C dX6_put_11 rfl ?_
  refine g_getI C 6 28 (RX6, TX6, 29) dX6_put_12 (hM.1 0 (by decide)) (reg_at (k := 0) (by decide)) ml_X6_140 rfl (by decide) (Or.inl rfl) ?_
  rw [hc]
  refine g_iconst C (1) dX6_put_15 rfl ?_
  refine g_iadd C dX6_put_16 ?_
  rw [nI_1]
  refine g_putI C 6 28 (RX6, TX6, 29) dX6_put_17 (hM.1 0 (by decide)) (tk2_reg (k := 0) (by decide)) ml_X6_140 rfl (by decide) rfl rfl ?_
  exact g_return C dX6_put_20 ⟨Nat.le_of_ble_eq_true rfl, Nat.le_of_ble_eq_true rfl⟩ (tkEnd.rf rfl rfl rfl)
theorem c_X6_take (hM : tkReg 21 mT mF σ r) {a : Nat} (hc : J 0 28 = nI a) (ha : a < 820) :
    tkCon false (.code yX6_take cX6_take 1 (some .long)) yX6_take 1 [.ref r] σ (reg r 21 J v) (reg r 21 K w) 0 0 (.inl (some (.long (K 20 a)))) σ (reg r 21 (tk2 J 0 28 (nI (a + 1))) v) (reg r 21 (K) w) := by
  refine tkCon.of (by decide) (Nat.le_of_ble_eq_true rfl) (fun X C => ?_)
  refine g_aload_n C (i := 0) dX6_take_0 rfl rfl ?_
  refine g_dup C dX6_take_1 rfl ?_
  refine g_getI C 6 28 (RX6, TX6, 29) dX6_take_2 (hM.1 0 (by decide)) (reg_at (k := 0) (by decide)) ml_X6_140 rfl (by decide) (Or.inl rfl) ?_
  rw [hc]
  refine g_iconst C (1) dX6_take_5 rfl ?_
  refine g_iadd C dX6_take_6 ?_
  rw [nI_1]
  refine g_putI C 6 28 (RX6, TX6, 29) dX6_take_7 (hM.1 0 (by decide)) (tk2_reg (k := 0) (by decide)) ml_X6_140 rfl (by decide) rfl rfl ?_
  refine g_aload_n C (i := 0) dX6_take_10 rfl rfl ?_
  refine g_getR C 6 27 (RX6, TX6, 29) dX6_take_11 (hM.1 0 (by decide)) (hM.2 0 27 20 (by decide) rfl) ml_X6_69 rfl (by decide) rfl ?_
  refine g_aload_n C (i := 0) dX6_take_14 rfl rfl ?_
  refine g_getI C 6 28 (RX6, TX6, 29) dX6_take_15 (hM.1 0 (by decide)) (reg_at (k := 0) (by decide)) ml_X6_140 rfl (by decide) (Or.inl rfl) ?_
  rw [tk2_at]
  refine g_iconst C (1) dX6_take_18 rfl ?_
  refine g_isub C dX6_take_19 ?_
  refine g_la C dX6_take_20 (hM.1 20 (by decide)) (reg_at (k := 20) (by decide)) (nI_pred a) (by omega) (by decide) ?_
  exact g_lreturn C dX6_take_21 ⟨Nat.le_of_ble_eq_true rfl, Nat.le_of_ble_eq_true rfl⟩ (tkEnd.rf rfl rfl rfl)
theorem c_X6_putN (hM : tkReg 21 mT mF σ r) {b c : Nat} (x : Int64) (hx : ser J K c = x) (h : b + c < 820) :
    tkCon false (.code yX6_put cX6_put 3 none) yX6_put 1 [.ref r, .long x] σ (reg r 21 (mWr b c (J, K)).1 v) (reg r 21 (mWr b c (J, K)).2 w) 0 0 (.inl none) σ (reg r 21 (mWr b (c + 1) (J, K)).1 v) (reg r 21 (mWr b (c + 1) (J, K)).2 w) := by
  have k := c_X6_put (v := v) (w := w) hM (J := (mWr b c (J, K)).1) (K := (mWr b c (J, K)).2) (a := b + c) (show tk2 J 0 28 (nI (b + c)) 0 28 = nI (b + c) from tk2_at) h x
  subst hx
  have e1 : tk2 (mWr b c (J, K)).1 0 28 (nI (b + c + 1)) = (mWr b (c + 1) (J, K)).1 := tk2_tk2
  have e2 : tk2 (mWr b c (J, K)).2 20 (b + c) (ser J K c) = (mWr b (c + 1) (J, K)).2 := wr_step b c K (ser J K) (K 20)
  rw [e1, e2] at k
  exact k
theorem c_X6_write (hM : tkReg 21 mT mF σ r) {n : Nat} (hn : n < 5) :
    tkCon false (.code yX6_write cX6_write 3 none) yX6_write 2 [.ref r, .int (nI n)] σ (reg r 21 J v) (reg r 21 K w) 0 0 (.inl none) σ (reg r 21 (mWr (164 * n) 164 (J, K)).1 v) (reg r 21 (mWr (164 * n) 164 (J, K)).2 w) := by
  refine tkCon.of (by decide) (Nat.le_of_ble_eq_true rfl) (fun X C => ?_)
  obtain ⟨b, hb⟩ : ∃ b, b = 164 * n := ⟨_, rfl⟩
  have hb9 : b + 164 ≤ 820 := by omega
  rw [← hb]
  have K196 : ∀ k i, k + i = 30 → tkG X (tkQ false X 0 0 (.inl none) σ (reg r 21 (mWr b (164) (J, K)).1 v) (reg r 21 (mWr b (164) (J, K)).2 w)) 0 0 196 [some (.ref r), some (.int (nI n)), some (.int (nI i))] [] σ (reg r 21 (mWr b (104 + 2 * i) (J, K)).1 v) (reg r 21 (mWr b (104 + 2 * i) (J, K)).2 w) := by
    intro k
    induction k with
    | zero =>
      intro i hi
      obtain rfl : i = 30 := by omega
      refine g_iload_n C (i := 2) dX6_write_196 rfl rfl ?_
      refine g_bipush C (30) dX6_write_197 rfl ?_
      refine g_icmp_ge C 229 dX6_write_199 (by decide) (fun h199 => ?_) (fun h199 => ?_)
      · skip
        exact g_return C dX6_write_229 ⟨Nat.le_of_ble_eq_true rfl, Nat.le_of_ble_eq_true rfl⟩ (tkEnd.rf rfl rfl rfl)
      · exact absurd (Int32.le_refl _) h199
    | succ k ih =>
      intro i hi
      have hi2 : i < 30 := by omega
      have ih1 := ih (i + 1) (by omega)
      have s1 := ser_18 J K hi2
      have s2 := ser_19 J K hi2
      refine g_iload_n C (i := 2) dX6_write_196 rfl rfl ?_
      refine g_bipush C (30) dX6_write_197 rfl ?_
      refine g_icmp_ge C 229 dX6_write_199 (by decide) (fun h199 => ?_) (fun h199 => ?_)
      · exact absurd h199 (nI_ge (b := 30) (by omega) (by omega))
      · refine g_aload_n C (i := 0) dX6_write_202 rfl rfl ?_
        refine g_aload_n C (i := 0) dX6_write_203 rfl rfl ?_
        refine g_getR C 6 24 (RX6, TX6, 29) dX6_write_204 (hM.1 0 (by decide)) (hM.2 0 24 18 (by decide) rfl) ml_X6_63 rfl (by decide) rfl ?_
        refine g_iload_n C (i := 2) dX6_write_207 rfl rfl ?_
        refine g_la C dX6_write_208 (hM.1 18 (by decide)) (reg_at (k := 18) (by decide)) rfl (by omega) (by decide) ?_
        refine g_callV C (q := (RX6, TX6, 29)) (rest := _) dX6_write_209 mm_X6_put ml_X6_143 mv_yX6_put ms_yX6_put (c_X6_putN hM (b := b) (c := 104 + 2 * i) _ s1 (by omega)) rfl (hM.1 0 (by decide)) rfl rfl ⟨by decide, Nat.le_of_ble_eq_true rfl, Nat.le_of_ble_eq_true rfl, Nat.le_of_ble_eq_true rfl⟩ (tk_retn ?_) tk_nothr
        refine g_aload_n C (i := 0) dX6_write_212 rfl rfl ?_
        refine g_aload_n C (i := 0) dX6_write_213 rfl rfl ?_
        refine g_getR C 6 25 (RX6, TX6, 29) dX6_write_214 (hM.1 0 (by decide)) (hM.2 0 25 19 (by decide) rfl) ml_X6_66 rfl (by decide) rfl ?_
        refine g_iload_n C (i := 2) dX6_write_217 rfl rfl ?_
        refine g_ia C dX6_write_218 (hM.1 19 (by decide)) (reg_at (k := 19) (by decide)) rfl (by omega) (by decide) ?_
        refine g_i2l C dX6_write_219 ?_
        refine g_callV C (q := (RX6, TX6, 29)) (rest := _) dX6_write_220 mm_X6_put ml_X6_143 mv_yX6_put ms_yX6_put (c_X6_putN hM (b := b) (c := 104 + 2 * i + 1) _ ((congrArg (ser J K) (show 104 + 2 * i + 1 = 105 + 2 * i by omega)).trans s2) (by omega)) rfl (hM.1 0 (by decide)) rfl rfl ⟨by decide, Nat.le_of_ble_eq_true rfl, Nat.le_of_ble_eq_true rfl, Nat.le_of_ble_eq_true rfl⟩ (tk_retn ?_) tk_nothr
        refine g_iinc C (i := 2) (nI (i + 1)) dX6_write_223 rfl (nI_1 i) (by decide) ?_
        refine g_goto C 196 dX6_write_226 (by decide) ?_
        exact ih1
  have K141 : ∀ k i, k + i = 16 → tkG X (tkQ false X 0 0 (.inl none) σ (reg r 21 (mWr b (164) (J, K)).1 v) (reg r 21 (mWr b (164) (J, K)).2 w)) 0 0 141 [some (.ref r), some (.int (nI n)), some (.int (nI i))] [] σ (reg r 21 (mWr b (40 + 4 * i) (J, K)).1 v) (reg r 21 (mWr b (40 + 4 * i) (J, K)).2 w) := by
    intro k
    induction k with
    | zero =>
      intro i hi
      obtain rfl : i = 16 := by omega
      refine g_iload_n C (i := 2) dX6_write_141 rfl rfl ?_
      refine g_bipush C (16) dX6_write_142 rfl ?_
      refine g_icmp_ge C 194 dX6_write_144 (by decide) (fun h144 => ?_) (fun h144 => ?_)
      · skip
        refine g_iconst C (0) dX6_write_194 rfl ?_
        refine g_istore_n C (i := 2) dX6_write_195 rfl (by decide) ?_
        exact K196 30 0 (by omega)
      · exact absurd (Int32.le_refl _) h144
    | succ k ih =>
      intro i hi
      have hi2 : i < 16 := by omega
      have ih1 := ih (i + 1) (by omega)
      have s1 := ser_14 J K hi2
      have s2 := ser_15 J K hi2
      have s3 := ser_16 J K hi2
      have s4 := ser_17 J K hi2
      refine g_iload_n C (i := 2) dX6_write_141 rfl rfl ?_
      refine g_bipush C (16) dX6_write_142 rfl ?_
      refine g_icmp_ge C 194 dX6_write_144 (by decide) (fun h144 => ?_) (fun h144 => ?_)
      · exact absurd h144 (nI_ge (b := 16) (by omega) (by omega))
      · refine g_aload_n C (i := 0) dX6_write_147 rfl rfl ?_
        refine g_aload_n C (i := 0) dX6_write_148 rfl rfl ?_
        refine g_getR C 6 17 (RX6, TX6, 29) dX6_write_149 (hM.1 0 (by decide)) (hM.2 0 17 14 (by decide) rfl) ml_X6_51 rfl (by decide) rfl ?_
        refine g_iload_n C (i := 2) dX6_write_152 rfl rfl ?_
        refine g_ia C dX6_write_153 (hM.1 14 (by decide)) (reg_at (k := 14) (by decide)) rfl (by omega) (by decide) ?_
        refine g_i2l C dX6_write_154 ?_
        refine g_callV C (q := (RX6, TX6, 29)) (rest := _) dX6_write_155 mm_X6_put ml_X6_143 mv_yX6_put ms_yX6_put (c_X6_putN hM (b := b) (c := 40 + 4 * i) _ s1 (by omega)) rfl (hM.1 0 (by decide)) rfl rfl ⟨by decide, Nat.le_of_ble_eq_true rfl, Nat.le_of_ble_eq_true rfl, Nat.le_of_ble_eq_true rfl⟩ (tk_retn ?_) tk_nothr
        refine g_aload_n C (i := 0) dX6_write_158 rfl rfl ?_
        refine g_aload_n C (i := 0) dX6_write_159 rfl rfl ?_
        refine g_getR C 6 18 (RX6, TX6, 29) dX6_write_160 (hM.1 0 (by decide)) (hM.2 0 18 15 (by decide) rfl) ml_X6_54 rfl (by decide) rfl ?_
        refine g_iload_n C (i := 2) dX6_write_163 rfl rfl ?_
        refine g_la C dX6_write_164 (hM.1 15 (by decide)) (reg_at (k := 15) (by decide)) rfl (by omega) (by decide) ?_
        refine g_callV C (q := (RX6, TX6, 29)) (rest := _) dX6_write_165 mm_X6_put ml_X6_143 mv_yX6_put ms_yX6_put (c_X6_putN hM (b := b) (c := 40 + 4 * i + 1) _ ((congrArg (ser J K) (show 40 + 4 * i + 1 = 41 + 4 * i by omega)).trans s2) (by omega)) rfl (hM.1 0 (by decide)) rfl rfl ⟨by decide, Nat.le_of_ble_eq_true rfl, Nat.le_of_ble_eq_true rfl, Nat.le_of_ble_eq_true rfl⟩ (tk_retn ?_) tk_nothr
        refine g_aload_n C (i := 0) dX6_write_168 rfl rfl ?_
        refine g_aload_n C (i := 0) dX6_write_169 rfl rfl ?_
        refine g_getR C 6 19 (RX6, TX6, 29) dX6_write_170 (hM.1 0 (by decide)) (hM.2 0 19 16 (by decide) rfl) ml_X6_57 rfl (by decide) rfl ?_
        refine g_iload_n C (i := 2) dX6_write_173 rfl rfl ?_
        refine g_la C dX6_write_174 (hM.1 16 (by decide)) (reg_at (k := 16) (by decide)) rfl (by omega) (by decide) ?_
        refine g_callV C (q := (RX6, TX6, 29)) (rest := _) dX6_write_175 mm_X6_put ml_X6_143 mv_yX6_put ms_yX6_put (c_X6_putN hM (b := b) (c := 40 + 4 * i + 2) _ ((congrArg (ser J K) (show 40 + 4 * i + 2 = 42 + 4 * i by omega)).trans s3) (by omega)) rfl (hM.1 0 (by decide)) rfl rfl ⟨by decide, Nat.le_of_ble_eq_true rfl, Nat.le_of_ble_eq_true rfl, Nat.le_of_ble_eq_true rfl⟩ (tk_retn ?_) tk_nothr
        refine g_aload_n C (i := 0) dX6_write_178 rfl rfl ?_
        refine g_aload_n C (i := 0) dX6_write_179 rfl rfl ?_
        refine g_getR C 6 20 (RX6, TX6, 29) dX6_write_180 (hM.1 0 (by decide)) (hM.2 0 20 17 (by decide) rfl) ml_X6_60 rfl (by decide) rfl ?_
        refine g_iload_n C (i := 2) dX6_write_183 rfl rfl ?_
        refine g_la C dX6_write_184 (hM.1 17 (by decide)) (reg_at (k := 17) (by decide)) rfl (by omega) (by decide) ?_
        refine g_callV C (q := (RX6, TX6, 29)) (rest := _) dX6_write_185 mm_X6_put ml_X6_143 mv_yX6_put ms_yX6_put (c_X6_putN hM (b := b) (c := 40 + 4 * i + 3) _ ((congrArg (ser J K) (show 40 + 4 * i + 3 = 43 + 4 * i by omega)).trans s4) (by omega)) rfl (hM.1 0 (by decide)) rfl rfl ⟨by decide, Nat.le_of_ble_eq_true rfl, Nat.le_of_ble_eq_true rfl, Nat.le_of_ble_eq_true rfl⟩ (tk_retn ?_) tk_nothr
        refine g_iinc C (i := 2) (nI (i + 1)) dX6_write_188 rfl (nI_1 i) (by decide) ?_
        refine g_goto C 141 dX6_write_191 (by decide) ?_
        exact ih1
  have K109 : ∀ k i, k + i = 10 → tkG X (tkQ false X 0 0 (.inl none) σ (reg r 21 (mWr b (164) (J, K)).1 v) (reg r 21 (mWr b (164) (J, K)).2 w)) 0 0 109 [some (.ref r), some (.int (nI n)), some (.int (nI i))] [] σ (reg r 21 (mWr b (30 + i) (J, K)).1 v) (reg r 21 (mWr b (30 + i) (J, K)).2 w) := by
    intro k
    induction k with
    | zero =>
      intro i hi
      obtain rfl : i = 10 := by omega
      refine g_iload_n C (i := 2) dX6_write_109 rfl rfl ?_
      refine g_bipush C (10) dX6_write_110 rfl ?_
      refine g_icmp_ge C 139 dX6_write_112 (by decide) (fun h112 => ?_) (fun h112 => ?_)
      · skip
        refine g_iconst C (0) dX6_write_139 rfl ?_
        refine g_istore_n C (i := 2) dX6_write_140 rfl (by decide) ?_
        exact K141 16 0 (by omega)
      · exact absurd (Int32.le_refl _) h112
    | succ k ih =>
      intro i hi
      have hi2 : i < 10 := by omega
      have ih1 := ih (i + 1) (by omega)
      have s1 := ser_13 J K hi2
      refine g_iload_n C (i := 2) dX6_write_109 rfl rfl ?_
      refine g_bipush C (10) dX6_write_110 rfl ?_
      refine g_icmp_ge C 139 dX6_write_112 (by decide) (fun h112 => ?_) (fun h112 => ?_)
      · exact absurd h112 (nI_ge (b := 10) (by omega) (by omega))
      · refine g_aload_n C (i := 0) dX6_write_115 rfl rfl ?_
        refine g_aload_n C (i := 0) dX6_write_116 rfl rfl ?_
        refine g_getR C 6 16 (RX6, TX6, 29) dX6_write_117 (hM.1 0 (by decide)) (hM.2 0 16 13 (by decide) rfl) ml_X6_48 rfl (by decide) rfl ?_
        refine g_iload_n C (i := 2) dX6_write_120 rfl rfl ?_
        refine g_za C dX6_write_121 (hM.1 13 (by decide)) (reg_at (k := 13) (by decide)) rfl (by omega) (by decide) (fun _ => ?_)
        refine g_if_eq C 129 dX6_write_122 (by decide) (fun h122 => ?_) (fun h122 => ?_)
        · rw [if_pos (show J 13 i = 0 from h122)] at s1
          refine g_lconst C 0 dX6_write_129 rfl ?_
          refine g_callV C (q := (RX6, TX6, 29)) (rest := _) dX6_write_130 mm_X6_put ml_X6_143 mv_yX6_put ms_yX6_put (c_X6_putN hM (b := b) (c := 30 + i) _ s1 (by omega)) rfl (hM.1 0 (by decide)) rfl rfl ⟨by decide, Nat.le_of_ble_eq_true rfl, Nat.le_of_ble_eq_true rfl, Nat.le_of_ble_eq_true rfl⟩ (tk_retn ?_) tk_nothr
          refine g_iinc C (i := 2) (nI (i + 1)) dX6_write_133 rfl (nI_1 i) (by decide) ?_
          refine g_goto C 109 dX6_write_136 (by decide) ?_
          exact ih1
        · rw [if_neg (show ¬ J 13 i = 0 from h122)] at s1
          refine g_lconst C 1 dX6_write_125 rfl ?_
          refine g_goto C 130 dX6_write_126 (by decide) ?_
          refine g_callV C (q := (RX6, TX6, 29)) (rest := _) dX6_write_130 mm_X6_put ml_X6_143 mv_yX6_put ms_yX6_put (c_X6_putN hM (b := b) (c := 30 + i) _ s1 (by omega)) rfl (hM.1 0 (by decide)) rfl rfl ⟨by decide, Nat.le_of_ble_eq_true rfl, Nat.le_of_ble_eq_true rfl, Nat.le_of_ble_eq_true rfl⟩ (tk_retn ?_) tk_nothr
          refine g_iinc C (i := 2) (nI (i + 1)) dX6_write_133 rfl (nI_1 i) (by decide) ?_
          refine g_goto C 109 dX6_write_136 (by decide) ?_
          exact ih1
  have K63 : ∀ k i, k + i = 8 → tkG X (tkQ false X 0 0 (.inl none) σ (reg r 21 (mWr b (164) (J, K)).1 v) (reg r 21 (mWr b (164) (J, K)).2 w)) 0 0 63 [some (.ref r), some (.int (nI n)), some (.int (nI i))] [] σ (reg r 21 (mWr b (6 + 3 * i) (J, K)).1 v) (reg r 21 (mWr b (6 + 3 * i) (J, K)).2 w) := by
    intro k
    induction k with
    | zero =>
      intro i hi
      obtain rfl : i = 8 := by omega
      refine g_iload_n C (i := 2) dX6_write_63 rfl rfl ?_
      refine g_bipush C (8) dX6_write_64 rfl ?_
      refine g_icmp_ge C 107 dX6_write_66 (by decide) (fun h66 => ?_) (fun h66 => ?_)
      · skip
        refine g_iconst C (0) dX6_write_107 rfl ?_
        refine g_istore_n C (i := 2) dX6_write_108 rfl (by decide) ?_
        exact K109 10 0 (by omega)
      · exact absurd (Int32.le_refl _) h66
    | succ k ih =>
      intro i hi
      have hi2 : i < 8 := by omega
      have ih1 := ih (i + 1) (by omega)
      have s1 := ser_10 J K hi2
      have s2 := ser_11 J K hi2
      have s3 := ser_12 J K hi2
      refine g_iload_n C (i := 2) dX6_write_63 rfl rfl ?_
      refine g_bipush C (8) dX6_write_64 rfl ?_
      refine g_icmp_ge C 107 dX6_write_66 (by decide) (fun h66 => ?_) (fun h66 => ?_)
      · exact absurd h66 (nI_ge (b := 8) (by omega) (by omega))
      · refine g_aload_n C (i := 0) dX6_write_69 rfl rfl ?_
        refine g_aload_n C (i := 0) dX6_write_70 rfl rfl ?_
        refine g_getR C 6 13 (RX6, TX6, 29) dX6_write_71 (hM.1 0 (by decide)) (hM.2 0 13 10 (by decide) rfl) ml_X6_38 rfl (by decide) rfl ?_
        refine g_iload_n C (i := 2) dX6_write_74 rfl rfl ?_
        refine g_ia C dX6_write_75 (hM.1 10 (by decide)) (reg_at (k := 10) (by decide)) rfl (by omega) (by decide) ?_
        refine g_i2l C dX6_write_76 ?_
        refine g_callV C (q := (RX6, TX6, 29)) (rest := _) dX6_write_77 mm_X6_put ml_X6_143 mv_yX6_put ms_yX6_put (c_X6_putN hM (b := b) (c := 6 + 3 * i) _ s1 (by omega)) rfl (hM.1 0 (by decide)) rfl rfl ⟨by decide, Nat.le_of_ble_eq_true rfl, Nat.le_of_ble_eq_true rfl, Nat.le_of_ble_eq_true rfl⟩ (tk_retn ?_) tk_nothr
        refine g_aload_n C (i := 0) dX6_write_80 rfl rfl ?_
        refine g_aload_n C (i := 0) dX6_write_81 rfl rfl ?_
        refine g_getR C 6 14 (RX6, TX6, 29) dX6_write_82 (hM.1 0 (by decide)) (hM.2 0 14 11 (by decide) rfl) ml_X6_41 rfl (by decide) rfl ?_
        refine g_iload_n C (i := 2) dX6_write_85 rfl rfl ?_
        refine g_ia C dX6_write_86 (hM.1 11 (by decide)) (reg_at (k := 11) (by decide)) rfl (by omega) (by decide) ?_
        refine g_i2l C dX6_write_87 ?_
        refine g_callV C (q := (RX6, TX6, 29)) (rest := _) dX6_write_88 mm_X6_put ml_X6_143 mv_yX6_put ms_yX6_put (c_X6_putN hM (b := b) (c := 6 + 3 * i + 1) _ ((congrArg (ser J K) (show 6 + 3 * i + 1 = 7 + 3 * i by omega)).trans s2) (by omega)) rfl (hM.1 0 (by decide)) rfl rfl ⟨by decide, Nat.le_of_ble_eq_true rfl, Nat.le_of_ble_eq_true rfl, Nat.le_of_ble_eq_true rfl⟩ (tk_retn ?_) tk_nothr
        refine g_aload_n C (i := 0) dX6_write_91 rfl rfl ?_
        refine g_aload_n C (i := 0) dX6_write_92 rfl rfl ?_
        refine g_getR C 6 15 (RX6, TX6, 29) dX6_write_93 (hM.1 0 (by decide)) (hM.2 0 15 12 (by decide) rfl) ml_X6_44 rfl (by decide) rfl ?_
        refine g_iload_n C (i := 2) dX6_write_96 rfl rfl ?_
        refine g_la C dX6_write_97 (hM.1 12 (by decide)) (reg_at (k := 12) (by decide)) rfl (by omega) (by decide) ?_
        refine g_callV C (q := (RX6, TX6, 29)) (rest := _) dX6_write_98 mm_X6_put ml_X6_143 mv_yX6_put ms_yX6_put (c_X6_putN hM (b := b) (c := 6 + 3 * i + 2) _ ((congrArg (ser J K) (show 6 + 3 * i + 2 = 8 + 3 * i by omega)).trans s3) (by omega)) rfl (hM.1 0 (by decide)) rfl rfl ⟨by decide, Nat.le_of_ble_eq_true rfl, Nat.le_of_ble_eq_true rfl, Nat.le_of_ble_eq_true rfl⟩ (tk_retn ?_) tk_nothr
        refine g_iinc C (i := 2) (nI (i + 1)) dX6_write_101 rfl (nI_1 i) (by decide) ?_
        refine g_goto C 63 dX6_write_104 (by decide) ?_
        exact ih1
  have M : tkG X (tkQ false X 0 0 (.inl none) σ (reg r 21 (mWr b 164 (J, K)).1 v) (reg r 21 (mWr b 164 (J, K)).2 w)) 0 0 9 [some (.ref r), some (.int (nI n)), none] [] σ (reg r 21 (mWr b 0 (J, K)).1 v) (reg r 21 (mWr b 0 (J, K)).2 w) := by
    refine g_aload_n C (i := 0) dX6_write_9 rfl rfl ?_
    refine g_aload_n C (i := 0) dX6_write_10 rfl rfl ?_
    refine g_getI C 6 1 (RX6, TX6, 29) dX6_write_11 (hM.1 0 (by decide)) (reg_at (k := 0) (by decide)) ml_X6_76 rfl (by decide) (Or.inl rfl) ?_
    refine g_i2l C dX6_write_14 ?_
    refine g_callV C (q := (RX6, TX6, 29)) (rest := _) dX6_write_15 mm_X6_put ml_X6_143 mv_yX6_put ms_yX6_put (c_X6_putN hM (b := b) (c := 0) _ rfl (by omega)) rfl (hM.1 0 (by decide)) rfl rfl ⟨by decide, Nat.le_of_ble_eq_true rfl, Nat.le_of_ble_eq_true rfl, Nat.le_of_ble_eq_true rfl⟩ (tk_retn ?_) tk_nothr
    refine g_aload_n C (i := 0) dX6_write_18 rfl rfl ?_
    refine g_aload_n C (i := 0) dX6_write_19 rfl rfl ?_
    refine g_getI C 6 3 (RX6, TX6, 29) dX6_write_20 (hM.1 0 (by decide)) (reg_at (k := 0) (by decide)) ml_X6_79 rfl (by decide) (Or.inl rfl) ?_
    refine g_i2l C dX6_write_23 ?_
    refine g_callV C (q := (RX6, TX6, 29)) (rest := _) dX6_write_24 mm_X6_put ml_X6_143 mv_yX6_put ms_yX6_put (c_X6_putN hM (b := b) (c := 1) _ rfl (by omega)) rfl (hM.1 0 (by decide)) rfl rfl ⟨by decide, Nat.le_of_ble_eq_true rfl, Nat.le_of_ble_eq_true rfl, Nat.le_of_ble_eq_true rfl⟩ (tk_retn ?_) tk_nothr
    refine g_aload_n C (i := 0) dX6_write_27 rfl rfl ?_
    refine g_aload_n C (i := 0) dX6_write_28 rfl rfl ?_
    refine g_getI C 6 7 (RX6, TX6, 29) dX6_write_29 (hM.1 0 (by decide)) (reg_at (k := 0) (by decide)) ml_X6_82 rfl (by decide) (Or.inl rfl) ?_
    refine g_i2l C dX6_write_32 ?_
    refine g_callV C (q := (RX6, TX6, 29)) (rest := _) dX6_write_33 mm_X6_put ml_X6_143 mv_yX6_put ms_yX6_put (c_X6_putN hM (b := b) (c := 2) _ rfl (by omega)) rfl (hM.1 0 (by decide)) rfl rfl ⟨by decide, Nat.le_of_ble_eq_true rfl, Nat.le_of_ble_eq_true rfl, Nat.le_of_ble_eq_true rfl⟩ (tk_retn ?_) tk_nothr
    refine g_aload_n C (i := 0) dX6_write_36 rfl rfl ?_
    refine g_aload_n C (i := 0) dX6_write_37 rfl rfl ?_
    refine g_getL C 6 21 (RX6, TX6, 29) dX6_write_38 (hM.1 0 (by decide)) (reg_at (k := 0) (by decide)) ml_X6_104 rfl (by decide) rfl ?_
    refine g_callV C (q := (RX6, TX6, 29)) (rest := _) dX6_write_41 mm_X6_put ml_X6_143 mv_yX6_put ms_yX6_put (c_X6_putN hM (b := b) (c := 3) _ rfl (by omega)) rfl (hM.1 0 (by decide)) rfl rfl ⟨by decide, Nat.le_of_ble_eq_true rfl, Nat.le_of_ble_eq_true rfl, Nat.le_of_ble_eq_true rfl⟩ (tk_retn ?_) tk_nothr
    refine g_aload_n C (i := 0) dX6_write_44 rfl rfl ?_
    refine g_aload_n C (i := 0) dX6_write_45 rfl rfl ?_
    refine g_getL C 6 22 (RX6, TX6, 29) dX6_write_46 (hM.1 0 (by decide)) (reg_at (k := 0) (by decide)) ml_X6_108 rfl (by decide) rfl ?_
    refine g_callV C (q := (RX6, TX6, 29)) (rest := _) dX6_write_49 mm_X6_put ml_X6_143 mv_yX6_put ms_yX6_put (c_X6_putN hM (b := b) (c := 4) _ rfl (by omega)) rfl (hM.1 0 (by decide)) rfl rfl ⟨by decide, Nat.le_of_ble_eq_true rfl, Nat.le_of_ble_eq_true rfl, Nat.le_of_ble_eq_true rfl⟩ (tk_retn ?_) tk_nothr
    refine g_aload_n C (i := 0) dX6_write_52 rfl rfl ?_
    refine g_aload_n C (i := 0) dX6_write_53 rfl rfl ?_
    refine g_getI C 6 23 (RX6, TX6, 29) dX6_write_54 (hM.1 0 (by decide)) (reg_at (k := 0) (by decide)) ml_X6_101 rfl (by decide) (Or.inl rfl) ?_
    refine g_i2l C dX6_write_57 ?_
    refine g_callV C (q := (RX6, TX6, 29)) (rest := _) dX6_write_58 mm_X6_put ml_X6_143 mv_yX6_put ms_yX6_put (c_X6_putN hM (b := b) (c := 5) _ rfl (by omega)) rfl (hM.1 0 (by decide)) rfl rfl ⟨by decide, Nat.le_of_ble_eq_true rfl, Nat.le_of_ble_eq_true rfl, Nat.le_of_ble_eq_true rfl⟩ (tk_retn ?_) tk_nothr
    refine g_iconst C (0) dX6_write_61 rfl ?_
    refine g_istore_n C (i := 2) dX6_write_62 rfl (by decide) ?_
    exact K63 8 0 (by omega)
  have e0 : (mWr b 0 (J, K)).2 = K := wr_0 b K (ser J K)
  rw [e0] at M
  refine g_aload_n C (i := 0) dX6_write_0 rfl rfl ?_
  refine g_sipush C (164) dX6_write_1 rfl ?_
  refine g_iload_n C (i := 1) dX6_write_4 rfl rfl ?_
  refine g_imul C dX6_write_5 ?_
  rw [show (164 : Int32) * nI n = nI (b + 0) by rw [show (164 : Int32) = nI 164 from rfl, pk_mul, hb]; rfl]
  refine g_putI C 6 28 (RX6, TX6, 29) dX6_write_6 (hM.1 0 (by decide)) (tk2_reg (k := 0) (by decide)) ml_X6_140 rfl (by decide) rfl rfl ?_
  exact M
theorem rdS_28 (b c : Nat) (q : tkI × tkL) (J1 : tkI) : (rdS b c q J1).1 0 28 = J1 0 28 := by
  unfold rdS
  split
  · split <;> rfl
  · split
    · split <;> rfl
    · split
      · rfl
      · split
        · split <;> rfl
        · split <;> rfl
theorem itr_s {α : Type} (f : Nat → α → α) (n : Nat) (a : α) : itr f (n + 1) a = f n (itr f n a) := rfl
theorem mRd_s (b c : Nat) (q : tkI × tkL) : mRd b (c + 1) q = rdStep b c (mRd b c q) := by
  unfold mRd
  exact itr_s _ _ _
theorem mRd_28 {b : Nat} {q : tkI × tkL} (h : q.1 0 28 = nI (b + 0)) : ∀ c, (mRd b c q).1 0 28 = nI (b + c)
  | 0 => h
  | c + 1 => (rdS_28 b c _ _).trans tk2_at
theorem c_X6_read (hM : tkReg 21 mT mF σ r) {n : Nat} (hn : n < 5) :
    tkCon false (.code yX6_read cX6_read 3 none) yX6_read 2 [.ref r, .int (nI n)] σ (reg r 21 J v) (reg r 21 K w) 0 0 (.inl none) σ (reg r 21 (mRd (164 * n) 164 (tk2 J 0 28 (nI (164 * n + 0)), K)).1 v) (reg r 21 (mRd (164 * n) 164 (tk2 J 0 28 (nI (164 * n + 0)), K)).2 w) := by
  refine tkCon.of (by decide) (Nat.le_of_ble_eq_true rfl) (fun X C => ?_)
  obtain ⟨b, hb⟩ : ∃ b, b = 164 * n := ⟨_, rfl⟩
  have hb9 : b + 164 ≤ 820 := by omega
  rw [← hb]
  obtain ⟨q, eq⟩ : ∃ q : tkI × tkL, q = (tk2 J 0 28 (nI (b + 0)), K) := ⟨_, rfl⟩
  have hq : q.1 0 28 = nI (b + 0) := by
    rw [eq]
    show tk2 J 0 28 (nI (b + 0)) 0 28 = _
    exact tk2_at
  rw [← eq]
  obtain ⟨E, eE⟩ : ∃ E, mRd b 164 q = E := ⟨_, rfl⟩
  rw [eE]
  have K198 : ∀ k i, k + i = 30 → tkG X (tkQ false X 0 0 (.inl none) σ (reg r 21 E.1 v) (reg r 21 E.2 w)) 0 0 198 [some (.ref r), some (.int (nI n)), some (.int (nI i))] [] σ (reg r 21 (mRd b (104 + 2 * i) q).1 v) (reg r 21 (mRd b (104 + 2 * i) q).2 w) := by
    intro k
    induction k with
    | zero =>
      intro i hi
      obtain rfl : i = 30 := by omega
      rw [show mRd b (104 + 2 * 30) q = E from eE]
      refine g_iload_n C (i := 2) dX6_read_198 rfl rfl ?_
      refine g_bipush C (30) dX6_read_199 rfl ?_
      refine g_icmp_ge C 231 dX6_read_201 (by decide) (fun h201 => ?_) (fun h201 => ?_)
      · skip
        exact g_return C dX6_read_231 ⟨Nat.le_of_ble_eq_true rfl, Nat.le_of_ble_eq_true rfl⟩ (tkEnd.rf rfl rfl rfl)
      · exact absurd (Int32.le_refl _) h201
    | succ k ih =>
      intro i hi
      have hi2 : i < 30 := by omega
      have ih1 := ih (i + 1) (by omega)
      have hat := mRd_28 hq (104 + 2 * i)
      rw [show 104 + 2 * (i + 1) = 104 + 2 * i + 1 + 1 by omega, mRd_s, mRd_s] at ih1
      generalize mRd b (104 + 2 * i) q = q1 at *
      obtain ⟨J1, K1⟩ := q1
      dsimp only at hat ⊢
      unfold rdStep at ih1
      rw [show 104 + 2 * i + 1 = 105 + 2 * i by omega] at ih1
      rw [rdS_18 b _ _ hi2, rdS_19 b _ _ hi2] at ih1
      dsimp only at ih1
      rw [show 105 + 2 * i = 104 + 2 * i + 1 by omega] at ih1
      refine g_iload_n C (i := 2) dX6_read_198 rfl rfl ?_
      refine g_bipush C (30) dX6_read_199 rfl ?_
      refine g_icmp_ge C 231 dX6_read_201 (by decide) (fun h201 => ?_) (fun h201 => ?_)
      · exact absurd h201 (nI_ge (b := 30) (by omega) (by omega))
      · refine g_aload_n C (i := 0) dX6_read_204 rfl rfl ?_
        refine g_getR C 6 24 (RX6, TX6, 29) dX6_read_205 (hM.1 0 (by decide)) (hM.2 0 24 18 (by decide) rfl) ml_X6_63 rfl (by decide) rfl ?_
        refine g_iload_n C (i := 2) dX6_read_208 rfl rfl ?_
        refine g_aload_n C (i := 0) dX6_read_209 rfl rfl ?_
        refine g_callV C (q := (RX6, TX6, 29)) (rest := _) dX6_read_210 mm_X6_take ml_X6_147 mv_yX6_take ms_yX6_take (c_X6_take hM (a := b + (104 + 2 * i)) hat (by omega)) rfl (hM.1 0 (by decide)) rfl rfl ⟨by decide, Nat.le_of_ble_eq_true rfl, Nat.le_of_ble_eq_true rfl, Nat.le_of_ble_eq_true rfl⟩ (tk_retv ?_) tk_nothr
        refine g_ls C dX6_read_213 (hM.1 18 (by decide)) (tk2_reg (k := 18) (by decide)) rfl (by omega) (by decide) ?_
        refine g_aload_n C (i := 0) dX6_read_214 rfl rfl ?_
        refine g_getR C 6 25 (RX6, TX6, 29) dX6_read_215 (hM.1 0 (by decide)) (hM.2 0 25 19 (by decide) rfl) ml_X6_66 rfl (by decide) rfl ?_
        refine g_iload_n C (i := 2) dX6_read_218 rfl rfl ?_
        refine g_aload_n C (i := 0) dX6_read_219 rfl rfl ?_
        refine g_callV C (q := (RX6, TX6, 29)) (rest := _) dX6_read_220 mm_X6_take ml_X6_147 mv_yX6_take ms_yX6_take (c_X6_take hM (a := b + (104 + 2 * i) + 1) rfl (by omega)) rfl (hM.1 0 (by decide)) rfl rfl ⟨by decide, Nat.le_of_ble_eq_true rfl, Nat.le_of_ble_eq_true rfl, Nat.le_of_ble_eq_true rfl⟩ (tk_retv ?_) tk_nothr
        refine g_l2i C dX6_read_223 ?_
        refine g_is C dX6_read_224 (hM.1 19 (by decide)) (tk2_reg (k := 19) (by decide)) rfl (by omega) (by decide) ?_
        refine g_iinc C (i := 2) (nI (i + 1)) dX6_read_225 rfl (nI_1 i) (by decide) ?_
        refine g_goto C 198 dX6_read_228 (by decide) ?_
        exact ih1
  have K143 : ∀ k i, k + i = 16 → tkG X (tkQ false X 0 0 (.inl none) σ (reg r 21 E.1 v) (reg r 21 E.2 w)) 0 0 143 [some (.ref r), some (.int (nI n)), some (.int (nI i))] [] σ (reg r 21 (mRd b (40 + 4 * i) q).1 v) (reg r 21 (mRd b (40 + 4 * i) q).2 w) := by
    intro k
    induction k with
    | zero =>
      intro i hi
      obtain rfl : i = 16 := by omega
      refine g_iload_n C (i := 2) dX6_read_143 rfl rfl ?_
      refine g_bipush C (16) dX6_read_144 rfl ?_
      refine g_icmp_ge C 196 dX6_read_146 (by decide) (fun h146 => ?_) (fun h146 => ?_)
      · skip
        refine g_iconst C (0) dX6_read_196 rfl ?_
        refine g_istore_n C (i := 2) dX6_read_197 rfl (by decide) ?_
        exact K198 30 0 (by omega)
      · exact absurd (Int32.le_refl _) h146
    | succ k ih =>
      intro i hi
      have hi2 : i < 16 := by omega
      have ih1 := ih (i + 1) (by omega)
      have hat := mRd_28 hq (40 + 4 * i)
      rw [show 40 + 4 * (i + 1) = 40 + 4 * i + 1 + 1 + 1 + 1 by omega, mRd_s, mRd_s, mRd_s, mRd_s] at ih1
      generalize mRd b (40 + 4 * i) q = q1 at *
      obtain ⟨J1, K1⟩ := q1
      dsimp only at hat ⊢
      unfold rdStep at ih1
      rw [show 40 + 4 * i + 1 + 1 + 1 = 43 + 4 * i by omega] at ih1
      rw [show 40 + 4 * i + 1 + 1 = 42 + 4 * i by omega] at ih1
      rw [show 40 + 4 * i + 1 = 41 + 4 * i by omega] at ih1
      rw [rdS_14 b _ _ hi2, rdS_15 b _ _ hi2, rdS_16 b _ _ hi2, rdS_17 b _ _ hi2] at ih1
      dsimp only at ih1
      rw [show 41 + 4 * i = 40 + 4 * i + 1 by omega] at ih1
      rw [show 42 + 4 * i = 40 + 4 * i + 1 + 1 by omega] at ih1
      rw [show 43 + 4 * i = 40 + 4 * i + 1 + 1 + 1 by omega] at ih1
      refine g_iload_n C (i := 2) dX6_read_143 rfl rfl ?_
      refine g_bipush C (16) dX6_read_144 rfl ?_
      refine g_icmp_ge C 196 dX6_read_146 (by decide) (fun h146 => ?_) (fun h146 => ?_)
      · exact absurd h146 (nI_ge (b := 16) (by omega) (by omega))
      · refine g_aload_n C (i := 0) dX6_read_149 rfl rfl ?_
        refine g_getR C 6 17 (RX6, TX6, 29) dX6_read_150 (hM.1 0 (by decide)) (hM.2 0 17 14 (by decide) rfl) ml_X6_51 rfl (by decide) rfl ?_
        refine g_iload_n C (i := 2) dX6_read_153 rfl rfl ?_
        refine g_aload_n C (i := 0) dX6_read_154 rfl rfl ?_
        refine g_callV C (q := (RX6, TX6, 29)) (rest := _) dX6_read_155 mm_X6_take ml_X6_147 mv_yX6_take ms_yX6_take (c_X6_take hM (a := b + (40 + 4 * i)) hat (by omega)) rfl (hM.1 0 (by decide)) rfl rfl ⟨by decide, Nat.le_of_ble_eq_true rfl, Nat.le_of_ble_eq_true rfl, Nat.le_of_ble_eq_true rfl⟩ (tk_retv ?_) tk_nothr
        refine g_l2i C dX6_read_158 ?_
        refine g_is C dX6_read_159 (hM.1 14 (by decide)) (tk2_reg (k := 14) (by decide)) rfl (by omega) (by decide) ?_
        refine g_aload_n C (i := 0) dX6_read_160 rfl rfl ?_
        refine g_getR C 6 18 (RX6, TX6, 29) dX6_read_161 (hM.1 0 (by decide)) (hM.2 0 18 15 (by decide) rfl) ml_X6_54 rfl (by decide) rfl ?_
        refine g_iload_n C (i := 2) dX6_read_164 rfl rfl ?_
        refine g_aload_n C (i := 0) dX6_read_165 rfl rfl ?_
        refine g_callV C (q := (RX6, TX6, 29)) (rest := _) dX6_read_166 mm_X6_take ml_X6_147 mv_yX6_take ms_yX6_take (c_X6_take hM (a := b + (40 + 4 * i) + 1) rfl (by omega)) rfl (hM.1 0 (by decide)) rfl rfl ⟨by decide, Nat.le_of_ble_eq_true rfl, Nat.le_of_ble_eq_true rfl, Nat.le_of_ble_eq_true rfl⟩ (tk_retv ?_) tk_nothr
        refine g_ls C dX6_read_169 (hM.1 15 (by decide)) (tk2_reg (k := 15) (by decide)) rfl (by omega) (by decide) ?_
        refine g_aload_n C (i := 0) dX6_read_170 rfl rfl ?_
        refine g_getR C 6 19 (RX6, TX6, 29) dX6_read_171 (hM.1 0 (by decide)) (hM.2 0 19 16 (by decide) rfl) ml_X6_57 rfl (by decide) rfl ?_
        refine g_iload_n C (i := 2) dX6_read_174 rfl rfl ?_
        refine g_aload_n C (i := 0) dX6_read_175 rfl rfl ?_
        refine g_callV C (q := (RX6, TX6, 29)) (rest := _) dX6_read_176 mm_X6_take ml_X6_147 mv_yX6_take ms_yX6_take (c_X6_take hM (a := b + (40 + 4 * i) + 1 + 1) rfl (by omega)) rfl (hM.1 0 (by decide)) rfl rfl ⟨by decide, Nat.le_of_ble_eq_true rfl, Nat.le_of_ble_eq_true rfl, Nat.le_of_ble_eq_true rfl⟩ (tk_retv ?_) tk_nothr
        refine g_ls C dX6_read_179 (hM.1 16 (by decide)) (tk2_reg (k := 16) (by decide)) rfl (by omega) (by decide) ?_
        refine g_aload_n C (i := 0) dX6_read_180 rfl rfl ?_
        refine g_getR C 6 20 (RX6, TX6, 29) dX6_read_181 (hM.1 0 (by decide)) (hM.2 0 20 17 (by decide) rfl) ml_X6_60 rfl (by decide) rfl ?_
        refine g_iload_n C (i := 2) dX6_read_184 rfl rfl ?_
        refine g_aload_n C (i := 0) dX6_read_185 rfl rfl ?_
        refine g_callV C (q := (RX6, TX6, 29)) (rest := _) dX6_read_186 mm_X6_take ml_X6_147 mv_yX6_take ms_yX6_take (c_X6_take hM (a := b + (40 + 4 * i) + 1 + 1 + 1) rfl (by omega)) rfl (hM.1 0 (by decide)) rfl rfl ⟨by decide, Nat.le_of_ble_eq_true rfl, Nat.le_of_ble_eq_true rfl, Nat.le_of_ble_eq_true rfl⟩ (tk_retv ?_) tk_nothr
        refine g_ls C dX6_read_189 (hM.1 17 (by decide)) (tk2_reg (k := 17) (by decide)) rfl (by omega) (by decide) ?_
        refine g_iinc C (i := 2) (nI (i + 1)) dX6_read_190 rfl (nI_1 i) (by decide) ?_
        refine g_goto C 143 dX6_read_193 (by decide) ?_
        exact ih1
  have K109 : ∀ k i, k + i = 10 → tkG X (tkQ false X 0 0 (.inl none) σ (reg r 21 E.1 v) (reg r 21 E.2 w)) 0 0 109 [some (.ref r), some (.int (nI n)), some (.int (nI i))] [] σ (reg r 21 (mRd b (30 + i) q).1 v) (reg r 21 (mRd b (30 + i) q).2 w) := by
    intro k
    induction k with
    | zero =>
      intro i hi
      obtain rfl : i = 10 := by omega
      refine g_iload_n C (i := 2) dX6_read_109 rfl rfl ?_
      refine g_bipush C (10) dX6_read_110 rfl ?_
      refine g_icmp_ge C 141 dX6_read_112 (by decide) (fun h112 => ?_) (fun h112 => ?_)
      · skip
        refine g_iconst C (0) dX6_read_141 rfl ?_
        refine g_istore_n C (i := 2) dX6_read_142 rfl (by decide) ?_
        exact K143 16 0 (by omega)
      · exact absurd (Int32.le_refl _) h112
    | succ k ih =>
      intro i hi
      have hi2 : i < 10 := by omega
      have ih1 := ih (i + 1) (by omega)
      have hat := mRd_28 hq (30 + i)
      rw [show 30 + (i + 1) = 30 + i + 1 by omega, mRd_s] at ih1
      generalize mRd b (30 + i) q = q1 at *
      obtain ⟨J1, K1⟩ := q1
      dsimp only at hat ⊢
      unfold rdStep at ih1
      rw [rdS_13 b _ _ hi2] at ih1
      dsimp only at ih1
      refine g_iload_n C (i := 2) dX6_read_109 rfl rfl ?_
      refine g_bipush C (10) dX6_read_110 rfl ?_
      refine g_icmp_ge C 141 dX6_read_112 (by decide) (fun h112 => ?_) (fun h112 => ?_)
      · exact absurd h112 (nI_ge (b := 10) (by omega) (by omega))
      · refine g_aload_n C (i := 0) dX6_read_115 rfl rfl ?_
        refine g_getR C 6 16 (RX6, TX6, 29) dX6_read_116 (hM.1 0 (by decide)) (hM.2 0 16 13 (by decide) rfl) ml_X6_48 rfl (by decide) rfl ?_
        refine g_iload_n C (i := 2) dX6_read_119 rfl rfl ?_
        refine g_aload_n C (i := 0) dX6_read_120 rfl rfl ?_
        refine g_callV C (q := (RX6, TX6, 29)) (rest := _) dX6_read_121 mm_X6_take ml_X6_147 mv_yX6_take ms_yX6_take (c_X6_take hM (a := b + (30 + i)) hat (by omega)) rfl (hM.1 0 (by decide)) rfl rfl ⟨by decide, Nat.le_of_ble_eq_true rfl, Nat.le_of_ble_eq_true rfl, Nat.le_of_ble_eq_true rfl⟩ (tk_retv ?_) tk_nothr
        refine g_lconst C 1 dX6_read_124 rfl ?_
        refine g_lcmp C dX6_read_125 ?_
        refine g_if_ne C 133 dX6_read_126 (by decide) (fun h126 => ?_) (fun h126 => ?_)
        · rw [if_neg (fun z => h126 ((lg_cmp_eq _ _).mpr z))] at ih1
          refine g_iconst C (0) dX6_read_133 rfl ?_
          refine g_zs C dX6_read_134 (hM.1 13 (by decide)) (tk2_reg (k := 13) (by decide)) rfl (by omega) (by decide) (by first | assumption | exact Or.inl rfl | exact Or.inr rfl) ?_
          refine g_iinc C (i := 2) (nI (i + 1)) dX6_read_135 rfl (nI_1 i) (by decide) ?_
          refine g_goto C 109 dX6_read_138 (by decide) ?_
          exact ih1
        · rw [if_pos ((lg_cmp_eq _ _).mp h126)] at ih1
          refine g_iconst C (1) dX6_read_129 rfl ?_
          refine g_goto C 134 dX6_read_130 (by decide) ?_
          refine g_zs C dX6_read_134 (hM.1 13 (by decide)) (tk2_reg (k := 13) (by decide)) rfl (by omega) (by decide) (by first | assumption | exact Or.inl rfl | exact Or.inr rfl) ?_
          refine g_iinc C (i := 2) (nI (i + 1)) dX6_read_135 rfl (nI_1 i) (by decide) ?_
          refine g_goto C 109 dX6_read_138 (by decide) ?_
          exact ih1
  have K63 : ∀ k i, k + i = 8 → tkG X (tkQ false X 0 0 (.inl none) σ (reg r 21 E.1 v) (reg r 21 E.2 w)) 0 0 63 [some (.ref r), some (.int (nI n)), some (.int (nI i))] [] σ (reg r 21 (mRd b (6 + 3 * i) q).1 v) (reg r 21 (mRd b (6 + 3 * i) q).2 w) := by
    intro k
    induction k with
    | zero =>
      intro i hi
      obtain rfl : i = 8 := by omega
      refine g_iload_n C (i := 2) dX6_read_63 rfl rfl ?_
      refine g_bipush C (8) dX6_read_64 rfl ?_
      refine g_icmp_ge C 107 dX6_read_66 (by decide) (fun h66 => ?_) (fun h66 => ?_)
      · skip
        refine g_iconst C (0) dX6_read_107 rfl ?_
        refine g_istore_n C (i := 2) dX6_read_108 rfl (by decide) ?_
        exact K109 10 0 (by omega)
      · exact absurd (Int32.le_refl _) h66
    | succ k ih =>
      intro i hi
      have hi2 : i < 8 := by omega
      have ih1 := ih (i + 1) (by omega)
      have hat := mRd_28 hq (6 + 3 * i)
      rw [show 6 + 3 * (i + 1) = 6 + 3 * i + 1 + 1 + 1 by omega, mRd_s, mRd_s, mRd_s] at ih1
      generalize mRd b (6 + 3 * i) q = q1 at *
      obtain ⟨J1, K1⟩ := q1
      dsimp only at hat ⊢
      unfold rdStep at ih1
      rw [show 6 + 3 * i + 1 + 1 = 8 + 3 * i by omega] at ih1
      rw [show 6 + 3 * i + 1 = 7 + 3 * i by omega] at ih1
      rw [rdS_10 b _ _ hi2, rdS_11 b _ _ hi2, rdS_12 b _ _ hi2] at ih1
      dsimp only at ih1
      rw [show 7 + 3 * i = 6 + 3 * i + 1 by omega] at ih1
      rw [show 8 + 3 * i = 6 + 3 * i + 1 + 1 by omega] at ih1
      refine g_iload_n C (i := 2) dX6_read_63 rfl rfl ?_
      refine g_bipush C (8) dX6_read_64 rfl ?_
      refine g_icmp_ge C 107 dX6_read_66 (by decide) (fun h66 => ?_) (fun h66 => ?_)
      · exact absurd h66 (nI_ge (b := 8) (by omega) (by omega))
      · refine g_aload_n C (i := 0) dX6_read_69 rfl rfl ?_
        refine g_getR C 6 13 (RX6, TX6, 29) dX6_read_70 (hM.1 0 (by decide)) (hM.2 0 13 10 (by decide) rfl) ml_X6_38 rfl (by decide) rfl ?_
        refine g_iload_n C (i := 2) dX6_read_73 rfl rfl ?_
        refine g_aload_n C (i := 0) dX6_read_74 rfl rfl ?_
        refine g_callV C (q := (RX6, TX6, 29)) (rest := _) dX6_read_75 mm_X6_take ml_X6_147 mv_yX6_take ms_yX6_take (c_X6_take hM (a := b + (6 + 3 * i)) hat (by omega)) rfl (hM.1 0 (by decide)) rfl rfl ⟨by decide, Nat.le_of_ble_eq_true rfl, Nat.le_of_ble_eq_true rfl, Nat.le_of_ble_eq_true rfl⟩ (tk_retv ?_) tk_nothr
        refine g_l2i C dX6_read_78 ?_
        refine g_is C dX6_read_79 (hM.1 10 (by decide)) (tk2_reg (k := 10) (by decide)) rfl (by omega) (by decide) ?_
        refine g_aload_n C (i := 0) dX6_read_80 rfl rfl ?_
        refine g_getR C 6 14 (RX6, TX6, 29) dX6_read_81 (hM.1 0 (by decide)) (hM.2 0 14 11 (by decide) rfl) ml_X6_41 rfl (by decide) rfl ?_
        refine g_iload_n C (i := 2) dX6_read_84 rfl rfl ?_
        refine g_aload_n C (i := 0) dX6_read_85 rfl rfl ?_
        refine g_callV C (q := (RX6, TX6, 29)) (rest := _) dX6_read_86 mm_X6_take ml_X6_147 mv_yX6_take ms_yX6_take (c_X6_take hM (a := b + (6 + 3 * i) + 1) rfl (by omega)) rfl (hM.1 0 (by decide)) rfl rfl ⟨by decide, Nat.le_of_ble_eq_true rfl, Nat.le_of_ble_eq_true rfl, Nat.le_of_ble_eq_true rfl⟩ (tk_retv ?_) tk_nothr
        refine g_l2i C dX6_read_89 ?_
        refine g_is C dX6_read_90 (hM.1 11 (by decide)) (tk2_reg (k := 11) (by decide)) rfl (by omega) (by decide) ?_
        refine g_aload_n C (i := 0) dX6_read_91 rfl rfl ?_
        refine g_getR C 6 15 (RX6, TX6, 29) dX6_read_92 (hM.1 0 (by decide)) (hM.2 0 15 12 (by decide) rfl) ml_X6_44 rfl (by decide) rfl ?_
        refine g_iload_n C (i := 2) dX6_read_95 rfl rfl ?_
        refine g_aload_n C (i := 0) dX6_read_96 rfl rfl ?_
        refine g_callV C (q := (RX6, TX6, 29)) (rest := _) dX6_read_97 mm_X6_take ml_X6_147 mv_yX6_take ms_yX6_take (c_X6_take hM (a := b + (6 + 3 * i) + 1 + 1) rfl (by omega)) rfl (hM.1 0 (by decide)) rfl rfl ⟨by decide, Nat.le_of_ble_eq_true rfl, Nat.le_of_ble_eq_true rfl, Nat.le_of_ble_eq_true rfl⟩ (tk_retv ?_) tk_nothr
        refine g_ls C dX6_read_100 (hM.1 12 (by decide)) (tk2_reg (k := 12) (by decide)) rfl (by omega) (by decide) ?_
        refine g_iinc C (i := 2) (nI (i + 1)) dX6_read_101 rfl (nI_1 i) (by decide) ?_
        refine g_goto C 63 dX6_read_104 (by decide) ?_
        exact ih1
  refine g_aload_n C (i := 0) dX6_read_0 rfl rfl ?_
  refine g_sipush C (164) dX6_read_1 rfl ?_
  refine g_iload_n C (i := 1) dX6_read_4 rfl rfl ?_
  refine g_imul C dX6_read_5 ?_
  rw [show (164 : Int32) * nI n = nI (b + 0) by rw [show (164 : Int32) = nI 164 from rfl, pk_mul, hb]; rfl]
  refine g_putI C 6 28 (RX6, TX6, 29) dX6_read_6 (hM.1 0 (by decide)) (tk2_reg (k := 0) (by decide)) ml_X6_140 rfl (by decide) rfl rfl ?_
  have k63 := K63 8 0 (by omega)
  rw [eq] at k63
  refine g_aload_n C (i := 0) dX6_read_9 rfl rfl ?_
  refine g_aload_n C (i := 0) dX6_read_10 rfl rfl ?_
  refine g_callV C (q := (RX6, TX6, 29)) (rest := _) dX6_read_11 mm_X6_take ml_X6_147 mv_yX6_take ms_yX6_take (c_X6_take hM (a := b + 0) tk2_at (by omega)) rfl (hM.1 0 (by decide)) rfl rfl ⟨by decide, Nat.le_of_ble_eq_true rfl, Nat.le_of_ble_eq_true rfl, Nat.le_of_ble_eq_true rfl⟩ (tk_retv ?_) tk_nothr
  refine g_l2i C dX6_read_14 ?_
  refine g_putI C 6 1 (RX6, TX6, 29) dX6_read_15 (hM.1 0 (by decide)) (tk2_reg (k := 0) (by decide)) ml_X6_76 rfl (by decide) rfl rfl ?_
  refine g_aload_n C (i := 0) dX6_read_18 rfl rfl ?_
  refine g_aload_n C (i := 0) dX6_read_19 rfl rfl ?_
  refine g_callV C (q := (RX6, TX6, 29)) (rest := _) dX6_read_20 mm_X6_take ml_X6_147 mv_yX6_take ms_yX6_take (c_X6_take hM (a := b + 1) rfl (by omega)) rfl (hM.1 0 (by decide)) rfl rfl ⟨by decide, Nat.le_of_ble_eq_true rfl, Nat.le_of_ble_eq_true rfl, Nat.le_of_ble_eq_true rfl⟩ (tk_retv ?_) tk_nothr
  refine g_l2i C dX6_read_23 ?_
  refine g_putI C 6 3 (RX6, TX6, 29) dX6_read_24 (hM.1 0 (by decide)) (tk2_reg (k := 0) (by decide)) ml_X6_79 rfl (by decide) rfl rfl ?_
  refine g_aload_n C (i := 0) dX6_read_27 rfl rfl ?_
  refine g_aload_n C (i := 0) dX6_read_28 rfl rfl ?_
  refine g_callV C (q := (RX6, TX6, 29)) (rest := _) dX6_read_29 mm_X6_take ml_X6_147 mv_yX6_take ms_yX6_take (c_X6_take hM (a := b + 2) rfl (by omega)) rfl (hM.1 0 (by decide)) rfl rfl ⟨by decide, Nat.le_of_ble_eq_true rfl, Nat.le_of_ble_eq_true rfl, Nat.le_of_ble_eq_true rfl⟩ (tk_retv ?_) tk_nothr
  refine g_l2i C dX6_read_32 ?_
  refine g_putI C 6 7 (RX6, TX6, 29) dX6_read_33 (hM.1 0 (by decide)) (tk2_reg (k := 0) (by decide)) ml_X6_82 rfl (by decide) rfl rfl ?_
  refine g_aload_n C (i := 0) dX6_read_36 rfl rfl ?_
  refine g_aload_n C (i := 0) dX6_read_37 rfl rfl ?_
  refine g_callV C (q := (RX6, TX6, 29)) (rest := _) dX6_read_38 mm_X6_take ml_X6_147 mv_yX6_take ms_yX6_take (c_X6_take hM (a := b + 3) rfl (by omega)) rfl (hM.1 0 (by decide)) rfl rfl ⟨by decide, Nat.le_of_ble_eq_true rfl, Nat.le_of_ble_eq_true rfl, Nat.le_of_ble_eq_true rfl⟩ (tk_retv ?_) tk_nothr
  refine g_putL C 6 21 (RX6, TX6, 29) dX6_read_41 (hM.1 0 (by decide)) (tk2_reg (k := 0) (by decide)) ml_X6_104 rfl (by decide) rfl rfl ?_
  refine g_aload_n C (i := 0) dX6_read_44 rfl rfl ?_
  refine g_aload_n C (i := 0) dX6_read_45 rfl rfl ?_
  refine g_callV C (q := (RX6, TX6, 29)) (rest := _) dX6_read_46 mm_X6_take ml_X6_147 mv_yX6_take ms_yX6_take (c_X6_take hM (a := b + 4) rfl (by omega)) rfl (hM.1 0 (by decide)) rfl rfl ⟨by decide, Nat.le_of_ble_eq_true rfl, Nat.le_of_ble_eq_true rfl, Nat.le_of_ble_eq_true rfl⟩ (tk_retv ?_) tk_nothr
  refine g_putL C 6 22 (RX6, TX6, 29) dX6_read_49 (hM.1 0 (by decide)) (tk2_reg (k := 0) (by decide)) ml_X6_108 rfl (by decide) rfl rfl ?_
  refine g_aload_n C (i := 0) dX6_read_52 rfl rfl ?_
  refine g_aload_n C (i := 0) dX6_read_53 rfl rfl ?_
  refine g_callV C (q := (RX6, TX6, 29)) (rest := _) dX6_read_54 mm_X6_take ml_X6_147 mv_yX6_take ms_yX6_take (c_X6_take hM (a := b + 5) rfl (by omega)) rfl (hM.1 0 (by decide)) rfl rfl ⟨by decide, Nat.le_of_ble_eq_true rfl, Nat.le_of_ble_eq_true rfl, Nat.le_of_ble_eq_true rfl⟩ (tk_retv ?_) tk_nothr
  refine g_l2i C dX6_read_57 ?_
  refine g_putI C 6 23 (RX6, TX6, 29) dX6_read_58 (hM.1 0 (by decide)) (tk2_reg (k := 0) (by decide)) ml_X6_101 rfl (by decide) rfl rfl ?_
  refine g_iconst C (0) dX6_read_61 rfl ?_
  refine g_istore_n C (i := 2) dX6_read_62 rfl (by decide) ?_
  exact k63
end TKSTORE

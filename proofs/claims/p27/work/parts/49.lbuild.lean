section TKLBUILD
/-- while the plant is made: the class's rows are the law's; their ranges -/
def bR (nt ns np : Nat) (J P : tkI) : Prop :=
  (P 1 0 = nI nt ∧ P 7 0 = nI ns ∧ P 12 0 = nI np) ∧
  (∀ j, j < nt → P 2 j = J 0 j ∧ P 3 j = J 1 j ∧ P 4 j = J 2 j ∧ ∃ a b c, J 0 j = nI a ∧ J 1 j = nI b ∧ J 2 j = nI c ∧ 10 ≤ a ∧ a < 510 ∧ b ≤ a ∧ c < 4) ∧
  (∀ k, k < ns → P 8 k = J 4 k ∧ P 9 k = J 5 k ∧ P 10 k = J 6 k ∧ P 11 k = 0 ∧ ∃ t lo hi, t < 3 ∧ J 4 k = nI t ∧ J 5 k = nI lo ∧ J 6 k = nI hi ∧ lo < hi ∧ hi < 510) ∧
  (∀ k, k < np → P 13 k = J 8 k ∧ P 14 k = J 9 k ∧ P 15 k = J 10 k ∧ P 16 k = 2 ∧ P 17 k = J 11 k ∧ P 18 k = J 12 k ∧ end_ 3 (J 8 k) ∧ end_ 3 (J 9 k) ∧ J 8 k ≠ J 9 k ∧ (∃ r, 1 ≤ r ∧ r < 16 ∧ J 10 k = nI r) ∧ (J 11 k = -1 ∨ ∃ t, t < 2 ∧ J 11 k = nI t)) ∧
  ∀ j, J 7 j = 0
theorem tk2_zL (a i : Nat) : tk2 zL a i 0 = zL := by
  funext b j
  simp only [tk2, zL]
  split <;> rfl
theorem aTank_L (nt : Nat) (c l k : Int32) (P : tkI) : (aTank nt c l k (P, zL)).2 = zL := tk2_zL _ _
theorem aPump_L (np : Nat) (i j r l c b : Int32) (P : tkI) : (aPump np i j r l c b (P, zL)).2 = zL := by
  show tk2 (tk2 (tk2 zL 19 np 0) 20 np 0) 21 np 0 = zL
  rw [tk2_zL, tk2_zL, tk2_zL]
theorem lt_succ_cases {j t : Nat} (h : j < t + 1) : j < t ∨ j = t := by omega
theorem bR.tank {t : Nat} {J J1 P : tkI} (h : bR t 0 0 J P) {a b c : Nat} (h0 : J1 0 t = nI a) (h1 : J1 1 t = nI b) (h2 : J1 2 t = nI c) (ha : 10 ≤ a) (ha2 : a < 510) (hb : b ≤ a) (hc : c < 4)
    (ho : ∀ j, j ≠ t → J1 0 j = J 0 j ∧ J1 1 j = J 1 j ∧ J1 2 j = J 2 j) (hr : ∀ r, r ≠ 0 → r ≠ 1 → r ≠ 2 → J1 r = J r) : bR (t + 1) 0 0 J1 (aTank t (nI a) (nI b) (nI c) (P, zL)).1 := by
  obtain ⟨⟨c1, c7, c12⟩, hT, -, -, hz⟩ := h
  have p2 : ∀ j, (aTank t (nI a) (nI b) (nI c) (P, zL)).1 2 j = if j = t then nI a else P 2 j := fun j => by simp [aTank, tk2]
  have p3 : ∀ j, (aTank t (nI a) (nI b) (nI c) (P, zL)).1 3 j = if j = t then nI b else P 3 j := fun j => by simp [aTank, tk2]
  have p4 : ∀ j, (aTank t (nI a) (nI b) (nI c) (P, zL)).1 4 j = if j = t then nI c else P 4 j := fun j => by simp [aTank, tk2]
  have p1 : (aTank t (nI a) (nI b) (nI c) (P, zL)).1 1 0 = nI (t + 1) := by
    rw [← nI_1]
    simp [aTank, tk2]
  have p7 : (aTank t (nI a) (nI b) (nI c) (P, zL)).1 7 0 = P 7 0 := by simp [aTank, tk2]
  have p12 : (aTank t (nI a) (nI b) (nI c) (P, zL)).1 12 0 = P 12 0 := by simp [aTank, tk2]
  refine ⟨⟨p1, p7.trans c7, p12.trans c12⟩, fun j hj => ?_, fun k hk => absurd hk (Nat.not_lt_zero _), fun k hk => absurd hk (Nat.not_lt_zero _), fun j => by rw [hr 7 (by decide) (by decide) (by decide)]; exact hz j⟩
  rw [p2, p3, p4]
  rcases lt_succ_cases hj with e | e
  · obtain ⟨o0, o1, o2⟩ := ho j (by omega)
    rw [if_neg (by omega), if_neg (by omega), if_neg (by omega), o0, o1, o2]
    exact hT j e
  · subst e
    rw [if_pos rfl, if_pos rfl, if_pos rfl]
    exact ⟨h0.symm, h1.symm, h2.symm, a, b, c, h0, h1, h2, ha, ha2, hb, hc⟩
theorem bR.switch {k : Nat} {J J1 P : tkI} (h : bR 3 k 0 J P) {t lo hi : Nat} (h4 : J1 4 k = nI t) (h5 : J1 5 k = nI lo) (h6 : J1 6 k = nI hi) (ht : t < 3) (hl : lo < hi) (hh : hi < 510)
    (ho : ∀ j, j ≠ k → J1 4 j = J 4 j ∧ J1 5 j = J 5 j ∧ J1 6 j = J 6 j) (hr : ∀ r, r ≠ 4 → r ≠ 5 → r ≠ 6 → J1 r = J r) : bR 3 (k + 1) 0 J1 (aSwitch k (nI t) (nI lo) (nI hi) (P, zL)).1 := by
  obtain ⟨⟨c1, c7, c12⟩, hT, hS, -, hz⟩ := h
  have p8 : ∀ j, (aSwitch k (nI t) (nI lo) (nI hi) (P, zL)).1 8 j = if j = k then nI t else P 8 j := fun j => by simp [aSwitch, tk2]
  have p9 : ∀ j, (aSwitch k (nI t) (nI lo) (nI hi) (P, zL)).1 9 j = if j = k then nI lo else P 9 j := fun j => by simp [aSwitch, tk2]
  have p10 : ∀ j, (aSwitch k (nI t) (nI lo) (nI hi) (P, zL)).1 10 j = if j = k then nI hi else P 10 j := fun j => by simp [aSwitch, tk2]
  have p11 : ∀ j, (aSwitch k (nI t) (nI lo) (nI hi) (P, zL)).1 11 j = if j = k then 0 else P 11 j := fun j => by simp [aSwitch, tk2]
  have p7 : (aSwitch k (nI t) (nI lo) (nI hi) (P, zL)).1 7 0 = nI (k + 1) := by
    rw [← nI_1]
    simp [aSwitch, tk2]
  have pr : ∀ r, r ≠ 7 → r ≠ 8 → r ≠ 9 → r ≠ 10 → r ≠ 11 → (aSwitch k (nI t) (nI lo) (nI hi) (P, zL)).1 r = P r := fun r a b c d e => by
    funext j
    simp [aSwitch, tk2, a, b, c, d, e]
  refine ⟨⟨by rw [pr 1 (by decide) (by decide) (by decide) (by decide) (by decide)]; exact c1, p7, by rw [pr 12 (by decide) (by decide) (by decide) (by decide) (by decide)]; exact c12⟩, fun j hj => ?_, fun j hj => ?_, fun k hk => absurd hk (Nat.not_lt_zero _), fun j => by rw [hr 7 (by decide) (by decide) (by decide)]; exact hz j⟩
  · rw [pr 2 (by decide) (by decide) (by decide) (by decide) (by decide), pr 3 (by decide) (by decide) (by decide) (by decide) (by decide), pr 4 (by decide) (by decide) (by decide) (by decide) (by decide), hr 0 (by decide) (by decide) (by decide), hr 1 (by decide) (by decide) (by decide), hr 2 (by decide) (by decide) (by decide)]
    exact hT j hj
  · rw [p8, p9, p10, p11]
    rcases lt_succ_cases hj with e | e
    · obtain ⟨o0, o1, o2⟩ := ho j (by omega)
      rw [if_neg (by omega), if_neg (by omega), if_neg (by omega), if_neg (by omega), o0, o1, o2]
      exact hS j e
    · subst e
      rw [if_pos rfl, if_pos rfl, if_pos rfl, if_pos rfl]
      exact ⟨h4.symm, h5.symm, h6.symm, rfl, t, lo, hi, ht, h4, h5, h6, hl, hh⟩
theorem bR.pump {k : Nat} {J J1 P : tkI} (h : bR 3 2 k J P) {fr to rt ct b : Int32} (h8 : J1 8 k = fr) (h9 : J1 9 k = to) (h10 : J1 10 k = rt) (h11 : J1 11 k = ct) (h12 : J1 12 k = b) (q8 : end_ 3 fr) (q9 : end_ 3 to) (qn : fr ≠ to) (qr : ∃ r, 1 ≤ r ∧ r < 16 ∧ rt = nI r) (qc : ct = -1 ∨ ∃ t, t < 2 ∧ ct = nI t)
    (ho : ∀ j, j ≠ k → J1 8 j = J 8 j ∧ J1 9 j = J 9 j ∧ J1 10 j = J 10 j ∧ J1 11 j = J 11 j ∧ J1 12 j = J 12 j) (hr : ∀ r, r ≠ 8 → r ≠ 9 → r ≠ 10 → r ≠ 11 → r ≠ 12 → J1 r = J r) : bR 3 2 (k + 1) J1 (aPump k fr to rt 2 ct b (P, zL)).1 := by
  obtain ⟨⟨c1, c7, c12⟩, hT, hS, hU, hz⟩ := h
  have p13 : ∀ j, (aPump k fr to rt 2 ct b (P, zL)).1 13 j = if j = k then fr else P 13 j := fun j => by simp [aPump, tk2]
  have p14 : ∀ j, (aPump k fr to rt 2 ct b (P, zL)).1 14 j = if j = k then to else P 14 j := fun j => by simp [aPump, tk2]
  have p15 : ∀ j, (aPump k fr to rt 2 ct b (P, zL)).1 15 j = if j = k then rt else P 15 j := fun j => by simp [aPump, tk2]
  have p16 : ∀ j, (aPump k fr to rt 2 ct b (P, zL)).1 16 j = if j = k then 2 else P 16 j := fun j => by simp [aPump, tk2]
  have p17 : ∀ j, (aPump k fr to rt 2 ct b (P, zL)).1 17 j = if j = k then ct else P 17 j := fun j => by simp [aPump, tk2]
  have p18 : ∀ j, (aPump k fr to rt 2 ct b (P, zL)).1 18 j = if j = k then b else P 18 j := fun j => by simp [aPump, tk2]
  have p12 : (aPump k fr to rt 2 ct b (P, zL)).1 12 0 = nI (k + 1) := by
    rw [← nI_1]
    simp [aPump, tk2]
  have pr : ∀ r, r < 12 → (aPump k fr to rt 2 ct b (P, zL)).1 r = P r := fun r hr => by
    funext j
    have a : r ≠ 12 := by omega
    have b : r ≠ 13 := by omega
    have c : r ≠ 14 := by omega
    have d : r ≠ 15 := by omega
    have e : r ≠ 16 := by omega
    have f : r ≠ 17 := by omega
    have g : r ≠ 18 := by omega
    simp [aPump, tk2, a, b, c, d, e, f, g]
  have jr : ∀ r, r < 8 → J1 r = J r := fun r h => hr r (by omega) (by omega) (by omega) (by omega) (by omega)
  refine ⟨⟨by rw [pr 1 (by decide)]; exact c1, by rw [pr 7 (by decide)]; exact c7, p12⟩, fun j hj => ?_, fun j hj => ?_, fun j hj => ?_, fun j => by rw [jr 7 (by decide)]; exact hz j⟩
  · rw [pr 2 (by decide), pr 3 (by decide), pr 4 (by decide), jr 0 (by decide), jr 1 (by decide), jr 2 (by decide)]
    exact hT j hj
  · rw [pr 8 (by decide), pr 9 (by decide), pr 10 (by decide), pr 11 (by decide), jr 4 (by decide), jr 5 (by decide), jr 6 (by decide)]
    exact hS j hj
  · rw [p13, p14, p15, p16, p17, p18]
    rcases lt_succ_cases hj with e | e
    · obtain ⟨o0, o1, o2, o3, o4⟩ := ho j (by omega)
      rw [if_neg (by omega), if_neg (by omega), if_neg (by omega), if_neg (by omega), if_neg (by omega), if_neg (by omega), o0, o1, o2, o3, o4]
      exact hU j e
    · subst e
      rw [if_pos rfl, if_pos rfl, if_pos rfl, if_pos rfl, if_pos rfl, if_pos rfl]
      exact ⟨h8.symm, h9.symm, h10.symm, rfl, h11.symm, h12.symm, by rw [h8]; exact q8, by rw [h9]; exact q9, by rw [h8, h9]; exact qn, by rw [h10]; exact qr, by rw [h11]; exact qc⟩
/-- rows that are yet to come -/
theorem bR.zero {nt ns np n : Nat} {J P : tkI} (h : bR nt ns np J P) (hn : 4 ≤ n) (h4 : n < 8 → ns = 0) (hp : np = 0) : bR nt ns np (tk1 J n (fun _ => 0)) P := by
  obtain ⟨hc, hT, hS, hU, hz⟩ := h
  have e : ∀ r, r ≠ n → tk1 J n (fun _ => 0) r = J r := fun r hr => if_neg hr
  refine ⟨hc, fun j hj => ?_, fun k hk => ?_, fun k hk => absurd hk (by omega), fun j => ?_⟩
  · rw [e 0 (by omega), e 1 (by omega), e 2 (by omega)]
    exact hT j hj
  · have : 8 ≤ n := by
      rcases Nat.lt_or_ge n 8 with q | q
      · rw [h4 q] at hk
        exact absurd hk (Nat.not_lt_zero _)
      · exact q
    rw [e 4 (by omega), e 5 (by omega), e 6 (by omega)]
    exact hS k hk
  · by_cases q : 7 = n
    · rw [← q]
      exact congrFun (if_pos rfl : tk1 J 7 (fun _ => 0) 7 = fun _ => 0) j
    · rw [e 7 q]
      exact hz j
/-- the plain plant at its start -/
def lM0 (J : tkI) : tkI × tkL := (fun r => match r with
  | 0 => (fun c => match c with | 1 => nI 3 | 3 => nI 2 | 7 => nI 4 | _ => 0)
  | 1 => J 0 | 2 => J 4 | 3 => J 5 | 4 => J 6 | 5 => J 8 | 6 => J 9 | 7 => (fun _ => 2) | 8 => J 11 | 9 => J 12 | 10 => J 1 | 11 => J 2 | 13 => J 7 | 14 => J 10 | _ => (fun _ => 0), zL)
theorem bR.wl {J P : tkI} (h : bR 3 2 4 J P) : wl J := by
  obtain ⟨-, -, hS, hU, -⟩ := h
  refine ⟨fun k hk => ?_, fun k hk => ?_⟩
  · obtain ⟨-, -, -, -, t, lo, hi, ht, e, -⟩ := hS k hk
    exact ⟨t, ht, e⟩
  · obtain ⟨-, -, -, -, -, -, e8, e9, -, -, e11⟩ := hU k hk
    exact ⟨e8, e9, e11⟩
theorem bR.inv {J P : tkI} (h : bR 3 2 4 J P) : lInv 0 J P zL zL 0 := by
  have hw := h.wl
  obtain ⟨⟨c1, c7, c12⟩, hT, hS, hU, hz⟩ := h
  have tb : ∀ j, j < 3 → 10 ≤ (J 0 j).toInt ∧ (J 0 j).toInt < 510 ∧ 0 ≤ (J 1 j).toInt ∧ (J 1 j).toInt ≤ (J 0 j).toInt ∧ 0 ≤ (J 2 j).toInt ∧ (J 2 j).toInt < 4 := fun j hj => by
    obtain ⟨-, -, -, a, b, c, ea, eb, ec, h1, h2, h3, h4⟩ := hT j hj
    rw [ea, eb, ec, nI_toInt (by omega), nI_toInt (by omega), nI_toInt (by omega)]
    omega
  refine ⟨lM0 J, 0, 0, ⟨⟨⟨⟨c1, rfl, by decide⟩, ⟨c7, rfl, by decide⟩, ⟨c12, rfl, by decide⟩⟩, ⟨⟨fun j hj => (hT j hj).1, fun j hj => (hT j hj).2.2.1⟩, ⟨fun k hk => (hS k hk).1, fun k hk => (hS k hk).2.1, fun k hk => (hS k hk).2.2.1⟩, fun k hk => (hU k hk).1, fun k hk => (hU k hk).2.1, fun k hk => (hU k hk).2.2.1, fun k hk => (hU k hk).2.2.2.1, fun k hk => (hU k hk).2.2.2.2.1, fun k hk => (hU k hk).2.2.2.2.2.1⟩, fun j hj => ?_, fun k hk => ?_, fun k hk => ?_⟩,
    ⟨fun j hj => (hT j hj).2.1, fun j hj => ?_⟩, ⟨fun k hk => ?_, fun k hk => Or.inl (hS k hk).2.2.2.1⟩, fun _ _ => rfl, ⟨fun _ _ => rfl, fun _ _ => rfl, fun _ _ => rfl⟩, rfl, rfl, rfl, rfl, fun k hk => absurd hk (by simp)⟩,
    ⟨⟨⟨fun _ _ => rfl, fun _ _ => rfl⟩, ⟨fun _ _ => rfl, fun _ _ => rfl, fun _ _ => rfl⟩, fun _ _ => rfl, fun _ _ => rfl, fun _ _ => rfl, fun _ _ => rfl, fun _ _ => rfl, fun _ _ => rfl⟩, ⟨fun j hj => ?_, fun k hk => ?_, fun k hk => ?_⟩, ⟨fun _ _ => rfl, fun j hj => ?_⟩, ⟨fun _ _ => rfl, fun k hk => Or.inl (hz k)⟩, fun _ _ => rfl, fun _ _ => rfl, fun _ _ => ?_, fun _ _ => rfl⟩, hw, rfl, rfl, Nat.zero_le _, Nat.zero_le _⟩
  · dsimp only
    rw [(hT j hj).1, (hT j hj).2.2.1]
    have := tb j hj
    omega
  · obtain ⟨e8, e9, e10, -, t, lo, hi, ht, j4, j5, j6, hlh, hhi⟩ := hS k hk
    dsimp only
    rw [e8, e9, e10, j4, j5, j6, nI_toInt (by omega), nI_toInt (by omega)]
    exact ⟨⟨t, ht, rfl⟩, nI_lt hlh (by omega), by omega, by omega⟩
  · obtain ⟨e13, e14, e15, -, e17, -, q8, q9, qn, ⟨r, hr1, hr2, er⟩, qc⟩ := hU k hk
    dsimp only
    rw [e13, e14, e15, e17, er, nI_toInt (by omega)]
    exact ⟨q8, q9, qc, qn, by omega, by omega⟩
  · dsimp only
    rw [(hT j hj).2.1, (hT j hj).1]
    have := tb j hj
    omega
  · dsimp only
    rw [(hS k hk).2.2.2.1]
    exact (hz k).symm
  · show 0 ≤ (J 2 j).toInt ∧ (J 2 j).toInt ≤ 1000000
    have := tb j hj
    omega
  · obtain ⟨-, -, -, -, t, lo, hi, ht, j4, -⟩ := hS k hk
    exact ⟨t, ht, j4⟩
  · obtain ⟨-, -, -, -, -, -, q8, q9, qn, ⟨r, hr1, hr2, er⟩, qc⟩ := hU k hk
    refine ⟨q8, q9, qc, qn, ?_⟩
    show 1 ≤ (J 10 k).toInt
    rw [er, nI_toInt (by omega)]
    omega
  · show 0 ≤ (J 1 j).toInt ∧ (J 1 j).toInt ≤ (J 0 j).toInt ∧ (J 0 j).toInt ≤ 1000000000
    have := tb j hj
    omega
  · show (0 : Int64) = 2 * 0
    decide
end TKLBUILD

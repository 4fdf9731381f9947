section TKPAIRS
/-- the answers of the two sides: the same number and no refusal, or a refusal and its mark -/
def ansR (cs : List (tkOut × Int32)) (out : tkOut) (b th : Int32) : Prop := (out = .inl (some (.int b)) ∧ th = 0) ∨ ∃ e, e ∈ cs ∧ out = e.1 ∧ th = e.2
def ansL (cs : List (tkOut × Int32)) (out : tkOut) (b : Int64) (th : Int32) : Prop := (out = .inl (some (.long b)) ∧ th = 0) ∨ ∃ e, e ∈ cs ∧ out = e.1 ∧ th = e.2
/-- the states behind a call -/
def staR (nt ns np c : Nat) (m q' m' : tkI × tkL) : Prop := ∃ nt2 ns2 np2 c2 d, c2 ≤ c + 50000 ∧ d ≤ 5000 ∧ m'.2 0 21 = m.2 0 21 + lN d ∧ stepR nt ns np m nt2 ns2 np2 c2 q' m'
theorem staR.of {nt ns np c nt2 ns2 np2 : Nat} {m q' m' : tkI × tkL} (h : stepR nt ns np m nt2 ns2 np2 c q' m') (ht : m'.2 0 21 = m.2 0 21) : staR nt ns np c m q' m' :=
  ⟨nt2, ns2, np2, c, 0, by omega, by omega, by rw [ht]; exact (Int64.add_zero _).symm, h⟩
theorem staR.fail {nt ns np c : Nat} {q m : tkI × tkL} (h : wRel nt ns np c q m) (e : Int32) : staR nt ns np c m q (mFail e m).2 := .of (.fail h e) rfl
theorem ansR.no {cs : List (tkOut × Int32)} {b : Int32} {m : tkI × tkL} (out : tkOut) (e : Int32) (h : (out, e) ∈ cs) : ansR cs out b ((mFail e m).2.1 0 0) := Or.inr ⟨(out, e), h, rfl, mTh_0 e m.1⟩
theorem mem2 {α : Type} {a b : α} : b ∈ [a, b] := List.mem_cons_of_mem _ List.mem_cons_self
theorem mem3 {α : Type} {a b c : α} : c ∈ [a, b, c] := List.mem_cons_of_mem _ (List.mem_cons_of_mem _ List.mem_cons_self)
theorem mem3b {α : Type} {a b c : α} : b ∈ [a, b, c] := List.mem_cons_of_mem _ List.mem_cons_self
variable {nt ns np c : Nat} {q m : tkI × tkL}
theorem p_addTank (h : wRel nt ns np c q m) (a b d : Int32) :
    ansR [(xIAE, 1), (xISE, 2)] (xAddTank nt a b d q).1 (mAddTank nt a b d m).1 ((mAddTank nt a b d m).2.1 0 0) ∧ staR nt ns np c m (xAddTank nt a b d q).2 (mAddTank nt a b d m).2 := by
  have hn := h.1.1.1.2.2
  unfold xAddTank mAddTank
  by_cases h1 : bad a 1 1000000000
  · rw [if_pos h1, if_pos (Or.inl h1)]
    exact ⟨.no _ _ List.mem_cons_self, .fail h 1⟩
  rw [if_neg h1]
  by_cases h2 : bad b 0 a
  · rw [if_pos h2, if_pos (Or.inr (Or.inl h2))]
    exact ⟨.no _ _ List.mem_cons_self, .fail h 1⟩
  rw [if_neg h2]
  by_cases h3 : bad d 0 1000000
  · rw [if_pos h3, if_pos (Or.inr (Or.inr h3))]
    exact ⟨.no _ _ List.mem_cons_self, .fail h 1⟩
  rw [if_neg h3, if_neg (show ¬ (bad a 1 1000000000 ∨ bad b 0 a ∨ bad d 0 1000000) from fun z => z.elim h1 (fun z => z.elim h2 h3))]
  by_cases h4 : 8 ≤ nt
  · rw [if_pos h4, if_pos (by omega)]
    exact ⟨.no _ _ mem2, .fail h 2⟩
  rw [if_neg h4, if_neg (by omega)]
  refine ⟨Or.inl ⟨rfl, by simp [tk2, mT0]⟩, .of ⟨wRel.addT h (by omega) a b d (bad_Z.mp h1) (bad_Z.mp h2) (bad_Z.mp h3) (by simp [tk2, nI_1]) (by simp [tk2, nI_1]) (fun j z0 z1 => by simp [tk2, mT0, z0, z1]) (fun j => by simp [tk2]) (fun j => by simp [tk2]) (fun j => by simp [tk2]) (fun j => by simp [tk2, mT0]) (fun j => by simp [tk2, mT0]) (fun j => by simp [tk2, mT0]) (fun j => by simp [tk2]) (fun j => by simp [tk2])
    (fun k k1 k2 k3 k4 => by funext j; simp [tk2, k1, k2, k3, k4]) (fun k k1 k2 k3 k4 => by funext j; simp [tk2, mT0, k1, k2, k3, k4]) (fun k k1 => by funext j; simp [tk2, k1]) (fun k k1 => by funext j; simp [tk2, k1]),
    ⟨by omega, Nat.le_refl _, Nat.le_refl _⟩, fun j hj => ?_, fun k j k1 k2 _ => ?_, fun k j k1 k2 _ => ?_, by simp [tk2, mT0], fun y _ => by simp [tk2]⟩ (by simp [tk2])⟩
  · have : ¬ j = nt := by omega
    simp [tk2, mT0, this]
  · have e1 : ¬ k = 0 := by omega
    have e2 : ¬ k = 1 := by omega
    have e3 : ¬ k = 10 := by omega
    have e4 : ¬ k = 11 := by omega
    simp [tk2, mT0, e1, e2, e3, e4]
  · have e1 : ¬ k = 0 := by omega
    have e2 : ¬ k = 1 := by omega
    have e3 : ¬ k = 10 := by omega
    have e4 : ¬ k = 11 := by omega
    simp [tk2, mT0, e1, e2, e3, e4]
theorem p_addSwitch (h : wRel nt ns np c q m) (i lo hi : Int32) :
    ansR [(xIOB, 1), (xIAE, 2), (xISE, 3)] (xAddSwitch ns i lo hi q).1 (mAddSwitch nt ns i lo hi m).1 ((mAddSwitch nt ns i lo hi m).2.1 0 0) ∧ staR nt ns np c m (xAddSwitch ns i lo hi q).2 (mAddSwitch nt ns i lo hi m).2 := by
  have hn := h.1.1.1.2.2
  have hs := h.1.1.2.1.2.2
  have hB := h.1.2.2
  unfold xAddSwitch mAddSwitch
  rw [h.1.1.1.1]
  by_cases h1 : off i nt
  · rw [if_pos ((bad_off (by omega)).mpr h1), if_pos h1]
    exact ⟨.no _ _ List.mem_cons_self, .fail h 1⟩
  rw [if_neg (fun z => h1 ((bad_off (by omega)).mp z)), if_neg h1]
  obtain ⟨t, ht, rfl⟩ := off_not (by omega) h1
  rw [nI_clamp (by omega)]
  have e2 : q.1 2 t = m.1 1 t := h.1.2.1.1.1 t ht
  rw [← e2]
  by_cases h2 : lo < 0 ∨ hi ≤ lo ∨ ¬ hi ≤ q.1 2 t
  · rw [if_pos h2, if_pos h2]
    exact ⟨.no _ _ mem3b, .fail h 2⟩
  rw [if_neg h2, if_neg h2]
  by_cases h4 : 10 ≤ ns
  · rw [if_pos h4, if_pos (by omega)]
    exact ⟨.no _ _ mem3, .fail h 3⟩
  rw [if_neg h4, if_neg (by omega)]
  have g1 : 0 ≤ lo.toInt := by
    refine Int.not_lt.mp fun z => h2 (Or.inl (Int32.lt_iff_toInt_lt.mpr z))
  have g2 : lo < hi := Int32.not_le.mp fun z => h2 (Or.inr (Or.inl z))
  have g3 : hi.toInt ≤ 1000000000 := by
    have z : hi ≤ q.1 2 t := Decidable.byContradiction fun z => h2 (Or.inr (Or.inr z))
    have z := Int32.le_iff_toInt_le.mp z
    have := (hB.1 t ht).2.1
    omega
  refine ⟨Or.inl ⟨rfl, by simp [tk2, mT0]⟩, .of ⟨wRel.addS h (by omega) (nI t) lo hi ⟨t, ht, rfl⟩ g2 ⟨g1, g3⟩ (by simp [tk2, nI_1]) (by simp [tk2, nI_1]) (fun j z0 z1 => by simp [tk2, mT0, z0, z1]) (fun j => by simp [tk2]) (fun j => by simp [tk2]) (fun j => by simp [tk2]) (fun j => by simp [tk2]) (fun j => by simp [tk2, mT0]) (fun j => by simp [tk2, mT0]) (fun j => by simp [tk2, mT0]) (fun j => by simp [tk2, mT0])
    (fun k k1 k2 k3 k4 k5 => by funext j; simp [tk2, k1, k2, k3, k4, k5]) (fun k k1 k2 k3 k4 k5 => by funext j; simp [tk2, mT0, k1, k2, k3, k4, k5]) (fun k => rfl) (fun k => rfl),
    ⟨Nat.le_refl _, by omega, Nat.le_refl _⟩, fun j hj => by simp [tk2, mT0], fun k j k1 k2 hj => ?_, fun k j k1 k2 _ => ?_, by simp [tk2, mT0], fun y _ => rfl⟩ rfl⟩
  · have e1 : ¬ k = 0 := by omega
    have e2 : ¬ j = ns := by omega
    simp [tk2, mT0, e1, e2]
  · have e1 : ¬ k = 0 := by omega
    have e2 : ¬ k = 2 := by omega
    have e3 : ¬ k = 3 := by omega
    have e4 : ¬ k = 4 := by omega
    have e5 : ¬ k = 13 := by omega
    simp [tk2, mT0, e1, e2, e3, e4, e5]
theorem p_addPump (h : wRel nt ns np c q m) (i j r l d b : Int32) :
    ansR [(xIOB, 1), (xIAE, 2), (xISE, 3)] (xAddPump np i j r l d b q).1 (mAddPump nt ns np i j r l d b m).1 ((mAddPump nt ns np i j r l d b m).2.1 0 0) ∧ staR nt ns np c m (xAddPump np i j r l d b q).2 (mAddPump nt ns np i j r l d b m).2 := by
  have hn := h.1.1.1.2.2
  have hs := h.1.1.2.1.2.2
  have hp := h.1.1.2.2.2.2
  unfold xAddPump mAddPump badE
  rw [h.1.1.1.1, h.1.1.2.1.1]
  simp only [bad_off (show nt < 2 ^ 30 by omega), bad_off (show ns < 2 ^ 30 by omega)]
  by_cases h1 : ¬ i = -1 ∧ off i nt
  · rw [if_pos h1, if_pos (Or.inl h1)]
    exact ⟨.no _ _ List.mem_cons_self, .fail h 1⟩
  rw [if_neg h1]
  by_cases h2 : ¬ j = -1 ∧ off j nt
  · rw [if_pos h2, if_pos (Or.inr (Or.inl h2))]
    exact ⟨.no _ _ List.mem_cons_self, .fail h 1⟩
  rw [if_neg h2]
  by_cases h3 : ¬ d = -1 ∧ off d ns
  · rw [if_pos h3, if_pos (Or.inr (Or.inr h3))]
    exact ⟨.no _ _ List.mem_cons_self, .fail h 1⟩
  rw [if_neg h3, if_neg (show ¬ ((¬ i = -1 ∧ off i nt) ∨ (¬ j = -1 ∧ off j nt) ∨ (¬ d = -1 ∧ off d ns)) from fun z => z.elim h1 (fun z => z.elim h2 h3))]
  by_cases h4 : i = j
  · rw [if_pos h4, if_pos (Or.inl h4)]
    exact ⟨.no _ _ mem3b, .fail h 2⟩
  rw [if_neg h4]
  by_cases h5 : bad r 1 1000000
  · rw [if_pos h5, if_pos (Or.inr (Or.inl h5))]
    exact ⟨.no _ _ mem3b, .fail h 2⟩
  rw [if_neg h5]
  by_cases h6 : bad l 0 100
  · rw [if_pos h6, if_pos (Or.inr (Or.inr h6))]
    exact ⟨.no _ _ mem3b, .fail h 2⟩
  rw [if_neg h6, if_neg (show ¬ (i = j ∨ bad r 1 1000000 ∨ bad l 0 100) from fun z => z.elim h4 (fun z => z.elim h5 h6))]
  by_cases h7 : 16 ≤ np
  · rw [if_pos h7, if_pos (by omega)]
    exact ⟨.no _ _ mem3, .fail h 3⟩
  rw [if_neg h7, if_neg (by omega)]
  have en : ∀ (x : Int32) (n : Nat), n < 2 ^ 30 → ¬ (¬ x = -1 ∧ off x n) → x = -1 ∨ ∃ t, t < n ∧ x = nI t := fun x n hn z => by
    by_cases e : x = -1
    · exact Or.inl e
    · exact Or.inr (off_not hn fun y => z ⟨e, y⟩)
  refine ⟨Or.inl ⟨rfl, by simp [tk2, mT0]⟩, .of ⟨wRel.addP h (by omega) i j r l d b (en i nt (by omega) h1) (en j nt (by omega) h2) (en d ns (by omega) h3) h4 (bad_Z.mp h5) (by simp [tk2, nI_1]) (by simp [tk2, nI_1]) (fun j z0 z1 => by simp [tk2, mT0, z0, z1]) (fun j => by simp [tk2]) (fun j => by simp [tk2]) (fun j => by simp [tk2]) (fun j => by simp [tk2]) (fun j => by simp [tk2]) (fun j => by simp [tk2])
    (fun j => by simp [tk2, mT0]) (fun j => by simp [tk2, mT0]) (fun j => by simp [tk2, mT0]) (fun j => by simp [tk2, mT0]) (fun j => by simp [tk2, mT0]) (fun j => by simp [tk2, mT0]) (fun j => by simp [tk2]) (fun j => by simp [tk2]) (fun j => by simp [tk2]) (fun j => by simp [tk2]) (fun j => by simp [tk2]) (fun j => by simp [tk2])
    (fun k k1 k2 k3 k4 k5 k6 k7 => by funext j; simp [tk2, k1, k2, k3, k4, k5, k6, k7]) (fun k k1 k2 k3 k4 k5 k6 k7 => by funext j; simp [tk2, mT0, k1, k2, k3, k4, k5, k6, k7]) (fun k k1 k2 k3 => by funext j; simp [tk2, k1, k2, k3]) (fun k k1 k2 k3 => by funext j; simp [tk2, k1, k2, k3]),
    ⟨Nat.le_refl _, Nat.le_refl _, by omega⟩, fun j hj => by simp [tk2, mT0], fun k j k1 k2 hj => ?_, fun k j k1 k2 hj => ?_, by simp [tk2, mT0], fun y _ => by simp [tk2]⟩ (by simp [tk2])⟩
  · have e1 : ¬ k = 0 := by omega
    have e2 : ¬ k = 5 := by omega
    have e3 : ¬ k = 6 := by omega
    have e4 : ¬ k = 7 := by omega
    have e5 : ¬ k = 8 := by omega
    have e6 : ¬ k = 9 := by omega
    have e7 : ¬ k = 14 := by omega
    simp [tk2, mT0, e1, e2, e3, e4, e5, e6, e7]
  · have e1 : ¬ k = 0 := by omega
    have e2 : ¬ j = np := by omega
    simp [tk2, mT0, e1, e2]
theorem p_setLevel (h : wRel nt ns np c q m) (i y : Int32) :
    ansR [(xIOB, 1), (xIAE, 2)] (xSetLevel i y q).1 (mSetLevel nt i y m).1 ((mSetLevel nt i y m).2.1 0 0) ∧ staR nt ns np c m (xSetLevel i y q).2 (mSetLevel nt i y m).2 := by
  have hn := h.1.1.1.2.2
  unfold xSetLevel mSetLevel
  rw [h.1.1.1.1]
  by_cases h1 : off i nt
  · rw [if_pos ((bad_off (by omega)).mpr h1), if_pos h1]
    exact ⟨.no _ _ List.mem_cons_self, .fail h 1⟩
  rw [if_neg (fun z => h1 ((bad_off (by omega)).mp z)), if_neg h1]
  obtain ⟨t, ht, rfl⟩ := off_not (by omega) h1
  rw [nI_clamp (by omega)]
  have e2 : q.1 2 t = m.1 1 t := h.1.2.1.1.1 t ht
  have e3 : q.1 3 t = m.1 10 t := h.2.1.1 t ht
  rw [← e2, ← e3]
  by_cases h2 : bad y 0 (q.1 2 t)
  · rw [if_pos h2, if_pos h2]
    exact ⟨.no _ _ mem2, .fail h 2⟩
  rw [if_neg h2, if_neg h2]
  refine ⟨Or.inl ⟨rfl, by simp [tk2, mT0]⟩, .of ⟨wRel.setV h (i := t) y (bad_Z.mp h2) (fun j => by simp [tk2]) (fun j => by simp [tk2, mT0]) (fun j z => by simp [tk2, mT0, z]) (fun k k1 => by funext j; simp [tk2, k1]) (fun k k1 k2 => by funext j; simp [tk2, mT0, k1, k2]) rfl rfl,
    ⟨Nat.le_refl _, Nat.le_refl _, Nat.le_refl _⟩, fun j hj => by simp [tk2, mT0], fun k j k1 k2 hj => ?_, fun k j k1 k2 hj => ?_, by simp [tk2, mT0], fun y _ => rfl⟩ rfl⟩
  · have e1 : ¬ k = 0 := by omega
    have e2 : ¬ k = 10 := by omega
    simp [tk2, mT0, e1, e2]
  · have e1 : ¬ k = 0 := by omega
    have e2 : ¬ k = 10 := by omega
    simp [tk2, mT0, e1, e2]
theorem p_setLeak (h : wRel nt ns np c q m) (i y : Int32) :
    ansR [(xIOB, 1), (xIAE, 2)] (xSetLeak i y q).1 (mSetLeak nt i y m).1 ((mSetLeak nt i y m).2.1 0 0) ∧ staR nt ns np c m (xSetLeak i y q).2 (mSetLeak nt i y m).2 := by
  have hn := h.1.1.1.2.2
  unfold xSetLeak mSetLeak
  rw [h.1.1.1.1]
  by_cases h1 : off i nt
  · rw [if_pos ((bad_off (by omega)).mpr h1), if_pos h1]
    exact ⟨.no _ _ List.mem_cons_self, .fail h 1⟩
  rw [if_neg (fun z => h1 ((bad_off (by omega)).mp z)), if_neg h1]
  obtain ⟨t, ht, rfl⟩ := off_not (by omega) h1
  rw [nI_clamp (by omega)]
  have e3 : q.1 4 t = m.1 11 t := h.1.2.1.1.2 t ht
  rw [← e3]
  by_cases h2 : bad y 0 1000000
  · rw [if_pos h2, if_pos h2]
    exact ⟨.no _ _ mem2, .fail h 2⟩
  rw [if_neg h2, if_neg h2]
  refine ⟨Or.inl ⟨rfl, by simp [tk2, mT0]⟩, .of ⟨wRel.setK h (i := t) y (bad_Z.mp h2) (fun j => by simp [tk2]) (fun j => by simp [tk2, mT0]) (fun j z => by simp [tk2, mT0, z]) (fun k k1 => by funext j; simp [tk2, k1]) (fun k k1 k2 => by funext j; simp [tk2, mT0, k1, k2]) rfl rfl,
    ⟨Nat.le_refl _, Nat.le_refl _, Nat.le_refl _⟩, fun j hj => by simp [tk2, mT0], fun k j k1 k2 hj => ?_, fun k j k1 k2 hj => ?_, by simp [tk2, mT0], fun y _ => rfl⟩ rfl⟩
  · have e1 : ¬ k = 0 := by omega
    have e2 : ¬ k = 11 := by omega
    simp [tk2, mT0, e1, e2]
  · have e1 : ¬ k = 0 := by omega
    have e2 : ¬ k = 11 := by omega
    simp [tk2, mT0, e1, e2]
theorem p_setRate (h : wRel nt ns np c q m) (i y : Int32) :
    ansR [(xIOB, 1), (xIAE, 2)] (xSetRate i y q).1 (mSetRate np i y m).1 ((mSetRate np i y m).2.1 0 0) ∧ staR nt ns np c m (xSetRate i y q).2 (mSetRate np i y m).2 := by
  have hn := h.1.1.2.2.2.2
  unfold xSetRate mSetRate
  rw [h.1.1.2.2.1]
  by_cases h1 : off i np
  · rw [if_pos ((bad_off (by omega)).mpr h1), if_pos h1]
    exact ⟨.no _ _ List.mem_cons_self, .fail h 1⟩
  rw [if_neg (fun z => h1 ((bad_off (by omega)).mp z)), if_neg h1]
  obtain ⟨t, ht, rfl⟩ := off_not (by omega) h1
  rw [nI_clamp (by omega)]
  have e3 : q.1 15 t = m.1 14 t := h.1.2.1.2.2.2.2.1 t ht
  rw [← e3]
  by_cases h2 : bad y 1 1000000
  · rw [if_pos h2, if_pos h2]
    exact ⟨.no _ _ mem2, .fail h 2⟩
  rw [if_neg h2, if_neg h2]
  refine ⟨Or.inl ⟨rfl, by simp [tk2, mT0]⟩, .of ⟨wRel.setR h (i := t) y (bad_Z.mp h2) (fun j => by simp [tk2]) (fun j => by simp [tk2, mT0]) (fun j z => by simp [tk2, mT0, z]) (fun k k1 => by funext j; simp [tk2, k1]) (fun k k1 k2 => by funext j; simp [tk2, mT0, k1, k2]) rfl rfl,
    ⟨Nat.le_refl _, Nat.le_refl _, Nat.le_refl _⟩, fun j hj => by simp [tk2, mT0], fun k j k1 k2 hj => ?_, fun k j k1 k2 hj => ?_, by simp [tk2, mT0], fun y _ => rfl⟩ rfl⟩
  · have e1 : ¬ k = 0 := by omega
    have e2 : ¬ k = 14 := by omega
    simp [tk2, mT0, e1, e2]
  · have e1 : ¬ k = 0 := by omega
    have e2 : ¬ k = 14 := by omega
    simp [tk2, mT0, e1, e2]
theorem staR.tk {r c2 : Nat} {q' : tkI × tkL} (hr : r ≤ 5000) (hc : c2 ≤ c + 50000) (hw : wRel nt ns np c2 q' (mTk nt ns np r (mT0 m.1, m.2))) : staR nt ns np c m q' (mTk nt ns np r (mT0 m.1, m.2)) := by
  obtain ⟨⟨k1, k2⟩, k3, k4⟩ := mTk_keep nt ns np (mT0 m.1, m.2) r
  have z := z0.t0 m.1
  exact ⟨nt, ns, np, c2, r, hc, hr, k4, hw, ⟨Nat.le_refl _, Nat.le_refl _, Nat.le_refl _⟩, fun j _ => by rw [k1 1 (by decide) (by decide) (by decide) (by decide)]; exact z 1 j (by omega), fun k j a b _ => by rw [k1 k (by omega) (by omega) (by omega) (by omega)]; exact z k j (by omega),
    fun k j a b _ => by rw [k1 k (by omega) (by omega) (by omega) (by omega)]; exact z k j (by omega), (k2 26 (by decide)).trans (z 0 26 (by omega)), fun y _ => by rw [k3]⟩
theorem mTk_00 (r : Nat) : (mTk nt ns np r (mT0 m.1, m.2)).1 0 0 = 0 := ((mTk_keep nt ns np (mT0 m.1, m.2) r).1.2 0 (by decide)).trans (mT0_0 m.1)
theorem p_run (h : wRel nt ns np c q m) (hc : c + 60000 < 2 ^ 62) (n : Int32) :
    ansR [(xIAE, 1)] (xRun nt ns np n q).1 (mXRun nt ns np n m).1 ((mXRun nt ns np n m).2.1 0 0) ∧ staR nt ns np c m (xRun nt ns np n q).2 (mXRun nt ns np n m).2 := by
  unfold xRun mXRun
  by_cases h1 : bad n 0 5000
  · rw [if_pos h1, if_pos h1]
    exact ⟨.no _ _ List.mem_cons_self, .fail h 1⟩
  rw [if_neg h1, if_neg h1]
  obtain ⟨k, -, hk, rfl⟩ := bad_5000 (a := 0) (by omega) h1
  rw [nI_clamp (by omega)]
  have h0 : wRel nt ns np c q (mT0 m.1, m.2) := h.z0 (z0.t0 m.1)
  obtain ⟨e, c2, g1, g2, g3⟩ := adv_rel (m0 := (mT0 m.1, m.2)) hk k 0 c q 0 (by omega) (by omega) (by omega) h0 rfl
  rw [nI_0] at e g3
  dsimp only
  rw [mRun_1, e]
  exact ⟨Or.inl ⟨rfl, mTk_00 k⟩, .tk hk (by omega) g3⟩
theorem p_runUntil (h : wRel nt ns np c q m) (hc : c + 60000 < 2 ^ 62) (i lv b n : Int32) :
    ansR [(xIOB, 1), (xIAE, 2)] (xRunUntil nt ns np i lv b n q).1 (mXUnt nt ns np i lv b n m).1 ((mXUnt nt ns np i lv b n m).2.1 0 0) ∧ staR nt ns np c m (xRunUntil nt ns np i lv b n q).2 (mXUnt nt ns np i lv b n m).2 := by
  have hn := h.1.1.1.2.2
  unfold xRunUntil mXUnt
  rw [h.1.1.1.1]
  by_cases h1 : off i nt
  · rw [if_pos ((bad_off (by omega)).mpr h1), if_pos h1]
    exact ⟨.no _ _ List.mem_cons_self, .fail h 1⟩
  rw [if_neg (fun z => h1 ((bad_off (by omega)).mp z)), if_neg h1]
  obtain ⟨t, ht, rfl⟩ := off_not (by omega) h1
  rw [nI_clamp (by omega)]
  by_cases h2 : bad n 0 5000
  · rw [if_pos h2, if_pos h2]
    exact ⟨.no _ _ mem2, .fail h 2⟩
  rw [if_neg h2, if_neg h2]
  obtain ⟨k, -, hk, rfl⟩ := bad_5000 (a := 0) (by omega) h2
  rw [nI_clamp (by omega)]
  have h0 : wRel nt ns np c q (mT0 m.1, m.2) := h.z0 (z0.t0 m.1)
  obtain ⟨e, c2, g1, g2, g3⟩ := until_rel (mark := lv) (b := b) hk ht (by omega) h0
  obtain ⟨r, r1, r2⟩ := mUnt_tk nt ns np t lv b k 0 (mT0 m.1, m.2)
  dsimp only
  rw [r2] at g3 ⊢
  rw [e]
  exact ⟨Or.inl ⟨rfl, mTk_00 r⟩, .tk (by omega) (by omega) g3⟩
theorem p_nextChange (h : wRel nt ns np c q m) (hc : c + 60000 < 2 ^ 62) (n : Int32) (t : tkI × tkL) :
    ansR [(xIAE, 1)] (xNext nt ns np n q t).1 (mXNext nt ns np n m).1 ((mXNext nt ns np n m).2.1 0 0) ∧ staR nt ns np c m q (mXNext nt ns np n m).2 := by
  unfold xNext mXNext
  by_cases h1 : bad n 1 5000
  · rw [if_pos h1, if_pos h1]
    exact ⟨.no _ _ List.mem_cons_self, .fail h 1⟩
  rw [if_neg h1, if_neg h1]
  obtain ⟨k, k1, hk, rfl⟩ := bad_5000 (a := 1) (by omega) h1
  rw [nI_clamp (by omega)]
  obtain ⟨m1, e1⟩ : ∃ m1, m1 = mWr (164 * 4) 164 (mT0 m.1, m.2) := ⟨_, rfl⟩
  rw [← e1]
  have z := z0.t0 m.1
  have mI : ∀ r j, ¬ (r = 0 ∧ j = 28) → m1.1 r j = mT0 m.1 r j := fun r j hr => by rw [e1]; exact tk2_o hr
  have mL : ∀ r, r ≠ 20 → m1.2 r = m.2 r := fun r hr => by rw [e1]; exact if_neg hr
  have m20 : ∀ y, m1.2 20 y = wr (164 * 4) 164 (ser (mT0 m.1) m.2) (m.2 20) y := fun y => by
    rw [e1]
    show (if (20 : Nat) = 20 then wr (164 * 4) 164 (ser (mT0 m.1) m.2) (m.2 20) else m.2 20) y = _
    rw [if_pos rfl]
  have h0 : wRel nt ns np c q (mT0 m.1, m.2) := h.z0 z
  have hm1 : wRel nt ns np c (sCpI q.1 t.1, sCpL q.2 t.2) m1 := (h0.mcongr (fun r j hr => mI r j (fun z => by unfold rlI at hr; omega)) (fun r j hr => by rw [mL r (fun z => by unfold rlL at hr; omega)])).core (sCp_core q t)
  have e := next_rel hk k 1 c _ m1 (Nat.le_refl _) (by omega) (by omega) (by omega) hm1
  rw [show k + 1 - 1 = k by omega] at e
  obtain ⟨r, r1, r2⟩ := mNxt_tk nt ns np k 1 m1
  have hB1 : (mBack (mNxt nt ns np k 1 m1)).1 = if (mNxt nt ns np k 1 m1).2 = 0 then -1 else nI (mNxt nt ns np k 1 m1).2 := rfl
  have hB2 : (mBack (mNxt nt ns np k 1 m1)).2 = mRd (164 * 4) 164 (tk2 (mNxt nt ns np k 1 m1).1.1 0 28 (nI (164 * 4 + 0)), (mNxt nt ns np k 1 m1).1.2) := rfl
  rw [hB1, hB2, ← e, r2]
  obtain ⟨⟨t1, t2⟩, t3, -⟩ := mTk_keep nt ns np m1 r
  generalize mTk nt ns np r m1 = x at *
  obtain ⟨M, eM⟩ : ∃ M : tkI × tkL, M = (tk2 x.1 0 28 (nI (164 * 4 + 0)), x.2) := ⟨_, rfl⟩
  rw [← eM]
  have MI : ∀ r j, r ≠ 10 → r ≠ 13 → r ≠ 19 → ¬ (r = 0 ∧ j = 28) → ¬ (r = 0 ∧ j = 23) → M.1 r j = mT0 m.1 r j := fun r j a b d f g => by
    rw [eM]
    show tk2 x.1 0 28 _ r j = _
    rw [tk2_o f, ← mI r j f]
    by_cases e0 : r = 0
    · subst e0
      exact t2 j (fun y => g ⟨rfl, y⟩)
    · rw [t1 r e0 a b d]
  have M20 : ∀ y, M.2 20 y = wr (164 * 4) 164 (ser (mT0 m.1) m.2) (m.2 20) y := fun y => by
    rw [eM]
    show x.2 20 y = _
    rw [t3, m20]
  have hSN : SN nt ns np c q M.1 (fun y => M.2 20 (164 * 4 + y)) := SN.save h0 (fun y hy => by
    show M.2 20 (164 * 4 + y) = _
    rw [M20]
    unfold wr
    rw [if_pos (by omega), Nat.add_sub_cancel_left]) (fun r j a b => MI r j (by omega) (by omega) (by omega) (by omega) (by omega))
  have hR := hSN.read
  obtain ⟨d1, d2⟩ := mRd_all (164 * 4) M
  have st : ∀ r j, 1 ≤ r → r ≤ 9 → (mRd (164 * 4) 164 M).1 r j = m.1 r j := fun r j a b => by
    rw [d1 r j (by omega)]
    show (if ixI r j < 164 then vaI r (M.2 20 (164 * 4 + ixI r j)) else M.1 r j) = m.1 r j
    rw [if_neg (ixI_st (by omega)), MI r j (by omega) (by omega) (by omega) (by omega) (by omega)]
    exact z r j (by omega)
  refine ⟨Or.inl ⟨rfl, ?_⟩, .of ⟨hR, ⟨Nat.le_refl _, Nat.le_refl _, Nat.le_refl _⟩, fun j _ => st 1 j (by omega) (by omega), fun r j a b _ => st r j (by omega) (by omega), fun r j a b _ => st r j (by omega) (by omega), ?_, fun y hy => ?_⟩ ?_⟩
  · rw [d1 0 0 (by omega)]
    show (if ixI 0 0 < 164 then vaI 0 (M.2 20 (164 * 4 + ixI 0 0)) else M.1 0 0) = 0
    rw [if_neg (show ¬ ixI 0 0 < 164 from Nat.lt_irrefl 164), MI 0 0 (by decide) (by decide) (by decide) (by decide) (by decide)]
    exact tk2_at
  · rw [mRd_26, MI 0 26 (by decide) (by decide) (by decide) (by decide) (by decide)]
    exact z 0 26 (by omega)
  · rw [d2 20 y]
    show (if ixL 20 y < 164 then M.2 20 (164 * 4 + ixL 20 y) else M.2 20 y) = m.2 20 y
    rw [if_neg (show ¬ ixL 20 y < 164 from Nat.lt_irrefl 164), M20]
    unfold wr
    rw [if_neg (by omega)]
  · have w1 : q.2 0 4 = (mRd (164 * 4) 164 M).2 0 21 := hR.2.2.2.2.2.1
    have w2 : q.2 0 4 = m.2 0 21 := h.2.2.2.2.2.1
    exact w1.symm.trans w2
end TKPAIRS

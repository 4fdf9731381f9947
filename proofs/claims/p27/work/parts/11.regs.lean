
section TKREG
/-- a block of N cells from p on, the rest elsewhere -/
def reg {α : Type} (p N : Nat) (f v : Nat → Nat → α) : Nat → Nat → α := fun a => if p ≤ a ∧ a < p + N then f (a - p) else v a
theorem reg_at {α : Type} {p N k : Nat} {f v : Nat → Nat → α} (hk : k < N) : reg p N f v (p + k) = f k := by
  rw [reg, if_pos ⟨Nat.le_add_right _ _, by omega⟩, Nat.add_sub_cancel_left]
theorem reg_off {α : Type} {p N a : Nat} {f v : Nat → Nat → α} (h : a < p ∨ p + N ≤ a) : reg p N f v a = v a := by
  rw [reg, if_neg (by omega)]
theorem tk2_reg {α : Type} {p N k i : Nat} {x : α} {f v : Nat → Nat → α} (hk : k < N) : tk2 (reg p N f v) (p + k) i x = reg p N (tk2 f k i x) v := by
  funext a j
  simp only [tk2, reg]
  by_cases h : p ≤ a ∧ a < p + N
  · rw [if_pos h, if_pos h]
    by_cases e : a = p + k
    · subst e
      simp [tk2]
    · have e2 : ¬ a - p = k := by omega
      simp [tk2, e, e2]
  · rw [if_neg h, if_neg h]
    have e : ¬ a = p + k := by omega
    simp [e]
theorem tk1_reg {α : Type} {p N k : Nat} {x : Nat → α} {f v : Nat → Nat → α} (hk : k < N) : tk1 (reg p N f v) (p + k) x = reg p N (tk1 f k x) v := by
  funext a
  simp only [tk1, reg]
  by_cases h : p ≤ a ∧ a < p + N
  · rw [if_pos h, if_pos h]
    by_cases e : a = p + k
    · subst e
      simp [tk1]
    · have e2 : ¬ a - p = k := by omega
      simp [tk1, e, e2]
  · rw [if_neg h, if_neg h]
    have e : ¬ a = p + k := by omega
    simp [e]
theorem reg_eta {α : Type} (p N : Nat) (v : Nat → Nat → α) : reg p N (fun k => v (p + k)) v = v := by
  funext a
  simp only [reg]
  by_cases h : p ≤ a ∧ a < p + N
  · rw [if_pos h, show p + (a - p) = a by omega]
  · rw [if_neg h]
theorem reg_reg {α : Type} (p N : Nat) (f g v : Nat → Nat → α) : reg p N f (reg p N g v) = reg p N f v := by
  funext a
  simp only [reg]
  by_cases h : p ≤ a ∧ a < p + N
  · rw [if_pos h, if_pos h]
  · rw [if_neg h, if_neg h, if_neg h]
theorem reg_congr {α : Type} {p N : Nat} {f g v : Nat → Nat → α} (h : ∀ k, k < N → f k = g k) : reg p N f v = reg p N g v := by
  funext a
  simp only [reg]
  by_cases q : p ≤ a ∧ a < p + N
  · rw [if_pos q, if_pos q, h _ (by omega)]
  · rw [if_neg q, if_neg q]
/-- the shapes and the inner references of a block -/
def tkReg (N : Nat) (T : Nat → Nat × Nat) (F : Nat → Nat → Option Nat) (σ : tkM) (p : Nat) : Prop := (∀ k, k < N → σ.2.1 (p + k) = T k) ∧ ∀ k j o, k < N → F k j = some o → σ.2.2 (p + k) j = some (p + o)
/-- a plant: itself, tanks (1..6), switches (7..11), pumps (12..24), log (25..27) -/
def pT (k : Nat) : Nat × Nat := match k with
  | 0 => (1, 0) | 1 => (4, 0) | 2 => (10, 8) | 3 => (10, 8) | 4 => (10, 8) | 5 => (11, 8) | 6 => (10, 8)
  | 7 => (3, 0) | 8 => (10, 10) | 9 => (10, 10) | 10 => (10, 10) | 11 => (12, 10)
  | 12 => (2, 0) | 13 => (10, 16) | 14 => (10, 16) | 15 => (10, 16) | 16 => (10, 16) | 17 => (10, 16) | 18 => (12, 16) | 19 => (11, 16) | 20 => (11, 16) | 21 => (11, 16) | 22 => (10, 16) | 23 => (10, 16) | 24 => (10, 16)
  | 25 => (0, 0) | 26 => (11, 30) | 27 => (10, 30) | _ => (99, 0)
def pF (k j : Nat) : Option Nat := match k with
  | 0 => (match j with | 0 => some 1 | 1 => some 7 | 2 => some 12 | 3 => some 25 | _ => none)
  | 1 => (match j with | 1 => some 2 | 2 => some 3 | 3 => some 4 | 4 => some 5 | 5 => some 6 | _ => none)
  | 7 => (match j with | 1 => some 8 | 2 => some 9 | 3 => some 10 | 4 => some 11 | _ => none)
  | 12 => (match j with | 1 => some 13 | 2 => some 14 | 3 => some 15 | 4 => some 16 | 5 => some 17 | 6 => some 18 | 7 => some 19 | 8 => some 20 | 9 => some 21 | 10 => some 22 | 11 => some 23 | 12 => some 24 | _ => none)
  | 25 => (match j with | 1 => some 26 | 2 => some 27 | _ => none)
  | _ => none
/-- the reference: itself, then its twenty rows -/
def mT (k : Nat) : Nat × Nat := match k with
  | 0 => (6, 0) | 1 => (10, 8) | 2 => (10, 10) | 3 => (10, 10) | 4 => (10, 10) | 5 => (10, 16) | 6 => (10, 16) | 7 => (10, 16) | 8 => (10, 16) | 9 => (12, 16) | 10 => (10, 8) | 11 => (10, 8) | 12 => (11, 8) | 13 => (12, 10) | 14 => (10, 16) | 15 => (11, 16) | 16 => (11, 16) | 17 => (11, 16) | 18 => (11, 30) | 19 => (10, 30) | 20 => (11, 820) | _ => (99, 0)
def mF (k j : Nat) : Option Nat := match k with
  | 0 => (match j with | 2 => some 1 | 4 => some 2 | 5 => some 3 | 6 => some 4 | 8 => some 5 | 9 => some 6 | 10 => some 7 | 11 => some 8 | 12 => some 9 | 13 => some 10 | 14 => some 11 | 15 => some 12 | 16 => some 13 | 17 => some 14 | 18 => some 15 | 19 => some 16 | 20 => some 17 | 24 => some 18 | 25 => some 19 | 27 => some 20 | _ => none)
  | _ => none
/-! array rules for indices that are small naturals -/
variable {X : tkX} {Q : State → Prop} {cc : ByteArray} {own nm : String} {nL d MC MS cs ss pc : Nat} {ret : Option FieldType} {hh : List (Nat × Nat × Nat × Nat)} {lv : List (Option Value)} {stk : List Value} {σ : tkM} {I : tkI} {L : tkL}
theorem g_ia (C : tkC X cc own nm nL ret hh d MC MS) {a n j : Nat} {i : Int32} {f : Nat → Int32} (hd : decode cc pc = .ok (.iaload, 1)) (hS : σ.2.1 a = (10, n)) (hI : I a = f) (hi : i = nI j) (hj : j < n) (hn : n < 2 ^ 31) (kk : tkG X Q cs ss (pc + 1) lv (.int (f j) :: stk) σ I L) : tkG X Q cs ss pc lv (.int i :: .ref a :: stk) σ I L := by
  subst hi
  exact g_iald C hd hS hI (vp_in_nI hj hn) (by rw [nI_clamp (by omega)]; exact kk)
theorem g_la (C : tkC X cc own nm nL ret hh d MC MS) {a n j : Nat} {i : Int32} {f : Nat → Int64} (hd : decode cc pc = .ok (.laload, 1)) (hS : σ.2.1 a = (11, n)) (hI : L a = f) (hi : i = nI j) (hj : j < n) (hn : n < 2 ^ 31) (kk : tkG X Q cs ss (pc + 1) lv (.long (f j) :: stk) σ I L) : tkG X Q cs ss pc lv (.int i :: .ref a :: stk) σ I L := by
  subst hi
  exact g_lald C hd hS hI (vp_in_nI hj hn) (by rw [nI_clamp (by omega)]; exact kk)
theorem g_za (C : tkC X cc own nm nL ret hh d MC MS) {a n j : Nat} {i : Int32} {f : Nat → Int32} (hd : decode cc pc = .ok (.baload, 1)) (hS : σ.2.1 a = (12, n)) (hI : I a = f) (hi : i = nI j) (hj : j < n) (hn : n < 2 ^ 31) (kk : (f j = 0 ∨ f j = 1) → tkG X Q cs ss (pc + 1) lv (.int (f j) :: stk) σ I L) : tkG X Q cs ss pc lv (.int i :: .ref a :: stk) σ I L := by
  subst hi
  exact g_zald C hd hS hI (vp_in_nI hj hn) (by rw [nI_clamp (by omega)]; exact kk)
theorem g_is (C : tkC X cc own nm nL ret hh d MC MS) {a n j : Nat} {i x : Int32} {I1 : tkI} (hd : decode cc pc = .ok (.iastore, 1)) (hS : σ.2.1 a = (10, n)) (hI : tk2 I a j x = I1) (hi : i = nI j) (hj : j < n) (hn : n < 2 ^ 31) (kk : tkG X Q cs ss (pc + 1) lv stk σ I1 L) : tkG X Q cs ss pc lv (.int x :: .int i :: .ref a :: stk) σ I L := by
  subst hi
  exact g_iast C hd hS (by rw [nI_clamp (by omega)]; exact hI) (vp_in_nI hj hn) kk
theorem g_zs (C : tkC X cc own nm nL ret hh d MC MS) {a n j : Nat} {i x : Int32} {I1 : tkI} (hd : decode cc pc = .ok (.bastore, 1)) (hS : σ.2.1 a = (12, n)) (hI : tk2 I a j x = I1) (hi : i = nI j) (hj : j < n) (hn : n < 2 ^ 31) (h01 : x = 0 ∨ x = 1) (kk : tkG X Q cs ss (pc + 1) lv stk σ I1 L) : tkG X Q cs ss pc lv (.int x :: .int i :: .ref a :: stk) σ I L := by
  subst hi
  exact g_zast C hd hS (by rw [nI_clamp (by omega)]; exact hI) (vp_in_nI hj hn) h01 kk
theorem g_ls (C : tkC X cc own nm nL ret hh d MC MS) {a n j : Nat} {i : Int32} {x : Int64} {L1 : tkL} (hd : decode cc pc = .ok (.lastore, 1)) (hS : σ.2.1 a = (11, n)) (hI : tk2 L a j x = L1) (hi : i = nI j) (hj : j < n) (hn : n < 2 ^ 31) (kk : tkG X Q cs ss (pc + 1) lv stk σ I L1) : tkG X Q cs ss pc lv (.long x :: .int i :: .ref a :: stk) σ I L := by
  subst hi
  exact g_last C hd hS (by rw [nI_clamp (by omega)]; exact hI) (vp_in_nI hj hn) kk
variable {rest : List Value} {σ' : tkM} {I' : tkI} {L' : tkL}
theorem tk_retv {v : Value} (k : tkG X Q cs ss pc lv (v :: rest) σ' I' L') : ∀ (v' : Option Value) (n : Nat), (Sum.inl (some v) : tkOut) = .inl v' → σ'.1 ≤ n → (false = false → n = σ'.1) → tkG X Q cs ss pc lv (v'.toList ++ rest) (n, σ'.2) I' L' := by
  intro v' n h1 _ h3
  cases h1
  cases h3 rfl
  exact k
theorem tk_retn (k : tkG X Q cs ss pc lv rest σ' I' L') : ∀ (v' : Option Value) (n : Nat), (Sum.inl none : tkOut) = .inl v' → σ'.1 ≤ n → (false = false → n = σ'.1) → tkG X Q cs ss pc lv (v'.toList ++ rest) (n, σ'.2) I' L' := by
  intro v' n h1 _ h3
  cases h1
  cases h3 rfl
  exact k
theorem tk_nothr {v : Option Value} : ∀ (E : String) (n : Nat), (Sum.inl v : tkOut) = .inr E → σ'.1 ≤ n → tkT X Q cs ss pc lv rest (n, σ'.2) I' L' E := by
  intro E n h1
  cases h1
theorem tk_noret {E : String} : ∀ (v' : Option Value) (n : Nat), (Sum.inr E : tkOut) = .inl v' → σ'.1 ≤ n → (false = false → n = σ'.1) → tkG X Q cs ss pc lv (v'.toList ++ rest) (n, σ'.2) I' L' := by
  intro v' n h1
  cases h1
theorem tk_thr {E : String} (k : ∀ n, σ'.1 ≤ n → tkT X Q cs ss pc lv rest (n, σ'.2) I' L' E) : ∀ (E' : String) (n : Nat), (Sum.inr E : tkOut) = .inr E' → σ'.1 ≤ n → tkT X Q cs ss pc lv rest (n, σ'.2) I' L' E' := by
  intro E' n h1 h2
  cases h1
  exact k n h2
end TKREG

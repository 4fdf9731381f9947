section TKLSPEC
/-- the law's rows: capacities, levels, leaks, sums; watched, lows, highs, areOn; froms, tos, rates, controls, areInverted, totals, shorts -/
def lT (k : Nat) : Nat × Nat := match k with
  | 0 => (10, 3) | 1 => (10, 3) | 2 => (10, 3) | 3 => (11, 3)
  | 4 => (10, 2) | 5 => (10, 2) | 6 => (10, 2) | 7 => (12, 2)
  | 8 => (10, 4) | 9 => (10, 4) | 10 => (10, 4) | 11 => (10, 4) | 12 => (12, 4) | 13 => (11, 4) | 14 => (11, 4) | _ => (99, 0)
def lF : Nat → Nat → Option Nat := fun _ _ => none
/-- what the making of the program's object leaves -/
def lwP5 (B : Nat) (σ : tkM) : Prop := tkTP σ B (B + 1) (B + 29) (B + 57) ∧ tkReg 28 pT pF σ (B + 1)
def lwP (B q n : Nat) (σ : tkM) : Prop := lwP5 B σ ∧ tkReg n lT lF σ q ∧ σ.1 = q + n ∧ B + 58 ≤ q
/-- memory: the law's rows J from q on, the plant's rows P from B + 1 on -/
def mI (B q : Nat) (J P : tkI) : tkI := reg q 15 J (reg (B + 1) 28 P zI)
def mL (B q : Nat) (K L : tkL) : tkL := reg q 15 K (reg (B + 1) 28 L zL)
theorem reg_swap {α : Type} {p N q M : Nat} {f g v : Nat → Nat → α} (h : p + N ≤ q) : reg q M g (reg p N f v) = reg p N f (reg q M g v) := by
  funext a
  simp only [reg]
  by_cases h1 : q ≤ a ∧ a < q + M
  · rw [if_pos h1, if_neg (by omega), if_pos h1]
  · rw [if_neg h1]
    by_cases h2 : p ≤ a ∧ a < p + N
    · rw [if_pos h2, if_pos h2]
    · rw [if_neg h2, if_neg h2, if_neg h1]
theorem mI_swap {B q : Nat} (h : B + 58 ≤ q) (J P : tkI) : mI B q J P = reg (B + 1) 28 P (reg q 15 J zI) := reg_swap (by omega)
theorem mL_swap {B q : Nat} (h : B + 58 ≤ q) (K L : tkL) : mL B q K L = reg (B + 1) 28 L (reg q 15 K zL) := reg_swap (by omega)
/-- the law's locals, from the first run on -/
def lvM (sb B q : Nat) (c17 c18 : Int32) (l19 l20 l21 l22 l23 : Option Value) : List (Option Value) :=
  [some (.ref sb), some (.ref B), some (.ref (q + 0)), some (.ref (q + 1)), some (.ref (q + 2)), some (.ref (q + 3)), some (.ref (q + 4)), some (.ref (q + 5)), some (.ref (q + 6)), some (.ref (q + 7)), some (.ref (q + 8)), some (.ref (q + 9)), some (.ref (q + 10)), some (.ref (q + 11)), some (.ref (q + 12)), some (.ref (q + 13)), some (.ref (q + 14)),
   some (.int c17), some (.int c18), l19, l20, l21, l22, l23]
/-! the law's tick -/
def lDue (J : tkI) (k : Nat) : Int32 := if J 1 (J 4 k).toNatClampNeg ≤ J 5 k then 1 else if J 6 k ≤ J 1 (J 4 k).toNatClampNeg then 0 else J 7 k
def lFol (k : Nat) (a : tkI × Int32) : tkI × Int32 := (tk2 a.1 7 k (lDue a.1 k), a.2 + if lDue a.1 k = a.1 7 k then 0 else 1)
def lA1 (J : tkI) (k : Nat) : Int32 := if J 8 k < 0 then J 10 k else jmin (J 10 k) (J 1 (J 8 k).toNatClampNeg)
def lAmt (J : tkI) (k : Nat) : Int32 := if J 9 k < 0 then lA1 J k else jmin (lA1 J k) (J 0 (J 9 k).toNatClampNeg - J 1 (J 9 k).toNatClampNeg)
def lMv1 (m : Int32) (k : Nat) (J : tkI) : tkI := if J 8 k < 0 then J else tk2 J 1 (J 8 k).toNatClampNeg (J 1 (J 8 k).toNatClampNeg - m)
def lMv2 (m : Int32) (k : Nat) (J : tkI) : tkI := if J 9 k < 0 then J else tk2 J 1 (J 9 k).toNatClampNeg (J 1 (J 9 k).toNatClampNeg + m)
def lEnt (m : Int32) (k : Nat) (J : tkI) (K : tkL) : tkL := (fun K1 : tkL => tk2 K1 14 k (K1 14 k + if J 10 k ≤ m then 0 else 1)) (tk2 K 13 k (K 13 k + m.toInt64))
def lPump (k : Nat) (a : tkI × tkL) : tkI × tkL :=
  if ¬ a.1 11 k < 0 ∧ a.1 7 (a.1 11 k).toNatClampNeg = a.1 12 k then a else (lMv2 (lAmt a.1 k) k (lMv1 (lAmt a.1 k) k a.1), lEnt (lAmt a.1 k) k (lMv2 (lAmt a.1 k) k (lMv1 (lAmt a.1 k) k a.1)) a.2)
def lLeak (t : Nat) (a : tkI × tkL) : tkI × tkL := (fun J1 : tkI => (J1, tk2 a.2 3 t (a.2 3 t + (J1 1 t).toInt64))) (tk2 a.1 1 t (jmax (a.1 1 t - a.1 2 t) 0))
def lTick (a : (tkI × tkL) × Int32) : (tkI × tkL) × Int32 := (itr lLeak 3 (itr lPump 4 ((itr lFol 2 (a.1.1, a.2)).1, a.1.2)), (itr lFol 2 (a.1.1, a.2)).2)
def lTks (n : Nat) (a : (tkI × tkL) × Int32) : (tkI × tkL) × Int32 := itr (fun _ => lTick) n a
/-! which rows a tick leaves -/
theorem lFol_keep (k : Nat) (a : tkI × Int32) {r : Nat} (h : r ≠ 7) : (lFol k a).1 r = a.1 r := by
  funext j
  exact tk2_ne h
theorem lMv1_keep (m : Int32) (k : Nat) (J : tkI) {r : Nat} (h : r ≠ 1) : lMv1 m k J r = J r := by
  unfold lMv1
  split
  · rfl
  · funext j
    exact tk2_ne h
theorem lMv2_keep (m : Int32) (k : Nat) (J : tkI) {r : Nat} (h : r ≠ 1) : lMv2 m k J r = J r := by
  unfold lMv2
  split
  · rfl
  · funext j
    exact tk2_ne h
theorem lPump_keep (k : Nat) (a : tkI × tkL) {r : Nat} (h : r ≠ 1) : (lPump k a).1 r = a.1 r := by
  unfold lPump
  split
  · rfl
  · exact (lMv2_keep _ _ _ h).trans (lMv1_keep _ _ _ h)
theorem lLeak_keep (t : Nat) (a : tkI × tkL) {r : Nat} (h : r ≠ 1) : (lLeak t a).1 r = a.1 r := by
  funext j
  exact tk2_ne h
theorem lTick_keep (a : (tkI × tkL) × Int32) {r : Nat} (h1 : r ≠ 1) (h7 : r ≠ 7) : (lTick a).1.1 r = a.1.1 r := by
  unfold lTick
  dsimp only
  rw [itr_keep (g := fun x : tkI × tkL => x.1 r) (fun i x => lLeak_keep i x h1), itr_keep (g := fun x : tkI × tkL => x.1 r) (fun i x => lPump_keep i x h1)]
  exact itr_keep (g := fun x : tkI × Int32 => x.1 r) (fun i x => lFol_keep i x h7) 2 (a.1.1, a.2)
theorem lTks_keep (n : Nat) (a : (tkI × tkL) × Int32) {r : Nat} (h1 : r ≠ 1) (h7 : r ≠ 7) : (lTks n a).1.1 r = a.1.1 r :=
  itr_keep (g := fun x : (tkI × tkL) × Int32 => x.1.1 r) (fun _ x => lTick_keep x h1 h7) n a
/-- the rows that name others are in order -/
def wl (J : tkI) : Prop := (∀ k, k < 2 → ∃ j, j < 3 ∧ J 4 k = nI j) ∧ ∀ k, k < 4 → (J 8 k = -1 ∨ ∃ j, j < 3 ∧ J 8 k = nI j) ∧ (J 9 k = -1 ∨ ∃ j, j < 3 ∧ J 9 k = nI j) ∧ (J 11 k = -1 ∨ ∃ j, j < 2 ∧ J 11 k = nI j)
theorem wl.keep {J J' : tkI} (h : wl J) (h4 : J' 4 = J 4) (h8 : J' 8 = J 8) (h9 : J' 9 = J 9) (h11 : J' 11 = J 11) : wl J' := by
  unfold wl at *
  rw [h4, h8, h9, h11]
  exact h
theorem wl_end {x : Int32} {n : Nat} (h : x = -1 ∨ ∃ j, j < n ∧ x = nI j) (h2 : ¬ x < 0) : ∃ j, j < n ∧ x = nI j := by
  rcases h with h | h
  · exact absurd (by rw [h]; decide) h2
  · exact h
theorem wl.fol {x : tkI × Int32} {k : Nat} (h : wl x.1) : wl (lFol k x).1 := h.keep (lFol_keep _ _ (by decide)) (lFol_keep _ _ (by decide)) (lFol_keep _ _ (by decide)) (lFol_keep _ _ (by decide))
theorem wl.pump {a : tkI × tkL} {k : Nat} (h : wl a.1) : wl (lPump k a).1 := h.keep (lPump_keep _ _ (by decide)) (lPump_keep _ _ (by decide)) (lPump_keep _ _ (by decide)) (lPump_keep _ _ (by decide))
theorem wl.tick {a : (tkI × tkL) × Int32} (h : wl a.1.1) : wl (lTick a).1.1 := h.keep (lTick_keep _ (by decide) (by decide)) (lTick_keep _ (by decide) (by decide)) (lTick_keep _ (by decide) (by decide)) (lTick_keep _ (by decide) (by decide))
end TKLSPEC

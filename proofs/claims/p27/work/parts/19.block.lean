section TKBLOCK
/-- the shapes of a block -/
def rgS (p N : Nat) (T S : Nat → Nat × Nat) : Nat → Nat × Nat := fun a => if p ≤ a ∧ a < p + N then T (a - p) else S a
theorem rgS_at {p N k : Nat} {T S : Nat → Nat × Nat} (hk : k < N) : rgS p N T S (p + k) = T k := by
  rw [rgS, if_pos ⟨Nat.le_add_right _ _, by omega⟩, Nat.add_sub_cancel_left]
theorem rgS_off {p N a : Nat} {T S : Nat → Nat × Nat} (h : a < p ∨ p + N ≤ a) : rgS p N T S a = S a := by
  rw [rgS, if_neg (by omega)]
theorem rgS_push {p n : Nat} {T S : Nat → Nat × Nat} {sh : Nat × Nat} (h : T n = sh) : tk1 (rgS p n T S) (p + n) sh = rgS p (n + 1) T S := by
  subst h
  funext a
  simp only [tk1, rgS]
  by_cases e : a = p + n
  · subst e
    rw [if_pos rfl, if_pos ⟨by omega, by omega⟩, Nat.add_sub_cancel_left]
  · rw [if_neg e]
    by_cases q : p ≤ a ∧ a < p + n
    · rw [if_pos q, if_pos ⟨q.1, by omega⟩]
    · rw [if_neg q, if_neg (by omega)]
theorem rgS_0 (p : Nat) (T S : Nat → Nat × Nat) : rgS p 0 T S = S := by
  funext a
  rw [rgS, if_neg (by omega)]
theorem reg_0 {α : Type} (p : Nat) (f v : Nat → Nat → α) : reg p 0 f v = v := by
  funext a
  rw [reg, if_neg (by omega)]
theorem reg_push {α : Type} {p n : Nat} {f v : Nat → Nat → α} {x : Nat → α} : tk1 (reg p n f v) (p + n) x = reg p (n + 1) (tk1 f n x) v := by
  funext a
  simp only [tk1, reg]
  by_cases e : a = p + n
  · subst e
    rw [if_pos rfl, if_pos ⟨by omega, by omega⟩, Nat.add_sub_cancel_left, if_pos rfl]
  · rw [if_neg e]
    by_cases q : p ≤ a ∧ a < p + n
    · rw [if_pos q, if_pos ⟨q.1, by omega⟩, if_neg (by omega)]
    · rw [if_neg q, if_neg (by omega)]
/-- rows of zeros -/
def zI : tkI := fun _ _ => 0
def zL : tkL := fun _ _ => 0
theorem zI_1 (n : Nat) : tk1 zI n (fun _ => 0) = zI := by
  funext a j
  simp only [tk1, zI]
  split <;> rfl
theorem zL_1 (n : Nat) : tk1 zL n (fun _ => 0) = zL := by
  funext a j
  simp only [tk1, zL]
  split <;> rfl
def zR : Nat → Nat → Option Nat := fun _ _ => none
theorem tk2_off {α : Type} {p N a i : Nat} {x : α} {f v : Nat → Nat → α} (h : a < p ∨ p + N ≤ a) : tk2 (reg p N f v) a i x = reg p N f (tk2 v a i x) := by
  funext b j
  simp only [tk2, reg]
  by_cases q : p ≤ b ∧ b < p + N
  · rw [if_pos q, if_pos q, if_neg (by omega)]
  · rw [if_neg q, if_neg q]
    rfl
theorem tk1_off {α : Type} {p N a : Nat} {x : Nat → α} {f v : Nat → Nat → α} (h : a < p ∨ p + N ≤ a) : tk1 (reg p N f v) a x = reg p N f (tk1 v a x) := by
  funext b
  simp only [tk1, reg]
  by_cases q : p ≤ b ∧ b < p + N
  · rw [if_pos q, if_pos q, if_neg (by omega)]
  · rw [if_neg q, if_neg q]
def bM (p n : Nat) (T S : Nat → Nat × Nat) (R V : Nat → Nat → Option Nat) : tkM := (p + n, rgS p n T S, reg p n R V)
theorem bM_nw {p n : Nat} {T S : Nat → Nat × Nat} {R V : Nat → Nat → Option Nat} {sh : Nat × Nat} (h : T n = sh) : tkNw (bM p n T S R V) sh = bM p (n + 1) T S (tk1 R n (fun _ => none)) V := by
  show (p + n + 1, tk1 (rgS p n T S) (p + n) sh, tk1 (reg p n R V) (p + n) (fun _ => none)) = (p + (n + 1), rgS p (n + 1) T S, reg p (n + 1) (tk1 R n (fun _ => none)) V)
  rw [rgS_push h, reg_push]
  rfl
theorem bM_zI {p n : Nat} {T S : Nat → Nat × Nat} {R V : Nat → Nat → Option Nat} {I : tkI} : tkZI (bM p n T S R V) (reg p n zI I) = reg p (n + 1) zI I := by
  show tk1 (reg p n zI I) (p + n) (fun _ => 0) = _
  rw [reg_push, zI_1]
theorem bM_zL {p n : Nat} {T S : Nat → Nat × Nat} {R V : Nat → Nat → Option Nat} {L : tkL} : tkZL (bM p n T S R V) (reg p n zL L) = reg p (n + 1) zL L := by
  show tk1 (reg p n zL L) (p + n) (fun _ => 0) = _
  rw [reg_push, zL_1]
variable {X : tkX} {Q : State → Prop} {cc : ByteArray} {own nm : String} {nL d MC MS cs ss pc : Nat} {ret : Option FieldType} {hh : List (Nat × Nat × Nat × Nat)} {lv : List (Option Value)} {stk : List Value} {p n : Nat} {T S : Nat → Nat × Nat} {R V : Nat → Nat → Option Nat} {I : tkI} {L : tkL}
theorem b_new (C : tkC X cc own nm nL ret hh d MC MS) {idx : Nat} (ci : Nat) (q : vw_C) (hd : decode cc pc = .ok (.new idx, 3)) (hT : T n = (ci, 0)) (hw : Cond.classLink own idx q.1 ∈ tkAll) (hw2 : Cond.instantiable q.1 q.2.2 ∈ tkAll) (hw3 : Cond.initialized q.1 ∈ tkAll) (hc : vwCl[ci]? = some q) (h1 : cs + 1 ≤ MC) (h2 : ss + q.2.2 ≤ MS)
    (kk : tkG X Q (cs + 1) (ss + q.2.2) (pc + 3) lv (.ref (p + n) :: stk) (bM p (n + 1) T S (tk1 R n (fun _ => none)) V) (reg p (n + 1) zI I) (reg p (n + 1) zL L)) : tkG X Q cs ss pc lv stk (bM p n T S R V) (reg p n zI I) (reg p n zL L) := by
  refine g_new C ci q hd hw hw2 hw3 hc h1 h2 ?_
  rw [bM_nw hT, bM_zI, bM_zL]
  exact kk
theorem b_newa_i (C : tkC X cc own nm nL ret hh d MC MS) {c : Int32} (N : Nat) (hd : decode cc pc = .ok (.newarray .int, 2)) (hT : T n = (10, N)) (hw : Cond.arrayClass .int ∈ tkAll) (hn : ¬ c < 0) (hN : c.toNatClampNeg = N) (hby : N * componentBytes .int ≤ 536870912) (h1 : cs + 1 ≤ MC) (h2 : ss + N ≤ MS)
    (kk : tkG X Q (cs + 1) (ss + N) (pc + 2) lv (.ref (p + n) :: stk) (bM p (n + 1) T S (tk1 R n (fun _ => none)) V) (reg p (n + 1) zI I) (reg p (n + 1) zL L)) : tkG X Q cs ss pc lv (.int c :: stk) (bM p n T S R V) (reg p n zI I) (reg p n zL L) := by
  refine g_newa_i C N hd hw hn hN hby h1 h2 ?_
  rw [bM_nw hT, bM_zI, bM_zL]
  exact kk
theorem b_newa_l (C : tkC X cc own nm nL ret hh d MC MS) {c : Int32} (N : Nat) (hd : decode cc pc = .ok (.newarray .long, 2)) (hT : T n = (11, N)) (hw : Cond.arrayClass .long ∈ tkAll) (hn : ¬ c < 0) (hN : c.toNatClampNeg = N) (hby : N * componentBytes .long ≤ 536870912) (h1 : cs + 1 ≤ MC) (h2 : ss + N ≤ MS)
    (kk : tkG X Q (cs + 1) (ss + N) (pc + 2) lv (.ref (p + n) :: stk) (bM p (n + 1) T S (tk1 R n (fun _ => none)) V) (reg p (n + 1) zI I) (reg p (n + 1) zL L)) : tkG X Q cs ss pc lv (.int c :: stk) (bM p n T S R V) (reg p n zI I) (reg p n zL L) := by
  refine g_newa_l C N hd hw hn hN hby h1 h2 ?_
  rw [bM_nw hT, bM_zI, bM_zL]
  exact kk
theorem b_newa_z (C : tkC X cc own nm nL ret hh d MC MS) {c : Int32} (N : Nat) (hd : decode cc pc = .ok (.newarray .boolean, 2)) (hT : T n = (12, N)) (hw : Cond.arrayClass .boolean ∈ tkAll) (hn : ¬ c < 0) (hN : c.toNatClampNeg = N) (hby : N * componentBytes .boolean ≤ 536870912) (h1 : cs + 1 ≤ MC) (h2 : ss + N ≤ MS)
    (kk : tkG X Q (cs + 1) (ss + N) (pc + 2) lv (.ref (p + n) :: stk) (bM p (n + 1) T S (tk1 R n (fun _ => none)) V) (reg p (n + 1) zI I) (reg p (n + 1) zL L)) : tkG X Q cs ss pc lv (.int c :: stk) (bM p n T S R V) (reg p n zI I) (reg p n zL L) := by
  refine g_newa_z C N hd hw hn hN hby h1 h2 ?_
  rw [bM_nw hT, bM_zI, bM_zL]
  exact kk
theorem b_putF (C : tkC X cc own nm nL ret hh d MC MS) {idx k j b0 : Nat} {sh : Nat × Nat} (q : vw_C) (hd : decode cc pc = .ok (.putfield idx, 3)) (hT : T k = sh) (hkn : k < n) (hw : Cond.fieldLink own idx (q.2.1 j).1 (q.2.1 j).2.1 (q.2.1 j).2.2.1 ∈ tkAll) (hc : vwCl[sh.1]? = some q) (hk : j < q.2.2)
    (hfin : (q.2.1 j).2.2.2 = true ∧ nm = "<init>" ∧ (q.2.1 j).1 = own) (ht : tkRefT (tkTy sh.1 j) = true) (kk : tkG X Q cs ss (pc + 3) lv stk (bM p n T S (tk2 R k j (some b0)) V) I L) : tkG X Q cs ss pc lv (.ref b0 :: .ref (p + k) :: stk) (bM p n T S R V) I L := by
  refine g_putF C sh.1 j q (n := sh.2) hd ?_ rfl hw hc hk hfin ht ?_
  · show rgS p n T S (p + k) = _
    rw [rgS_at hkn, hT]
  · show tkG X Q cs ss (pc + 3) lv stk (p + n, rgS p n T S, tk2 (reg p n R V) (p + k) j (some b0)) I L
    rw [tk2_reg hkn]
    exact kk
end TKBLOCK

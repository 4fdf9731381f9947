section TKSPEC
/-- n rounds of f, with 0, 1 .. n - 1 -/
def itr {α : Type} (f : Nat → α → α) : Nat → α → α
  | 0, a => a
  | n + 1, a => f n (itr f n a)
theorem itr_inv {α : Type} {f : Nat → α → α} {P : α → Prop} {n : Nat} (hs : ∀ i a, i < n → P a → P (f i a)) : ∀ {k : Nat} {a : α}, k ≤ n → P a → P (itr f k a)
  | 0, a, _, h => h
  | k + 1, a, hk, h => hs k _ hk (itr_inv hs (Nat.le_of_succ_le hk) h)
def jmin (x y : Int32) : Int32 := if y < x then y else x
def jminL (x y : Int64) : Int64 := if y < x then y else x
theorem itr_stop {α : Type} {f : Nat → α → α} {P : α → Prop} (hs : ∀ i a, P a → f i a = a) {i : Nat} {a : α} (h : P (itr f i a)) : ∀ k, itr f (i + k) a = itr f i a
  | 0 => rfl
  | k + 1 => by
    have e := itr_stop hs h k
    show f (i + k) (itr f (i + k) a) = itr f i a
    rw [e]
    exact hs _ _ h
theorem tk_negz {b : Int64} (h : b < 0) : ¬ -b = 0 := Int64.neg_ne_zero.mpr (fun z => by rw [z] at h; exact absurd h (by decide))
/-- a margin's ticks -/
def jtw (spare slope : Int64) (limit : Int32) : Int32 := if 0 ≤ spare then (if slope < 0 then (jminL limit.toInt64 (spare / -slope)).toInt32 else limit) else 0
def jwith (x a b : Int32) : Int32 := if x < a then 0 else if b < x then 0 else 1
def jreach (lvl mark b : Int32) : Int32 := if b = 0 then (if lvl < mark then 0 else 1) else (if mark < lvl then 0 else 1)
def jmix (d x : Int64) : Int64 := d * 31 + x
def lgSlot (x : Int64) : Nat := x.toInt.toNat % 30
theorem lgSlot_lN {c : Nat} (h : c < 2 ^ 63) : lgSlot (lN c) = c % 30 := by
  rw [lgSlot, pk_lT h]
  rfl
/-! the tanks' steps, on plant-local memory -/
def sLeak (i : Nat) (q : tkI × tkL) : tkI × tkL :=
  let I1 := tk2 q.1 3 i (q.1 3 i - jmin (q.1 4 i) (q.1 3 i))
  (I1, tk2 q.2 5 i (q.2 5 i + (I1 3 i).toInt64))
def sTst (I : tkI) (i : Nat) (st : Int32) : Int32 := if 0 < st then jtw (I 3 i).toInt64 (I 3 i - I 6 i).toInt64 st else st
def sRep (t : Int32) (i : Nat) (q : tkI × tkL) : tkI × tkL :=
  (tk2 q.1 3 i (q.1 3 i + (q.1 3 i - q.1 6 i) * t),
   tk2 q.2 5 i (q.2 5 i + ((q.1 3 i).toInt64 * t.toInt64 + (q.1 3 i - q.1 6 i).toInt64 * (t.toInt64 * (t + 1).toInt64 / 2))))
def sTmix (I : tkI) (i : Nat) (d : Int64) : Int64 := jmix (jmix d (I 3 i).toInt64) (I 4 i).toInt64
def sBef (I : tkI) : tkI := tk1 I 6 (va_cpy (I 3) (I 6) 0 0 8)
/-! the log -/
def sNote (now : Int64) (i : Int32) (q : tkI × tkL) : tkI × tkL := (tk2 q.1 27 (lgSlot (q.2 25 0)) i, tk2 (tk2 q.2 26 (lgSlot (q.2 25 0)) now) 25 0 (q.2 25 0 + 1))
/-! the switches -/
def sDue (I : tkI) (i : Nat) : Int32 := if I 11 i = 0 then (if I 9 i < I 3 (I 8 i).toNatClampNeg then 0 else 1) else (if I 10 i ≤ I 3 (I 8 i).toNatClampNeg then 0 else 1)
def sFol (now : Int64) (i : Nat) (q : (tkI × tkL) × Int32) : (tkI × tkL) × Int32 :=
  if sDue q.1.1 i = q.1.1 11 i then q else (sNote now (nI i) (tk2 q.1.1 11 i (sDue q.1.1 i), q.1.2), q.2 + 1)
def sSst (I : tkI) (i : Nat) (st : Int32) : Int32 :=
  let t := (I 8 i).toNatClampNeg
  let lv := I 6 t
  let dr := I 3 t - I 6 t
  if 0 < st then (if I 11 i = 0 then jtw (lv - I 9 i - 1).toInt64 dr.toInt64 st else jtw (I 10 i - 1 - lv).toInt64 (-dr).toInt64 st) else st
def sSmix (I : tkI) (i : Nat) (d : Int64) : Int64 := jmix d (if I 11 i = 0 then 0 else 1)
/-- the switches' rows are in order: each watches a tank -/
def wSw (I : tkI) (ns : Nat) : Prop := I 7 0 = nI ns ∧ ns ≤ 10 ∧ ∀ i, i < ns → ∃ t, t < 8 ∧ I 8 i = nI t
def wTk (I : tkI) (nt : Nat) : Prop := I 1 0 = nI nt ∧ nt ≤ 8
/-- the pumps' rows are in order -/
def wPu (I : tkI) (np : Nat) : Prop := I 12 0 = nI np ∧ np ≤ 16 ∧ ∀ i, i < np → (I 13 i = -1 ∨ ∃ t, t < 8 ∧ I 13 i = nI t) ∧ (I 14 i = -1 ∨ ∃ t, t < 8 ∧ I 14 i = nI t) ∧ (I 17 i = -1 ∨ ∃ t, t < 10 ∧ I 17 i = nI t)
end TKSPEC
section TKCPY
variable {X : tkX} {Q : State → Prop} {cc : ByteArray} {own nm : String} {nL d MC MS cs ss pc : Nat} {ret : Option FieldType} {hh : List (Nat × Nat × Nat × Nat)} {lv : List (Option Value)} {stk : List Value} {σ : tkM} {I : tkI} {L : tkL}
theorem cp_reg {α : Type} {p N k n : Nat} {f v : Nat → Nat → α} {g : Nat → α} {a0 : Nat} (hk : k < N) (h : reg p N f v a0 = g) : tk1 (reg p N f v) (p + k) (va_cpy (reg p N f v a0) (reg p N f v (p + k)) 0 0 n) = reg p N (tk1 f k (va_cpy g (f k) 0 0 n)) v := by
  rw [h, reg_at hk, tk1_reg hk]
theorem g_cp_i (C : tkC X cc own nm nL ret hh d MC MS) {idx a a0 ns nd N : Nat} {n : Int32} {I1 : tkI} (hd : decode cc pc = .ok (.invokestatic idx, 3)) (hw1 : Cond.methodLink own idx arraycopyName ∈ tkAll)
    (hs0 : σ.2.1 a0 = (10, ns)) (hs1 : σ.2.1 a = (10, nd)) (hn : n = nI N) (hI : tk1 I a (va_cpy (I a0) (I a) 0 0 N) = I1) (h4 : N ≤ ns) (h5 : N ≤ nd) (hN : N < 2 ^ 31)
    (hd2 : 2 ≤ d) (hstk : (stk.map fun v => v.category).sum ≤ 8) (kk : tkG X Q cs ss (pc + 3) lv stk σ I1 L) : tkG X Q cs ss pc lv (.int n :: .int 0 :: .ref a :: .int 0 :: .ref a0 :: stk) σ I L := by
  subst hn
  have e0 : (0 : Int32).toNatClampNeg = 0 := by decide
  exact g_copy_i C hd hw1 mw_arraycopyName mt_arraycopyName mi_J10 hs0 hs1 (by rw [e0, nI_clamp hN]; exact hI) (by decide) (by decide) (nI_pos hN) (by rw [e0, nI_clamp hN]; omega) (by rw [e0, nI_clamp hN]; omega) hd2 hstk kk
theorem g_cp_z (C : tkC X cc own nm nL ret hh d MC MS) {idx a a0 ns nd N : Nat} {n : Int32} {I1 : tkI} (hd : decode cc pc = .ok (.invokestatic idx, 3)) (hw1 : Cond.methodLink own idx arraycopyName ∈ tkAll)
    (hs0 : σ.2.1 a0 = (12, ns)) (hs1 : σ.2.1 a = (12, nd)) (hn : n = nI N) (hI : tk1 I a (va_cpy (I a0) (I a) 0 0 N) = I1) (h4 : N ≤ ns) (h5 : N ≤ nd) (hN : N < 2 ^ 31)
    (hd2 : 2 ≤ d) (hstk : (stk.map fun v => v.category).sum ≤ 8) (kk : tkG X Q cs ss (pc + 3) lv stk σ I1 L) : tkG X Q cs ss pc lv (.int n :: .int 0 :: .ref a :: .int 0 :: .ref a0 :: stk) σ I L := by
  subst hn
  have e0 : (0 : Int32).toNatClampNeg = 0 := by decide
  exact g_copy_z C hd hw1 mw_arraycopyName mt_arraycopyName mi_J10 hs0 hs1 (by rw [e0, nI_clamp hN]; exact hI) (by decide) (by decide) (nI_pos hN) (by rw [e0, nI_clamp hN]; omega) (by rw [e0, nI_clamp hN]; omega) hd2 hstk kk
theorem g_cp_l (C : tkC X cc own nm nL ret hh d MC MS) {idx a a0 ns nd N : Nat} {n : Int32} {L1 : tkL} (hd : decode cc pc = .ok (.invokestatic idx, 3)) (hw1 : Cond.methodLink own idx arraycopyName ∈ tkAll)
    (hs0 : σ.2.1 a0 = (11, ns)) (hs1 : σ.2.1 a = (11, nd)) (hn : n = nI N) (hI : tk1 L a (va_cpy (L a0) (L a) 0 0 N) = L1) (h4 : N ≤ ns) (h5 : N ≤ nd) (hN : N < 2 ^ 31)
    (hd2 : 2 ≤ d) (hstk : (stk.map fun v => v.category).sum ≤ 8) (kk : tkG X Q cs ss (pc + 3) lv stk σ I L1) : tkG X Q cs ss pc lv (.int n :: .int 0 :: .ref a :: .int 0 :: .ref a0 :: stk) σ I L := by
  subst hn
  have e0 : (0 : Int32).toNatClampNeg = 0 := by decide
  exact g_copy_l C hd hw1 mw_arraycopyName mt_arraycopyName mi_J10 hs0 hs1 (by rw [e0, nI_clamp hN]; exact hI) (by decide) (by decide) (nI_pos hN) (by rw [e0, nI_clamp hN]; omega) (by rw [e0, nI_clamp hN]; omega) hd2 hstk kk
end TKCPY
section TKMIN
variable {X : tkX} {Q : State → Prop} {cc : ByteArray} {own nm : String} {nL d MC MS cs ss pc : Nat} {ret : Option FieldType} {hh : List (Nat × Nat × Nat × Nat)} {lv : List (Option Value)} {stk : List Value} {σ : tkM} {I : tkI} {L : tkL}
theorem mz_min : Cond.code Lib.Math.min.name Lib.Math.min.code 2 (some .int) ∈ tkAll := tk_at 407 (by decide +kernel) (by decide +kernel)
theorem mz_minL : Cond.code Lib.MathLoose.min_long.x Lib.MathLoose.min_long.code 4 (some .long) ∈ tkAll := tk_at 434 (by decide +kernel) (by decide +kernel)
theorem g_min (C : tkC X cc own nm nL ret hh d MC MS) {idx : Nat} {x y : Int32} (hd : decode cc pc = .ok (.invokestatic idx, 3)) (hw : Cond.methodLink own idx yJ9_min_7cf53 ∈ tkAll) (h1 : 1 ≤ d) (h2 : cs ≤ MC) (h3 : ss ≤ MS) (hst : (stk.map fun v => v.category).sum ≤ 8) (k : tkG X Q cs ss (pc + 3) lv (.int (jmin x y) :: stk) σ I L) : tkG X Q cs ss pc lv (.int y :: .int x :: stk) σ I L := by
  obtain ⟨p, l, e, R, s, m, args, below, meth, c, base, D⟩ := X
  obtain ⟨hx, hb, hml, hown, hts, hK, hE, hlocks, hr, hnm, hhh, hfr, hlo, hRc, hRs, hst9⟩ := C
  intro H locs ls hSS hR hl
  exact va_mmin hx hb (by exact hl.1.symm) hown (hts _ hw) (hts _ mt_yJ9_min_7cf53) (hts _ mi_J9) (hts _ mz_min) (by omega) (by omega) (by rw [hRc]; exact h2) (by rw [hRs]; exact h3) hd (k H locs ls hSS hR hl)
theorem g_minL (C : tkC X cc own nm nL ret hh d MC MS) {idx : Nat} {x y : Int64} (hd : decode cc pc = .ok (.invokestatic idx, 3)) (hw : Cond.methodLink own idx yJ9_min_f86c9 ∈ tkAll) (h1 : 1 ≤ d) (h2 : cs ≤ MC) (h3 : ss ≤ MS) (hst : (stk.map fun v => v.category).sum ≤ 8) (k : tkG X Q cs ss (pc + 3) lv (.long (jminL x y) :: stk) σ I L) : tkG X Q cs ss pc lv (.long y :: .long x :: stk) σ I L := by
  obtain ⟨p, l, e, R, s, m, args, below, meth, c, base, D⟩ := X
  obtain ⟨hx, hb, hml, hown, hts, hK, hE, hlocks, hr, hnm, hhh, hfr, hlo, hRc, hRs, hst9⟩ := C
  intro H locs ls hSS hR hl
  exact va_mmin_long hx hb (by exact hl.1.symm) hown (hts _ hw) (hts _ mt_yJ9_min_f86c9) (hts _ mi_J9) (hts _ mz_minL) (by omega) (by omega) (by rw [hRc]; exact h2) (by rw [hRs]; exact h3) hd (k H locs ls hSS hR hl)
end TKMIN

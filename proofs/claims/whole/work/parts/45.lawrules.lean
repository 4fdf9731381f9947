section TKLAWR
variable {X : tkX} {Q : State → Prop} {cc : ByteArray} {own nm : String} {nL d MC MS cs ss pc : Nat} {ret : Option FieldType} {hh : List (Nat × Nat × Nat × Nat)} {lv : List (Option Value)} {stk : List Value} {σ : tkM} {I : tkI} {L : tkL}
/-- the script, a cell that stands before the memory -/
def lwX (X : tkX) (b n : Nat) (xs : Nat → Int32) : Prop := match X with
  | (p, l, e, R, s, m, args, below, meth, c, base, D) => va_X b n xs s s.heap ∧ b < s.heap.size ∧ ¬ base ≤ b
theorem g_scr (C : tkC X cc own nm nL ret hh d MC MS) {b n j : Nat} {xs : Nat → Int32} {i : Int32} (S : lwX X b n xs) (hd : decode cc pc = .ok (.iaload, 1)) (hi : i = nI j) (hj : j < n) (hn : n < 2 ^ 31) (k : tkG X Q cs ss (pc + 1) lv (.int (xs j) :: stk) σ I L) : tkG X Q cs ss pc lv (.int i :: .ref b :: stk) σ I L := by
  obtain ⟨p, l, e, R, s, m, args, below, meth, c, base, D⟩ := X
  obtain ⟨hx, hb, hml, hown, hts, hK, hE, hlocks, hr, hnm, hhh, hfr, hlo, hRc, hRs, hst⟩ := C
  intro H locs ls hSS hR hl
  subst hi
  refine va_sld hx hb S.1 S.2.1 S.2.2 hSS (vp_in_nI hj hn) hd ?_
  rw [nI_clamp (by omega)]
  exact k H locs ls hSS hR hl
theorem g_slen (C : tkC X cc own nm nL ret hh d MC MS) {b n : Nat} {xs : Nat → Int32} (S : lwX X b n xs) (hd : decode cc pc = .ok (.arraylength, 1)) (k : tkG X Q cs ss (pc + 1) lv (.int (nI n) :: stk) σ I L) : tkG X Q cs ss pc lv (.ref b :: stk) σ I L := by
  obtain ⟨p, l, e, R, s, m, args, below, meth, c, base, D⟩ := X
  obtain ⟨hx, hb, hml, hown, hts, hK, hE, hlocks, hr, hnm, hhh, hfr, hlo, hRc, hRs, hst⟩ := C
  intro H locs ls hSS hR hl
  exact va_slen hx hb S.1 S.2.1 S.2.2 hSS hd (k H locs ls hSS hR hl)
theorem g_tIn (C : tkC X cc own nm nL ret hh d MC MS) {dflt lo hi : Int} {offs : Array Int} {len : Nat} {x : Int32} {off : Int} (tgt : Nat) (hd : decode cc pc = .ok (.tableswitch dflt lo hi offs, len)) (h1 : ¬ x.toInt < lo) (h2 : ¬ hi < x.toInt) (ho : offs[(x.toInt - lo).toNat]? = some off) (ht : (pc : Int) + off = (tgt : Int)) (k : tkG X Q cs ss tgt lv stk σ I L) : tkG X Q cs ss pc lv (.int x :: stk) σ I L := by
  obtain ⟨p, l, e, R, s, m, args, below, meth, c, base, D⟩ := X
  obtain ⟨hx, hb, hml, hown, hts, hK, hE, hlocks, hr, hnm, hhh, hfr, hlo, hRc, hRs, hst⟩ := C
  intro H locs ls hSS hR hl
  exact lv_tableIn hx hb hd h1 h2 ho ht (k H locs ls hSS hR hl)
theorem g_tOut (C : tkC X cc own nm nL ret hh d MC MS) {dflt lo hi : Int} {offs : Array Int} {len : Nat} {x : Int32} (tgt : Nat) (hd : decode cc pc = .ok (.tableswitch dflt lo hi offs, len)) (h : x.toInt < lo ∨ hi < x.toInt) (ht : (pc : Int) + dflt = (tgt : Int)) (k : tkG X Q cs ss tgt lv stk σ I L) : tkG X Q cs ss pc lv (.int x :: stk) σ I L := by
  obtain ⟨p, l, e, R, s, m, args, below, meth, c, base, D⟩ := X
  obtain ⟨hx, hb, hml, hown, hts, hK, hE, hlocks, hr, hnm, hhh, hfr, hlo, hRc, hRs, hst⟩ := C
  intro H locs ls hSS hR hl
  exact lv_tableOut hx hb hd h ht (k H locs ls hSS hR hl)
/-- room rounded up -/
theorem g_wid {cs' ss' : Nat} (h1 : cs ≤ cs') (h2 : ss ≤ ss') (k : tkG X Q cs' ss' pc lv stk σ I L) : tkG X Q cs ss pc lv stk σ I L := by
  obtain ⟨p, l, e, R, s, m, args, below, meth, c, base, D⟩ := X
  intro H locs ls hSS hR hl
  exact W.widen h1 h2 (k H locs ls hSS hR hl)
variable {rest : List Value} {σ' : tkM} {I' : tkI} {L' : tkL}
/-- behind a call that may leave more cells than told -/
theorem tk_retl {v : Value} (k : ∀ n, σ'.1 ≤ n → tkG X Q cs ss pc lv (v :: rest) (n, σ'.2) I' L') : ∀ (v' : Option Value) (n : Nat), (Sum.inl (some v) : tkOut) = .inl v' → σ'.1 ≤ n → (true = false → n = σ'.1) → tkG X Q cs ss pc lv (v'.toList ++ rest) (n, σ'.2) I' L' := by
  intro v' n h1 h2 _
  cases h1
  exact k n h2
theorem reg_id {α : Type} {p N : Nat} {f v : Nat → Nat → α} (h : ∀ k, k < N → v (p + k) = f k) : reg p N f v = v := by
  funext a
  simp only [reg]
  by_cases q : p ≤ a ∧ a < p + N
  · rw [if_pos q, ← h _ (by omega), show p + (a - p) = a by omega]
  · rw [if_neg q]
/-- a block of memory -/
def rw_ {α : Type} (a : Nat) (f : Nat → Nat → α) : Nat → Nat → α := fun k => f (a + k)
theorem reg_rw {α : Type} (p N : Nat) (v : Nat → Nat → α) : reg p N (rw_ p v) v = v := reg_eta p N v
/-- the mark of refusal is read -/
theorem c_thr {r : Nat} (hM : tkReg 21 mT mF σ r) : tkCon false (.code yX6_thrown cX6_thrown 1 (some .int)) yX6_thrown 1 [.ref r] σ I L 0 0 (.inl (some (.int (I r 0)))) σ I L := by
  have h := c_X6_thrown (J := rw_ r I) (v := I) (K := rw_ r L) (w := L) hM
  rw [reg_rw, reg_rw] at h
  exact h
end TKLAWR

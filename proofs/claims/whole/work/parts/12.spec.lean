section TKSPEC
/-- n rounds of f, with 0, 1 .. n - 1 -/
def itr {α : Type} (f : Nat → α → α) : Nat → α → α
  | 0, a => a
  | n + 1, a => f n (itr f n a)
theorem itr_inv {α : Type} {f : Nat → α → α} {P : α → Prop} {n : Nat} (hs : ∀ i a, i < n → P a → P (f i a)) : ∀ {k : Nat} {a : α}, k ≤ n → P a → P (itr f k a)
  | 0, a, _, h => h
  | k + 1, a, hk, h => hs k _ hk (itr_inv hs (Nat.le_of_succ_le hk) h)
def jmin (x y : Int32) : Int32 := if y < x then y else x
def jminL (x y : Int64) : Int64 := if y < x then y else x
end TKSPEC
section TKMIN
variable {X : tkX} {Q : State → Prop} {cc : ByteArray} {own nm : String} {nL d MC MS cs ss pc : Nat} {ret : Option FieldType} {hh : List (Nat × Nat × Nat × Nat)} {lv : List (Option Value)} {stk : List Value} {σ : tkM} {I : tkI} {L : tkL}
theorem mz_min : Cond.code Lib.Math.min.name Lib.Math.min.code 2 (some .int) ∈ tkAll := tk_at 511 (by decide +kernel) (by decide +kernel)
theorem mz_minL : Cond.code Lib.MathLoose.min_long.x Lib.MathLoose.min_long.code 4 (some .long) ∈ tkAll := tk_at 538 (by decide +kernel) (by decide +kernel)
theorem g_min (C : tkC X cc own nm nL ret hh d MC MS) {idx : Nat} {x y : Int32} (hd : decode cc pc = .ok (.invokestatic idx, 3)) (hw : Cond.methodLink own idx yJ9_min_7cf53 ∈ tkAll) (h1 : 1 ≤ d) (h2 : cs ≤ MC) (h3 : ss ≤ MS) (hst : (stk.map fun v => v.category).sum ≤ 8) (k : tkG X Q cs ss (pc + 3) lv (.int (jmin x y) :: stk) σ I L) : tkG X Q cs ss pc lv (.int y :: .int x :: stk) σ I L := by
  obtain ⟨p, l, e, R, s, m, args, below, meth, c, base, D⟩ := X
  obtain ⟨hx, hb, hml, hown, hts, hK, hE, hlocks, hr, hnm, hhh, hfr, hlo, hRc, hRs, hst9⟩ := C
  intro H locs ls hSS hR hl
  exact va_mmin hx hb (by exact hl.1.symm) hown (hts _ hw) (hts _ mt_yJ9_min_7cf53) (hts _ mi_J9) (hts _ mz_min) (by omega) (by omega) (by rw [hRc]; exact h2) (by rw [hRs]; exact h3) hd (k H locs ls hSS hR hl)
theorem g_minL (C : tkC X cc own nm nL ret hh d MC MS) {idx : Nat} {x y : Int64} (hd : decode cc pc = .ok (.invokestatic idx, 3)) (hw : Cond.methodLink own idx yJ9_min_f86c9 ∈ tkAll) (h1 : 1 ≤ d) (h2 : cs ≤ MC) (h3 : ss ≤ MS) (hst : (stk.map fun v => v.category).sum ≤ 8) (k : tkG X Q cs ss (pc + 3) lv (.long (jminL x y) :: stk) σ I L) : tkG X Q cs ss pc lv (.long y :: .long x :: stk) σ I L := by
  obtain ⟨p, l, e, R, s, m, args, below, meth, c, base, D⟩ := X
  obtain ⟨hx, hb, hml, hown, hts, hK, hE, hlocks, hr, hnm, hhh, hfr, hlo, hRc, hRs, hst9⟩ := C
  intro H locs ls hSS hR hl
  exact va_mmin_long hx hb (by exact hl.1.symm) hown (hts _ hw) (hts _ mt_yJ9_min_f86c9) (hts _ mi_J9) (hts _ mz_minL) (by omega) (by omega) (by rw [hRc]; exact h2) (by rw [hRs]; exact h3) hd (k H locs ls hSS hR hl)
end TKMIN

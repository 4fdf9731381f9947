section TKLAWR
variable {X : tkX} {Q : State → Prop} {cc : ByteArray} {own nm : String} {nL d MC MS cs ss pc : Nat} {ret : Option FieldType} {hh : List (Nat × Nat × Nat × Nat)} {lv : List (Option Value)} {stk : List Value} {σ : tkM} {I : tkI} {L : tkL}
/-- the script, a cell that stands before the memory -/
def lwX (X : tkX) (b n : Nat) (xs : Nat → Int32) : Prop := match X with
  | (p, l, e, R, s, m, args, below, meth, c, base, D) => va_X b n xs s s.heap ∧ b < s.heap.size ∧ ¬ base ≤ b
theorem g_scr (C : tkC X cc own nm nL ret hh d MC MS) {b n j : Nat} {xs : Nat → Int32} {i : Int32} (S : lwX X b n xs) (hd : decode cc pc = .ok (.iaload, 1)) (hi : i = nI j) (hj : j < n) (hn : n < 2 ^ 31) (k : tkG X Q cs ss (pc + 1) lv (.int (xs j) :: stk) σ I L) : tkG X Q cs ss pc lv (.int i :: .ref b :: stk) σ I L := by
  obtain ⟨p, l, e, R, s, m, args, below, meth, c, base, D⟩ := X
  obtain ⟨hx, hb, hml, hown, hts, hK, hE, hlocks, hr, hnm, hhh, hfr, hlo, hRc, hRs, hst⟩ := C
  intro H locs ls hSS hR hl
  subst hi
  refine va_sld hx hb S.1 S.2.1 S.2.2 hSS (vp_in_nI hj hn) hd ?_
  rw [nI_clamp (by omega)]
  exact k H locs ls hSS hR hl
theorem g_slen (C : tkC X cc own nm nL ret hh d MC MS) {b n : Nat} {xs : Nat → Int32} (S : lwX X b n xs) (hd : decode cc pc = .ok (.arraylength, 1)) (k : tkG X Q cs ss (pc + 1) lv (.int (nI n) :: stk) σ I L) : tkG X Q cs ss pc lv (.ref b :: stk) σ I L := by
  obtain ⟨p, l, e, R, s, m, args, below, meth, c, base, D⟩ := X
  obtain ⟨hx, hb, hml, hown, hts, hK, hE, hlocks, hr, hnm, hhh, hfr, hlo, hRc, hRs, hst⟩ := C
  intro H locs ls hSS hR hl
  exact va_slen hx hb S.1 S.2.1 S.2.2 hSS hd (k H locs ls hSS hR hl)
/-- room rounded up -/
theorem g_wid {cs' ss' : Nat} (h1 : cs ≤ cs') (h2 : ss ≤ ss') (k : tkG X Q cs' ss' pc lv stk σ I L) : tkG X Q cs ss pc lv stk σ I L := by
  obtain ⟨p, l, e, R, s, m, args, below, meth, c, base, D⟩ := X
  intro H locs ls hSS hR hl
  exact W.widen h1 h2 (k H locs ls hSS hR hl)
theorem g_ishr (C : tkC X cc own nm nL ret hh d MC MS) {x y : Int32} (hd : decode cc pc = .ok (.ishr, 1)) (k : tkG X Q cs ss (pc + 1) lv (.int (x >>> (y &&& 31)) :: stk) σ I L) : tkG X Q cs ss pc lv (.int y :: .int x :: stk) σ I L := by
  obtain ⟨p, l, e, R, s, m, args, below, meth, c, base, D⟩ := X
  obtain ⟨hx, hb, hml, hown, hts, hK, hE, hlocks, hr, hnm, hhh, hfr, hlo, hRc, hRs, hst⟩ := C
  intro H locs ls hS hR hl
  exact lv_ishr hx hb hd (k H locs ls hS hR hl)
theorem g_irem (C : tkC X cc own nm nL ret hh d MC MS) {x y : Int32} (hd : decode cc pc = .ok (.irem, 1)) (hne : ¬ y = 0) (k : tkG X Q cs ss (pc + 1) lv (.int (x - x / y * y) :: stk) σ I L) : tkG X Q cs ss pc lv (.int y :: .int x :: stk) σ I L := by
  obtain ⟨p, l, e, R, s, m, args, below, meth, c, base, D⟩ := X
  obtain ⟨hx, hb, hml, hown, hts, hK, hE, hlocks, hr, hnm, hhh, hfr, hlo, hRc, hRs, hst⟩ := C
  intro H locs ls hS hR hl
  exact lv_irem hx hb hd hne (k H locs ls hS hR hl)
def jmax (x y : Int32) : Int32 := if x < y then y else x
theorem mz_max : Cond.code Lib.Math.max.name Lib.Math.max.code 2 (some .int) ∈ tkAll := tk_at 507 (by decide +kernel) (by decide +kernel)
theorem g_max (C : tkC X cc own nm nL ret hh d MC MS) {idx : Nat} {x y : Int32} (hd : decode cc pc = .ok (.invokestatic idx, 3)) (hw : Cond.methodLink own idx yJ9_max_7cf53 ∈ tkAll) (h1 : 1 ≤ d) (h2 : cs ≤ MC) (h3 : ss ≤ MS) (hst : (stk.map fun v => v.category).sum ≤ 8) (k : tkG X Q cs ss (pc + 3) lv (.int (jmax x y) :: stk) σ I L) : tkG X Q cs ss pc lv (.int y :: .int x :: stk) σ I L := by
  obtain ⟨p, l, e, R, s, m, args, below, meth, c, base, D⟩ := X
  obtain ⟨hx, hb, hml, hown, hts, hK, hE, hlocks, hr, hnm, hhh, hfr, hlo, hRc, hRs, hst9⟩ := C
  intro H locs ls hSS hR hl
  exact va_mmax hx hb (by exact hl.1.symm) hown (hts _ hw) (hts _ mt_yJ9_max_7cf53) (hts _ mi_J9) (hts _ mz_max) (by omega) (by omega) (by rw [hRc]; exact h2) (by rw [hRs]; exact h3) hd (k H locs ls hSS hR hl)
/-! the script read in a method of its own -/
def tkPcS (sb n : Nat) (xs : Nat → Int32) (base : Nat) (D : va_G) (a : List Value) (σ : tkM) (I : tkI) (L : tkL) : Array Value → State → Prop := fun v U => tkPc base D a σ I L v U ∧ va_X sb n xs U U.heap ∧ sb < U.heap.size ∧ ¬ base ≤ sb
theorem tkPcS.blind {sb n base : Nat} {xs : Nat → Int32} {D : va_G} {a : List Value} : FrameBlind (tkPcS sb n xs base D a σ I L) := by
  intro v U g mk h
  exact ⟨tkPc.blind v U g mk h.1, va_X.moved (u := U) (U := U.calling g mk v) (Vm.Alike.refl U.vm) h.2.1, h.2.2.1, h.2.2.2⟩
theorem tkPcS.go {sb n base : Nat} {xs : Nat → Int32} {D : va_G} {a : List Value} {s : State} {H : Heap} {locs : List Loc} (hK : tkK D s) (hE : tkE base s s.heap) (hS : va_S (fun q => base ≤ q) s.heap H locs) (hR : tkRel D base σ I L H) (hX : va_X sb n xs s s.heap ∧ sb < s.heap.size ∧ ¬ base ≤ sb) : ∀ U : State, U.heap = H → s.WarmedH U.vm → tkPcS sb n xs base D a σ I L a.toArray U := by
  intro U hU hW
  refine ⟨tkPc.go hK hE hS hR U hU hW, ?_, by rw [hU]; exact Nat.lt_of_lt_of_le hX.2.1 hS.1, hX.2.2⟩
  rw [hU]
  exact (hX.1.kept (hS.2.1 sb hX.2.1 hX.2.2)).moved hW.alike
end TKLAWR

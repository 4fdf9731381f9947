section TKR
variable {X : tkX} {Q : State → Prop} {cc : ByteArray} {own nm : String} {nL d MC MS cs ss pc : Nat} {ret : Option FieldType} {hh : List (Nat × Nat × Nat × Nat)} {lv : List (Option Value)} {stk : List Value} {σ : tkM} {I : tkI} {L : tkL}
theorem g_iconst (C : tkC X cc own nm nL ret hh d MC MS) {n : Int} (v : Int32) (hd : decode cc pc = .ok (.iconst n, 1)) (hv : Int32.ofInt n = v) (k : tkG X Q cs ss (pc + 1) lv (.int v :: stk) σ I L) : tkG X Q cs ss pc lv stk σ I L := by
  obtain ⟨p, l, e, R, s, m, args, below, meth, c, base, D⟩ := X
  obtain ⟨hx, hb, hml, hown, hts, hK, hE, hlocks, hr, hnm, hhh, hfr, hlo, hRc, hRs, hst⟩ := C
  intro H locs ls hS hR hl
  exact lv_iconst hx hb hd hv (k H locs ls hS hR hl)
theorem g_bipush (C : tkC X cc own nm nL ret hh d MC MS) {n : Int} (v : Int32) (hd : decode cc pc = .ok (.bipush n, 2)) (hv : (Int8.ofInt n).toInt32 = v) (k : tkG X Q cs ss (pc + 2) lv (.int v :: stk) σ I L) : tkG X Q cs ss pc lv stk σ I L := by
  obtain ⟨p, l, e, R, s, m, args, below, meth, c, base, D⟩ := X
  obtain ⟨hx, hb, hml, hown, hts, hK, hE, hlocks, hr, hnm, hhh, hfr, hlo, hRc, hRs, hst⟩ := C
  intro H locs ls hS hR hl
  exact lv_bipush hx hb hd hv (k H locs ls hS hR hl)
theorem g_sipush (C : tkC X cc own nm nL ret hh d MC MS) {n : Int} (v : Int32) (hd : decode cc pc = .ok (.sipush n, 3)) (hv : (Int16.ofInt n).toInt32 = v) (k : tkG X Q cs ss (pc + 3) lv (.int v :: stk) σ I L) : tkG X Q cs ss pc lv stk σ I L := by
  obtain ⟨p, l, e, R, s, m, args, below, meth, c, base, D⟩ := X
  obtain ⟨hx, hb, hml, hown, hts, hK, hE, hlocks, hr, hnm, hhh, hfr, hlo, hRc, hRs, hst⟩ := C
  intro H locs ls hS hR hl
  exact lv_sipush hx hb hd hv (k H locs ls hS hR hl)
theorem g_lconst (C : tkC X cc own nm nL ret hh d MC MS) {n : Fin 2} (v : Int64) (hd : decode cc pc = .ok (.lconst n, 1)) (hv : Int64.ofNat (n : Nat) = v) (k : tkG X Q cs ss (pc + 1) lv (.long v :: stk) σ I L) : tkG X Q cs ss pc lv stk σ I L := by
  obtain ⟨p, l, e, R, s, m, args, below, meth, c, base, D⟩ := X
  obtain ⟨hx, hb, hml, hown, hts, hK, hE, hlocks, hr, hnm, hhh, hfr, hlo, hRc, hRs, hst⟩ := C
  intro H locs ls hS hR hl
  exact lv_lconst hx hb hd hv (k H locs ls hS hR hl)
theorem g_ldc (C : tkC X cc own nm nL ret hh d MC MS) {i : Nat} (v : Int32) (hd : decode cc pc = .ok (.ldc i, 2)) (hw : Cond.constant own i v ∈ tkAll) (k : tkG X Q cs ss (pc + 2) lv (.int v :: stk) σ I L) : tkG X Q cs ss pc lv stk σ I L := by
  obtain ⟨p, l, e, R, s, m, args, below, meth, c, base, D⟩ := X
  obtain ⟨hx, hb, hml, hown, hts, hK, hE, hlocks, hr, hnm, hhh, hfr, hlo, hRc, hRs, hst⟩ := C
  intro H locs ls hS hR hl
  exact lv_ldc hx hb hown (hts _ hw) hd (k H locs ls hS hR hl)
theorem g_ldc2 (C : tkC X cc own nm nL ret hh d MC MS) {i : Nat} (v : Int64) (hd : decode cc pc = .ok (.ldc2_w i, 3)) (hw : Cond.constantLong own i v ∈ tkAll) (k : tkG X Q cs ss (pc + 3) lv (.long v :: stk) σ I L) : tkG X Q cs ss pc lv stk σ I L := by
  obtain ⟨p, l, e, R, s, m, args, below, meth, c, base, D⟩ := X
  obtain ⟨hx, hb, hml, hown, hts, hK, hE, hlocks, hr, hnm, hhh, hfr, hlo, hRc, hRs, hst⟩ := C
  intro H locs ls hS hR hl
  exact lv_ldc2 hx hb hown (hts _ hw) hd (k H locs ls hS hR hl)
theorem g_iload_n (C : tkC X cc own nm nL ret hh d MC MS) {k0 : Fin 4} {i : Nat} {x : Int32} (hd : decode cc pc = .ok (.iload_n k0, 1)) (hi : (k0 : Nat) = i) (hg : tkGet lv i = some (.int x)) (k : tkG X Q cs ss (pc + 1) lv (.int x :: stk) σ I L) : tkG X Q cs ss pc lv stk σ I L := by
  obtain ⟨p, l, e, R, s, m, args, below, meth, c, base, D⟩ := X
  obtain ⟨hx, hb, hml, hown, hts, hK, hE, hlocks, hr, hnm, hhh, hfr, hlo, hRc, hRs, hst⟩ := C
  intro H locs ls hS hR hl
  exact lv_iload_n hx hb hd hi (hl.get hg) (k H locs ls hS hR hl)
theorem g_iload (C : tkC X cc own nm nL ret hh d MC MS) {i : Nat} {x : Int32} (hd : decode cc pc = .ok (.iload i, 2)) (hg : tkGet lv i = some (.int x)) (k : tkG X Q cs ss (pc + 2) lv (.int x :: stk) σ I L) : tkG X Q cs ss pc lv stk σ I L := by
  obtain ⟨p, l, e, R, s, m, args, below, meth, c, base, D⟩ := X
  obtain ⟨hx, hb, hml, hown, hts, hK, hE, hlocks, hr, hnm, hhh, hfr, hlo, hRc, hRs, hst⟩ := C
  intro H locs ls hS hR hl
  exact lv_iload hx hb hd (hl.get hg) (k H locs ls hS hR hl)
theorem g_lload_n (C : tkC X cc own nm nL ret hh d MC MS) {k0 : Fin 4} {i : Nat} {x : Int64} (hd : decode cc pc = .ok (.lload_n k0, 1)) (hi : (k0 : Nat) = i) (hg : tkGet lv i = some (.long x)) (k : tkG X Q cs ss (pc + 1) lv (.long x :: stk) σ I L) : tkG X Q cs ss pc lv stk σ I L := by
  obtain ⟨p, l, e, R, s, m, args, below, meth, c, base, D⟩ := X
  obtain ⟨hx, hb, hml, hown, hts, hK, hE, hlocks, hr, hnm, hhh, hfr, hlo, hRc, hRs, hst⟩ := C
  intro H locs ls hS hR hl
  exact lv_lload_n hx hb hd hi (hl.get hg) (k H locs ls hS hR hl)
theorem g_lload (C : tkC X cc own nm nL ret hh d MC MS) {i : Nat} {x : Int64} (hd : decode cc pc = .ok (.lload i, 2)) (hg : tkGet lv i = some (.long x)) (k : tkG X Q cs ss (pc + 2) lv (.long x :: stk) σ I L) : tkG X Q cs ss pc lv stk σ I L := by
  obtain ⟨p, l, e, R, s, m, args, below, meth, c, base, D⟩ := X
  obtain ⟨hx, hb, hml, hown, hts, hK, hE, hlocks, hr, hnm, hhh, hfr, hlo, hRc, hRs, hst⟩ := C
  intro H locs ls hS hR hl
  exact lv_lload hx hb hd (hl.get hg) (k H locs ls hS hR hl)
theorem g_aload_n (C : tkC X cc own nm nL ret hh d MC MS) {k0 : Fin 4} {i : Nat} {x : Nat} (hd : decode cc pc = .ok (.aload_n k0, 1)) (hi : (k0 : Nat) = i) (hg : tkGet lv i = some (.ref x)) (k : tkG X Q cs ss (pc + 1) lv (.ref x :: stk) σ I L) : tkG X Q cs ss pc lv stk σ I L := by
  obtain ⟨p, l, e, R, s, m, args, below, meth, c, base, D⟩ := X
  obtain ⟨hx, hb, hml, hown, hts, hK, hE, hlocks, hr, hnm, hhh, hfr, hlo, hRc, hRs, hst⟩ := C
  intro H locs ls hS hR hl
  exact lv_aload_n hx hb hd hi (hl.get hg) (k H locs ls hS hR hl)
theorem g_aload (C : tkC X cc own nm nL ret hh d MC MS) {i : Nat} {x : Nat} (hd : decode cc pc = .ok (.aload i, 2)) (hg : tkGet lv i = some (.ref x)) (k : tkG X Q cs ss (pc + 2) lv (.ref x :: stk) σ I L) : tkG X Q cs ss pc lv stk σ I L := by
  obtain ⟨p, l, e, R, s, m, args, below, meth, c, base, D⟩ := X
  obtain ⟨hx, hb, hml, hown, hts, hK, hE, hlocks, hr, hnm, hhh, hfr, hlo, hRc, hRs, hst⟩ := C
  intro H locs ls hS hR hl
  exact lv_aload hx hb hd (hl.get hg) (k H locs ls hS hR hl)
theorem g_dload_n (C : tkC X cc own nm nL ret hh d MC MS) {k0 : Fin 4} {i : Nat} {x : UInt64} (hd : decode cc pc = .ok (.dload_n k0, 1)) (hi : (k0 : Nat) = i) (hg : tkGet lv i = some (.double x)) (k : tkG X Q cs ss (pc + 1) lv (.double x :: stk) σ I L) : tkG X Q cs ss pc lv stk σ I L := by
  obtain ⟨p, l, e, R, s, m, args, below, meth, c, base, D⟩ := X
  obtain ⟨hx, hb, hml, hown, hts, hK, hE, hlocks, hr, hnm, hhh, hfr, hlo, hRc, hRs, hst⟩ := C
  intro H locs ls hS hR hl
  exact lv_dload_n hx hb hd hi (hl.get hg) (k H locs ls hS hR hl)
theorem g_dload (C : tkC X cc own nm nL ret hh d MC MS) {i : Nat} {x : UInt64} (hd : decode cc pc = .ok (.dload i, 2)) (hg : tkGet lv i = some (.double x)) (k : tkG X Q cs ss (pc + 2) lv (.double x :: stk) σ I L) : tkG X Q cs ss pc lv stk σ I L := by
  obtain ⟨p, l, e, R, s, m, args, below, meth, c, base, D⟩ := X
  obtain ⟨hx, hb, hml, hown, hts, hK, hE, hlocks, hr, hnm, hhh, hfr, hlo, hRc, hRs, hst⟩ := C
  intro H locs ls hS hR hl
  exact lv_dload hx hb hd (hl.get hg) (k H locs ls hS hR hl)
theorem g_istore_n (C : tkC X cc own nm nL ret hh d MC MS) {k0 : Fin 4} {i : Nat} {x : Int32} (hd : decode cc pc = .ok (.istore_n k0, 1)) (hi : (k0 : Nat) = i) (hn : i < nL) (k : tkG X Q cs ss (pc + 1) (tkSt1 lv i (.int x)) stk σ I L) : tkG X Q cs ss pc lv (.int x :: stk) σ I L := by
  obtain ⟨p, l, e, R, s, m, args, below, meth, c, base, D⟩ := X
  obtain ⟨hx, hb, hml, hown, hts, hK, hE, hlocks, hr, hnm, hhh, hfr, hlo, hRc, hRs, hst⟩ := C
  intro H locs ls hS hR hl
  exact lv_istore_n (nL := c.maxLocals) hx hb hd hi hl (by rw [hml]; exact hn) rfl (fun ls' h' => k H locs ls' hS hR (tkLv.st1 h'))
theorem g_istore (C : tkC X cc own nm nL ret hh d MC MS) {i : Nat} {x : Int32} (hd : decode cc pc = .ok (.istore i, 2)) (hn : i < nL) (k : tkG X Q cs ss (pc + 2) (tkSt1 lv i (.int x)) stk σ I L) : tkG X Q cs ss pc lv (.int x :: stk) σ I L := by
  obtain ⟨p, l, e, R, s, m, args, below, meth, c, base, D⟩ := X
  obtain ⟨hx, hb, hml, hown, hts, hK, hE, hlocks, hr, hnm, hhh, hfr, hlo, hRc, hRs, hst⟩ := C
  intro H locs ls hS hR hl
  exact lv_istore (nL := c.maxLocals) hx hb hd hl (by rw [hml]; exact hn) rfl (fun ls' h' => k H locs ls' hS hR (tkLv.st1 h'))
theorem g_lstore_n (C : tkC X cc own nm nL ret hh d MC MS) {k0 : Fin 4} {i : Nat} {x : Int64} (hd : decode cc pc = .ok (.lstore_n k0, 1)) (hi : (k0 : Nat) = i) (hn : i + 1 < nL) (k : tkG X Q cs ss (pc + 1) (tkSt2 lv i (.long x)) stk σ I L) : tkG X Q cs ss pc lv (.long x :: stk) σ I L := by
  obtain ⟨p, l, e, R, s, m, args, below, meth, c, base, D⟩ := X
  obtain ⟨hx, hb, hml, hown, hts, hK, hE, hlocks, hr, hnm, hhh, hfr, hlo, hRc, hRs, hst⟩ := C
  intro H locs ls hS hR hl
  exact lv_lstore_n (nL := c.maxLocals) hx hb hd hi hl (by rw [hml]; exact hn) rfl (fun ls' h' => k H locs ls' hS hR (tkLv.st2 h'))
theorem g_lstore (C : tkC X cc own nm nL ret hh d MC MS) {i : Nat} {x : Int64} (hd : decode cc pc = .ok (.lstore i, 2)) (hn : i + 1 < nL) (k : tkG X Q cs ss (pc + 2) (tkSt2 lv i (.long x)) stk σ I L) : tkG X Q cs ss pc lv (.long x :: stk) σ I L := by
  obtain ⟨p, l, e, R, s, m, args, below, meth, c, base, D⟩ := X
  obtain ⟨hx, hb, hml, hown, hts, hK, hE, hlocks, hr, hnm, hhh, hfr, hlo, hRc, hRs, hst⟩ := C
  intro H locs ls hS hR hl
  exact lv_lstore (nL := c.maxLocals) hx hb hd hl (by rw [hml]; exact hn) rfl (fun ls' h' => k H locs ls' hS hR (tkLv.st2 h'))
theorem g_astore_n (C : tkC X cc own nm nL ret hh d MC MS) {k0 : Fin 4} {i : Nat} {x : Nat} (hd : decode cc pc = .ok (.astore_n k0, 1)) (hi : (k0 : Nat) = i) (hn : i < nL) (k : tkG X Q cs ss (pc + 1) (tkSt1 lv i (.ref x)) stk σ I L) : tkG X Q cs ss pc lv (.ref x :: stk) σ I L := by
  obtain ⟨p, l, e, R, s, m, args, below, meth, c, base, D⟩ := X
  obtain ⟨hx, hb, hml, hown, hts, hK, hE, hlocks, hr, hnm, hhh, hfr, hlo, hRc, hRs, hst⟩ := C
  intro H locs ls hS hR hl
  exact lv_astore_n (nL := c.maxLocals) hx hb hd hi hl (by rw [hml]; exact hn) rfl (fun ls' h' => k H locs ls' hS hR (tkLv.st1 h'))
theorem g_astore (C : tkC X cc own nm nL ret hh d MC MS) {i : Nat} {x : Nat} (hd : decode cc pc = .ok (.astore i, 2)) (hn : i < nL) (k : tkG X Q cs ss (pc + 2) (tkSt1 lv i (.ref x)) stk σ I L) : tkG X Q cs ss pc lv (.ref x :: stk) σ I L := by
  obtain ⟨p, l, e, R, s, m, args, below, meth, c, base, D⟩ := X
  obtain ⟨hx, hb, hml, hown, hts, hK, hE, hlocks, hr, hnm, hhh, hfr, hlo, hRc, hRs, hst⟩ := C
  intro H locs ls hS hR hl
  exact lv_astore (nL := c.maxLocals) hx hb hd hl (by rw [hml]; exact hn) rfl (fun ls' h' => k H locs ls' hS hR (tkLv.st1 h'))
theorem g_dstore_n (C : tkC X cc own nm nL ret hh d MC MS) {k0 : Fin 4} {i : Nat} {x : UInt64} (hd : decode cc pc = .ok (.dstore_n k0, 1)) (hi : (k0 : Nat) = i) (hn : i + 1 < nL) (k : tkG X Q cs ss (pc + 1) (tkSt2 lv i (.double x)) stk σ I L) : tkG X Q cs ss pc lv (.double x :: stk) σ I L := by
  obtain ⟨p, l, e, R, s, m, args, below, meth, c, base, D⟩ := X
  obtain ⟨hx, hb, hml, hown, hts, hK, hE, hlocks, hr, hnm, hhh, hfr, hlo, hRc, hRs, hst⟩ := C
  intro H locs ls hS hR hl
  exact lv_dstore_n (nL := c.maxLocals) hx hb hd hi hl (by rw [hml]; exact hn) rfl (fun ls' h' => k H locs ls' hS hR (tkLv.st2 h'))
theorem g_dstore (C : tkC X cc own nm nL ret hh d MC MS) {i : Nat} {x : UInt64} (hd : decode cc pc = .ok (.dstore i, 2)) (hn : i + 1 < nL) (k : tkG X Q cs ss (pc + 2) (tkSt2 lv i (.double x)) stk σ I L) : tkG X Q cs ss pc lv (.double x :: stk) σ I L := by
  obtain ⟨p, l, e, R, s, m, args, below, meth, c, base, D⟩ := X
  obtain ⟨hx, hb, hml, hown, hts, hK, hE, hlocks, hr, hnm, hhh, hfr, hlo, hRc, hRs, hst⟩ := C
  intro H locs ls hS hR hl
  exact lv_dstore (nL := c.maxLocals) hx hb hd hl (by rw [hml]; exact hn) rfl (fun ls' h' => k H locs ls' hS hR (tkLv.st2 h'))
theorem g_iinc (C : tkC X cc own nm nL ret hh d MC MS) {i : Nat} {n : Int} {x : Int32} (v : Int32) (hd : decode cc pc = .ok (.iinc i n, 3)) (hg : tkGet lv i = some (.int x)) (hv : x + Int32.ofInt n = v) (hn : i < nL) (k : tkG X Q cs ss (pc + 3) (tkSt1 lv i (.int v)) stk σ I L) : tkG X Q cs ss pc lv stk σ I L := by
  obtain ⟨p, l, e, R, s, m, args, below, meth, c, base, D⟩ := X
  obtain ⟨hx, hb, hml, hown, hts, hK, hE, hlocks, hr, hnm, hhh, hfr, hlo, hRc, hRs, hst⟩ := C
  intro H locs ls hS hR hl
  obtain ⟨k1, hk1⟩ := List.getElem?_of_mem (tkAl_mem.mpr hg)
  exact lv_iinc (nL := c.maxLocals) hx hb hd hl hk1 hv (by rw [hml]; exact hn) rfl (fun ls' h' => k H locs ls' hS hR (tkLv.st1 h'))
theorem g_iadd (C : tkC X cc own nm nL ret hh d MC MS) {x y : Int32} (hd : decode cc pc = .ok (.iadd, 1)) (k : tkG X Q cs ss (pc + 1) lv (.int (x + y) :: stk) σ I L) : tkG X Q cs ss pc lv (.int y :: .int x :: stk) σ I L := by
  obtain ⟨p, l, e, R, s, m, args, below, meth, c, base, D⟩ := X
  obtain ⟨hx, hb, hml, hown, hts, hK, hE, hlocks, hr, hnm, hhh, hfr, hlo, hRc, hRs, hst⟩ := C
  intro H locs ls hS hR hl
  exact lv_iadd hx hb hd (k H locs ls hS hR hl)
theorem g_isub (C : tkC X cc own nm nL ret hh d MC MS) {x y : Int32} (hd : decode cc pc = .ok (.isub, 1)) (k : tkG X Q cs ss (pc + 1) lv (.int (x - y) :: stk) σ I L) : tkG X Q cs ss pc lv (.int y :: .int x :: stk) σ I L := by
  obtain ⟨p, l, e, R, s, m, args, below, meth, c, base, D⟩ := X
  obtain ⟨hx, hb, hml, hown, hts, hK, hE, hlocks, hr, hnm, hhh, hfr, hlo, hRc, hRs, hst⟩ := C
  intro H locs ls hS hR hl
  exact lv_isub hx hb hd (k H locs ls hS hR hl)
theorem g_imul (C : tkC X cc own nm nL ret hh d MC MS) {x y : Int32} (hd : decode cc pc = .ok (.imul, 1)) (k : tkG X Q cs ss (pc + 1) lv (.int (x * y) :: stk) σ I L) : tkG X Q cs ss pc lv (.int y :: .int x :: stk) σ I L := by
  obtain ⟨p, l, e, R, s, m, args, below, meth, c, base, D⟩ := X
  obtain ⟨hx, hb, hml, hown, hts, hK, hE, hlocks, hr, hnm, hhh, hfr, hlo, hRc, hRs, hst⟩ := C
  intro H locs ls hS hR hl
  exact lv_imul hx hb hd (k H locs ls hS hR hl)
theorem g_iand (C : tkC X cc own nm nL ret hh d MC MS) {x y : Int32} (hd : decode cc pc = .ok (.iand, 1)) (k : tkG X Q cs ss (pc + 1) lv (.int (x &&& y) :: stk) σ I L) : tkG X Q cs ss pc lv (.int y :: .int x :: stk) σ I L := by
  obtain ⟨p, l, e, R, s, m, args, below, meth, c, base, D⟩ := X
  obtain ⟨hx, hb, hml, hown, hts, hK, hE, hlocks, hr, hnm, hhh, hfr, hlo, hRc, hRs, hst⟩ := C
  intro H locs ls hS hR hl
  exact lv_iand hx hb hd (k H locs ls hS hR hl)
theorem g_ladd (C : tkC X cc own nm nL ret hh d MC MS) {x y : Int64} (hd : decode cc pc = .ok (.ladd, 1)) (k : tkG X Q cs ss (pc + 1) lv (.long (x + y) :: stk) σ I L) : tkG X Q cs ss pc lv (.long y :: .long x :: stk) σ I L := by
  obtain ⟨p, l, e, R, s, m, args, below, meth, c, base, D⟩ := X
  obtain ⟨hx, hb, hml, hown, hts, hK, hE, hlocks, hr, hnm, hhh, hfr, hlo, hRc, hRs, hst⟩ := C
  intro H locs ls hS hR hl
  exact lv_ladd hx hb hd (k H locs ls hS hR hl)
theorem g_lsub (C : tkC X cc own nm nL ret hh d MC MS) {x y : Int64} (hd : decode cc pc = .ok (.lsub, 1)) (k : tkG X Q cs ss (pc + 1) lv (.long (x - y) :: stk) σ I L) : tkG X Q cs ss pc lv (.long y :: .long x :: stk) σ I L := by
  obtain ⟨p, l, e, R, s, m, args, below, meth, c, base, D⟩ := X
  obtain ⟨hx, hb, hml, hown, hts, hK, hE, hlocks, hr, hnm, hhh, hfr, hlo, hRc, hRs, hst⟩ := C
  intro H locs ls hS hR hl
  exact lv_lsub hx hb hd (k H locs ls hS hR hl)
theorem g_lmul (C : tkC X cc own nm nL ret hh d MC MS) {x y : Int64} (hd : decode cc pc = .ok (.lmul, 1)) (k : tkG X Q cs ss (pc + 1) lv (.long (x * y) :: stk) σ I L) : tkG X Q cs ss pc lv (.long y :: .long x :: stk) σ I L := by
  obtain ⟨p, l, e, R, s, m, args, below, meth, c, base, D⟩ := X
  obtain ⟨hx, hb, hml, hown, hts, hK, hE, hlocks, hr, hnm, hhh, hfr, hlo, hRc, hRs, hst⟩ := C
  intro H locs ls hS hR hl
  exact lv_lmul hx hb hd (k H locs ls hS hR hl)
theorem g_ldiv (C : tkC X cc own nm nL ret hh d MC MS) {x y : Int64} (hd : decode cc pc = .ok (.ldiv, 1)) (hne : ¬ y = 0) (k : tkG X Q cs ss (pc + 1) lv (.long (x / y) :: stk) σ I L) : tkG X Q cs ss pc lv (.long y :: .long x :: stk) σ I L := by
  obtain ⟨p, l, e, R, s, m, args, below, meth, c, base, D⟩ := X
  obtain ⟨hx, hb, hml, hown, hts, hK, hE, hlocks, hr, hnm, hhh, hfr, hlo, hRc, hRs, hst⟩ := C
  intro H locs ls hS hR hl
  exact lv_ldiv hx hb hd hne (k H locs ls hS hR hl)
theorem g_lrem (C : tkC X cc own nm nL ret hh d MC MS) {x y : Int64} (hd : decode cc pc = .ok (.lrem, 1)) (hne : ¬ y = 0) (k : tkG X Q cs ss (pc + 1) lv (.long (x - x / y * y) :: stk) σ I L) : tkG X Q cs ss pc lv (.long y :: .long x :: stk) σ I L := by
  obtain ⟨p, l, e, R, s, m, args, below, meth, c, base, D⟩ := X
  obtain ⟨hx, hb, hml, hown, hts, hK, hE, hlocks, hr, hnm, hhh, hfr, hlo, hRc, hRs, hst⟩ := C
  intro H locs ls hS hR hl
  exact lv_lrem hx hb hd hne (k H locs ls hS hR hl)
theorem g_ineg (C : tkC X cc own nm nL ret hh d MC MS) {x : Int32} (hd : decode cc pc = .ok (.ineg, 1)) (k : tkG X Q cs ss (pc + 1) lv (.int (-x) :: stk) σ I L) : tkG X Q cs ss pc lv (.int x :: stk) σ I L := by
  obtain ⟨p, l, e, R, s, m, args, below, meth, c, base, D⟩ := X
  obtain ⟨hx, hb, hml, hown, hts, hK, hE, hlocks, hr, hnm, hhh, hfr, hlo, hRc, hRs, hst⟩ := C
  intro H locs ls hS hR hl
  exact lv_ineg hx hb hd (k H locs ls hS hR hl)
theorem g_lneg (C : tkC X cc own nm nL ret hh d MC MS) {x : Int64} (hd : decode cc pc = .ok (.lneg, 1)) (k : tkG X Q cs ss (pc + 1) lv (.long (-x) :: stk) σ I L) : tkG X Q cs ss pc lv (.long x :: stk) σ I L := by
  obtain ⟨p, l, e, R, s, m, args, below, meth, c, base, D⟩ := X
  obtain ⟨hx, hb, hml, hown, hts, hK, hE, hlocks, hr, hnm, hhh, hfr, hlo, hRc, hRs, hst⟩ := C
  intro H locs ls hS hR hl
  exact lv_lneg hx hb hd (k H locs ls hS hR hl)
theorem g_i2l (C : tkC X cc own nm nL ret hh d MC MS) {x : Int32} (hd : decode cc pc = .ok (.i2l, 1)) (k : tkG X Q cs ss (pc + 1) lv (.long x.toInt64 :: stk) σ I L) : tkG X Q cs ss pc lv (.int x :: stk) σ I L := by
  obtain ⟨p, l, e, R, s, m, args, below, meth, c, base, D⟩ := X
  obtain ⟨hx, hb, hml, hown, hts, hK, hE, hlocks, hr, hnm, hhh, hfr, hlo, hRc, hRs, hst⟩ := C
  intro H locs ls hS hR hl
  exact lv_i2l hx hb hd rfl (k H locs ls hS hR hl)
theorem g_l2i (C : tkC X cc own nm nL ret hh d MC MS) {x : Int64} (hd : decode cc pc = .ok (.l2i, 1)) (k : tkG X Q cs ss (pc + 1) lv (.int x.toInt32 :: stk) σ I L) : tkG X Q cs ss pc lv (.long x :: stk) σ I L := by
  obtain ⟨p, l, e, R, s, m, args, below, meth, c, base, D⟩ := X
  obtain ⟨hx, hb, hml, hown, hts, hK, hE, hlocks, hr, hnm, hhh, hfr, hlo, hRc, hRs, hst⟩ := C
  intro H locs ls hS hR hl
  exact lv_l2i hx hb hd rfl (k H locs ls hS hR hl)
theorem g_i2d (C : tkC X cc own nm nL ret hh d MC MS) {x : Int32} (hd : decode cc pc = .ok (.i2d, 1)) (k : tkG X Q cs ss (pc + 1) lv (.double (FP.i2d x) :: stk) σ I L) : tkG X Q cs ss pc lv (.int x :: stk) σ I L := by
  obtain ⟨p, l, e, R, s, m, args, below, meth, c, base, D⟩ := X
  obtain ⟨hx, hb, hml, hown, hts, hK, hE, hlocks, hr, hnm, hhh, hfr, hlo, hRc, hRs, hst⟩ := C
  intro H locs ls hS hR hl
  exact lv_i2d hx hb hd (k H locs ls hS hR hl)
theorem g_l2d (C : tkC X cc own nm nL ret hh d MC MS) {x : Int64} (hd : decode cc pc = .ok (.l2d, 1)) (k : tkG X Q cs ss (pc + 1) lv (.double (FP.l2d x) :: stk) σ I L) : tkG X Q cs ss pc lv (.long x :: stk) σ I L := by
  obtain ⟨p, l, e, R, s, m, args, below, meth, c, base, D⟩ := X
  obtain ⟨hx, hb, hml, hown, hts, hK, hE, hlocks, hr, hnm, hhh, hfr, hlo, hRc, hRs, hst⟩ := C
  intro H locs ls hS hR hl
  exact lv_l2d hx hb hd (k H locs ls hS hR hl)
theorem g_ddiv (C : tkC X cc own nm nL ret hh d MC MS) {x y : UInt64} (hd : decode cc pc = .ok (.ddiv, 1)) (hne : vf_n64 (FP.ddiv x y)) (k : tkG X Q cs ss (pc + 1) lv (.double (FP.ddiv x y) :: stk) σ I L) : tkG X Q cs ss pc lv (.double y :: .double x :: stk) σ I L := by
  obtain ⟨p, l, e, R, s, m, args, below, meth, c, base, D⟩ := X
  obtain ⟨hx, hb, hml, hown, hts, hK, hE, hlocks, hr, hnm, hhh, hfr, hlo, hRc, hRs, hst⟩ := C
  intro H locs ls hS hR hl
  exact lv_ddiv hx hb hd hne (k H locs ls hS hR hl)
theorem g_lcmp (C : tkC X cc own nm nL ret hh d MC MS) {x y : Int64} (hd : decode cc pc = .ok (.lcmp, 1)) (k : tkG X Q cs ss (pc + 1) lv (.int (lg_cmp x y) :: stk) σ I L) : tkG X Q cs ss pc lv (.long y :: .long x :: stk) σ I L := by
  obtain ⟨p, l, e, R, s, m, args, below, meth, c, base, D⟩ := X
  obtain ⟨hx, hb, hml, hown, hts, hK, hE, hlocks, hr, hnm, hhh, hfr, hlo, hRc, hRs, hst⟩ := C
  intro H locs ls hS hR hl
  exact W.lcmp hx hb hd (k H locs ls hS hR hl)
theorem g_dcmp (C : tkC X cc own nm nL ret hh d MC MS) {x y : UInt64} {op : CmpOp} (hd : decode cc pc = .ok (.dcmp op, 1)) (k : tkG X Q cs ss (pc + 1) lv (.int (Op.cmpValue (FP.dcmp x y) op) :: stk) σ I L) : tkG X Q cs ss pc lv (.double y :: .double x :: stk) σ I L := by
  obtain ⟨p, l, e, R, s, m, args, below, meth, c, base, D⟩ := X
  obtain ⟨hx, hb, hml, hown, hts, hK, hE, hlocks, hr, hnm, hhh, hfr, hlo, hRc, hRs, hst⟩ := C
  intro H locs ls hS hR hl
  exact lv_dcmp hx hb hd (k H locs ls hS hR hl)
theorem g_dup (C : tkC X cc own nm nL ret hh d MC MS) {va : Value} (hd : decode cc pc = .ok (.dup, 1)) (hva : va.category = 1) (k : tkG X Q cs ss (pc + 1) lv (va :: va :: stk) σ I L) : tkG X Q cs ss pc lv (va :: stk) σ I L := by
  obtain ⟨p, l, e, R, s, m, args, below, meth, c, base, D⟩ := X
  obtain ⟨hx, hb, hml, hown, hts, hK, hE, hlocks, hr, hnm, hhh, hfr, hlo, hRc, hRs, hst⟩ := C
  intro H locs ls hS hR hl
  exact lv_dup hx hb hd hva (k H locs ls hS hR hl)
theorem g_pop (C : tkC X cc own nm nL ret hh d MC MS) {va : Value} (hd : decode cc pc = .ok (.pop, 1)) (hva : va.category = 1) (k : tkG X Q cs ss (pc + 1) lv stk σ I L) : tkG X Q cs ss pc lv (va :: stk) σ I L := by
  obtain ⟨p, l, e, R, s, m, args, below, meth, c, base, D⟩ := X
  obtain ⟨hx, hb, hml, hown, hts, hK, hE, hlocks, hr, hnm, hhh, hfr, hlo, hRc, hRs, hst⟩ := C
  intro H locs ls hS hR hl
  exact lv_pop hx hb hd hva (k H locs ls hS hR hl)
theorem g_dup2 (C : tkC X cc own nm nL ret hh d MC MS) {va vb : Value} (hd : decode cc pc = .ok (.dup2, 1)) (hva : va.category = 1) (hvb : vb.category = 1) (k : tkG X Q cs ss (pc + 1) lv (va :: vb :: va :: vb :: stk) σ I L) : tkG X Q cs ss pc lv (va :: vb :: stk) σ I L := by
  obtain ⟨p, l, e, R, s, m, args, below, meth, c, base, D⟩ := X
  obtain ⟨hx, hb, hml, hown, hts, hK, hE, hlocks, hr, hnm, hhh, hfr, hlo, hRc, hRs, hst⟩ := C
  intro H locs ls hS hR hl
  exact lv_dup2_11 hx hb hd hva hvb (k H locs ls hS hR hl)
theorem g_if_eq (C : tkC X cc own nm nL ret hh d MC MS) {x : Int32} {off : Int} (tgt : Nat) (hd : decode cc pc = .ok (.ifCond .eq off, 3)) (ht : (pc : Int) + off = (tgt : Int)) (kt : x = 0 → tkG X Q cs ss tgt lv stk σ I L) (kf : ¬ x = 0 → tkG X Q cs ss (pc + 3) lv stk σ I L) : tkG X Q cs ss pc lv (.int x :: stk) σ I L := by
  obtain ⟨p, l, e, R, s, m, args, below, meth, c, base, D⟩ := X
  obtain ⟨hx, hb, hml, hown, hts, hK, hE, hlocks, hr, hnm, hhh, hfr, hlo, hRc, hRs, hst⟩ := C
  intro H locs ls hS hR hl
  exact lv_if_eq hx hb hd ht (fun z => kt z H locs ls hS hR hl) (fun z => kf z H locs ls hS hR hl)
theorem g_icmp_eq (C : tkC X cc own nm nL ret hh d MC MS) {x y : Int32} {off : Int} (tgt : Nat) (hd : decode cc pc = .ok (.if_icmp .eq off, 3)) (ht : (pc : Int) + off = (tgt : Int)) (kt : x = y → tkG X Q cs ss tgt lv stk σ I L) (kf : ¬ x = y → tkG X Q cs ss (pc + 3) lv stk σ I L) : tkG X Q cs ss pc lv (.int y :: .int x :: stk) σ I L := by
  obtain ⟨p, l, e, R, s, m, args, below, meth, c, base, D⟩ := X
  obtain ⟨hx, hb, hml, hown, hts, hK, hE, hlocks, hr, hnm, hhh, hfr, hlo, hRc, hRs, hst⟩ := C
  intro H locs ls hS hR hl
  exact lv_icmp_eq hx hb hd ht (fun z => kt z H locs ls hS hR hl) (fun z => kf z H locs ls hS hR hl)
theorem g_if_ne (C : tkC X cc own nm nL ret hh d MC MS) {x : Int32} {off : Int} (tgt : Nat) (hd : decode cc pc = .ok (.ifCond .ne off, 3)) (ht : (pc : Int) + off = (tgt : Int)) (kt : ¬ x = 0 → tkG X Q cs ss tgt lv stk σ I L) (kf : x = 0 → tkG X Q cs ss (pc + 3) lv stk σ I L) : tkG X Q cs ss pc lv (.int x :: stk) σ I L := by
  obtain ⟨p, l, e, R, s, m, args, below, meth, c, base, D⟩ := X
  obtain ⟨hx, hb, hml, hown, hts, hK, hE, hlocks, hr, hnm, hhh, hfr, hlo, hRc, hRs, hst⟩ := C
  intro H locs ls hS hR hl
  exact lv_if_ne hx hb hd ht (fun z => kt z H locs ls hS hR hl) (fun z => kf z H locs ls hS hR hl)
theorem g_icmp_ne (C : tkC X cc own nm nL ret hh d MC MS) {x y : Int32} {off : Int} (tgt : Nat) (hd : decode cc pc = .ok (.if_icmp .ne off, 3)) (ht : (pc : Int) + off = (tgt : Int)) (kt : ¬ x = y → tkG X Q cs ss tgt lv stk σ I L) (kf : x = y → tkG X Q cs ss (pc + 3) lv stk σ I L) : tkG X Q cs ss pc lv (.int y :: .int x :: stk) σ I L := by
  obtain ⟨p, l, e, R, s, m, args, below, meth, c, base, D⟩ := X
  obtain ⟨hx, hb, hml, hown, hts, hK, hE, hlocks, hr, hnm, hhh, hfr, hlo, hRc, hRs, hst⟩ := C
  intro H locs ls hS hR hl
  exact lv_icmp_ne hx hb hd ht (fun z => kt z H locs ls hS hR hl) (fun z => kf z H locs ls hS hR hl)
theorem g_if_lt (C : tkC X cc own nm nL ret hh d MC MS) {x : Int32} {off : Int} (tgt : Nat) (hd : decode cc pc = .ok (.ifCond .lt off, 3)) (ht : (pc : Int) + off = (tgt : Int)) (kt : x < 0 → tkG X Q cs ss tgt lv stk σ I L) (kf : ¬ x < 0 → tkG X Q cs ss (pc + 3) lv stk σ I L) : tkG X Q cs ss pc lv (.int x :: stk) σ I L := by
  obtain ⟨p, l, e, R, s, m, args, below, meth, c, base, D⟩ := X
  obtain ⟨hx, hb, hml, hown, hts, hK, hE, hlocks, hr, hnm, hhh, hfr, hlo, hRc, hRs, hst⟩ := C
  intro H locs ls hS hR hl
  exact lv_if_lt hx hb hd ht (fun z => kt z H locs ls hS hR hl) (fun z => kf z H locs ls hS hR hl)
theorem g_icmp_lt (C : tkC X cc own nm nL ret hh d MC MS) {x y : Int32} {off : Int} (tgt : Nat) (hd : decode cc pc = .ok (.if_icmp .lt off, 3)) (ht : (pc : Int) + off = (tgt : Int)) (kt : x < y → tkG X Q cs ss tgt lv stk σ I L) (kf : ¬ x < y → tkG X Q cs ss (pc + 3) lv stk σ I L) : tkG X Q cs ss pc lv (.int y :: .int x :: stk) σ I L := by
  obtain ⟨p, l, e, R, s, m, args, below, meth, c, base, D⟩ := X
  obtain ⟨hx, hb, hml, hown, hts, hK, hE, hlocks, hr, hnm, hhh, hfr, hlo, hRc, hRs, hst⟩ := C
  intro H locs ls hS hR hl
  exact lv_icmp_lt hx hb hd ht (fun z => kt z H locs ls hS hR hl) (fun z => kf z H locs ls hS hR hl)
theorem g_if_ge (C : tkC X cc own nm nL ret hh d MC MS) {x : Int32} {off : Int} (tgt : Nat) (hd : decode cc pc = .ok (.ifCond .ge off, 3)) (ht : (pc : Int) + off = (tgt : Int)) (kt : 0 ≤ x → tkG X Q cs ss tgt lv stk σ I L) (kf : ¬ 0 ≤ x → tkG X Q cs ss (pc + 3) lv stk σ I L) : tkG X Q cs ss pc lv (.int x :: stk) σ I L := by
  obtain ⟨p, l, e, R, s, m, args, below, meth, c, base, D⟩ := X
  obtain ⟨hx, hb, hml, hown, hts, hK, hE, hlocks, hr, hnm, hhh, hfr, hlo, hRc, hRs, hst⟩ := C
  intro H locs ls hS hR hl
  exact lv_if_ge hx hb hd ht (fun z => kt z H locs ls hS hR hl) (fun z => kf z H locs ls hS hR hl)
theorem g_icmp_ge (C : tkC X cc own nm nL ret hh d MC MS) {x y : Int32} {off : Int} (tgt : Nat) (hd : decode cc pc = .ok (.if_icmp .ge off, 3)) (ht : (pc : Int) + off = (tgt : Int)) (kt : y ≤ x → tkG X Q cs ss tgt lv stk σ I L) (kf : ¬ y ≤ x → tkG X Q cs ss (pc + 3) lv stk σ I L) : tkG X Q cs ss pc lv (.int y :: .int x :: stk) σ I L := by
  obtain ⟨p, l, e, R, s, m, args, below, meth, c, base, D⟩ := X
  obtain ⟨hx, hb, hml, hown, hts, hK, hE, hlocks, hr, hnm, hhh, hfr, hlo, hRc, hRs, hst⟩ := C
  intro H locs ls hS hR hl
  exact lv_icmp_ge hx hb hd ht (fun z => kt z H locs ls hS hR hl) (fun z => kf z H locs ls hS hR hl)
theorem g_if_gt (C : tkC X cc own nm nL ret hh d MC MS) {x : Int32} {off : Int} (tgt : Nat) (hd : decode cc pc = .ok (.ifCond .gt off, 3)) (ht : (pc : Int) + off = (tgt : Int)) (kt : 0 < x → tkG X Q cs ss tgt lv stk σ I L) (kf : ¬ 0 < x → tkG X Q cs ss (pc + 3) lv stk σ I L) : tkG X Q cs ss pc lv (.int x :: stk) σ I L := by
  obtain ⟨p, l, e, R, s, m, args, below, meth, c, base, D⟩ := X
  obtain ⟨hx, hb, hml, hown, hts, hK, hE, hlocks, hr, hnm, hhh, hfr, hlo, hRc, hRs, hst⟩ := C
  intro H locs ls hS hR hl
  exact lv_if_gt hx hb hd ht (fun z => kt z H locs ls hS hR hl) (fun z => kf z H locs ls hS hR hl)
theorem g_icmp_gt (C : tkC X cc own nm nL ret hh d MC MS) {x y : Int32} {off : Int} (tgt : Nat) (hd : decode cc pc = .ok (.if_icmp .gt off, 3)) (ht : (pc : Int) + off = (tgt : Int)) (kt : y < x → tkG X Q cs ss tgt lv stk σ I L) (kf : ¬ y < x → tkG X Q cs ss (pc + 3) lv stk σ I L) : tkG X Q cs ss pc lv (.int y :: .int x :: stk) σ I L := by
  obtain ⟨p, l, e, R, s, m, args, below, meth, c, base, D⟩ := X
  obtain ⟨hx, hb, hml, hown, hts, hK, hE, hlocks, hr, hnm, hhh, hfr, hlo, hRc, hRs, hst⟩ := C
  intro H locs ls hS hR hl
  exact lv_icmp_gt hx hb hd ht (fun z => kt z H locs ls hS hR hl) (fun z => kf z H locs ls hS hR hl)
theorem g_if_le (C : tkC X cc own nm nL ret hh d MC MS) {x : Int32} {off : Int} (tgt : Nat) (hd : decode cc pc = .ok (.ifCond .le off, 3)) (ht : (pc : Int) + off = (tgt : Int)) (kt : x ≤ 0 → tkG X Q cs ss tgt lv stk σ I L) (kf : ¬ x ≤ 0 → tkG X Q cs ss (pc + 3) lv stk σ I L) : tkG X Q cs ss pc lv (.int x :: stk) σ I L := by
  obtain ⟨p, l, e, R, s, m, args, below, meth, c, base, D⟩ := X
  obtain ⟨hx, hb, hml, hown, hts, hK, hE, hlocks, hr, hnm, hhh, hfr, hlo, hRc, hRs, hst⟩ := C
  intro H locs ls hS hR hl
  exact lv_if_le hx hb hd ht (fun z => kt z H locs ls hS hR hl) (fun z => kf z H locs ls hS hR hl)
theorem g_icmp_le (C : tkC X cc own nm nL ret hh d MC MS) {x y : Int32} {off : Int} (tgt : Nat) (hd : decode cc pc = .ok (.if_icmp .le off, 3)) (ht : (pc : Int) + off = (tgt : Int)) (kt : x ≤ y → tkG X Q cs ss tgt lv stk σ I L) (kf : ¬ x ≤ y → tkG X Q cs ss (pc + 3) lv stk σ I L) : tkG X Q cs ss pc lv (.int y :: .int x :: stk) σ I L := by
  obtain ⟨p, l, e, R, s, m, args, below, meth, c, base, D⟩ := X
  obtain ⟨hx, hb, hml, hown, hts, hK, hE, hlocks, hr, hnm, hhh, hfr, hlo, hRc, hRs, hst⟩ := C
  intro H locs ls hS hR hl
  exact lv_icmp_le hx hb hd ht (fun z => kt z H locs ls hS hR hl) (fun z => kf z H locs ls hS hR hl)
theorem g_goto (C : tkC X cc own nm nL ret hh d MC MS) {off : Int} (tgt : Nat) (hd : decode cc pc = .ok (.goto off, 3)) (ht : (pc : Int) + off = (tgt : Int)) (k : tkG X Q cs ss tgt lv stk σ I L) : tkG X Q cs ss pc lv stk σ I L := by
  obtain ⟨p, l, e, R, s, m, args, below, meth, c, base, D⟩ := X
  obtain ⟨hx, hb, hml, hown, hts, hK, hE, hlocks, hr, hnm, hhh, hfr, hlo, hRc, hRs, hst⟩ := C
  intro H locs ls hS hR hl
  exact lv_goto hx hb hd ht (k H locs ls hS hR hl)
theorem g_ifnonnull (C : tkC X cc own nm nL ret hh d MC MS) {x : Nat} {off : Int} (tgt : Nat) (hd : decode cc pc = .ok (.ifnonnull off, 3)) (ht : (pc : Int) + off = (tgt : Int)) (k : tkG X Q cs ss tgt lv stk σ I L) : tkG X Q cs ss pc lv (.ref x :: stk) σ I L := by
  obtain ⟨p, l, e, R, s, m, args, below, meth, c, base, D⟩ := X
  obtain ⟨hx, hb, hml, hown, hts, hK, hE, hlocks, hr, hnm, hhh, hfr, hlo, hRc, hRs, hst⟩ := C
  intro H locs ls hS hR hl
  exact lv_ifnonnull hx hb hd ht (k H locs ls hS hR hl)
theorem g_ifnonnullN (C : tkC X cc own nm nL ret hh d MC MS) {off : Int} (hd : decode cc pc = .ok (.ifnonnull off, 3)) (k : tkG X Q cs ss (pc + 3) lv stk σ I L) : tkG X Q cs ss pc lv (.null :: stk) σ I L := by
  obtain ⟨p, l, e, R, s, m, args, below, meth, c, base, D⟩ := X
  obtain ⟨hx, hb, hml, hown, hts, hK, hE, hlocks, hr, hnm, hhh, hfr, hlo, hRc, hRs, hst⟩ := C
  intro H locs ls hS hR hl
  exact lv_ifnonnullN hx hb hd (k H locs ls hS hR hl)
theorem g_null (C : tkC X cc own nm nL ret hh d MC MS)  (hd : decode cc pc = .ok (.aconst_null, 1)) (k : tkG X Q cs ss (pc + 1) lv (.null :: stk) σ I L) : tkG X Q cs ss pc lv stk σ I L := by
  obtain ⟨p, l, e, R, s, m, args, below, meth, c, base, D⟩ := X
  obtain ⟨hx, hb, hml, hown, hts, hK, hE, hlocks, hr, hnm, hhh, hfr, hlo, hRc, hRs, hst⟩ := C
  intro H locs ls hS hR hl
  exact lv_null hx hb hd (k H locs ls hS hR hl)
theorem g_aloadN_n (C : tkC X cc own nm nL ret hh d MC MS) {k0 : Fin 4} {i : Nat} (hd : decode cc pc = .ok (.aload_n k0, 1)) (hi : (k0 : Nat) = i) (hg : tkGet lv i = some .null) (k : tkG X Q cs ss (pc + 1) lv (.null :: stk) σ I L) : tkG X Q cs ss pc lv stk σ I L := by
  obtain ⟨p, l, e, R, s, m, args, below, meth, c, base, D⟩ := X
  obtain ⟨hx, hb, hml, hown, hts, hK, hE, hlocks, hr, hnm, hhh, hfr, hlo, hRc, hRs, hst⟩ := C
  intro H locs ls hS hR hl
  exact lv_aload_nN hx hb hd hi (hl.get hg) (k H locs ls hS hR hl)
theorem g_astoreN_n (C : tkC X cc own nm nL ret hh d MC MS) {k0 : Fin 4} {i : Nat} (hd : decode cc pc = .ok (.astore_n k0, 1)) (hi : (k0 : Nat) = i) (hn : i < nL) (k : tkG X Q cs ss (pc + 1) (tkSt1 lv i .null) stk σ I L) : tkG X Q cs ss pc lv (.null :: stk) σ I L := by
  obtain ⟨p, l, e, R, s, m, args, below, meth, c, base, D⟩ := X
  obtain ⟨hx, hb, hml, hown, hts, hK, hE, hlocks, hr, hnm, hhh, hfr, hlo, hRc, hRs, hst⟩ := C
  intro H locs ls hS hR hl
  exact lv_astore_nN (nL := c.maxLocals) hx hb hd hi hl (by rw [hml]; exact hn) rfl (fun ls' h' => k H locs ls' hS hR (tkLv.st1 h'))
end TKR

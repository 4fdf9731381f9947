
section TKW
theorem tk_w0 : ∀ w ∈ u_ws RX0 TX0 3, w ∈ tkAll := by decide +kernel
theorem tk_w1 : ∀ w ∈ u_ws RX1 TX1 5, w ∈ tkAll := by decide +kernel
theorem tk_w2 : ∀ w ∈ u_ws RX2 TX2 13, w ∈ tkAll := by decide +kernel
theorem tk_w3 : ∀ w ∈ u_ws RX3 TX3 5, w ∈ tkAll := by decide +kernel
theorem tk_w4 : ∀ w ∈ u_ws RX4 TX4 6, w ∈ tkAll := by decide +kernel
theorem tk_w5 : ∀ w ∈ u_ws RX5 TX5 4, w ∈ tkAll := by decide +kernel
/-- the classes' tables, one theorem for all -/
theorem tk_cls : ∀ (ci : Nat) (q : vw_C), vwCl[ci]? = some q → (∀ w ∈ u_ws q.1 q.2.1 q.2.2, w ∈ tkAll) ∧ (∀ k, k < q.2.2 → parseFieldDescriptor (q.2.1 k).2.2.1 = some (tkTy ci k)) ∧ (∀ a, a < q.2.2 → ∀ b, b < q.2.2 → a ≠ b → (q.2.1 a).2.1 ≠ (q.2.1 b).2.1) ∧ (∀ k, k < q.2.2 → defaultValue (tkTy ci k) = tkVal (tkTy ci k) 0 0 none)
  | 0, q, h => by cases h; exact ⟨tk_w0, tyX0_ok, nmX0, by decide +kernel⟩
  | 1, q, h => by cases h; exact ⟨tk_w1, tyX1_ok, nmX1, by decide +kernel⟩
  | 2, q, h => by cases h; exact ⟨tk_w2, tyX2_ok, nmX2, by decide +kernel⟩
  | 3, q, h => by cases h; exact ⟨tk_w3, tyX3_ok, nmX3, by decide +kernel⟩
  | 4, q, h => by cases h; exact ⟨tk_w4, tyX4_ok, nmX4, by decide +kernel⟩
  | 5, q, h => by cases h; exact ⟨tk_w5, tyX5_ok, nmX5, by decide +kernel⟩
  | n + 6, q, h => by simp at h
theorem tk_lt7 {ci : Nat} {q : vw_C} (h : vwCl[ci]? = some q) : ci < 7 := Nat.lt_of_lt_of_le (List.getElem?_eq_some_iff.mp h).1 (by decide)
theorem tk_ne99 {ci : Nat} {q : vw_C} (h : vwCl[ci]? = some q) : ci ≠ 99 := by have := tk_lt7 h; omega
/-- what a field of type t keeps of the three -/
theorem tkVal_int {t : FieldType} (h : t = .int ∨ t = .boolean) (x : Int32) (y : Int64) (r : Option Nat) : tkVal t x y r = .int x := by rcases h with rfl | rfl <;> rfl
def tkRefT (t : FieldType) : Bool := match t with | .object _ => true | .array _ => true | _ => false
theorem tkVal_ref {t : FieldType} (h : tkRefT t = true) (x : Int32) (y : Int64) (r : Option Nat) : tkVal t x y r = va_rf r := by cases t <;> first | rfl | cases h
end TKW
section TKMEM
variable {X : tkX} {Q : State → Prop} {cc : ByteArray} {own nm : String} {nL d MC MS cs ss pc : Nat} {ret : Option FieldType} {hh : List (Nat × Nat × Nat × Nat)} {lv : List (Option Value)} {stk : List Value} {σ : tkM} {I : tkI} {L : tkL}
/-- getfield, any type -/
theorem g_get (C : tkC X cc own nm nL ret hh d MC MS) {idx ci k n a : Nat} {q : vw_C} {v : Value} (hd : decode cc pc = .ok (.getfield idx, 3)) (hS : σ.2.1 a = (ci, n)) (hc : vwCl[ci]? = some q) (hk : k < q.2.2) (hw : Cond.fieldLink own idx (q.2.1 k).1 (q.2.1 k).2.1 (q.2.1 k).2.2.1 ∈ tkAll)
    (hv : tkVal (tkTy ci k) (I a k) (L a k) (σ.2.2 a k) = v) (kk : tkG X Q cs ss (pc + 3) lv (v :: stk) σ I L) : tkG X Q cs ss pc lv (.ref a :: stk) σ I L := by
  obtain ⟨p, l, e, R, s, m, args, below, meth, c, base, D⟩ := X
  obtain ⟨hx, hb, hml, hown, hts, hK, hE, hlocks, hr, hnm, hhh, hfr, hlo, hRc, hRs, hst⟩ := C
  intro H locs ls hSS hR hl
  obtain ⟨-, -, -, hcell⟩ := hR.at hS (tk_ne99 hc)
  obtain ⟨q', h1, cell, q1, q2, q3, q4⟩ := hcell.1 (tk_lt7 hc)
  have hq : q' = q := Option.some.inj (h1.symm.trans hc)
  subst hq
  obtain ⟨hin, -, -, -⟩ := tk_cls ci q' hc
  obtain ⟨hSl, hfc, kC, hkC, hkind⟩ := hK.1.1 ci _ hc
  obtain ⟨cf, kf, fi, f, hi, hsl⟩ := hSl k hk
  refine W.getf hx hb hown (hts _ hw) hi (u_facts hfc hkC (u_lays hts hin hk) hi).1 q1 (by rw [q3]; exact fun h => by cases h) (v := v) ?_ rfl rfl hd (kk H locs ls hSS hR hl)
  rw [hsl, q4 k hk]
  exact congrArg some hv
theorem g_getI (C : tkC X cc own nm nL ret hh d MC MS) {idx a n : Nat} (ci k : Nat) (q : vw_C) {f : Nat → Int32} (hd : decode cc pc = .ok (.getfield idx, 3)) (hS : σ.2.1 a = (ci, n)) (hI : I a = f) (hw : Cond.fieldLink own idx (q.2.1 k).1 (q.2.1 k).2.1 (q.2.1 k).2.2.1 ∈ tkAll) (hc : vwCl[ci]? = some q) (hk : k < q.2.2)
    (ht : tkTy ci k = .int ∨ tkTy ci k = .boolean) (kk : tkG X Q cs ss (pc + 3) lv (.int (f k) :: stk) σ I L) : tkG X Q cs ss pc lv (.ref a :: stk) σ I L :=
  g_get C hd hS hc hk hw (by rw [tkVal_int ht, hI]) kk
theorem g_getL (C : tkC X cc own nm nL ret hh d MC MS) {idx a n : Nat} (ci k : Nat) (q : vw_C) {f : Nat → Int64} (hd : decode cc pc = .ok (.getfield idx, 3)) (hS : σ.2.1 a = (ci, n)) (hI : L a = f) (hw : Cond.fieldLink own idx (q.2.1 k).1 (q.2.1 k).2.1 (q.2.1 k).2.2.1 ∈ tkAll) (hc : vwCl[ci]? = some q) (hk : k < q.2.2)
    (ht : tkTy ci k = .long) (kk : tkG X Q cs ss (pc + 3) lv (.long (f k) :: stk) σ I L) : tkG X Q cs ss pc lv (.ref a :: stk) σ I L :=
  g_get C hd hS hc hk hw (by rw [ht, hI]; rfl) kk
theorem g_getR (C : tkC X cc own nm nL ret hh d MC MS) {idx a n b : Nat} (ci k : Nat) (q : vw_C) (hd : decode cc pc = .ok (.getfield idx, 3)) (hS : σ.2.1 a = (ci, n)) (hr : σ.2.2 a k = some b) (hw : Cond.fieldLink own idx (q.2.1 k).1 (q.2.1 k).2.1 (q.2.1 k).2.2.1 ∈ tkAll) (hc : vwCl[ci]? = some q) (hk : k < q.2.2)
    (ht : tkRefT (tkTy ci k) = true) (kk : tkG X Q cs ss (pc + 3) lv (.ref b :: stk) σ I L) : tkG X Q cs ss pc lv (.ref a :: stk) σ I L :=
  g_get C hd hS hc hk hw (by rw [tkVal_ref ht, hr]; rfl) kk
/-- putfield, any type -/
theorem g_put (C : tkC X cc own nm nL ret hh d MC MS) {idx ci k n a : Nat} {q : vw_C} {v : Value} {σ1 : tkM} {I1 : tkI} {L1 : tkL} (hd : decode cc pc = .ok (.putfield idx, 3)) (hS : σ.2.1 a = (ci, n)) (hc : vwCl[ci]? = some q) (hk : k < q.2.2) (hw : Cond.fieldLink own idx (q.2.1 k).1 (q.2.1 k).2.1 (q.2.1 k).2.2.1 ∈ tkAll)
    (hfin : (q.2.1 k).2.2.2 = false ∨ ((q.2.1 k).2.2.2 = true ∧ nm = "<init>" ∧ (q.2.1 k).1 = own)) (hn : narrow (tkTy ci k) v = v) (hfit : fits (tkTy ci k) v = true) (hσ : σ1.1 = σ.1 ∧ σ1.2.1 = σ.2.1) (ho : ∀ b, b ≠ a → I1 b = I b ∧ L1 b = L b ∧ σ1.2.2 b = σ.2.2 b)
    (hv : ∀ j, j < q.2.2 → tkVal (tkTy ci j) (I1 a j) (L1 a j) (σ1.2.2 a j) = if j = k then v else tkVal (tkTy ci j) (I a j) (L a j) (σ.2.2 a j))
    (kk : tkG X Q cs ss (pc + 3) lv stk σ1 I1 L1) : tkG X Q cs ss pc lv (v :: .ref a :: stk) σ I L := by
  obtain ⟨p, l, e, R, s, m, args, below, meth, c, base, D⟩ := X
  obtain ⟨hx, hb, hml, hown, hts, hK, hE, hlocks, hr, hnm, hhh, hfr, hlo, hRc, hRs, hst⟩ := C
  intro H locs ls hSS hR hl
  obtain ⟨hba, -, -, hcell⟩ := hR.at hS (tk_ne99 hc)
  obtain ⟨q', h1, cell, q1, q2, q3, q4⟩ := hcell.1 (tk_lt7 hc)
  have hq : q' = q := Option.some.inj (h1.symm.trans hc)
  subst hq
  obtain ⟨hin, hty, hnms, -⟩ := tk_cls ci q' hc
  have hap := va_apart (own := own) hts hin (tkTy ci) hty hnms hK.1 hc
  obtain ⟨hSl, hfc, kC, hkC, hkind⟩ := hK.1.1 ci _ hc
  obtain ⟨cf, kf, fi, f, hi, hsl⟩ := hSl k hk
  have hlay := hts _ (hin _ (u_in_lay hk))
  have hstat := (u_facts hfc hkC (u_lays hts hin hk) hi).1
  have fin : ∀ (H1 : Heap), H1[a]? = some (cell.setSlot f.slot v) → H1.size = H.size → (∀ b, b ≠ a → H1[b]? = H[b]?) → W p l e R s m args below meth c H1 (locs ++ [⟨a, f.slot⟩]) cs ss Q (F0 m (pc + 3) ls stk) := by
    intro H1 e1 e2 e3
    refine kk H1 _ ls (hSS.put e2 e3 hba) (hR.put hba e2 e3 hσ.1 hσ.2 (fun b z => (ho b z).1) (fun b z => (ho b z).2.1) (fun b z => (ho b z).2.2) fun _ => ?_) hl
    rw [hS]
    have h7 := tk_lt7 hc
    refine ⟨fun _ => ⟨q', hc, t_OB.to (V := updV (fun j => tkVal (tkTy ci j) (I a j) (L a j) (σ.2.2 a j)) k v) ⟨_, e1, q2, q3, by rw [hsl]; exact t_set q4 hap hk v⟩ (fun j hj => by rw [hv j hj]; rfl)⟩, fun z => ?_, fun z => ?_, fun z => ?_, fun z => ?_, fun z => ?_⟩ <;> (exfalso; dsimp only at z; omega)
  have h6 := u_fits hfc hkC hkind (u_lays hts hin hk) hi (hty k hk) hn hfit
  unfold u_lay at hlay
  rcases hfin with hfin | ⟨hfin, hin2, hdecl⟩
  · rw [if_neg (by rw [hfin]; decide)] at hlay
    have h7 := u_store hfc hkC hkind hlay hi (hty k hk) hn hfit
    exact W.putK hx hb (f := f) ⟨hown, hts _ hw, ⟨_, _, _, hi⟩, hstat⟩ (by rw [q2]; exact h7) q1 q3 (by rw [hsl]; exact k2_hasslot (q4 k hk)) rfl rfl hd fin
  · rw [if_pos hfin] at hlay
    have hcf : m.cls = cf := by
      obtain ⟨_, _, c', _, _, _, -, -, hf', -, -, -, hown2, -⟩ := Cond.laysFinal_spec hlay
      have e1 : c' = cf := by have := hi.symm.trans hf'; simp at this; exact this.1.symm
      rw [hdecl] at hown2
      rw [← e1]; exact Option.some.inj (hown.symm.trans hown2)
    exact W.putFinK hx hb hown (hts _ hw) hi hstat hcf (by rw [hnm]; exact hin2) (by rw [q2]; exact h6) q1 q3 (by rw [hsl]; exact k2_hasslot (q4 k hk)) rfl rfl hd fin
theorem g_putI (C : tkC X cc own nm nL ret hh d MC MS) {idx a n : Nat} {x : Int32} (ci k : Nat) (q : vw_C) {I1 : tkI} (hd : decode cc pc = .ok (.putfield idx, 3)) (hS : σ.2.1 a = (ci, n)) (hI : tk2 I a k x = I1) (hw : Cond.fieldLink own idx (q.2.1 k).1 (q.2.1 k).2.1 (q.2.1 k).2.2.1 ∈ tkAll) (hc : vwCl[ci]? = some q) (hk : k < q.2.2)
    (hfin : (q.2.1 k).2.2.2 = false) (ht : tkTy ci k = .int) (kk : tkG X Q cs ss (pc + 3) lv stk σ I1 L) : tkG X Q cs ss pc lv (.int x :: .ref a :: stk) σ I L := by
  subst hI
  refine g_put C hd hS hc hk hw (Or.inl hfin) (by rw [ht]; rfl) (by rw [ht]; rfl) ⟨rfl, rfl⟩ (fun b z => ⟨by funext j; simp [tk2, z], rfl, rfl⟩) (fun j _ => ?_) kk
  by_cases e : j = k
  · subst e; rw [if_pos rfl, ht]; simp [tkVal, tk2]
  · rw [if_neg e]; simp [tk2, e]
theorem g_putL (C : tkC X cc own nm nL ret hh d MC MS) {idx a n : Nat} {x : Int64} (ci k : Nat) (q : vw_C) {L1 : tkL} (hd : decode cc pc = .ok (.putfield idx, 3)) (hS : σ.2.1 a = (ci, n)) (hI : tk2 L a k x = L1) (hw : Cond.fieldLink own idx (q.2.1 k).1 (q.2.1 k).2.1 (q.2.1 k).2.2.1 ∈ tkAll) (hc : vwCl[ci]? = some q) (hk : k < q.2.2)
    (hfin : (q.2.1 k).2.2.2 = false) (ht : tkTy ci k = .long) (kk : tkG X Q cs ss (pc + 3) lv stk σ I L1) : tkG X Q cs ss pc lv (.long x :: .ref a :: stk) σ I L := by
  subst hI
  refine g_put C hd hS hc hk hw (Or.inl hfin) (by rw [ht]; rfl) (by rw [ht]; rfl) ⟨rfl, rfl⟩ (fun b z => ⟨rfl, by funext j; simp [tk2, z], rfl⟩) (fun j _ => ?_) kk
  by_cases e : j = k
  · subst e; rw [if_pos rfl, ht]; simp [tkVal, tk2]
  · rw [if_neg e]; simp [tk2, e]
/-- a final field of a reference, in the constructor -/
theorem g_putF (C : tkC X cc own nm nL ret hh d MC MS) {idx a n b0 : Nat} (ci k : Nat) (q : vw_C) {r1 : Nat → Nat → Option Nat} (hd : decode cc pc = .ok (.putfield idx, 3)) (hS : σ.2.1 a = (ci, n)) (hI : tk2 σ.2.2 a k (some b0) = r1) (hw : Cond.fieldLink own idx (q.2.1 k).1 (q.2.1 k).2.1 (q.2.1 k).2.2.1 ∈ tkAll) (hc : vwCl[ci]? = some q) (hk : k < q.2.2)
    (hfin : (q.2.1 k).2.2.2 = true ∧ nm = "<init>" ∧ (q.2.1 k).1 = own) (ht : tkRefT (tkTy ci k) = true) (kk : tkG X Q cs ss (pc + 3) lv stk (σ.1, σ.2.1, r1) I L) : tkG X Q cs ss pc lv (.ref b0 :: .ref a :: stk) σ I L := by
  subst hI
  refine g_put C (σ1 := (σ.1, σ.2.1, tk2 σ.2.2 a k (some b0))) hd hS hc hk hw (Or.inr hfin) ?_ ?_ ⟨rfl, rfl⟩ (fun b z => ⟨rfl, rfl, by funext j; simp [tk2, z]⟩) (fun j _ => ?_) kk
  · cases h : tkTy ci k <;> first | rfl | (rw [h] at ht; cases ht)
  · cases h : tkTy ci k <;> first | rfl | (rw [h] at ht; cases ht)
  · by_cases e : j = k
    · subst e; rw [if_pos rfl, tkVal_ref ht]; simp [tk2, va_rf]
    · rw [if_neg e]; simp [tk2, e]
/-! arrays -/
theorem g_iald (C : tkC X cc own nm nL ret hh d MC MS) {a n : Nat} {i : Int32} {f : Nat → Int32} (hd : decode cc pc = .ok (.iaload, 1)) (hS : σ.2.1 a = (10, n)) (hI : I a = f) (hin : vp_in i n) (kk : tkG X Q cs ss (pc + 1) lv (.int (f i.toNatClampNeg) :: stk) σ I L) : tkG X Q cs ss pc lv (.int i :: .ref a :: stk) σ I L := by
  obtain ⟨p, l, e, R, s, m, args, below, meth, c, base, D⟩ := X
  obtain ⟨hx, hb, hml, hown, hts, hK, hE, hlocks, hr, hnm, hhh, hfr, hlo, hRc, hRs, hst⟩ := C
  intro H locs ls hSS hR hl
  subst hI
  have hcell := (hR.at hS (by decide)).2.2.2.2.1 rfl
  have hlt : i.toNatClampNeg < n := Nat.not_le.mp fun q => hin (Or.inr q)
  exact W.iald (v := .int (I a i.toNatClampNeg)) hx hb hcell ((hK.1.2 0 _ rfl).1 n _) (fun q => by cases q) (by show ¬ (i < 0 ∨ (arrV _ _ _).slots.size ≤ _); rw [arrV_size]; exact hin) (by show (arrV _ _ _).slots[_]? = _; rw [arrV_read _ _ hlt]) rfl rfl hd (kk H locs ls hSS hR hl)
theorem g_lald (C : tkC X cc own nm nL ret hh d MC MS) {a n : Nat} {i : Int32} {f : Nat → Int64} (hd : decode cc pc = .ok (.laload, 1)) (hS : σ.2.1 a = (11, n)) (hI : L a = f) (hin : vp_in i n) (kk : tkG X Q cs ss (pc + 1) lv (.long (f i.toNatClampNeg) :: stk) σ I L) : tkG X Q cs ss pc lv (.int i :: .ref a :: stk) σ I L := by
  obtain ⟨p, l, e, R, s, m, args, below, meth, c, base, D⟩ := X
  obtain ⟨hx, hb, hml, hown, hts, hK, hE, hlocks, hr, hnm, hhh, hfr, hlo, hRc, hRs, hst⟩ := C
  intro H locs ls hSS hR hl
  subst hI
  have hcell := (hR.at hS (by decide)).2.2.2.2.2.1 rfl
  have hlt : i.toNatClampNeg < n := Nat.not_le.mp fun q => hin (Or.inr q)
  exact W.lald (v := .long (L a i.toNatClampNeg)) hx hb hcell ((hK.1.2 1 _ rfl).1 n _) (fun q => by cases q) (by show ¬ (i < 0 ∨ (arrV _ _ _).slots.size ≤ _); rw [arrV_size]; exact hin) (by show (arrV _ _ _).slots[_]? = _; rw [arrV_read _ _ hlt]) rfl rfl hd (kk H locs ls hSS hR hl)
theorem g_zald (C : tkC X cc own nm nL ret hh d MC MS) {a n : Nat} {i : Int32} {f : Nat → Int32} (hd : decode cc pc = .ok (.baload, 1)) (hS : σ.2.1 a = (12, n)) (hI : I a = f) (hin : vp_in i n) (kk : (f i.toNatClampNeg = 0 ∨ f i.toNatClampNeg = 1) → tkG X Q cs ss (pc + 1) lv (.int (f i.toNatClampNeg) :: stk) σ I L) : tkG X Q cs ss pc lv (.int i :: .ref a :: stk) σ I L := by
  obtain ⟨p, l, e, R, s, m, args, below, meth, c, base, D⟩ := X
  obtain ⟨hx, hb, hml, hown, hts, hK, hE, hlocks, hr, hnm, hhh, hfr, hlo, hRc, hRs, hst⟩ := C
  intro H locs ls hSS hR hl
  subst hI
  obtain ⟨hcell, hfit⟩ := (hR.at hS (by decide)).2.2.2.2.2.2.1 rfl
  have hlt : i.toNatClampNeg < n := Nat.not_le.mp fun q => hin (Or.inr q)
  have h01 : I a i.toNatClampNeg = 0 ∨ I a i.toNatClampNeg = 1 := by
    have h5 := hfit _ hlt
    simpa [fits] using h5
  exact W.zald (v := .int (I a i.toNatClampNeg)) hx hb hcell ((hK.1.2 2 _ rfl).1 n _) (fun q => by cases q) (by show ¬ (i < 0 ∨ (arrV _ _ _).slots.size ≤ _); rw [arrV_size]; exact hin) (by show (arrV _ _ _).slots[_]? = _; rw [arrV_read _ _ hlt]) rfl rfl hd (kk h01 H locs ls hSS hR hl)
theorem g_aald (C : tkC X cc own nm nL ret hh d MC MS) {a n : Nat} {i : Int32} {r : Option Nat} (hd : decode cc pc = .ok (.aaload, 1)) (hS : σ.2.1 a = (14, n)) (hin : vp_in i n) (hr : σ.2.2 a i.toNatClampNeg = r) (kk : tkG X Q cs ss (pc + 1) lv (va_rf r :: stk) σ I L) : tkG X Q cs ss pc lv (.int i :: .ref a :: stk) σ I L := by
  obtain ⟨p, l, e, R, s, m, args, below, meth, c, base, D⟩ := X
  obtain ⟨hx, hb, hml, hown, hts, hK, hE, hlocks, hrt, hnm, hhh, hfr, hlo, hRc, hRs, hst⟩ := C
  intro H locs ls hSS hR hl
  subst hr
  have hcell := (hR.at hS (by decide)).2.2.2.2.2.2.2.2 rfl
  have hlt : i.toNatClampNeg < n := Nat.not_le.mp fun q => hin (Or.inr q)
  exact W.aald (v := va_rf (σ.2.2 a i.toNatClampNeg)) (ty := .object RX1) hx hb hcell ((hK.1.2 3 _ rfl).1 n _) rfl (fun q => by cases q) (by show ¬ (i < 0 ∨ (arrV _ _ _).slots.size ≤ _); rw [arrV_size]; exact hin) (by show (arrV _ _ _).slots[_]? = _; rw [arrV_read _ _ hlt]) rfl rfl hd (kk H locs ls hSS hR hl)
theorem g_iast (C : tkC X cc own nm nL ret hh d MC MS) {a n : Nat} {i x : Int32} {I1 : tkI} (hd : decode cc pc = .ok (.iastore, 1)) (hS : σ.2.1 a = (10, n)) (hI : tk2 I a i.toNatClampNeg x = I1) (hin : vp_in i n) (kk : tkG X Q cs ss (pc + 1) lv stk σ I1 L) : tkG X Q cs ss pc lv (.int x :: .int i :: .ref a :: stk) σ I L := by
  obtain ⟨p, l, e, R, s, m, args, below, meth, c, base, D⟩ := X
  obtain ⟨hx, hb, hml, hown, hts, hK, hE, hlocks, hr, hnm, hhh, hfr, hlo, hRc, hRs, hst⟩ := C
  intro H locs ls hSS hR hl
  subst hI
  obtain ⟨hba, -, -, hc⟩ := hR.at hS (by decide)
  have hcell := hc.2.1 rfl
  refine W.iast hx hb hcell ((hK.1.2 0 _ rfl).1 n _) (fun q => by cases q) (by show ¬ (i < 0 ∨ (arrV _ _ _).slots.size ≤ _); rw [arrV_size]; exact hin) rfl rfl hd fun H1 e1 z oq => ?_
  refine kk H1 _ ls (hSS.put z oq hba) (hR.put hba z oq rfl rfl (fun b q => by funext j; simp [tk2, q]) (fun _ _ => rfl) (fun _ _ => rfl) fun _ => ?_) hl
  rw [hS]
  refine ⟨fun q => absurd (show 10 < 7 from q) (by decide), fun _ => ?_, fun q => absurd (show 10 = 11 from q) (by decide), fun q => absurd (show 10 = 12 from q) (by decide), fun q => absurd (show 10 = 13 from q) (by decide), fun q => absurd (show 10 = 14 from q) (by decide)⟩
  rw [e1, arrV_store]
  congr 2
  funext j
  by_cases hq : j = i.toNatClampNeg
  · simp [updV, tk2, hq]
  · simp [updV, tk2, hq]
theorem g_last (C : tkC X cc own nm nL ret hh d MC MS) {a n : Nat} {i : Int32} {x : Int64} {L1 : tkL} (hd : decode cc pc = .ok (.lastore, 1)) (hS : σ.2.1 a = (11, n)) (hI : tk2 L a i.toNatClampNeg x = L1) (hin : vp_in i n) (kk : tkG X Q cs ss (pc + 1) lv stk σ I L1) : tkG X Q cs ss pc lv (.long x :: .int i :: .ref a :: stk) σ I L := by
  obtain ⟨p, l, e, R, s, m, args, below, meth, c, base, D⟩ := X
  obtain ⟨hx, hb, hml, hown, hts, hK, hE, hlocks, hr, hnm, hhh, hfr, hlo, hRc, hRs, hst⟩ := C
  intro H locs ls hSS hR hl
  subst hI
  obtain ⟨hba, -, -, hc⟩ := hR.at hS (by decide)
  have hcell := hc.2.2.1 rfl
  refine W.last hx hb hcell ((hK.1.2 1 _ rfl).1 n _) (fun q => by cases q) (by show ¬ (i < 0 ∨ (arrV _ _ _).slots.size ≤ _); rw [arrV_size]; exact hin) rfl rfl hd fun H1 e1 z oq => ?_
  refine kk H1 _ ls (hSS.put z oq hba) (hR.put hba z oq rfl rfl (fun _ _ => rfl) (fun b q => by funext j; simp [tk2, q]) (fun _ _ => rfl) fun _ => ?_) hl
  rw [hS]
  refine ⟨fun q => absurd (show 11 < 7 from q) (by decide), fun q => absurd (show 11 = 10 from q) (by decide), fun _ => ?_, fun q => absurd (show 11 = 12 from q) (by decide), fun q => absurd (show 11 = 13 from q) (by decide), fun q => absurd (show 11 = 14 from q) (by decide)⟩
  rw [e1, arrV_store]
  congr 2
  funext j
  by_cases hq : j = i.toNatClampNeg
  · simp [updV, tk2, hq]
  · simp [updV, tk2, hq]
theorem g_zast (C : tkC X cc own nm nL ret hh d MC MS) {a n : Nat} {i x : Int32} {I1 : tkI} (hd : decode cc pc = .ok (.bastore, 1)) (hS : σ.2.1 a = (12, n)) (hI : tk2 I a i.toNatClampNeg x = I1) (hin : vp_in i n) (h01 : x = 0 ∨ x = 1) (kk : tkG X Q cs ss (pc + 1) lv stk σ I1 L) : tkG X Q cs ss pc lv (.int x :: .int i :: .ref a :: stk) σ I L := by
  obtain ⟨p, l, e, R, s, m, args, below, meth, c, base, D⟩ := X
  obtain ⟨hx, hb, hml, hown, hts, hK, hE, hlocks, hr, hnm, hhh, hfr, hlo, hRc, hRs, hst⟩ := C
  intro H locs ls hSS hR hl
  subst hI
  obtain ⟨hba, -, -, hc⟩ := hR.at hS (by decide)
  obtain ⟨hcell, hfit⟩ := hc.2.2.2.1 rfl
  have hnar : narrow .boolean (.int x) = .int x := by rcases h01 with rfl | rfl <;> rfl
  refine W.zast hx hb hcell ((hK.1.2 2 _ rfl).1 n _) (fun q => by cases q) (by show ¬ (i < 0 ∨ (arrV _ _ _).slots.size ≤ _); rw [arrV_size]; exact hin) rfl rfl hd fun H1 e1 z oq => ?_
  refine kk H1 _ ls (hSS.put z oq hba) (hR.put hba z oq rfl rfl (fun b q => by funext j; simp [tk2, q]) (fun _ _ => rfl) (fun _ _ => rfl) fun _ => ?_) hl
  rw [hS]
  refine ⟨fun q => absurd (show 12 < 7 from q) (by decide), fun q => absurd (show 12 = 10 from q) (by decide), fun q => absurd (show 12 = 11 from q) (by decide), fun _ => ⟨?_, fun j hj => ?_⟩, fun q => absurd (show 12 = 13 from q) (by decide), fun q => absurd (show 12 = 14 from q) (by decide)⟩
  · rw [e1, hnar, arrV_store]
    congr 2
    funext j
    by_cases hq : j = i.toNatClampNeg
    · simp [updV, tk2, hq]
    · simp [updV, tk2, hq]
  · by_cases hq : j = i.toNatClampNeg
    · simp only [tk2, hq]
      rcases h01 with rfl | rfl <;> rfl
    · simp only [tk2, hq, and_false, if_false]
      exact hfit j hj
/-- a plant into the row of depots -/
theorem g_aast (C : tkC X cc own nm nL ret hh d MC MS) {a n v nv : Nat} {i : Int32} {r1 : Nat → Nat → Option Nat} (hd : decode cc pc = .ok (.aastore, 1)) (hS : σ.2.1 a = (14, n)) (hv : σ.2.1 v = (1, nv)) (hI : tk2 σ.2.2 a i.toNatClampNeg (some v) = r1) (hin : vp_in i n) (kk : tkG X Q cs ss (pc + 1) lv stk (σ.1, σ.2.1, r1) I L) : tkG X Q cs ss pc lv (.ref v :: .int i :: .ref a :: stk) σ I L := by
  obtain ⟨p, l, e, R, s, m, args, below, meth, c, base, D⟩ := X
  obtain ⟨hx, hb, hml, hown, hts, hK, hE, hlocks, hr, hnm, hhh, hfr, hlo, hRc, hRs, hst⟩ := C
  intro H locs ls hSS hR hl
  subst hI
  obtain ⟨hba, -, -, hc⟩ := hR.at hS (by decide)
  have hcell := hc.2.2.2.2.2 rfl
  obtain ⟨-, -, -, hcv⟩ := hR.at hv (by decide)
  obtain ⟨qv, hqv, cellV, g1, g2, g3, -⟩ := hcv.1 (show 1 < 7 by decide)
  have hcls := (hK.1.1 1 _ rfl).2
  obtain ⟨kA, comp, k1, k2, k3, -⟩ := (hK.1.2 3 _ rfl).2
  have hcomp : comp = D.1 1 := Option.some.inj (k3.symm.trans hcls.1)
  subst hcomp
  obtain ⟨kC, hkC, -⟩ := hcls.2
  have hlt : i.toNatClampNeg < n := Nat.not_le.mp fun q => hin (Or.inr q)
  have h0 : ¬ i < 0 := fun q => hin (Or.inl q)
  refine W.aast hx hb hcell (fun q h => by cases h) (fun h => by cases h) k1 k2 rfl hkC ⟨h0, by show _ < (arrV _ _ _).slots.size; rw [arrV_size]; exact hlt⟩ g1 (fun q h => by rw [g3] at h; cases h) (by rw [g2]; exact hkC) (by rw [g2]; exact va_assign hcls) rfl rfl hd fun H1 e1 z oq => ?_
  refine kk H1 _ ls (hSS.put z oq hba) (hR.put hba z oq rfl rfl (fun _ _ => rfl) (fun _ _ => rfl) (fun b q => by funext j; simp [tk2, q]) fun _ => ?_) hl
  rw [hS]
  refine ⟨fun q => absurd (show 14 < 7 from q) (by decide), fun q => absurd (show 14 = 10 from q) (by decide), fun q => absurd (show 14 = 11 from q) (by decide), fun q => absurd (show 14 = 12 from q) (by decide), fun q => absurd (show 14 = 13 from q) (by decide), fun _ => ?_⟩
  rw [e1, arrV_store]
  congr 2
  funext j
  by_cases hq : j = i.toNatClampNeg
  · simp [updV, tk2, hq, va_rf]
  · simp [updV, tk2, hq]
/-! new cells -/
def tkNw (σ : tkM) (sh : Nat × Nat) : tkM := (σ.1 + 1, tk1 σ.2.1 σ.1 sh, tk1 σ.2.2 σ.1 (fun _ => none))
def tkZI (σ : tkM) (I : tkI) : tkI := tk1 I σ.1 (fun _ => 0)
def tkZL (σ : tkM) (L : tkL) : tkL := tk1 L σ.1 (fun _ => 0)
theorem tkRel.new {D : va_G} {base : Nat} {σ : tkM} {I : tkI} {L : tkL} {H H1 : Heap} (h : tkRel D base σ I L H) {sh : Nat × Nat} (hz : H1.size = H.size + 1) (oq : ∀ q, q < H.size → H1[q]? = H[q]?)
    (hc : tkCell D H1 σ.1 sh (fun _ => 0) (fun _ => 0) (fun _ => none)) : tkRel D base (tkNw σ sh) (tkZI σ I) (tkZL σ L) H1 :=
  h.push hz oq (fun b e => by simp [tkZI, tk1, e]) (fun b e => by simp [tkZL, tk1, e]) (by simpa [tkZI, tkZL, tk1] using hc)
theorem va_S.grow {A : Nat → Prop} {H0 H H1 : Heap} {locs : List Loc} (h : va_S A H0 H locs) (z : H1.size = H.size + 1) (oq : ∀ q : Nat, q < H.size → H1[q]? = H[q]?) : va_S A H0 H1 locs :=
  ⟨Nat.le_trans h.1 (by omega), fun q h1 h2 => (oq q (Nat.lt_of_lt_of_le h1 h.1)).trans (h.2.1 q h1 h2), h.2.2⟩
theorem g_new (C : tkC X cc own nm nL ret hh d MC MS) {idx : Nat} (ci : Nat) (q : vw_C) (hd : decode cc pc = .ok (.new idx, 3)) (hw : Cond.classLink own idx q.1 ∈ tkAll) (hw2 : Cond.instantiable q.1 q.2.2 ∈ tkAll) (hw3 : Cond.initialized q.1 ∈ tkAll) (hc : vwCl[ci]? = some q) (h1 : cs + 1 ≤ MC) (h2 : ss + q.2.2 ≤ MS)
    (kk : tkG X Q (cs + 1) (ss + q.2.2) (pc + 3) lv (.ref σ.1 :: stk) (tkNw σ (ci, 0)) (tkZI σ I) (tkZL σ L)) : tkG X Q cs ss pc lv stk σ I L := by
  obtain ⟨p, l, e, R, s, m, args, below, meth, c, base, D⟩ := X
  obtain ⟨hx, hb, hml, hown, hts, hK, hE, hlocks, hr, hnm, hhh, hfr, hlo, hRc, hRs, hst⟩ := C
  intro H locs ls hSS hR hl
  obtain ⟨hin, hty, hnms, hdef⟩ := tk_cls ci q hc
  have hKn := hK.1.1 ci _ hc
  refine W.newcK hx hb hown (hts _ hw) (hts _ hw2) (hts _ hw3) rfl hd (by rw [hRc]; exact h1) (by rw [hRs]; exact h2) hKn.2.1 hR.1 fun H1 kC hkC e1 z1 o1 => ?_
  rw [← hR.1] at z1 o1
  refine kk H1 locs ls (hSS.grow z1 o1) (hR.new z1 o1 ?_) hl
  have h7 := tk_lt7 hc
  refine ⟨fun _ => ⟨q, hc, (u_born (tkTy ci) hts hin hKn hkC e1 hty).to hdef⟩, fun z => ?_, fun z => ?_, fun z => ?_, fun z => ?_, fun z => ?_⟩ <;> (exfalso; dsimp only at z; omega)
theorem g_newa_i (C : tkC X cc own nm nL ret hh d MC MS) {n : Int32} (N : Nat) (hd : decode cc pc = .ok (.newarray .int, 2)) (hw : Cond.arrayClass .int ∈ tkAll) (hn : ¬ n < 0) (hN : n.toNatClampNeg = N) (hby : N * componentBytes .int ≤ 536870912) (h1 : cs + 1 ≤ MC) (h2 : ss + N ≤ MS)
    (kk : tkG X Q (cs + 1) (ss + N) (pc + 2) lv (.ref σ.1 :: stk) (tkNw σ (10, N)) (tkZI σ I) (tkZL σ L)) : tkG X Q cs ss pc lv (.int n :: stk) σ I L := by
  obtain ⟨p, l, e, R, s, m, args, below, meth, c, base, D⟩ := X
  obtain ⟨hx, hb, hml, hown, hts, hK, hE, hlocks, hr, hnm, hhh, hfr, hlo, hRc, hRs, hst⟩ := C
  intro H locs ls hSS hR hl
  refine va_newaK (atype := .int) hx hb (hts _ hw) rfl hd rfl hn hN hby (by rw [hRc]; exact h1) (by rw [hRs]; exact h2) hR.1 fun H1 cA e1 z1 o1 hAr hNm => ?_
  rw [← hR.1] at z1 o1
  have hcA : D.1 10 = cA := Option.some.inj ((hK.1.2 0 _ rfl).2.symm.trans hNm)
  refine kk H1 locs ls (hSS.grow z1 o1) (hR.new z1 o1 ?_) hl
  have e2 : H1[σ.1]? = some (arrV (D.1 10) N (fun _ => defaultValue .int)) := by rw [hcA]; exact e1
  exact ⟨fun q => absurd (show 10 < 7 from q) (by decide), fun _ => e2, fun q => absurd (show 10 = 11 from q) (by decide), fun q => absurd (show 10 = 12 from q) (by decide), fun q => absurd (show 10 = 13 from q) (by decide), fun q => absurd (show 10 = 14 from q) (by decide)⟩
theorem g_newa_l (C : tkC X cc own nm nL ret hh d MC MS) {n : Int32} (N : Nat) (hd : decode cc pc = .ok (.newarray .long, 2)) (hw : Cond.arrayClass .long ∈ tkAll) (hn : ¬ n < 0) (hN : n.toNatClampNeg = N) (hby : N * componentBytes .long ≤ 536870912) (h1 : cs + 1 ≤ MC) (h2 : ss + N ≤ MS)
    (kk : tkG X Q (cs + 1) (ss + N) (pc + 2) lv (.ref σ.1 :: stk) (tkNw σ (11, N)) (tkZI σ I) (tkZL σ L)) : tkG X Q cs ss pc lv (.int n :: stk) σ I L := by
  obtain ⟨p, l, e, R, s, m, args, below, meth, c, base, D⟩ := X
  obtain ⟨hx, hb, hml, hown, hts, hK, hE, hlocks, hr, hnm, hhh, hfr, hlo, hRc, hRs, hst⟩ := C
  intro H locs ls hSS hR hl
  refine va_newaK (atype := .long) hx hb (hts _ hw) rfl hd rfl hn hN hby (by rw [hRc]; exact h1) (by rw [hRs]; exact h2) hR.1 fun H1 cA e1 z1 o1 hAr hNm => ?_
  rw [← hR.1] at z1 o1
  have hcA : D.1 11 = cA := Option.some.inj ((hK.1.2 1 _ rfl).2.symm.trans hNm)
  refine kk H1 locs ls (hSS.grow z1 o1) (hR.new z1 o1 ?_) hl
  have e2 : H1[σ.1]? = some (arrV (D.1 11) N (fun _ => defaultValue .long)) := by rw [hcA]; exact e1
  exact ⟨fun q => absurd (show 11 < 7 from q) (by decide), fun q => absurd (show 11 = 10 from q) (by decide), fun _ => e2, fun q => absurd (show 11 = 12 from q) (by decide), fun q => absurd (show 11 = 13 from q) (by decide), fun q => absurd (show 11 = 14 from q) (by decide)⟩
theorem g_newa_z (C : tkC X cc own nm nL ret hh d MC MS) {n : Int32} (N : Nat) (hd : decode cc pc = .ok (.newarray .boolean, 2)) (hw : Cond.arrayClass .boolean ∈ tkAll) (hn : ¬ n < 0) (hN : n.toNatClampNeg = N) (hby : N * componentBytes .boolean ≤ 536870912) (h1 : cs + 1 ≤ MC) (h2 : ss + N ≤ MS)
    (kk : tkG X Q (cs + 1) (ss + N) (pc + 2) lv (.ref σ.1 :: stk) (tkNw σ (12, N)) (tkZI σ I) (tkZL σ L)) : tkG X Q cs ss pc lv (.int n :: stk) σ I L := by
  obtain ⟨p, l, e, R, s, m, args, below, meth, c, base, D⟩ := X
  obtain ⟨hx, hb, hml, hown, hts, hK, hE, hlocks, hr, hnm, hhh, hfr, hlo, hRc, hRs, hst⟩ := C
  intro H locs ls hSS hR hl
  refine va_newaK (atype := .boolean) hx hb (hts _ hw) rfl hd rfl hn hN hby (by rw [hRc]; exact h1) (by rw [hRs]; exact h2) hR.1 fun H1 cA e1 z1 o1 hAr hNm => ?_
  rw [← hR.1] at z1 o1
  have hcA : D.1 12 = cA := Option.some.inj ((hK.1.2 2 _ rfl).2.symm.trans hNm)
  refine kk H1 locs ls (hSS.grow z1 o1) (hR.new z1 o1 ?_) hl
  have e2 : H1[σ.1]? = some (arrV (D.1 12) N (fun _ => defaultValue .boolean)) := by rw [hcA]; exact e1
  exact ⟨fun q => absurd (show 12 < 7 from q) (by decide), fun q => absurd (show 12 = 10 from q) (by decide), fun q => absurd (show 12 = 11 from q) (by decide), fun _ => ⟨e2, fun j _ => rfl⟩, fun q => absurd (show 12 = 13 from q) (by decide), fun q => absurd (show 12 = 14 from q) (by decide)⟩
theorem g_anewa (C : tkC X cc own nm nL ret hh d MC MS) {idx : Nat} {n : Int32} (N : Nat) (hd : decode cc pc = .ok (.anewarray idx, 3)) (hw : Cond.classLink own idx RX1 ∈ tkAll) (hn : ¬ n < 0) (hN : n.toNatClampNeg = N) (hby : N * 4 ≤ 536870912) (h1 : cs + 1 ≤ MC) (h2 : ss + N ≤ MS)
    (kk : tkG X Q (cs + 1) (ss + N) (pc + 3) lv (.ref σ.1 :: stk) (tkNw σ (14, N)) (tkZI σ I) (tkZL σ L)) : tkG X Q cs ss pc lv (.int n :: stk) σ I L := by
  obtain ⟨p, l, e, R, s, m, args, below, meth, c, base, D⟩ := X
  obtain ⟨hx, hb, hml, hown, hts, hK, hE, hlocks, hr, hnm, hhh, hfr, hlo, hRc, hRs, hst⟩ := C
  intro H locs ls hSS hR hl
  subst hN
  refine W.anew hx hb hown (hts _ hw) (va_AO.use hK.2.1) rfl hd rfl hn hby (by rw [hRc]; exact h1) (by rw [hRs]; exact h2) fun cA kA comp f1 f2 f3 f4 => ?_
  generalize hH1 : H.push ({ cls := cA, slots := Array.replicate n.toNatClampNeg .null, vm := .none } : Cell) = H1
  have z1 : H1.size = H.size + 1 := by rw [← hH1, Array.size_push]
  have e1 : H1[H.size]? = some (arrV cA n.toNatClampNeg (fun _ => .null)) := by rw [← hH1, Array.getElem?_push_size, ← arrV_new]
  have o1 : ∀ q : Nat, q < H.size → H1[q]? = H[q]? := fun q hq => by rw [← hH1, Array.getElem?_push, if_neg (Nat.ne_of_lt hq)]
  obtain ⟨kA', comp', -, -, -, g4⟩ := (hK.1.2 3 _ rfl).2
  have hcA : D.1 14 = cA := Option.some.inj (g4.symm.trans f1)
  rw [show (Value.ref H.size) = Value.ref σ.1 by rw [hR.1]]
  refine kk H1 locs ls (hSS.grow z1 o1) (hR.new z1 o1 ?_) hl
  have e2 : H1[σ.1]? = some (arrV (D.1 14) n.toNatClampNeg (fun _ => .null)) := by rw [hcA, ← hR.1]; exact e1
  exact ⟨fun q => absurd (show 14 < 7 from q) (by decide), fun q => absurd (show 14 = 10 from q) (by decide), fun q => absurd (show 14 = 11 from q) (by decide), fun q => absurd (show 14 = 12 from q) (by decide), fun q => absurd (show 14 = 13 from q) (by decide), fun _ => e2⟩
theorem g_objInit (C : tkC X cc own nm nL ret hh d MC MS) {idx a : Nat} (hd : decode cc pc = .ok (.invokespecial idx, 3)) (hw : Cond.methodLink own idx objectInit ∈ tkAll) (hw2 : Cond.instanceMethod objectInit ∈ tkAll) (hw3 : Cond.code objectInit ⟨#[0xb1]⟩ 1 none ∈ tkAll) (hd1 : 1 ≤ d) (hst : (stk.map fun v => v.category).sum ≤ 8) (kk : tkG X Q cs ss (pc + 3) lv stk σ I L) : tkG X Q cs ss pc lv (.ref a :: stk) σ I L := by
  obtain ⟨p, l, e, R, s, m, args, below, meth, c, base, D⟩ := X
  obtain ⟨hx, hb, hml, hown, hts, hK, hE, hlocks, hr, hnm, hhh, hfr, hlo, hRc, hRs, hst9⟩ := C
  intro H locs ls hSS hR hl
  exact W.objInit hx hb hown (hts _ hw) (hts _ hw2) (hts _ hw3) rfl hl.1 rfl hd (by omega) (by show 2 * 0 + _ + 12 ≤ _; omega) (kk H locs ls hSS hR hl)
end TKMEM

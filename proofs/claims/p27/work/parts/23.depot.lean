section TKCORE
theorem cp_in {α : Type} {f g : Nat → α} {n j : Nat} (h : j < n) : va_cpy f g 0 0 n j = f j := (pk_cpy_in (Nat.zero_le _) (by omega)).trans (by rw [Nat.zero_add, Nat.sub_zero])
theorem tk2_at {α : Type} {f : Nat → Nat → α} {a i : Nat} {x : α} : tk2 f a i x a i = x := if_pos ⟨rfl, rfl⟩
theorem tk2_ne {α : Type} {f : Nat → Nat → α} {a i b j : Nat} {x : α} (h : b ≠ a) : tk2 f a i x b j = f b j := if_neg (fun z => h z.1)
end TKCORE
section TKDEPOT
variable {σ : tkM} {x p t dd : Nat} {I0 v : tkI} {L0 w : tkL}
theorem bM_0 (σ : tkM) (T : Nat → Nat × Nat) (R : Nat → Nat → Option Nat) : bM σ.1 0 T σ.2.1 R σ.2.2 = σ := by
  show (σ.1 + 0, rgS σ.1 0 T σ.2.1, reg σ.1 0 R σ.2.2) = σ
  rw [rgS_0, reg_0]
  rfl
/-- memory behind a new plant -/
def nPl (σ : tkM) : tkM := bM σ.1 28 pT σ.2.1 (rPl σ.1 (rOb 0 zR)) σ.2.2
theorem rPl_F (q : Nat) (R : Nat → Nat → Option Nat) {k j o : Nat} (h : pF k j = some o) : rPl q R k j = some (q + o) := by
  unfold pF at h
  split at h <;> first | (split at h <;> first | (cases h; rfl) | cases h) | cases h
theorem nPl_reg (σ : tkM) : tkReg 28 pT pF (nPl σ) σ.1 :=
  ⟨fun k hk => rgS_at hk, fun k j o hk h => by
    show reg σ.1 28 (rPl σ.1 (rOb 0 zR)) σ.2.2 (σ.1 + k) j = _
    rw [reg_at hk]
    exact rPl_F _ _ h⟩
theorem tkReg.old {N : Nat} {T : Nat → Nat × Nat} {F : Nat → Nat → Option Nat} {σ σ' : tkM} {p : Nat} (h : tkReg N T F σ p) (h1 : ∀ a, a < p + N → p ≤ a → σ'.2.1 a = σ.2.1 a) (h2 : ∀ a j, a < p + N → p ≤ a → σ'.2.2 a j = σ.2.2 a j) : tkReg N T F σ' p :=
  ⟨fun k hk => (h1 _ (by omega) (by omega)).trans (h.1 k hk), fun k j o hk hF => (h2 _ _ (by omega) (by omega)).trans (h.2 k j o hk hF)⟩
variable {X : tkX} {Q : State → Prop} {cc : ByteArray} {own nm : String} {nL d MC MS cs ss pc : Nat} {ret : Option FieldType} {hh : List (Nat × Nat × Nat × Nat)} {lv : List (Option Value)} {stk : List Value} {I : tkI} {L : tkL}
theorem g_newP (C : tkC X cc own nm nL ret hh d MC MS) {idx : Nat} (hd : decode cc pc = .ok (.new idx, 3)) (hw : Cond.classLink own idx RX1 ∈ tkAll) (h1 : cs + 1 ≤ MC) (h2 : ss + 5 ≤ MS)
    (kk : tkG X Q (cs + 1) (ss + 5) (pc + 3) lv (.ref (σ.1 + 0) :: stk) (bM σ.1 1 pT σ.2.1 (rOb 0 zR) σ.2.2) (reg σ.1 1 zI I) (reg σ.1 1 zL L)) : tkG X Q cs ss pc lv stk σ I L := by
  have h := b_new (p := σ.1) (n := 0) (T := pT) (S := σ.2.1) (R := zR) (V := σ.2.2) (I := I) (L := L) C 1 (RX1, TX1, 5) hd rfl hw mn_X1 mi_X1 rfl h1 h2 kk
  rw [bM_0, reg_0, reg_0] at h
  exact h
/-- memory behind the save of a new depot -/
def nDe (σ : tkM) (dd j : Nat) : tkM := bM σ.1 28 pT σ.2.1 (rPl σ.1 (rOb 0 zR)) (tk2 σ.2.2 dd j (some σ.1))
end TKDEPOT

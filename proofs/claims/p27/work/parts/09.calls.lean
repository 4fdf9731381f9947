section TKCALL
variable {X : tkX} {Q : State → Prop} {cc : ByteArray} {own nm : String} {nL d MC MS cs ss pc : Nat} {ret : Option FieldType} {hh : List (Nat × Nat × Nat × Nat)} {lv : List (Option Value)} {stk : List Value} {σ : tkM} {I : tkI} {L : tkL}
theorem tk_nn {z : Int32} (hz : ¬ z < 0) : z.toInt = (z.toNatClampNeg : Int) := by
  have hz0 : (0 : Int) ≤ z.toInt := by
    have := Int32.not_lt.mp hz
    simpa using Int32.le_iff_toInt_le.mp this
  show z.toInt = ((z.toInt.toNat : Nat) : Int)
  omega
/-! System.arraycopy -/
theorem g_copy_i (C : tkC X cc own nm nL ret hh d MC MS) {idx a a0 ns nd : Nat} {sp dp n : Int32} {I1 : tkI} (hd : decode cc pc = .ok (.invokestatic idx, 3)) (hw1 : Cond.methodLink own idx arraycopyName ∈ tkAll) (hw2 : Cond.native arraycopyName ∈ tkAll) (hw3 : Cond.static arraycopyName ∈ tkAll) (hw4 : Cond.initialized "java/lang/System" ∈ tkAll)
    (hs0 : σ.2.1 a0 = (10, ns)) (hs1 : σ.2.1 a = (10, nd)) (hI : tk1 I a (va_cpy (I a0) (I a) sp.toNatClampNeg dp.toNatClampNeg n.toNatClampNeg) = I1) (h1 : ¬ sp < 0) (h2 : ¬ dp < 0) (h3 : ¬ n < 0) (h4 : sp.toNatClampNeg + n.toNatClampNeg ≤ ns) (h5 : dp.toNatClampNeg + n.toNatClampNeg ≤ nd)
    (hd2 : 2 ≤ d) (hstk : (stk.map fun v => v.category).sum ≤ 8) (kk : tkG X Q cs ss (pc + 3) lv stk σ I1 L) : tkG X Q cs ss pc lv (.int n :: .int dp :: .ref a :: .int sp :: .ref a0 :: stk) σ I L := by
  obtain ⟨p, l, e, R, s, m, args, below, meth, c, base, D⟩ := X
  obtain ⟨hx, hb, hml, hown, hts, hK, hE, hlocks, hr, hnm, hhh, hfr, hlo, hRc, hRs, hst⟩ := C
  intro H locs ls hSS hR hl T hT X
  subst hI
  obtain ⟨-, -, -, hcs⟩ := hR.at hs0 (by decide)
  obtain ⟨hba, hla, hlz, hcd⟩ := hR.at hs1 (by decide)
  have hc0 : H[a0]? = some (arrV (D.1 10) ns (fun j => .int (I a0 j))) := hcs.2.1 rfl
  have hc1 : H[a]? = some (arrV (D.1 10) nd (fun j => .int (I a j))) := hcd.2.1 rfl
  obtain ⟨-, k0, hk0, cm0, hkk0⟩ := (hK.1.2 0 _ rfl).1 ns (fun j => .int (I a0 j))
  obtain ⟨-, k1, hk1, cm1, hkk1⟩ := (hK.1.2 0 _ rfl).1 nd (fun j => .int (I a j))
  obtain ⟨vm', X', step⟩ := X.arraycopy hx hown (hts _ hw1) (hts _ hw2) (hts _ hw3) (hts _ hw4) (src := a0) (dst := a) (cs := arrV (D.1 10) ns (fun j => .int (I a0 j))) (cd := arrV (D.1 10) nd (fun j => .int (I a j))) (srcPos := sp) (destPos := dp) (n := n) (by rw [hT]; exact hc0) (by rw [hT]; exact hc1)
    (fun _ h => by cases h) (fun _ h => by cases h) (fun h => by cases h) (fun h => by cases h) hk0 hk1 hkk0 hkk1 (by simp [refKind]) h1 h2 h3
    (by rw [tk_nn h1, tk_nn h3, arrV_size]; omega) (by rw [tk_nn h2, tk_nn h3, arrV_size]; omega)
    (fun vm₁ _ i hi => by
      have e9 : (arrV (D.1 10) ns (fun j => .int (I a0 j))).slots.getD (sp.toNatClampNeg + i) .null = .int (I a0 (sp.toNatClampNeg + i)) := by
        rw [Array.getD_eq_getD_getElem?, arrV_read _ _ (by omega)]
        rfl
      refine ⟨?_, ?_⟩
      · rw [e9]
        exact rfl
      · rw [e9]
        exact trivial)
    (g := F0 m pc ls (.int n :: .int dp :: .ref a :: .int sp :: .ref a0 :: stk)) rfl (by exact hl.1) (rest := stk) rfl (by rw [hb]; exact hd) (by omega) (by
      have e8 : nativeFrameWords "java/lang/System" "arraycopy" 5 + 11 ≤ 60 := by decide
      show 2 * 0 + _ + _ ≤ _
      omega)
  have e1 : copied (arrV (D.1 10) ns (fun j => .int (I a0 j))) (arrV (D.1 10) nd (fun j => .int (I a j))) sp dp n = arrV (D.1 10) nd (fun j => .int (va_cpy (I a0) (I a) sp.toNatClampNeg dp.toNatClampNeg n.toNatClampNeg j)) := va_copied (fun z => .int z) _ _ (I a0) (I a) h4
  rw [e1] at X' step
  generalize hN : arrV (D.1 10) nd (fun j => .int (va_cpy (I a0) (I a) sp.toNatClampNeg dp.toNatClampNeg n.toNatClampNeg j)) = N at X' step
  have hheap : ((T.setVm vm').setCell a N).heap = H.setIfInBounds a N := by rw [← hT]; rfl
  have oq : ∀ q : Nat, q ≠ a → (H.setIfInBounds a N)[q]? = H[q]? := fun q hq => by simp [Array.getElem?_setIfInBounds, Ne.symm hq]
  have hz : (H.setIfInBounds a N).size = H.size := by simp
  have e2 : (H.setIfInBounds a N)[a]? = some (arrV (D.1 10) nd (fun j => .int (tk1 I a (va_cpy (I a0) (I a) sp.toNatClampNeg dp.toNatClampNeg n.toNatClampNeg) a j))) := by
    simp only [tk1, if_true, hN]
    simp [Array.getElem?_setIfInBounds, hlz]
  obtain ⟨t, a1, b1⟩ := kk (H.setIfInBounds a N) _ ls ⟨by rw [hz]; exact hSS.1, fun q g1 g2 => by
      rw [oq q (fun e => g2 (by rw [e]; exact hba))]
      exact hSS.2.1 q g1 g2, fun q hq => by
      rcases List.mem_append.mp hq with h | h
      · exact hSS.2.2 q h
      · obtain ⟨z, -, hz9⟩ := List.mem_map.mp h
        rw [← hz9]
        exact hba⟩ (hR.put hba hz oq rfl rfl (fun b q => by simp [tk1, q]) (fun _ _ => rfl) (fun _ _ => rfl) (fun _ => by
      rw [hs1]
      exact ⟨fun q => absurd (show 10 < 7 from q) (by decide), fun _ => e2, fun q => absurd (show 10 = 11 from q) (by decide), fun q => absurd (show 10 = 12 from q) (by decide), fun q => absurd (show 10 = 13 from q) (by decide), fun q => absurd (show 10 = 14 from q) (by decide)⟩)) hl _ hheap X'
  exact ⟨t, step t a1, b1⟩
theorem g_copy_z (C : tkC X cc own nm nL ret hh d MC MS) {idx a a0 ns nd : Nat} {sp dp n : Int32} {I1 : tkI} (hd : decode cc pc = .ok (.invokestatic idx, 3)) (hw1 : Cond.methodLink own idx arraycopyName ∈ tkAll) (hw2 : Cond.native arraycopyName ∈ tkAll) (hw3 : Cond.static arraycopyName ∈ tkAll) (hw4 : Cond.initialized "java/lang/System" ∈ tkAll)
    (hs0 : σ.2.1 a0 = (12, ns)) (hs1 : σ.2.1 a = (12, nd)) (hI : tk1 I a (va_cpy (I a0) (I a) sp.toNatClampNeg dp.toNatClampNeg n.toNatClampNeg) = I1) (h1 : ¬ sp < 0) (h2 : ¬ dp < 0) (h3 : ¬ n < 0) (h4 : sp.toNatClampNeg + n.toNatClampNeg ≤ ns) (h5 : dp.toNatClampNeg + n.toNatClampNeg ≤ nd)
    (hd2 : 2 ≤ d) (hstk : (stk.map fun v => v.category).sum ≤ 8) (kk : tkG X Q cs ss (pc + 3) lv stk σ I1 L) : tkG X Q cs ss pc lv (.int n :: .int dp :: .ref a :: .int sp :: .ref a0 :: stk) σ I L := by
  obtain ⟨p, l, e, R, s, m, args, below, meth, c, base, D⟩ := X
  obtain ⟨hx, hb, hml, hown, hts, hK, hE, hlocks, hr, hnm, hhh, hfr, hlo, hRc, hRs, hst⟩ := C
  intro H locs ls hSS hR hl T hT X
  subst hI
  obtain ⟨-, -, -, hcs⟩ := hR.at hs0 (by decide)
  obtain ⟨hba, hla, hlz, hcd⟩ := hR.at hs1 (by decide)
  have hc0 : H[a0]? = some (arrV (D.1 12) ns (fun j => .int (I a0 j))) := (hcs.2.2.2.1 rfl).1
  have hc1 : H[a]? = some (arrV (D.1 12) nd (fun j => .int (I a j))) := (hcd.2.2.2.1 rfl).1
  obtain ⟨-, k0, hk0, cm0, hkk0⟩ := (hK.1.2 2 _ rfl).1 ns (fun j => .int (I a0 j))
  obtain ⟨-, k1, hk1, cm1, hkk1⟩ := (hK.1.2 2 _ rfl).1 nd (fun j => .int (I a j))
  obtain ⟨vm', X', step⟩ := X.arraycopy hx hown (hts _ hw1) (hts _ hw2) (hts _ hw3) (hts _ hw4) (src := a0) (dst := a) (cs := arrV (D.1 12) ns (fun j => .int (I a0 j))) (cd := arrV (D.1 12) nd (fun j => .int (I a j))) (srcPos := sp) (destPos := dp) (n := n) (by rw [hT]; exact hc0) (by rw [hT]; exact hc1)
    (fun _ h => by cases h) (fun _ h => by cases h) (fun h => by cases h) (fun h => by cases h) hk0 hk1 hkk0 hkk1 (by simp [refKind]) h1 h2 h3
    (by rw [tk_nn h1, tk_nn h3, arrV_size]; omega) (by rw [tk_nn h2, tk_nn h3, arrV_size]; omega)
    (fun vm₁ _ i hi => by
      have e9 : (arrV (D.1 12) ns (fun j => .int (I a0 j))).slots.getD (sp.toNatClampNeg + i) .null = .int (I a0 (sp.toNatClampNeg + i)) := by
        rw [Array.getD_eq_getD_getElem?, arrV_read _ _ (by omega)]
        rfl
      refine ⟨?_, ?_⟩
      · rw [e9]
        exact by exact (hcs.2.2.2.1 rfl).2 _ (by show _ < ns; omega)
      · rw [e9]
        exact trivial)
    (g := F0 m pc ls (.int n :: .int dp :: .ref a :: .int sp :: .ref a0 :: stk)) rfl (by exact hl.1) (rest := stk) rfl (by rw [hb]; exact hd) (by omega) (by
      have e8 : nativeFrameWords "java/lang/System" "arraycopy" 5 + 11 ≤ 60 := by decide
      show 2 * 0 + _ + _ ≤ _
      omega)
  have e1 : copied (arrV (D.1 12) ns (fun j => .int (I a0 j))) (arrV (D.1 12) nd (fun j => .int (I a j))) sp dp n = arrV (D.1 12) nd (fun j => .int (va_cpy (I a0) (I a) sp.toNatClampNeg dp.toNatClampNeg n.toNatClampNeg j)) := va_copied (fun z => .int z) _ _ (I a0) (I a) h4
  rw [e1] at X' step
  generalize hN : arrV (D.1 12) nd (fun j => .int (va_cpy (I a0) (I a) sp.toNatClampNeg dp.toNatClampNeg n.toNatClampNeg j)) = N at X' step
  have hheap : ((T.setVm vm').setCell a N).heap = H.setIfInBounds a N := by rw [← hT]; rfl
  have oq : ∀ q : Nat, q ≠ a → (H.setIfInBounds a N)[q]? = H[q]? := fun q hq => by simp [Array.getElem?_setIfInBounds, Ne.symm hq]
  have hz : (H.setIfInBounds a N).size = H.size := by simp
  have e2 : (H.setIfInBounds a N)[a]? = some (arrV (D.1 12) nd (fun j => .int (tk1 I a (va_cpy (I a0) (I a) sp.toNatClampNeg dp.toNatClampNeg n.toNatClampNeg) a j))) := by
    simp only [tk1, if_true, hN]
    simp [Array.getElem?_setIfInBounds, hlz]
  have hfit2 : ∀ j, j < nd → fits .boolean (.int (tk1 I a (va_cpy (I a0) (I a) sp.toNatClampNeg dp.toNatClampNeg n.toNatClampNeg) a j)) = true := by
    intro j hj
    simp only [tk1, if_true, va_cpy]
    split
    · exact (hcs.2.2.2.1 rfl).2 _ (by show _ < ns; omega)
    · exact (hcd.2.2.2.1 rfl).2 j hj
  obtain ⟨t, a1, b1⟩ := kk (H.setIfInBounds a N) _ ls ⟨by rw [hz]; exact hSS.1, fun q g1 g2 => by
      rw [oq q (fun e => g2 (by rw [e]; exact hba))]
      exact hSS.2.1 q g1 g2, fun q hq => by
      rcases List.mem_append.mp hq with h | h
      · exact hSS.2.2 q h
      · obtain ⟨z, -, hz9⟩ := List.mem_map.mp h
        rw [← hz9]
        exact hba⟩ (hR.put hba hz oq rfl rfl (fun b q => by simp [tk1, q]) (fun _ _ => rfl) (fun _ _ => rfl) (fun _ => by
      rw [hs1]
      exact ⟨fun q => absurd (show 12 < 7 from q) (by decide), fun q => absurd (show 12 = 10 from q) (by decide), fun q => absurd (show 12 = 11 from q) (by decide), fun _ => ⟨e2, hfit2⟩, fun q => absurd (show 12 = 13 from q) (by decide), fun q => absurd (show 12 = 14 from q) (by decide)⟩)) hl _ hheap X'
  exact ⟨t, step t a1, b1⟩
theorem g_copy_l (C : tkC X cc own nm nL ret hh d MC MS) {idx a a0 ns nd : Nat} {sp dp n : Int32} {L1 : tkL} (hd : decode cc pc = .ok (.invokestatic idx, 3)) (hw1 : Cond.methodLink own idx arraycopyName ∈ tkAll) (hw2 : Cond.native arraycopyName ∈ tkAll) (hw3 : Cond.static arraycopyName ∈ tkAll) (hw4 : Cond.initialized "java/lang/System" ∈ tkAll)
    (hs0 : σ.2.1 a0 = (11, ns)) (hs1 : σ.2.1 a = (11, nd)) (hI : tk1 L a (va_cpy (L a0) (L a) sp.toNatClampNeg dp.toNatClampNeg n.toNatClampNeg) = L1) (h1 : ¬ sp < 0) (h2 : ¬ dp < 0) (h3 : ¬ n < 0) (h4 : sp.toNatClampNeg + n.toNatClampNeg ≤ ns) (h5 : dp.toNatClampNeg + n.toNatClampNeg ≤ nd)
    (hd2 : 2 ≤ d) (hstk : (stk.map fun v => v.category).sum ≤ 8) (kk : tkG X Q cs ss (pc + 3) lv stk σ I L1) : tkG X Q cs ss pc lv (.int n :: .int dp :: .ref a :: .int sp :: .ref a0 :: stk) σ I L := by
  obtain ⟨p, l, e, R, s, m, args, below, meth, c, base, D⟩ := X
  obtain ⟨hx, hb, hml, hown, hts, hK, hE, hlocks, hr, hnm, hhh, hfr, hlo, hRc, hRs, hst⟩ := C
  intro H locs ls hSS hR hl T hT X
  subst hI
  obtain ⟨-, -, -, hcs⟩ := hR.at hs0 (by decide)
  obtain ⟨hba, hla, hlz, hcd⟩ := hR.at hs1 (by decide)
  have hc0 : H[a0]? = some (arrV (D.1 11) ns (fun j => .long (L a0 j))) := hcs.2.2.1 rfl
  have hc1 : H[a]? = some (arrV (D.1 11) nd (fun j => .long (L a j))) := hcd.2.2.1 rfl
  obtain ⟨-, k0, hk0, cm0, hkk0⟩ := (hK.1.2 1 _ rfl).1 ns (fun j => .long (L a0 j))
  obtain ⟨-, k1, hk1, cm1, hkk1⟩ := (hK.1.2 1 _ rfl).1 nd (fun j => .long (L a j))
  obtain ⟨vm', X', step⟩ := X.arraycopy hx hown (hts _ hw1) (hts _ hw2) (hts _ hw3) (hts _ hw4) (src := a0) (dst := a) (cs := arrV (D.1 11) ns (fun j => .long (L a0 j))) (cd := arrV (D.1 11) nd (fun j => .long (L a j))) (srcPos := sp) (destPos := dp) (n := n) (by rw [hT]; exact hc0) (by rw [hT]; exact hc1)
    (fun _ h => by cases h) (fun _ h => by cases h) (fun h => by cases h) (fun h => by cases h) hk0 hk1 hkk0 hkk1 (by simp [refKind]) h1 h2 h3
    (by rw [tk_nn h1, tk_nn h3, arrV_size]; omega) (by rw [tk_nn h2, tk_nn h3, arrV_size]; omega)
    (fun vm₁ _ i hi => by
      have e9 : (arrV (D.1 11) ns (fun j => .long (L a0 j))).slots.getD (sp.toNatClampNeg + i) .null = .long (L a0 (sp.toNatClampNeg + i)) := by
        rw [Array.getD_eq_getD_getElem?, arrV_read _ _ (by omega)]
        rfl
      refine ⟨?_, ?_⟩
      · rw [e9]
        exact rfl
      · rw [e9]
        exact trivial)
    (g := F0 m pc ls (.int n :: .int dp :: .ref a :: .int sp :: .ref a0 :: stk)) rfl (by exact hl.1) (rest := stk) rfl (by rw [hb]; exact hd) (by omega) (by
      have e8 : nativeFrameWords "java/lang/System" "arraycopy" 5 + 11 ≤ 60 := by decide
      show 2 * 0 + _ + _ ≤ _
      omega)
  have e1 : copied (arrV (D.1 11) ns (fun j => .long (L a0 j))) (arrV (D.1 11) nd (fun j => .long (L a j))) sp dp n = arrV (D.1 11) nd (fun j => .long (va_cpy (L a0) (L a) sp.toNatClampNeg dp.toNatClampNeg n.toNatClampNeg j)) := va_copied (fun z => .long z) _ _ (L a0) (L a) h4
  rw [e1] at X' step
  generalize hN : arrV (D.1 11) nd (fun j => .long (va_cpy (L a0) (L a) sp.toNatClampNeg dp.toNatClampNeg n.toNatClampNeg j)) = N at X' step
  have hheap : ((T.setVm vm').setCell a N).heap = H.setIfInBounds a N := by rw [← hT]; rfl
  have oq : ∀ q : Nat, q ≠ a → (H.setIfInBounds a N)[q]? = H[q]? := fun q hq => by simp [Array.getElem?_setIfInBounds, Ne.symm hq]
  have hz : (H.setIfInBounds a N).size = H.size := by simp
  have e2 : (H.setIfInBounds a N)[a]? = some (arrV (D.1 11) nd (fun j => .long (tk1 L a (va_cpy (L a0) (L a) sp.toNatClampNeg dp.toNatClampNeg n.toNatClampNeg) a j))) := by
    simp only [tk1, if_true, hN]
    simp [Array.getElem?_setIfInBounds, hlz]
  obtain ⟨t, a1, b1⟩ := kk (H.setIfInBounds a N) _ ls ⟨by rw [hz]; exact hSS.1, fun q g1 g2 => by
      rw [oq q (fun e => g2 (by rw [e]; exact hba))]
      exact hSS.2.1 q g1 g2, fun q hq => by
      rcases List.mem_append.mp hq with h | h
      · exact hSS.2.2 q h
      · obtain ⟨z, -, hz9⟩ := List.mem_map.mp h
        rw [← hz9]
        exact hba⟩ (hR.put hba hz oq rfl rfl (fun _ _ => rfl) (fun b q => by simp [tk1, q]) (fun _ _ => rfl) (fun _ => by
      rw [hs1]
      exact ⟨fun q => absurd (show 11 < 7 from q) (by decide), fun q => absurd (show 11 = 10 from q) (by decide), fun _ => e2, fun q => absurd (show 11 = 12 from q) (by decide), fun q => absurd (show 11 = 13 from q) (by decide), fun q => absurd (show 11 = 14 from q) (by decide)⟩)) hl _ hheap X'
  exact ⟨t, step t a1, b1⟩
/-! a method's standing facts -/
def tkMth (y : MethodName) (cc : ByteArray) (maxL : Nat) (ret : Option FieldType) (n : Nat) : Prop :=
  Cond.code y cc maxL ret ∈ tkAll ∧ Cond.initialized y.cls ∈ tkAll ∧ maxL ≤ 18 ∧ (y.cls ≠ "java/lang/invoke/MethodHandle" ∧ y.cls ≠ "java/lang/invoke/VarHandle" ∧ (parseMethodDescriptor y.desc).map (fun d => d.parameters.length) = some n)
theorem tkMth.len {y : MethodName} {cc : ByteArray} {maxL n : Nat} {ret : Option FieldType} (h : tkMth y cc maxL ret n) : ∀ sig, parseMethodDescriptor y.desc = some sig → n = sig.parameters.length := by
  intro sig hs
  have h2 := h.2.2.2.2.2
  rw [hs] at h2
  exact (Option.some.inj h2).symm
theorem tkPc.blind {base : Nat} {D : va_G} {a : List Value} : FrameBlind (tkPc base D a σ I L) := by
  intro v U g mk h
  obtain ⟨h1, h2, h3, h4⟩ := h
  refine ⟨h1, ?_, ?_, h4⟩
  · exact ⟨va_K.moved (u := U) (U := U.calling g mk v) (Vm.Alike.refl U.vm) h2.1, va_AO.moved (u := U) (U := U.calling g mk v) (Vm.Alike.refl U.vm) h2.2.1, fun q hq => (h2.2.2.1 q hq).imp fun _ z => vk_R.same (u := U) (U := U.calling g mk v) rfl z, fun q hq => va_Nc.moved (u := U) (U := U.calling g mk v) (Vm.Alike.refl U.vm) (h2.2.2.2 q hq)⟩
  · exact ⟨vx_Zq.moved (u := U) (U := U.calling g mk v) (Vm.Alike.refl U.vm) h3.1, vx_Zq.moved (u := U) (U := U.calling g mk v) (Vm.Alike.refl U.vm) h3.2⟩
theorem tkPc.go {base : Nat} {D : va_G} {a : List Value} {s : State} {H : Heap} {locs : List Loc} (hK : tkK D s) (hE : tkE base s s.heap) (hS : va_S (fun q => base ≤ q) s.heap H locs) (hR : tkRel D base σ I L H) : ∀ U : State, U.heap = H → s.WarmedH U.vm → tkPc base D a σ I L a.toArray U := by
  intro U hU hW
  exact ⟨rfl, hK.warm hW, by rw [hU]; exact (hE.warm hW).kept hS.2.1, by rw [hU]; exact hR⟩
/-- behind any call -/
theorem tk_after {p : Program} {l : Launch} {e : Env} {R : Room} {s : State} {m : MethodId} {args : Array Value} {below : List Frame} {meth : Method} {c : Code} {base : Nat} {D : va_G} {H : Heap} {locs : List Loc} {ls : Array Slot} {mc ms : Nat} {st0 rest : List Value} {a : Array Value} {lo : Bool} {out : tkOut} {σ' : tkM} {I' : tkI} {L' : tkL}
    (hr : vx_Run p l e R s m args below meth c H locs cs ss mc ms (F0 m pc ls st0) rest (tkQc lo base D out σ' I' L' a) (tkXC base D out σ' I' L') (fun q => base ≤ q)) (hS : va_S (fun q => base ≤ q) s.heap H locs) (hl : tkLv ls c.maxLocals lv)
    (kr : ∀ v n, out = .inl v → σ'.1 ≤ n → (lo = false → n = σ'.1) → tkG (p, l, e, R, s, m, args, below, meth, c, base, D) Q (cs + mc) (ss + ms) (pc + 3) lv (v.toList ++ rest) (n, σ'.2) I' L')
    (kt : ∀ E n, out = .inr E → σ'.1 ≤ n → tkT (p, l, e, R, s, m, args, below, meth, c, base, D) Q (cs + mc) (ss + ms) pc lv rest (n, σ'.2) I' L' E) : W p l e R s m args below meth c H locs cs ss Q (F0 m pc ls st0) := by
  intro T hT X
  rcases hr T hT X with ⟨v, st₀, t, T', L9, h0, X', hL, e1, e2, ⟨⟨v', ho, hv⟩, ⟨n, hn, hn2, hR'⟩, hF⟩, st⟩ | ⟨q, st₀, t, T', L9, E, ce, h0, X', hL, e1, e2, ⟨ho, ⟨n, hn, hR'⟩, hF⟩, hce, hcv, hcl, st⟩
  · have hv2 : v' = v := by cases hv; rfl
    subst hv2
    obtain ⟨k1, k2, k3⟩ := vx_keep h0 e1 hS (fun q _ z => z) (fun q z => z) hL hF
    obtain ⟨t2, a1, b1⟩ := kr v' n ho hn hn2 T'.heap (locs ++ L9) ls k3 (by rw [e1]; exact hR') hl T' rfl X'
    exact ⟨t2, st t2 a1, b1⟩
  · obtain ⟨k1, k2, k3⟩ := vx_keep h0 e1 hS (fun q _ z => z) (fun q z => z) hL hF
    obtain ⟨t2, a1, b1⟩ := kt E n ho hn T'.heap (locs ++ L9) ls q ce k3 (by rw [e1]; exact hR') hl (by rw [e1]; exact hce) hcv hcl T' rfl X'
    exact ⟨t2, st.trans a1, b1⟩
theorem tk_room {d d' maxL : Nat} {R : Room} {mc ms : Nat} (h : d' + 1 ≤ d) (hm : maxL ≤ 18) (h1 : d ≤ R.frames) (h2 : 37 * d ≤ R.locals) : (tkRm d' mc ms).frames + 1 ≤ R.frames ∧ 8 + (maxL + 11) + (tkRm d' mc ms).locals ≤ R.locals := by
  constructor
  · show d' + 1 ≤ R.frames; omega
  · show 8 + (maxL + 11) + 37 * d' ≤ R.locals; omega
variable {lo : Bool} {idx d' mc ms maxL : Nat} {y : MethodName} {bytes : ByteArray} {ret' : Option FieldType} {As rest : List Value} {out : tkOut} {σ' : tkM} {I' : tkI} {L' : tkL} {b : Nat}
/-- what a callee's words ask -/
theorem tk_words {s : State} {args : Array Value} {w : Cond} (hts : ∀ w ∈ tkAll, w.before args s = true) (hw : w ∈ tkAll) : ∀ z ∈ w :: tkAll, ∀ (a' : Array Value) (U : State), s.WarmedH U.vm → z.before a' U = true := by
  intro z hz a' U hW
  have hz' : z ∈ tkAll := by rcases List.mem_cons.mp hz with rfl | h; exact hw; exact h
  exact tk_rides hW hts z hz'
theorem g_callV (C : tkC X cc own nm nL ret hh d MC MS) {nb ci : Nat} {q : vw_C} (hd : decode cc pc = .ok (.invokevirtual idx, 3)) (hM : tkMth y bytes maxL ret' As.length) (hl1 : Cond.methodLink own idx y ∈ tkAll) (hl2 : Cond.instanceMethod y ∈ tkAll) (hl3 : Cond.selects y.cls y y ∈ tkAll) (hcon : tkCon lo (.code y bytes maxL ret') y d' (.ref b :: As) σ I L mc ms out σ' I' L')
    (hstk : stk = As.reverse ++ .ref b :: rest) (hS : σ.2.1 b = (ci, nb)) (hc : vwCl[ci]? = some q) (hq : q.1 = y.cls) (hroom : d' + 1 ≤ d ∧ cs + mc ≤ MC ∧ ss + ms ≤ MS ∧ (rest.map fun v => v.category).sum ≤ 8)
    (kr : ∀ v n, out = .inl v → σ'.1 ≤ n → (lo = false → n = σ'.1) → tkG X Q (cs + mc) (ss + ms) (pc + 3) lv (v.toList ++ rest) (n, σ'.2) I' L')
    (kt : ∀ E n, out = .inr E → σ'.1 ≤ n → tkT X Q (cs + mc) (ss + ms) pc lv rest (n, σ'.2) I' L' E) : tkG X Q cs ss pc lv stk σ I L := by
  obtain ⟨p, l, e, R, s, m, args, below, meth, c, base, D⟩ := X
  obtain ⟨hx, hb, hml, hown, hts, hK, hE, hlocks, hr, hnm, hhh, hfr, hlo, hRc, hRs, hst⟩ := C
  intro H locs ls hSS hR hl
  obtain ⟨h1, h2, h3, h4⟩ := hroom
  obtain ⟨-, -, -, hcell⟩ := hR.at hS (tk_ne99 hc)
  obtain ⟨q', hq1, cell, q1, q2, q3, q4⟩ := hcell.1 (tk_lt7 hc)
  have hR2 := tk_room (mc := mc) (ms := ms) h1 hM.2.2.1 hfr hlo
  exact tk_after (vx_runV (C := y.cls) (b := b) (As := As) (rest := rest) (nL := nL) (n := As.length) (bytes := bytes) (maxL := maxL) (ret := ret') (rm := tkRm d' mc ms) ⟨hx, hb, hml, hown, hts⟩ (hcon l hst base D)
    ⟨⟨rfl, rfl, hR2.1, hR2.2, tk_words hts hM.1, List.mem_cons_self, hts _ hM.1, hts _ hM.2.1, ⟨hM.2.2.2.1, hM.2.2.2.2.1⟩, hM.len, hts _ hl1⟩, hts _ hl2, hts _ hl3⟩
    ⟨tkPc.blind, ⟨cell, q1, by rw [q3]; rfl, by rw [q2, ← hq]; exact (hK.1.1 ci _ hc).2.1⟩, tkPc.go hK hE hSS hR⟩ rfl rfl (by rw [← hml]; exact hl.1) hstk (lv_room h4) hd ⟨by rw [hRc]; exact h2, by rw [hRs]; exact h3⟩) hSS hl kr kt
theorem g_callS (C : tkC X cc own nm nL ret hh d MC MS) (hd : decode cc pc = .ok (.invokestatic idx, 3)) (hM : tkMth y bytes maxL ret' As.length) (hl1 : Cond.methodLink own idx y ∈ tkAll) (hl2 : Cond.static y ∈ tkAll) (hcon : tkCon lo (.code y bytes maxL ret') y d' As σ I L mc ms out σ' I' L')
    (hstk : stk = As.reverse ++ rest) (hroom : d' + 1 ≤ d ∧ cs + mc ≤ MC ∧ ss + ms ≤ MS ∧ (rest.map fun v => v.category).sum ≤ 8)
    (kr : ∀ v n, out = .inl v → σ'.1 ≤ n → (lo = false → n = σ'.1) → tkG X Q (cs + mc) (ss + ms) (pc + 3) lv (v.toList ++ rest) (n, σ'.2) I' L')
    (kt : ∀ E n, out = .inr E → σ'.1 ≤ n → tkT X Q (cs + mc) (ss + ms) pc lv rest (n, σ'.2) I' L' E) : tkG X Q cs ss pc lv stk σ I L := by
  obtain ⟨p, l, e, R, s, m, args, below, meth, c, base, D⟩ := X
  obtain ⟨hx, hb, hml, hown, hts, hK, hE, hlocks, hr, hnm, hhh, hfr, hlo, hRc, hRs, hst⟩ := C
  intro H locs ls hSS hR hl
  obtain ⟨h1, h2, h3, h4⟩ := hroom
  have hR2 := tk_room (mc := mc) (ms := ms) h1 hM.2.2.1 hfr hlo
  exact tk_after (vx_runS (As := As) (rest := rest) (nL := nL) (n := As.length) (bytes := bytes) (maxL := maxL) (ret := ret') (rm := tkRm d' mc ms) ⟨hx, hb, hml, hown, hts⟩ (hcon l hst base D)
    ⟨⟨rfl, rfl, hR2.1, hR2.2, tk_words hts hM.1, List.mem_cons_self, hts _ hM.1, hts _ hM.2.1, ⟨hM.2.2.2.1, hM.2.2.2.2.1⟩, hM.len, hts _ hl1⟩, hts _ hl2⟩
    ⟨tkPc.blind, tkPc.go hK hE hSS hR⟩ rfl rfl (by rw [← hml]; exact hl.1) hstk (lv_room h4) hd ⟨by rw [hRc]; exact h2, by rw [hRs]; exact h3⟩) hSS hl kr kt
theorem g_callSN (C : tkC X cc own nm nL ret hh d MC MS) {host : String} (hd : decode cc pc = .ok (.invokestatic idx, 3)) (hM : tkMth y bytes maxL ret' As.length) (hl1 : Cond.methodLinkNest own idx y host ∈ tkAll) (hl2 : Cond.static y ∈ tkAll) (hcon : tkCon lo (.code y bytes maxL ret') y d' As σ I L mc ms out σ' I' L')
    (hstk : stk = As.reverse ++ rest) (hroom : d' + 1 ≤ d ∧ cs + mc ≤ MC ∧ ss + ms ≤ MS ∧ (rest.map fun v => v.category).sum ≤ 8)
    (kr : ∀ v n, out = .inl v → σ'.1 ≤ n → (lo = false → n = σ'.1) → tkG X Q (cs + mc) (ss + ms) (pc + 3) lv (v.toList ++ rest) (n, σ'.2) I' L')
    (kt : ∀ E n, out = .inr E → σ'.1 ≤ n → tkT X Q (cs + mc) (ss + ms) pc lv rest (n, σ'.2) I' L' E) : tkG X Q cs ss pc lv stk σ I L := by
  obtain ⟨p, l, e, R, s, m, args, below, meth, c, base, D⟩ := X
  obtain ⟨hx, hb, hml, hown, hts, hK, hE, hlocks, hr, hnm, hhh, hfr, hlo, hRc, hRs, hst⟩ := C
  intro H locs ls hSS hR hl
  obtain ⟨h1, h2, h3, h4⟩ := hroom
  have hR2 := tk_room (mc := mc) (ms := ms) h1 hM.2.2.1 hfr hlo
  exact tk_after (vx_runSN (As := As) (rest := rest) (nL := nL) (n := As.length) (bytes := bytes) (maxL := maxL) (ret := ret') (rm := tkRm d' mc ms) ⟨hx, hb, hml, hown, hts⟩ (hcon l hst base D)
    ⟨⟨⟨rfl, rfl, hR2.1, hR2.2, tk_words hts hM.1, List.mem_cons_self⟩, hts _ hM.1, hts _ hM.2.1, ⟨hM.2.2.2.1, hM.2.2.2.2.1⟩, hM.len, hts _ hl1⟩, hts _ hl2, trivial⟩
    ⟨tkPc.blind, tkPc.go hK hE hSS hR⟩ rfl rfl (by rw [← hml]; exact hl.1) hstk (lv_room h4) hd ⟨by rw [hRc]; exact h2, by rw [hRs]; exact h3⟩) hSS hl kr kt
theorem g_callI (C : tkC X cc own nm nL ret hh d MC MS) (hd : decode cc pc = .ok (.invokespecial idx, 3)) (hM : tkMth y bytes maxL none As.length) (hl1 : Cond.methodLink own idx y ∈ tkAll) (hl2 : Cond.instanceMethod y ∈ tkAll) (hy : y.name = "<init>") (hcon : tkCon lo (.code y bytes maxL none) y d' (.ref b :: As) σ I L mc ms out σ' I' L')
    (hstk : stk = As.reverse ++ .ref b :: rest) (hroom : d' + 1 ≤ d ∧ cs + mc ≤ MC ∧ ss + ms ≤ MS ∧ (rest.map fun v => v.category).sum ≤ 8)
    (kr : ∀ v n, out = .inl v → σ'.1 ≤ n → (lo = false → n = σ'.1) → tkG X Q (cs + mc) (ss + ms) (pc + 3) lv (v.toList ++ rest) (n, σ'.2) I' L')
    (kt : ∀ E n, out = .inr E → σ'.1 ≤ n → tkT X Q (cs + mc) (ss + ms) pc lv rest (n, σ'.2) I' L' E) : tkG X Q cs ss pc lv stk σ I L := by
  obtain ⟨p, l, e, R, s, m, args, below, meth, c, base, D⟩ := X
  obtain ⟨hx, hb, hml, hown, hts, hK, hE, hlocks, hr, hnm, hhh, hfr, hlo, hRc, hRs, hst⟩ := C
  intro H locs ls hSS hR hl
  obtain ⟨h1, h2, h3, h4⟩ := hroom
  have hR2 := tk_room (mc := mc) (ms := ms) h1 hM.2.2.1 hfr hlo
  exact tk_after (vx_runI (b := b) (As := As) (rest := rest) (nL := nL) (n := As.length) (bytes := bytes) (maxL := maxL) (rm := tkRm d' mc ms) ⟨hx, hb, hml, hown, hts⟩ (hcon l hst base D)
    ⟨⟨rfl, rfl, hR2.1, hR2.2, tk_words hts hM.1, List.mem_cons_self, hts _ hM.1, hts _ hM.2.1, ⟨hM.2.2.2.1, hM.2.2.2.2.1⟩, hM.len, hts _ hl1⟩, hy, hts _ hl2⟩
    ⟨tkPc.blind, tkPc.go hK hE hSS hR⟩ rfl rfl (by rw [← hml]; exact hl.1) hstk (lv_room h4) hd ⟨by rw [hRc]; exact h2, by rw [hRs]; exact h3⟩) hSS hl kr kt
theorem g_callIN (C : tkC X cc own nm nL ret hh d MC MS) {host : String} (hd : decode cc pc = .ok (.invokespecial idx, 3)) (hM : tkMth y bytes maxL none As.length) (hl1 : Cond.methodLinkNest own idx y host ∈ tkAll) (hl2 : Cond.instanceMethod y ∈ tkAll) (hy : y.name = "<init>") (hcon : tkCon lo (.code y bytes maxL none) y d' (.ref b :: As) σ I L mc ms out σ' I' L')
    (hstk : stk = As.reverse ++ .ref b :: rest) (hroom : d' + 1 ≤ d ∧ cs + mc ≤ MC ∧ ss + ms ≤ MS ∧ (rest.map fun v => v.category).sum ≤ 8)
    (kr : ∀ v n, out = .inl v → σ'.1 ≤ n → (lo = false → n = σ'.1) → tkG X Q (cs + mc) (ss + ms) (pc + 3) lv (v.toList ++ rest) (n, σ'.2) I' L')
    (kt : ∀ E n, out = .inr E → σ'.1 ≤ n → tkT X Q (cs + mc) (ss + ms) pc lv rest (n, σ'.2) I' L' E) : tkG X Q cs ss pc lv stk σ I L := by
  obtain ⟨p, l, e, R, s, m, args, below, meth, c, base, D⟩ := X
  obtain ⟨hx, hb, hml, hown, hts, hK, hE, hlocks, hr, hnm, hhh, hfr, hlo, hRc, hRs, hst⟩ := C
  intro H locs ls hSS hR hl
  obtain ⟨h1, h2, h3, h4⟩ := hroom
  have hR2 := tk_room (mc := mc) (ms := ms) h1 hM.2.2.1 hfr hlo
  exact tk_after (vx_runIN (b := b) (As := As) (rest := rest) (nL := nL) (n := As.length) (bytes := bytes) (maxL := maxL) (rm := tkRm d' mc ms) ⟨hx, hb, hml, hown, hts⟩ (hcon l hst base D)
    ⟨⟨⟨rfl, rfl, hR2.1, hR2.2, tk_words hts hM.1, List.mem_cons_self⟩, hts _ hM.1, hts _ hM.2.1, ⟨hM.2.2.2.1, hM.2.2.2.2.1⟩, hM.len, hts _ hl1⟩, hy, hts _ hl2⟩
    ⟨tkPc.blind, tkPc.go hK hE hSS hR⟩ rfl rfl (by rw [← hml]; exact hl.1) hstk (lv_room h4) hd ⟨by rw [hRc]; exact h2, by rw [hRs]; exact h3⟩) hSS hl kr kt
/-- a static method with a table of handlers -/
def tkMthH (y : MethodName) (cc : ByteArray) (maxL : Nat) (ret : Option FieldType) (hh : List (Nat × Nat × Nat × Nat)) (n : Nat) : Prop :=
  Cond.codeWith y cc maxL ret hh ∈ tkAll ∧ Cond.initialized y.cls ∈ tkAll ∧ maxL ≤ 18 ∧ (y.cls ≠ "java/lang/invoke/MethodHandle" ∧ y.cls ≠ "java/lang/invoke/VarHandle" ∧ (parseMethodDescriptor y.desc).map (fun d => d.parameters.length) = some n)
theorem tkMthH.len {y : MethodName} {cc : ByteArray} {maxL n : Nat} {ret : Option FieldType} {hh : List (Nat × Nat × Nat × Nat)} (h : tkMthH y cc maxL ret hh n) : ∀ sig, parseMethodDescriptor y.desc = some sig → n = sig.parameters.length := by
  intro sig hs
  have h2 := h.2.2.2.2.2
  rw [hs] at h2
  exact (Option.some.inj h2).symm
theorem g_callSH (C : tkC X cc own nm nL ret hh d MC MS) {hh' : List (Nat × Nat × Nat × Nat)} (hd : decode cc pc = .ok (.invokestatic idx, 3)) (hM : tkMthH y bytes maxL ret' hh' As.length) (hl1 : Cond.methodLink own idx y ∈ tkAll) (hl2 : Cond.static y ∈ tkAll) (hcon : tkCon lo (.codeWith y bytes maxL ret' hh') y d' As σ I L mc ms out σ' I' L')
    (hstk : stk = As.reverse ++ rest) (hroom : d' + 1 ≤ d ∧ cs + mc ≤ MC ∧ ss + ms ≤ MS ∧ (rest.map fun v => v.category).sum ≤ 8)
    (kr : ∀ v n, out = .inl v → σ'.1 ≤ n → (lo = false → n = σ'.1) → tkG X Q (cs + mc) (ss + ms) (pc + 3) lv (v.toList ++ rest) (n, σ'.2) I' L')
    (kt : ∀ E n, out = .inr E → σ'.1 ≤ n → tkT X Q (cs + mc) (ss + ms) pc lv rest (n, σ'.2) I' L' E) : tkG X Q cs ss pc lv stk σ I L := by
  obtain ⟨p, l, e, R, s, m, args, below, meth, c, base, D⟩ := X
  obtain ⟨hx, hb, hml, hown, hts, hK, hE, hlocks, hr, hnm, hhh, hfr, hlo, hRc, hRs, hst⟩ := C
  intro H locs ls hSS hR hl
  obtain ⟨h1, h2, h3, h4⟩ := hroom
  have hR2 := tk_room (mc := mc) (ms := ms) h1 hM.2.2.1 hfr hlo
  exact tk_after (vx_runSX (hh := hh') (As := As) (rest := rest) (nL := nL) (n := As.length) (bytes := bytes) (maxL := maxL) (ret := ret') (rm := tkRm d' mc ms) ⟨hx, hb, hml, hown, hts⟩ (hcon l hst base D)
    ⟨⟨rfl, rfl, hR2.1, hR2.2, tk_words hts hM.1, List.mem_cons_self⟩, hts _ hM.1, hts _ hM.2.1, ⟨hM.2.2.2.1, hM.2.2.2.2.1⟩, hM.len, hts _ hl1, hts _ hl2⟩
    ⟨tkPc.blind, tkPc.go hK hE hSS hR⟩ rfl rfl (by rw [← hml]; exact hl.1) hstk (lv_room h4) hd ⟨by rw [hRc]; exact h2, by rw [hRs]; exact h3⟩) hSS hl kr kt
end TKCALL
section TKEND
variable {X : tkX} {Q : State → Prop} {cc : ByteArray} {own nm : String} {nL d MC MS cs ss pc : Nat} {ret : Option FieldType} {hh : List (Nat × Nat × Nat × Nat)} {lv : List (Option Value)} {stk : List Value} {σ σ' : tkM} {I I' : tkI} {L L' : tkL} {lo : Bool} {mc ms : Nat} {out : tkOut}
/-- what an end says: the answer, and the memory as told -/
def tkEnd (lo : Bool) (out : tkOut) (σ' : tkM) (I' : tkI) (L' : tkL) (v : Option Value) (σ : tkM) (I : tkI) (L : tkL) : Prop := out = .inl v ∧ (σ'.1 ≤ σ.1 ∧ (lo = false → σ.1 = σ'.1)) ∧ σ.2 = σ'.2 ∧ I = I' ∧ L = L'
theorem tkEnd.rf {out : tkOut} {v : Option Value} (h : out = .inl v) (hI : I = I') (hL : L = L') : tkEnd lo out σ I' L' v σ I L := ⟨h, ⟨Nat.le_refl _, fun _ => rfl⟩, rfl, hI, hL⟩
theorem tkQc.of {base : Nat} {D : va_G} {s t : State} {H : Heap} {locs : List Loc} {v : Option Value} {args : Array Value} (h : tkEnd lo out σ' I' L' v σ I L) (hS : va_S (fun q => base ≤ q) s.heap H locs) (hR : tkRel D base σ I L H) (ht : t.heap = H) : tkQc lo base D out σ' I' L' args s (.returned v) t := by
  obtain ⟨h1, ⟨h2, h3⟩, h4, h5, h6⟩ := h
  subst h5; subst h6
  refine ⟨⟨v, h1, rfl⟩, ⟨σ.1, h2, h3, ?_⟩, hS.F ht⟩
  rw [ht, ← h4]
  exact hR
theorem g_ireturn (C : tkC X cc own nm nL (some .int) hh d MC MS) {x : Int32} (hd : decode cc pc = .ok (.ireturn, 1)) (hz : cs ≤ mc ∧ ss ≤ ms) (h : tkEnd lo out σ' I' L' (some (.int x)) σ I L) : tkG X (tkQ lo X mc ms out σ' I' L') cs ss pc lv [.int x] σ I L := by
  obtain ⟨p, l, e, R, s, m, args, below, meth, c, base, D⟩ := X
  obtain ⟨hx, hb, hml, hown, hts, hK, hE, hlocks, hr, hnm, hhh, hfr, hlo, hRc, hRs, hst⟩ := C
  intro H locs ls hSS hR hl
  exact W.widen hz.1 hz.2 (vx_ret (W.iret hx hb hr (fun t ht hW => tkQc.of h hSS hR ht) hSS.2.2 hd hlocks))
theorem g_zreturn (C : tkC X cc own nm nL (some .boolean) hh d MC MS) {x : Int32} (hd : decode cc pc = .ok (.ireturn, 1)) (hz : cs ≤ mc ∧ ss ≤ ms) (h01 : x = 0 ∨ x = 1) (h : tkEnd lo out σ' I' L' (some (.int x)) σ I L) : tkG X (tkQ lo X mc ms out σ' I' L') cs ss pc lv [.int x] σ I L := by
  obtain ⟨p, l, e, R, s, m, args, below, meth, c, base, D⟩ := X
  obtain ⟨hx, hb, hml, hown, hts, hK, hE, hlocks, hr, hnm, hhh, hfr, hlo, hRc, hRs, hst⟩ := C
  intro H locs ls hSS hR hl
  exact W.widen hz.1 hz.2 (vx_ret (W.zret hx hb hr (by rcases h01 with rfl | rfl <;> rfl) (fun t ht hW => tkQc.of h hSS hR ht) hSS.2.2 hd hlocks))
theorem g_lreturn (C : tkC X cc own nm nL (some .long) hh d MC MS) {x : Int64} (hd : decode cc pc = .ok (.lreturn, 1)) (hz : cs ≤ mc ∧ ss ≤ ms) (h : tkEnd lo out σ' I' L' (some (.long x)) σ I L) : tkG X (tkQ lo X mc ms out σ' I' L') cs ss pc lv [.long x] σ I L := by
  obtain ⟨p, l, e, R, s, m, args, below, meth, c, base, D⟩ := X
  obtain ⟨hx, hb, hml, hown, hts, hK, hE, hlocks, hr, hnm, hhh, hfr, hlo, hRc, hRs, hst⟩ := C
  intro H locs ls hSS hR hl
  exact W.widen hz.1 hz.2 (vx_ret (W.lret hx hb hr (fun t ht hW => tkQc.of h hSS hR ht) hSS.2.2 hd hlocks))
theorem g_dreturn (C : tkC X cc own nm nL (some .double) hh d MC MS) {x : UInt64} (hd : decode cc pc = .ok (.dreturn, 1)) (hz : cs ≤ mc ∧ ss ≤ ms) (h : tkEnd lo out σ' I' L' (some (.double x)) σ I L) : tkG X (tkQ lo X mc ms out σ' I' L') cs ss pc lv [.double x] σ I L := by
  obtain ⟨p, l, e, R, s, m, args, below, meth, c, base, D⟩ := X
  obtain ⟨hx, hb, hml, hown, hts, hK, hE, hlocks, hr, hnm, hhh, hfr, hlo, hRc, hRs, hst⟩ := C
  intro H locs ls hSS hR hl
  exact W.widen hz.1 hz.2 (vx_ret (W.dret hx hb hr (fun t ht hW => tkQc.of h hSS hR ht) hSS.2.2 hd hlocks))
theorem g_return (C : tkC X cc own nm nL none hh d MC MS) (hd : decode cc pc = .ok (.return_, 1)) (hz : cs ≤ mc ∧ ss ≤ ms) (h : tkEnd lo out σ' I' L' none σ I L) : tkG X (tkQ lo X mc ms out σ' I' L') cs ss pc lv [] σ I L := by
  obtain ⟨p, l, e, R, s, m, args, below, meth, c, base, D⟩ := X
  obtain ⟨hx, hb, hml, hown, hts, hK, hE, hlocks, hr, hnm, hhh, hfr, hlo, hRc, hRs, hst⟩ := C
  intro H locs ls hSS hR hl
  exact W.widen hz.1 hz.2 (vx_ret (W.vret hx hb hr (fun t ht hW => tkQc.of h hSS hR ht) hSS.2.2 hd hlocks))
/-- thrown on, past a method without handlers -/
theorem g_out (C : tkC X cc own nm nL ret [] d MC MS) {E : String} (hz : cs ≤ mc ∧ ss ≤ ms) (ho : out = .inr E) (hσ : σ'.1 ≤ σ.1 ∧ σ.2 = σ'.2) (hI : I = I') (hL : L = L') : tkT X (tkQ lo X mc ms out σ' I' L') cs ss pc lv stk σ I L E := by
  obtain ⟨p, l, e, R, s, m, args, below, meth, c, base, D⟩ := X
  obtain ⟨hx, hb, hml, hown, hts, hK, hE, hlocks, hr, hnm, hhh, hfr, hlo, hRc, hRs, hst⟩ := C
  intro H locs ls q ce hSS hR hl hce hcv hcl
  subst hI; subst hL
  have hno : ∀ x ∈ c.exceptionTable.toList, covers x pc = false := by
    intro x hx9
    rw [hhh] at hx9
    cases hx9
  refine vx_out hno hlocks hce hcv hcl (fun t ht hW => ⟨ho, ⟨σ.1, hσ.1, ?_⟩, hSS.F ht⟩) hSS.2.2 hz.1 hz.2
  rw [ht, ← hσ.2]
  exact hR
/-- throw new E("text") -/
theorem g_throwS (C : tkC X cc RX5 nm nL ret [] d MC MS) {ik is ic : Nat} {E text : String} (d0 : decode cc pc = .ok (.new ik, 3)) (d3 : decode cc (pc + 3) = .ok (.dup, 1)) (d4 : decode cc (pc + 4) = .ok (.ldc is, 2)) (d6 : decode cc (pc + 6) = .ok (.invokespecial ic, 3)) (d9 : decode cc (pc + 9) = .ok (.athrow, 1))
    (hf : Bundle.fit E = true) (hk : Cond.classLink RX5 ik E ∈ tkAll) (hini : Cond.initialized E ∈ tkAll) (hstr : (is, text) ∈ tkStr) (hat : ∀ w ∈ vx_atS RX5 ic E ["java/lang/RuntimeException", "java/lang/Exception"], w ∈ tkAll)
    (hgood : ∀ w ∈ Cond.classLink RX5 ik E :: Cond.initialized E :: vx_atS RX5 ic E ["java/lang/RuntimeException", "java/lang/Exception"], vx_ot w = true)
    (hroom : 6 ≤ d ∧ cs + 1 ≤ MC ∧ ss + 6 ≤ MS ∧ (stk.map fun v => v.category).sum ≤ 8) (hz : cs + 1 ≤ mc ∧ ss + 6 ≤ ms) (ho : out = .inr E) (hσ : σ'.1 ≤ σ.1 ∧ σ.2 = σ'.2) (hI : I = I') (hL : L = L') : tkG X (tkQ lo X mc ms out σ' I' L') cs ss pc lv stk σ I L := by
  obtain ⟨p, l, e, R, s, m, args, below, meth, c, base, D⟩ := X
  obtain ⟨hx, hb, hml, hown, hts, hK, hE, hlocks, hr, hnm, hhh, hfr, hlo, hRc, hRs, hst⟩ := C
  intro H locs ls hSS hR hl
  subst hI; subst hL
  obtain ⟨sa, hsa⟩ := hK.2.2.1 _ hstr
  have hno : ∀ x ∈ c.exceptionTable.toList, covers x (pc + 9) = false := by
    intro x hx9
    rw [hhh] at hx9
    cases hx9
  obtain ⟨r1, r2, r3, r4⟩ := hroom
  refine vx_throwS (own := RX5) (cls := E) (names := ["java/lang/RuntimeException", "java/lang/Exception"]) (text := text) (sa := sa) hx hb hst hown hf (by decide) (hts _ hk) (hts _ hini) hsa (fun w hw => hts w (hat w hw)) hgood hE.1 hE.2 hSS hl.1 d0 d3 d4 d6 d9 hno (by show 2 + 3 < R.frames; omega) (by show _ + (13 * (2 + 1) + 43) ≤ R.locals; omega) (by rw [hRc]; exact r2) (by rw [hRs]; exact r3) hlocks ?_ hSS.2.2 hz.1 hz.2
  intro t hal hsz hkeep
  refine ⟨ho, ⟨t.heap.size, Nat.le_trans hσ.1 (by rw [← hR.1]; exact hsz), ?_⟩, ?_⟩
  · rw [← hσ.2]
    exact hR.grow rfl (by rw [← hR.1]; exact hsz) hkeep
  · exact ⟨Nat.le_trans hSS.1 hsz, fun q h1 h2 => by rw [hkeep q (Nat.lt_of_lt_of_le h1 hSS.1)]; exact hSS.2.1 q h1 h2⟩
/-- caught -/
theorem g_catch (C : tkC X cc own nm nL ret hh d MC MS) {E name : String} (pre : List ExceptionTableEntry) (x : ExceptionTableEntry) (suf : List ExceptionTableEntry) (hsplit : tableOf hh = pre ++ x :: suf)
    (hpass : ∀ z ∈ pre, covers z pc = false ∨ (z.catchType ≠ 0 ∧ ∃ n9 : String, Cond.classLink own z.catchType n9 ∈ tkAll ∧ (E, n9) ∈ tkNc)) (hcov : covers x pc = true) (h0 : x.catchType ≠ 0) (hlink : Cond.classLink own x.catchType name ∈ tkAll) (hcast : Cond.castable E name ∈ tkAll)
    (kk : ∀ q : Nat, tkG X Q cs ss x.handlerPc lv [.ref q] σ I L) : tkT X Q cs ss pc lv stk σ I L E := by
  obtain ⟨p, l, e, R, s, m, args, below, meth, c, base, D⟩ := X
  obtain ⟨hx, hb, hml, hown, hts, hK, hE, hlocks, hr, hnm, hhh, hfr, hlo, hRc, hRs, hst⟩ := C
  intro H locs ls q ce hSS hR hl hce hcv hcl
  refine vx_catch hown pre x suf (by rw [hhh]; exact hsplit) (fun z hz => ?_) hcov h0 (hts _ hlink) (hts _ hcast) hce hcv hcl (kk q H locs ls hSS hR hl)
  rcases hpass z hz with h | ⟨h1, n9, h2, h3⟩
  · exact Or.inl h
  · exact Or.inr ⟨h1, n9, hts _ h2, hK.2.2.2 _ h3⟩
end TKEND

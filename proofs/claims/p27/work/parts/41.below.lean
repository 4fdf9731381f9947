section TKBELOW
variable {X : tkX} {Q : State → Prop} {cc : ByteArray} {own nm : String} {nL d MC MS cs ss pc : Nat} {ret : Option FieldType} {hh : List (Nat × Nat × Nat × Nat)} {lv : List (Option Value)} {stk : List Value} {σ : tkM} {I : tkI} {L : tkL}
def jbel (v n : Int32) : Int32 := (v &&& 2147483647) - (v &&& 2147483647) / n * n
theorem jbel_in (v : Int32) {n : Nat} (h0 : 0 < n) (hn : n < 2 ^ 31) : ∃ r, r < n ∧ jbel v (nI n) = nI r := by
  obtain ⟨a, ha, ea⟩ := pk_andE v (m := 2147483647) 31 (by decide)
  refine ⟨a % n, Nat.mod_lt _ h0, ?_⟩
  unfold jbel
  rw [ea]
  exact pk_rem (by omega) h0 hn
theorem c_L_below (v n : Int32) (hne : ¬ n = 0) : tkCon false (.code yL_below cL_below 2 (some .int)) yL_below 1 [.int v, .int n] σ I L 0 0 (.inl (some (.int (jbel v n)))) σ I L := by
  refine tkCon.of (by decide) (Nat.le_of_ble_eq_true rfl) (fun X C => ?_)
  refine g_iload_n C (i := 0) dL_below_0 rfl rfl ?_
  refine g_ldc C (2147483647) dL_below_1 ml_L_7 ?_
  refine g_iand C dL_below_3 ?_
  refine g_iload_n C (i := 1) dL_below_4 rfl rfl ?_
  refine g_irem C dL_below_5 hne ?_
  exact g_ireturn C dL_below_6 ⟨Nat.le_of_ble_eq_true rfl, Nat.le_of_ble_eq_true rfl⟩ (tkEnd.rf rfl rfl rfl)
def jcell (xs : Nat → Int32) (n k : Nat) : Int32 := if k < n then xs k else 790386105 * (nI k + 3)
theorem cell_body {sb n k : Nat} {xs : Nat → Int32} (hn : n ≤ 260) (hk : k < 1000) (C : tkC X cL_cell RL nm 2 (some .int) [] 1 0 0) (S : lwX X sb n xs) : tkG X (tkQ false X 0 0 (.inl (some (.int (jcell xs n k)))) σ I L) 0 0 0 [some (.ref sb), some (.int (nI k))] [] σ I L := by
  have hn9 : n < 2 ^ 31 := by omega
  have J18 : ∀ x, x = jcell xs n k → tkG X (tkQ false X 0 0 (.inl (some (.int (jcell xs n k)))) σ I L) 0 0 18 [some (.ref sb), some (.int (nI k))] [.int x] σ I L := by
    intro x hx
    subst hx
    exact g_ireturn C dL_cell_18 ⟨Nat.le_of_ble_eq_true rfl, Nat.le_of_ble_eq_true rfl⟩ (tkEnd.rf rfl rfl rfl)
  refine g_iload_n C (i := 1) dL_cell_0 rfl rfl ?_
  refine g_aload_n C (i := 0) dL_cell_1 rfl rfl ?_
  refine g_slen C S dL_cell_2 ?_
  refine g_icmp_ge C 12 dL_cell_3 (by decide) (fun h3 => ?_) (fun h3 => ?_)
  · refine g_ldc C (790386105) dL_cell_12 ml_L_8 ?_
    refine g_iload_n C (i := 1) dL_cell_14 rfl rfl ?_
    refine g_iconst C (3) dL_cell_15 rfl ?_
    refine g_iadd C dL_cell_16 ?_
    refine g_imul C dL_cell_17 ?_
    exact J18 _ (if_neg (fun z => absurd h3 (nI_ge z hn9))).symm
  · have hlt : k < n := Nat.lt_of_not_le fun z => h3 (nI_le z (by omega))
    refine g_aload_n C (i := 0) dL_cell_6 rfl rfl ?_
    refine g_iload_n C (i := 1) dL_cell_7 rfl rfl ?_
    refine g_scr C S dL_cell_8 rfl hlt hn9 ?_
    refine g_goto C 18 dL_cell_9 (by decide) ?_
    exact J18 _ (if_pos hlt).symm
theorem c_L_cell {l : Launch} (hl : l.stackTraces = false) (base : Nat) (D : va_G) {sb n k : Nat} {xs : Nat → Int32} (hn : n ≤ 260) (hk : k < 1000) :
    vx_Met l yL_cell (Cond.code yL_cell cL_cell 2 (some .int) :: tkAll) (tkRm 1 0 0) (tkPcS sb n xs base D [.ref sb, .int (nI k)] σ I L) (tkQc false base D (.inl (some (.int (jcell xs n k)))) σ I L) (tkXC base D (.inl (some (.int (jcell xs n k)))) σ I L) 0 0 (fun q => base ≤ q) := by
  refine vx_ofW (cc := cL_cell) (maxL := 2) (ret := some .int) (by decide) rfl ?_
  intro p e s m args below meth c s₁ B hml ht hv
  obtain ⟨⟨rfl, hK, hE, hR⟩, hX, hb, hnb⟩ := hv
  have hts0 := atoms_spec (ws := Cond.code yL_cell cL_cell 2 (some .int) :: tkAll) B.pre
  have C : tkC (p, l, e, tkRm 1 0 0, s, m, ([.ref sb, .int (nI k)] : List Value).toArray, below, meth, c, base, D) cL_cell yL_cell.cls yL_cell.name 2 (some .int) [] 1 0 0 :=
    ⟨B.exec, B.bytes, hml, findClass_of_methodNamed B.named, fun w hw => hts0 w (List.mem_cons_of_mem _ hw), hK, hE, B.notSynchronized, B.returns, (name_of_methodNamed B.named B.method).1, List.eq_nil_iff_forall_not_mem.mpr ht, Nat.le_refl _, Nat.le_refl _, rfl, rfl, hl⟩
  exact tkG.entry rfl hml (Nat.le_of_ble_eq_true rfl) hR (cell_body hn hk C ⟨hX, hb, hnb⟩)
theorem g_cell (C : tkC X cc own nm nL ret hh d MC MS) {sb n k idx : Nat} {xs : Nat → Int32} {i : Int32} (S : lwX X sb n xs) (hd : decode cc pc = .ok (.invokestatic idx, 3)) (hl1 : Cond.methodLink own idx yL_cell ∈ tkAll) (hi : i = nI k) (hn : n ≤ 260) (hk : k < 1000) (h1 : 2 ≤ d) (h2 : cs ≤ MC) (h3 : ss ≤ MS) (h4 : (stk.map fun v => v.category).sum ≤ 8)
    (kk : tkG X Q cs ss (pc + 3) lv (.int (jcell xs n k) :: stk) σ I L) : tkG X Q cs ss pc lv (.int i :: .ref sb :: stk) σ I L := by
  obtain ⟨p, l, e, R, s, m, args, below, meth, c, base, D⟩ := X
  obtain ⟨hx, hb, hml, hown, hts, hK, hE, hlocks, hr, hnm, hhh, hfr, hlo, hRc, hRs, hst⟩ := C
  intro H locs ls hSS hR hl
  subst hi
  have hM := mm_L_cell
  have hR2 := tk_room (mc := 0) (ms := 0) h1 hM.2.2.1 hfr hlo
  exact tk_after (vx_runS (As := [.ref sb, .int (nI k)]) (rest := stk) (nL := nL) (n := 2) (bytes := cL_cell) (maxL := 2) (ret := some .int) (rm := tkRm 1 0 0) ⟨hx, hb, hml, hown, hts⟩ (c_L_cell hst base D hn hk)
    ⟨⟨rfl, rfl, hR2.1, hR2.2, tk_words hts hM.1, List.mem_cons_self, hts _ hM.1, hts _ hM.2.1, ⟨hM.2.2.2.1, hM.2.2.2.2.1⟩, hM.len, hts _ hl1⟩, hts _ mt_yL_cell⟩
    ⟨tkPcS.blind, tkPcS.go hK hE hSS hR S⟩ rfl rfl (by rw [← hml]; exact hl.1) rfl (lv_room h4) hd ⟨by rw [hRc]; exact h2, by rw [hRs]; exact h3⟩) hSS hl (tk_retv kk) tk_nothr
end TKBELOW

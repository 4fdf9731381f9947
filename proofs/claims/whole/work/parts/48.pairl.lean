section TKPAIRL
theorem out_at {B : Nat} {K L1 : tkL} {x : Int64} : reg (B + 58) 21 K (tk2 L1 (B + 79) 0 x) (B + 79) 0 = x := (congrFun (reg_off (by omega)) 0).trans tk2_at
theorem out_at2 {B : Nat} {K L1 : tkL} {x : Int64} : reg (B + 58) 21 K (tk2 L1 (B + 80) 0 x) (B + 80) 0 = x := (congrFun (reg_off (by omega)) 0).trans tk2_at
theorem lwPair.mk' {w1 w2 : Cond} {y1 y2 : MethodName} {a1 a2 : List Value} {d2 : Nat} {T : Type} {V : T → Value} {E : T → tkL → Prop} {B i dN nt ns np c tm dc : Nat} {σ : tkM} {I I1 : tkI} {L L1 : tkL} {A NT NS NP : Nat → Nat} {k : Int32} {mc ms : Nat} {b : T} {q' m' : tkI × tkL}
    (hL : lwLay B σ A dN) (hd : dc ≤ dN) (h : lwSt B I L A i nt ns np c tm dc NT NS NP) (h1 : mc ≤ 28) (h2 : ms ≤ 364) (con1 : tkCon true w1 y1 11 a1 σ I L mc ms (.inl (some (.int k))) σ I1 L1) (hx : lwX1 B I L q' I1 L1)
    (con2 : ∀ n, tkCon false w2 y2 d2 a2 (n, σ.2) (reg (B + 58) 21 (rw_ (B + 58) I) I1) (reg (B + 58) 21 (rw_ (B + 58) L) L1) 0 0 (.inl (some (V b))) (n, σ.2) (reg (B + 58) 21 m'.1 I1) (reg (B + 58) 21 m'.2 L1))
    (hk : m'.1 0 0 = k) (hE : k = 0 → E b (reg (B + 58) 21 m'.2 L1)) (hs : staR nt ns np c (rw_ (B + 58) I, rw_ (B + 58) L) q' m') : lwPair w1 y1 a1 w2 y2 d2 a2 T V E B (lwInv B (i + 1)) σ I L := by
  obtain ⟨r1, r2⟩ := hx.ref
  rw [r1, r2] at con2
  exact ⟨k, mc, ms, σ, I1, L1, b, _, _, ⟨h1, h2⟩, con1, fun n _ => con2 n, (congrFun (reg_at (k := 0) (by decide)) 0).trans hk, hE, ⟨hL.2.2.2.1, hL.2.2.2.2.2.1⟩, fun n hn => lwInv.step hL hd h hx hs rfl hn⟩
variable {B i : Nat} {σ : tkM} {I : tkI} {L : tkL}
theorem l_addTank (h : lwInv B i σ I L) (hi : i ≤ 512) (a1 a2 a3 : Int32) :
    lwPair (.codeWith yL_addTank cL_addTank 6 (some .int) [(0, 12, 15, 13), (0, 12, 19, 15)]) yL_addTank [.ref B, .int a1, .int a2, .int a3, .ref (B + 79)] (.code yX6_addTank cX6_addTank 4 (some .int)) yX6_addTank 2 [.ref (B + 58), .int a1, .int a2, .int a3] Int32 Value.int (fun b L2 => L2 (B + 79) 0 = b.toInt64) B (lwInv B (i + 1)) σ I L := by
  obtain ⟨A, dN, nt, ns, np, c, tm, dc, NT, NS, NP, hL, hd, hS⟩ := h
  have hr := hS.1
  have hW := hr.wAll (Nat.le_refl c)
  have hM := hr.wM
  have hcb := hS.2.1.1
  have hX := c_X5_addTank (σ := σ) (x := B) (p := B + 1) (t := B + 29) (dd := B + 57) (I0 := rw_ (B + 1) I) (v := I) (L0 := rw_ (B + 1) L) (w := L) hL.1 hL.2.1 hW.1 a1 a2 a3 
  have hMC := fun n I1 L1 => c_X6_addTank (σ := (n, σ.2)) (r := B + 58) (J := rw_ (B + 58) I) (K := rw_ (B + 58) L) (v := I1) (w := L1) hL.2.2.2.1 hM.1.1 hM.1.2 a1 a2 a3 
  have hp := p_addTank hr a1 a2 a3
  rw [reg_rw, reg_rw] at hX
  obtain ⟨ha, hs⟩ := hp
  rcases ha with ⟨e, t⟩ | ⟨z, hz, e, t⟩
  · rw [e] at hX
    exact .mk' hL hd hS (by omega) (by omega) (w_addTank_ok hL.1.1 hL.2.2.2.2.2.1.1 a1 a2 a3 _ hX) ((lwX1.plant B I L _).out (Or.inl rfl) _) (fun n => hMC n _ _) t (fun _ => out_at) hs
  · simp only [List.mem_cons, List.not_mem_nil, or_false] at hz
    rcases hz with rfl | rfl
    · rw [e] at hX
      exact .mk' hL hd hS (by omega) (by omega) (w_addTank_iae hL.1.1 a1 a2 a3 hX) (lwX1.plant B I L _) (fun n => hMC n _ _) t (fun z => absurd z (by decide)) hs
    · rw [e] at hX
      exact .mk' hL hd hS (by omega) (by omega) (w_addTank_ise hL.1.1 a1 a2 a3 hX) (lwX1.plant B I L _) (fun n => hMC n _ _) t (fun z => absurd z (by decide)) hs
theorem l_addSwitch (h : lwInv B i σ I L) (hi : i ≤ 512) (a1 a2 a3 : Int32) :
    lwPair (.codeWith yL_addSwitch cL_addSwitch 6 (some .int) [(0, 12, 15, 20), (0, 12, 19, 13), (0, 12, 23, 15)]) yL_addSwitch [.ref B, .int a1, .int a2, .int a3, .ref (B + 79)] (.code yX6_addSwitch cX6_addSwitch 4 (some .int)) yX6_addSwitch 2 [.ref (B + 58), .int a1, .int a2, .int a3] Int32 Value.int (fun b L2 => L2 (B + 79) 0 = b.toInt64) B (lwInv B (i + 1)) σ I L := by
  obtain ⟨A, dN, nt, ns, np, c, tm, dc, NT, NS, NP, hL, hd, hS⟩ := h
  have hr := hS.1
  have hW := hr.wAll (Nat.le_refl c)
  have hM := hr.wM
  have hcb := hS.2.1.1
  have hX := c_X5_addSwitch (σ := σ) (x := B) (p := B + 1) (t := B + 29) (dd := B + 57) (I0 := rw_ (B + 1) I) (v := I) (L0 := rw_ (B + 1) L) (w := L) hL.1 hL.2.1 hW.1 hW.2.1 a1 a2 a3 
  have hMC := fun n I1 L1 => c_X6_addSwitch (σ := (n, σ.2)) (r := B + 58) (J := rw_ (B + 58) I) (K := rw_ (B + 58) L) (v := I1) (w := L1) hL.2.2.2.1 hM.1.1 hM.1.2 hM.2.1.1 hM.2.1.2 a1 a2 a3 
  have hp := p_addSwitch hr a1 a2 a3
  rw [reg_rw, reg_rw] at hX
  obtain ⟨ha, hs⟩ := hp
  rcases ha with ⟨e, t⟩ | ⟨z, hz, e, t⟩
  · rw [e] at hX
    exact .mk' hL hd hS (by omega) (by omega) (w_addSwitch_ok hL.1.1 hL.2.2.2.2.2.1.1 a1 a2 a3 _ hX) ((lwX1.plant B I L _).out (Or.inl rfl) _) (fun n => hMC n _ _) t (fun _ => out_at) hs
  · simp only [List.mem_cons, List.not_mem_nil, or_false] at hz
    rcases hz with rfl | rfl | rfl
    · rw [e] at hX
      exact .mk' hL hd hS (by omega) (by omega) (w_addSwitch_iob hL.1.1 a1 a2 a3 hX) (lwX1.plant B I L _) (fun n => hMC n _ _) t (fun z => absurd z (by decide)) hs
    · rw [e] at hX
      exact .mk' hL hd hS (by omega) (by omega) (w_addSwitch_iae hL.1.1 a1 a2 a3 hX) (lwX1.plant B I L _) (fun n => hMC n _ _) t (fun z => absurd z (by decide)) hs
    · rw [e] at hX
      exact .mk' hL hd hS (by omega) (by omega) (w_addSwitch_ise hL.1.1 a1 a2 a3 hX) (lwX1.plant B I L _) (fun n => hMC n _ _) t (fun z => absurd z (by decide)) hs
theorem l_addPump (h : lwInv B i σ I L) (hi : i ≤ 512) (a1 a2 a3 a4 a5 a6 : Int32) (hb : a6 = 0 ∨ a6 = 1) :
    lwPair (.codeWith yL_addPump cL_addPump 9 (some .int) [(0, 18, 21, 20), (0, 18, 25, 13), (0, 18, 29, 15)]) yL_addPump [.ref B, .int a1, .int a2, .int a3, .int a4, .int a5, .int a6, .ref (B + 79)] (.code yX6_addPump cX6_addPump 7 (some .int)) yX6_addPump 2 [.ref (B + 58), .int a1, .int a2, .int a3, .int a4, .int a5, .int a6] Int32 Value.int (fun b L2 => L2 (B + 79) 0 = b.toInt64) B (lwInv B (i + 1)) σ I L := by
  obtain ⟨A, dN, nt, ns, np, c, tm, dc, NT, NS, NP, hL, hd, hS⟩ := h
  have hr := hS.1
  have hW := hr.wAll (Nat.le_refl c)
  have hM := hr.wM
  have hcb := hS.2.1.1
  have hX := c_X5_addPump (σ := σ) (x := B) (p := B + 1) (t := B + 29) (dd := B + 57) (I0 := rw_ (B + 1) I) (v := I) (L0 := rw_ (B + 1) L) (w := L) hL.1 hL.2.1 hW.2.2.1 a1 a2 a3 a4 a5 a6 hb
  have hMC := fun n I1 L1 => c_X6_addPump (σ := (n, σ.2)) (r := B + 58) (J := rw_ (B + 58) I) (K := rw_ (B + 58) L) (v := I1) (w := L1) hL.2.2.2.1 hM.1.1 hM.1.2 hM.2.1.1 hM.2.1.2 hM.2.2.1.1 hM.2.2.1.2 a1 a2 a3 a4 a5 a6 hb
  have hp := p_addPump hr a1 a2 a3 a4 a5 a6
  rw [reg_rw, reg_rw] at hX
  obtain ⟨ha, hs⟩ := hp
  rcases ha with ⟨e, t⟩ | ⟨z, hz, e, t⟩
  · rw [e] at hX
    exact .mk' hL hd hS (by omega) (by omega) (w_addPump_ok hL.1.1 hL.2.2.2.2.2.1.1 a1 a2 a3 a4 a5 a6 _ hX) ((lwX1.plant B I L _).out (Or.inl rfl) _) (fun n => hMC n _ _) t (fun _ => out_at) hs
  · simp only [List.mem_cons, List.not_mem_nil, or_false] at hz
    rcases hz with rfl | rfl | rfl
    · rw [e] at hX
      exact .mk' hL hd hS (by omega) (by omega) (w_addPump_iob hL.1.1 a1 a2 a3 a4 a5 a6 hX) (lwX1.plant B I L _) (fun n => hMC n _ _) t (fun z => absurd z (by decide)) hs
    · rw [e] at hX
      exact .mk' hL hd hS (by omega) (by omega) (w_addPump_iae hL.1.1 a1 a2 a3 a4 a5 a6 hX) (lwX1.plant B I L _) (fun n => hMC n _ _) t (fun z => absurd z (by decide)) hs
    · rw [e] at hX
      exact .mk' hL hd hS (by omega) (by omega) (w_addPump_ise hL.1.1 a1 a2 a3 a4 a5 a6 hX) (lwX1.plant B I L _) (fun n => hMC n _ _) t (fun z => absurd z (by decide)) hs
theorem l_setLevel (h : lwInv B i σ I L) (hi : i ≤ 512) (a1 a2 : Int32) :
    lwPair (.codeWith yL_setLevel cL_setLevel 5 (some .int) [(0, 10, 13, 20), (0, 10, 17, 13)]) yL_setLevel [.ref B, .int a1, .int a2, .ref (B + 79)] (.code yX6_setLevel cX6_setLevel 4 (some .int)) yX6_setLevel 2 [.ref (B + 58), .int a1, .int a2] Int32 Value.int (fun b L2 => L2 (B + 79) 0 = b.toInt64) B (lwInv B (i + 1)) σ I L := by
  obtain ⟨A, dN, nt, ns, np, c, tm, dc, NT, NS, NP, hL, hd, hS⟩ := h
  have hr := hS.1
  have hW := hr.wAll (Nat.le_refl c)
  have hM := hr.wM
  have hcb := hS.2.1.1
  have hX := c_X5_setLevel (σ := σ) (x := B) (p := B + 1) (t := B + 29) (dd := B + 57) (I0 := rw_ (B + 1) I) (v := I) (L0 := rw_ (B + 1) L) (w := L) hL.1 hL.2.1 hW.1 a1 a2 
  have hMC := fun n I1 L1 => c_X6_setLevel (σ := (n, σ.2)) (r := B + 58) (J := rw_ (B + 58) I) (K := rw_ (B + 58) L) (v := I1) (w := L1) hL.2.2.2.1 hM.1.1 hM.1.2 a1 a2 
  have hp := p_setLevel hr a1 a2
  rw [reg_rw, reg_rw] at hX
  obtain ⟨ha, hs⟩ := hp
  rcases ha with ⟨e, t⟩ | ⟨z, hz, e, t⟩
  · rw [e] at hX
    exact .mk' hL hd hS (by omega) (by omega) (w_setLevel_ok hL.1.1 hL.2.2.2.2.2.1.1 a1 a2 _ hX) ((lwX1.plant B I L _).out (Or.inl rfl) _) (fun n => hMC n _ _) t (fun _ => out_at) hs
  · simp only [List.mem_cons, List.not_mem_nil, or_false] at hz
    rcases hz with rfl | rfl
    · rw [e] at hX
      exact .mk' hL hd hS (by omega) (by omega) (w_setLevel_iob hL.1.1 a1 a2 hX) (lwX1.plant B I L _) (fun n => hMC n _ _) t (fun z => absurd z (by decide)) hs
    · rw [e] at hX
      exact .mk' hL hd hS (by omega) (by omega) (w_setLevel_iae hL.1.1 a1 a2 hX) (lwX1.plant B I L _) (fun n => hMC n _ _) t (fun z => absurd z (by decide)) hs
theorem l_setLeak (h : lwInv B i σ I L) (hi : i ≤ 512) (a1 a2 : Int32) :
    lwPair (.codeWith yL_setLeak cL_setLeak 5 (some .int) [(0, 10, 13, 20), (0, 10, 17, 13)]) yL_setLeak [.ref B, .int a1, .int a2, .ref (B + 79)] (.code yX6_setLeak cX6_setLeak 4 (some .int)) yX6_setLeak 2 [.ref (B + 58), .int a1, .int a2] Int32 Value.int (fun b L2 => L2 (B + 79) 0 = b.toInt64) B (lwInv B (i + 1)) σ I L := by
  obtain ⟨A, dN, nt, ns, np, c, tm, dc, NT, NS, NP, hL, hd, hS⟩ := h
  have hr := hS.1
  have hW := hr.wAll (Nat.le_refl c)
  have hM := hr.wM
  have hcb := hS.2.1.1
  have hX := c_X5_setLeak (σ := σ) (x := B) (p := B + 1) (t := B + 29) (dd := B + 57) (I0 := rw_ (B + 1) I) (v := I) (L0 := rw_ (B + 1) L) (w := L) hL.1 hL.2.1 hW.1 a1 a2 
  have hMC := fun n I1 L1 => c_X6_setLeak (σ := (n, σ.2)) (r := B + 58) (J := rw_ (B + 58) I) (K := rw_ (B + 58) L) (v := I1) (w := L1) hL.2.2.2.1 hM.1.1 hM.1.2 a1 a2 
  have hp := p_setLeak hr a1 a2
  rw [reg_rw, reg_rw] at hX
  obtain ⟨ha, hs⟩ := hp
  rcases ha with ⟨e, t⟩ | ⟨z, hz, e, t⟩
  · rw [e] at hX
    exact .mk' hL hd hS (by omega) (by omega) (w_setLeak_ok hL.1.1 hL.2.2.2.2.2.1.1 a1 a2 _ hX) ((lwX1.plant B I L _).out (Or.inl rfl) _) (fun n => hMC n _ _) t (fun _ => out_at) hs
  · simp only [List.mem_cons, List.not_mem_nil, or_false] at hz
    rcases hz with rfl | rfl
    · rw [e] at hX
      exact .mk' hL hd hS (by omega) (by omega) (w_setLeak_iob hL.1.1 a1 a2 hX) (lwX1.plant B I L _) (fun n => hMC n _ _) t (fun z => absurd z (by decide)) hs
    · rw [e] at hX
      exact .mk' hL hd hS (by omega) (by omega) (w_setLeak_iae hL.1.1 a1 a2 hX) (lwX1.plant B I L _) (fun n => hMC n _ _) t (fun z => absurd z (by decide)) hs
theorem l_setRate (h : lwInv B i σ I L) (hi : i ≤ 512) (a1 a2 : Int32) :
    lwPair (.codeWith yL_setRate cL_setRate 5 (some .int) [(0, 10, 13, 20), (0, 10, 17, 13)]) yL_setRate [.ref B, .int a1, .int a2, .ref (B + 79)] (.code yX6_setRate cX6_setRate 4 (some .int)) yX6_setRate 2 [.ref (B + 58), .int a1, .int a2] Int32 Value.int (fun b L2 => L2 (B + 79) 0 = b.toInt64) B (lwInv B (i + 1)) σ I L := by
  obtain ⟨A, dN, nt, ns, np, c, tm, dc, NT, NS, NP, hL, hd, hS⟩ := h
  have hr := hS.1
  have hW := hr.wAll (Nat.le_refl c)
  have hM := hr.wM
  have hcb := hS.2.1.1
  have hX := c_X5_setRate (σ := σ) (x := B) (p := B + 1) (t := B + 29) (dd := B + 57) (I0 := rw_ (B + 1) I) (v := I) (L0 := rw_ (B + 1) L) (w := L) hL.1 hL.2.1 hW.2.2.1 a1 a2 
  have hMC := fun n I1 L1 => c_X6_setRate (σ := (n, σ.2)) (r := B + 58) (J := rw_ (B + 58) I) (K := rw_ (B + 58) L) (v := I1) (w := L1) hL.2.2.2.1 hM.2.2.1.1 hM.2.2.1.2 a1 a2 
  have hp := p_setRate hr a1 a2
  rw [reg_rw, reg_rw] at hX
  obtain ⟨ha, hs⟩ := hp
  rcases ha with ⟨e, t⟩ | ⟨z, hz, e, t⟩
  · rw [e] at hX
    exact .mk' hL hd hS (by omega) (by omega) (w_setRate_ok hL.1.1 hL.2.2.2.2.2.1.1 a1 a2 _ hX) ((lwX1.plant B I L _).out (Or.inl rfl) _) (fun n => hMC n _ _) t (fun _ => out_at) hs
  · simp only [List.mem_cons, List.not_mem_nil, or_false] at hz
    rcases hz with rfl | rfl
    · rw [e] at hX
      exact .mk' hL hd hS (by omega) (by omega) (w_setRate_iob hL.1.1 a1 a2 hX) (lwX1.plant B I L _) (fun n => hMC n _ _) t (fun z => absurd z (by decide)) hs
    · rw [e] at hX
      exact .mk' hL hd hS (by omega) (by omega) (w_setRate_iae hL.1.1 a1 a2 hX) (lwX1.plant B I L _) (fun n => hMC n _ _) t (fun z => absurd z (by decide)) hs
theorem l_run (h : lwInv B i σ I L) (hi : i ≤ 512) (a1 : Int32) :
    lwPair (.codeWith yL_run cL_run 4 (some .int) [(0, 9, 12, 13)]) yL_run [.ref B, .int a1, .ref (B + 79)] (.code yX6_run cX6_run 4 (some .int)) yX6_run 5 [.ref (B + 58), .int a1] Int32 Value.int (fun b L2 => L2 (B + 79) 0 = b.toInt64) B (lwInv B (i + 1)) σ I L := by
  obtain ⟨A, dN, nt, ns, np, c, tm, dc, NT, NS, NP, hL, hd, hS⟩ := h
  have hr := hS.1
  have hW := hr.wAll (Nat.le_refl c)
  have hM := hr.wM
  have hcb := hS.2.1.1
  have hX := c_X5_run (σ := σ) (x := B) (p := B + 1) (t := B + 29) (dd := B + 57) (I0 := rw_ (B + 1) I) (v := I) (L0 := rw_ (B + 1) L) (w := L) hL.1 hL.2.1 hW (by omega) a1 
  have hMC := fun n I1 L1 => c_X6_run (σ := (n, σ.2)) (r := B + 58) (J := rw_ (B + 58) I) (K := rw_ (B + 58) L) (v := I1) (w := L1) hL.2.2.2.1 hM a1 
  have hp := p_run hr (by omega) a1
  rw [reg_rw, reg_rw] at hX
  obtain ⟨ha, hs⟩ := hp
  rcases ha with ⟨e, t⟩ | ⟨z, hz, e, t⟩
  · rw [e] at hX
    exact .mk' hL hd hS (by omega) (by omega) (w_run_ok hL.1.1 hL.2.2.2.2.2.1.1 a1 _ hX) ((lwX1.plant B I L _).out (Or.inl rfl) _) (fun n => hMC n _ _) t (fun _ => out_at) hs
  · simp only [List.mem_cons, List.not_mem_nil, or_false] at hz
    rcases hz with rfl
    · rw [e] at hX
      exact .mk' hL hd hS (by omega) (by omega) (w_run_iae hL.1.1 a1 hX) (lwX1.plant B I L _) (fun n => hMC n _ _) t (fun z => absurd z (by decide)) hs
theorem l_runUntil (h : lwInv B i σ I L) (hi : i ≤ 512) (a1 a2 a3 a4 : Int32) :
    lwPair (.codeWith yL_runUntil cL_runUntil 7 (some .int) [(0, 14, 17, 20), (0, 14, 21, 13)]) yL_runUntil [.ref B, .int a1, .int a2, .int a3, .int a4, .ref (B + 79)] (.code yX6_runUntil cX6_runUntil 6 (some .int)) yX6_runUntil 5 [.ref (B + 58), .int a1, .int a2, .int a3, .int a4] Int32 Value.int (fun b L2 => L2 (B + 79) 0 = b.toInt64) B (lwInv B (i + 1)) σ I L := by
  obtain ⟨A, dN, nt, ns, np, c, tm, dc, NT, NS, NP, hL, hd, hS⟩ := h
  have hr := hS.1
  have hW := hr.wAll (Nat.le_refl c)
  have hM := hr.wM
  have hcb := hS.2.1.1
  have hX := c_X5_runUntil (σ := σ) (x := B) (p := B + 1) (t := B + 29) (dd := B + 57) (I0 := rw_ (B + 1) I) (v := I) (L0 := rw_ (B + 1) L) (w := L) hL.1 hL.2.1 hW (by omega) a1 a2 a3 a4 
  have hMC := fun n I1 L1 => c_X6_runUntil (σ := (n, σ.2)) (r := B + 58) (J := rw_ (B + 58) I) (K := rw_ (B + 58) L) (v := I1) (w := L1) hL.2.2.2.1 hM a1 a2 a3 a4 
  have hp := p_runUntil hr (by omega) a1 a2 a3 a4
  rw [reg_rw, reg_rw] at hX
  obtain ⟨ha, hs⟩ := hp
  rcases ha with ⟨e, t⟩ | ⟨z, hz, e, t⟩
  · rw [e] at hX
    exact .mk' hL hd hS (by omega) (by omega) (w_runUntil_ok hL.1.1 hL.2.2.2.2.2.1.1 a1 a2 a3 a4 _ hX) ((lwX1.plant B I L _).out (Or.inl rfl) _) (fun n => hMC n _ _) t (fun _ => out_at) hs
  · simp only [List.mem_cons, List.not_mem_nil, or_false] at hz
    rcases hz with rfl | rfl
    · rw [e] at hX
      exact .mk' hL hd hS (by omega) (by omega) (w_runUntil_iob hL.1.1 a1 a2 a3 a4 hX) (lwX1.plant B I L _) (fun n => hMC n _ _) t (fun z => absurd z (by decide)) hs
    · rw [e] at hX
      exact .mk' hL hd hS (by omega) (by omega) (w_runUntil_iae hL.1.1 a1 a2 a3 a4 hX) (lwX1.plant B I L _) (fun n => hMC n _ _) t (fun z => absurd z (by decide)) hs
theorem l_nextChange (h : lwInv B i σ I L) (hi : i ≤ 512) (a1 : Int32) :
    lwPair (.codeWith yL_nextChange cL_nextChange 4 (some .int) [(0, 9, 12, 13)]) yL_nextChange [.ref B, .int a1, .ref (B + 79)] (.code yX6_nextChange cX6_nextChange 4 (some .int)) yX6_nextChange 5 [.ref (B + 58), .int a1] Int32 Value.int (fun b L2 => L2 (B + 79) 0 = b.toInt64) B (lwInv B (i + 1)) σ I L := by
  obtain ⟨A, dN, nt, ns, np, c, tm, dc, NT, NS, NP, hL, hd, hS⟩ := h
  have hr := hS.1
  have hW := hr.wAll (Nat.le_refl c)
  have hM := hr.wM
  have hcb := hS.2.1.1
  have hX := c_X5_nextChange (σ := σ) (x := B) (dd := B + 57) (p := B + 1) (t := B + 29) (I0 := rw_ (B + 29) I) (v := I) (L0 := rw_ (B + 29) L) (w := L) hL.1 hL.2.1 hL.2.2.1 (Or.inl (by omega)) hW (by omega) a1
  have hMC := fun n I1 L1 => c_X6_nextChange (σ := (n, σ.2)) (r := B + 58) (J := rw_ (B + 58) I) (K := rw_ (B + 58) L) (v := I1) (w := L1) hL.2.2.2.1 hM a1
  have hp := p_nextChange hr (by omega) a1 (rw_ (B + 29) I, rw_ (B + 29) L)
  rw [reg_rw, reg_rw] at hX
  have eX : (xNext nt ns np a1 ((fun k => I (B + 1 + k)), (fun k => L (B + 1 + k))) (rw_ (B + 29) I, rw_ (B + 29) L)).1 = (xNext nt ns np a1 (rw_ (B + 1) I, rw_ (B + 1) L) (rw_ (B + 29) I, rw_ (B + 29) L)).1 := rfl
  rw [eX] at hX
  obtain ⟨ha, hs⟩ := hp
  rcases ha with ⟨e, t⟩ | ⟨z, hz, e, t⟩
  · rw [e] at hX
    exact .mk' hL hd hS (by omega) (by omega) (w_nextChange_ok hL.1.1 hL.2.2.2.2.2.1.1 a1 _ hX) ((lwX1.trial B I L _).out (Or.inl rfl) _) (fun n => hMC n _ _) t (fun _ => out_at) hs
  · simp only [List.mem_cons, List.not_mem_nil, or_false] at hz
    rcases hz with rfl
    · rw [e] at hX
      exact .mk' hL hd hS (by omega) (by omega) (w_nextChange_iae hL.1.1 a1 hX) (lwX1.trial B I L _) (fun n => hMC n _ _) t (fun z => absurd z (by decide)) hs
theorem l_level (h : lwInv B i σ I L) (hi : i ≤ 512) (a1 : Int32) :
    lwPair (.codeWith yL_level cL_level 4 (some .int) [(0, 9, 12, 20)]) yL_level [.ref B, .int a1, .ref (B + 79)] (.code yX6_level cX6_level 2 (some .int)) yX6_level 2 [.ref (B + 58), .int a1] Int32 Value.int (fun b L2 => L2 (B + 79) 0 = b.toInt64) B (lwInv B (i + 1)) σ I L := by
  obtain ⟨A, dN, nt, ns, np, c, tm, dc, NT, NS, NP, hL, hd, hS⟩ := h
  have hr := hS.1
  have hW := hr.wAll (Nat.le_refl c)
  have hM := hr.wM
  have hcb := hS.2.1.1
  have hX := c_X5_level (σ := σ) (x := B) (p := B + 1) (t := B + 29) (dd := B + 57) (I0 := rw_ (B + 1) I) (v := I) (L0 := rw_ (B + 1) L) (w := L) hL.1 hL.2.1 hW.1 a1
  have hMC := fun n I1 L1 => c_X6_level (σ := (n, σ.2)) (r := B + 58) (J := rw_ (B + 58) I) (K := rw_ (B + 58) L) (v := I1) (w := L1) hL.2.2.2.1 hM.1.1 hM.1.2 a1
  rw [reg_rw, reg_rw] at hX
  have ha := p_level hr a1
  have hs := staR.th (J := (if off a1 nt then mTh 1 (rw_ (B + 58) I) else mT0 (rw_ (B + 58) I))) hr (z0.if _ 1)
  rcases ha with ⟨e, t⟩ | ⟨z, hz, e, t⟩
  · rw [e] at hX
    exact .mk' hL hd hS (by omega) (by omega) (w_level_ok hL.1.1 hL.2.2.2.2.2.1.1 a1 _ hX) ((lwX1.same B I L).out (Or.inl rfl) _) (fun n => hMC n _ _) t (fun _ => out_at) hs
  · simp only [List.mem_cons, List.not_mem_nil, or_false] at hz
    subst hz
    rw [e] at hX
    exact .mk' hL hd hS (by omega) (by omega) (w_level_iob hL.1.1 a1 hX) (lwX1.same B I L) (fun n => hMC n _ _) t (fun z => absurd z (by decide)) hs
theorem l_levelSum (h : lwInv B i σ I L) (hi : i ≤ 512) (a1 : Int32) :
    lwPair (.codeWith yL_levelSum cL_levelSum 4 (some .int) [(0, 8, 11, 20)]) yL_levelSum [.ref B, .int a1, .ref (B + 79)] (.code yX6_levelSum cX6_levelSum 2 (some .long)) yX6_levelSum 2 [.ref (B + 58), .int a1] Int64 Value.long (fun b L2 => L2 (B + 79) 0 = b) B (lwInv B (i + 1)) σ I L := by
  obtain ⟨A, dN, nt, ns, np, c, tm, dc, NT, NS, NP, hL, hd, hS⟩ := h
  have hr := hS.1
  have hW := hr.wAll (Nat.le_refl c)
  have hM := hr.wM
  have hcb := hS.2.1.1
  have hX := c_X5_levelSum (σ := σ) (x := B) (p := B + 1) (t := B + 29) (dd := B + 57) (I0 := rw_ (B + 1) I) (v := I) (L0 := rw_ (B + 1) L) (w := L) hL.1 hL.2.1 hW.1 a1
  have hMC := fun n I1 L1 => c_X6_levelSum (σ := (n, σ.2)) (r := B + 58) (J := rw_ (B + 58) I) (K := rw_ (B + 58) L) (v := I1) (w := L1) hL.2.2.2.1 hM.1.1 hM.1.2 a1
  rw [reg_rw, reg_rw] at hX
  have ha := p_levelSum hr a1
  have hs := staR.th (J := (if off a1 nt then mTh 1 (rw_ (B + 58) I) else mT0 (rw_ (B + 58) I))) hr (z0.if _ 1)
  rcases ha with ⟨e, t⟩ | ⟨z, hz, e, t⟩
  · rw [e] at hX
    exact .mk' hL hd hS (by omega) (by omega) (w_levelSum_ok hL.1.1 hL.2.2.2.2.2.1.1 a1 _ hX) ((lwX1.same B I L).out (Or.inl rfl) _) (fun n => hMC n _ _) t (fun _ => out_at) hs
  · simp only [List.mem_cons, List.not_mem_nil, or_false] at hz
    subst hz
    rw [e] at hX
    exact .mk' hL hd hS (by omega) (by omega) (w_levelSum_iob hL.1.1 a1 hX) (lwX1.same B I L) (fun n => hMC n _ _) t (fun z => absurd z (by decide)) hs
theorem l_isOn (h : lwInv B i σ I L) (hi : i ≤ 512) (a1 : Int32) :
    lwPair (.codeWith yL_isOn cL_isOn 4 (some .int) [(0, 16, 19, 20)]) yL_isOn [.ref B, .int a1, .ref (B + 79)] (.code yX6_isOn cX6_isOn 2 (some .boolean)) yX6_isOn 2 [.ref (B + 58), .int a1] Int32 Value.int (fun b L2 => L2 (B + 79) 0 = if b = 0 then 0 else 1) B (lwInv B (i + 1)) σ I L := by
  obtain ⟨A, dN, nt, ns, np, c, tm, dc, NT, NS, NP, hL, hd, hS⟩ := h
  have hr := hS.1
  have hW := hr.wAll (Nat.le_refl c)
  have hM := hr.wM
  have hcb := hS.2.1.1
  have hX := c_X5_isOn (σ := σ) (x := B) (p := B + 1) (t := B + 29) (dd := B + 57) (I0 := rw_ (B + 1) I) (v := I) (L0 := rw_ (B + 1) L) (w := L) hL.1 hL.2.1 hW.2.1 a1
  have hMC := fun n I1 L1 => c_X6_isOn (σ := (n, σ.2)) (r := B + 58) (J := rw_ (B + 58) I) (K := rw_ (B + 58) L) (v := I1) (w := L1) hL.2.2.2.1 hM.2.1.1 hM.2.1.2 a1
  rw [reg_rw, reg_rw] at hX
  have ha := p_isOn hr a1
  have hs := staR.th (J := (tk2 (rw_ (B + 58) I) 0 0 (if off a1 ns then 1 else 0))) hr (z0.t1 _ _)
  rcases ha with ⟨e, t⟩ | ⟨z, hz, e, t⟩
  · rw [e] at hX
    exact .mk' hL hd hS (by omega) (by omega) (w_isOn_ok hL.1.1 hL.2.2.2.2.2.1.1 a1 _ hX) ((lwX1.same B I L).out (Or.inl rfl) _) (fun n => hMC n _ _) t (fun _ => out_at) hs
  · simp only [List.mem_cons, List.not_mem_nil, or_false] at hz
    subst hz
    rw [e] at hX
    exact .mk' hL hd hS (by omega) (by omega) (w_isOn_iob hL.1.1 a1 hX) (lwX1.same B I L) (fun n => hMC n _ _) t (fun z => absurd z (by decide)) hs
theorem l_total (h : lwInv B i σ I L) (hi : i ≤ 512) (a1 : Int32) :
    lwPair (.codeWith yL_total cL_total 4 (some .int) [(0, 8, 11, 20)]) yL_total [.ref B, .int a1, .ref (B + 79)] (.code yX6_total cX6_total 2 (some .long)) yX6_total 2 [.ref (B + 58), .int a1] Int64 Value.long (fun b L2 => L2 (B + 79) 0 = b) B (lwInv B (i + 1)) σ I L := by
  obtain ⟨A, dN, nt, ns, np, c, tm, dc, NT, NS, NP, hL, hd, hS⟩ := h
  have hr := hS.1
  have hW := hr.wAll (Nat.le_refl c)
  have hM := hr.wM
  have hcb := hS.2.1.1
  have hX := c_X5_total (σ := σ) (x := B) (p := B + 1) (t := B + 29) (dd := B + 57) (I0 := rw_ (B + 1) I) (v := I) (L0 := rw_ (B + 1) L) (w := L) hL.1 hL.2.1 hW.2.2.1 a1
  have hMC := fun n I1 L1 => c_X6_total (σ := (n, σ.2)) (r := B + 58) (J := rw_ (B + 58) I) (K := rw_ (B + 58) L) (v := I1) (w := L1) hL.2.2.2.1 hM.2.2.1.1 hM.2.2.1.2 a1
  rw [reg_rw, reg_rw] at hX
  have ha := p_total hr a1
  have hs := staR.th (J := (if off a1 np then mTh 1 (rw_ (B + 58) I) else mT0 (rw_ (B + 58) I))) hr (z0.if _ 1)
  rcases ha with ⟨e, t⟩ | ⟨z, hz, e, t⟩
  · rw [e] at hX
    exact .mk' hL hd hS (by omega) (by omega) (w_total_ok hL.1.1 hL.2.2.2.2.2.1.1 a1 _ hX) ((lwX1.same B I L).out (Or.inl rfl) _) (fun n => hMC n _ _) t (fun _ => out_at) hs
  · simp only [List.mem_cons, List.not_mem_nil, or_false] at hz
    subst hz
    rw [e] at hX
    exact .mk' hL hd hS (by omega) (by omega) (w_total_iob hL.1.1 a1 hX) (lwX1.same B I L) (fun n => hMC n _ _) t (fun z => absurd z (by decide)) hs
theorem l_energy (h : lwInv B i σ I L) (hi : i ≤ 512) (a1 : Int32) :
    lwPair (.codeWith yL_energy cL_energy 4 (some .int) [(0, 8, 11, 20)]) yL_energy [.ref B, .int a1, .ref (B + 79)] (.code yX6_energy cX6_energy 2 (some .long)) yX6_energy 2 [.ref (B + 58), .int a1] Int64 Value.long (fun b L2 => L2 (B + 79) 0 = b) B (lwInv B (i + 1)) σ I L := by
  obtain ⟨A, dN, nt, ns, np, c, tm, dc, NT, NS, NP, hL, hd, hS⟩ := h
  have hr := hS.1
  have hW := hr.wAll (Nat.le_refl c)
  have hM := hr.wM
  have hcb := hS.2.1.1
  have hX := c_X5_energy (σ := σ) (x := B) (p := B + 1) (t := B + 29) (dd := B + 57) (I0 := rw_ (B + 1) I) (v := I) (L0 := rw_ (B + 1) L) (w := L) hL.1 hL.2.1 hW.2.2.1 a1
  have hMC := fun n I1 L1 => c_X6_energy (σ := (n, σ.2)) (r := B + 58) (J := rw_ (B + 58) I) (K := rw_ (B + 58) L) (v := I1) (w := L1) hL.2.2.2.1 hM.2.2.1.1 hM.2.2.1.2 a1
  rw [reg_rw, reg_rw] at hX
  have ha := p_energy hr a1
  have hs := staR.th (J := (if off a1 np then mTh 1 (rw_ (B + 58) I) else mT0 (rw_ (B + 58) I))) hr (z0.if _ 1)
  rcases ha with ⟨e, t⟩ | ⟨z, hz, e, t⟩
  · rw [e] at hX
    exact .mk' hL hd hS (by omega) (by omega) (w_energy_ok hL.1.1 hL.2.2.2.2.2.1.1 a1 _ hX) ((lwX1.same B I L).out (Or.inl rfl) _) (fun n => hMC n _ _) t (fun _ => out_at) hs
  · simp only [List.mem_cons, List.not_mem_nil, or_false] at hz
    subst hz
    rw [e] at hX
    exact .mk' hL hd hS (by omega) (by omega) (w_energy_iob hL.1.1 a1 hX) (lwX1.same B I L) (fun n => hMC n _ _) t (fun z => absurd z (by decide)) hs
theorem l_shortTicks (h : lwInv B i σ I L) (hi : i ≤ 512) (a1 : Int32) :
    lwPair (.codeWith yL_shortTicks cL_shortTicks 4 (some .int) [(0, 8, 11, 20)]) yL_shortTicks [.ref B, .int a1, .ref (B + 79)] (.code yX6_shortTicks cX6_shortTicks 2 (some .long)) yX6_shortTicks 2 [.ref (B + 58), .int a1] Int64 Value.long (fun b L2 => L2 (B + 79) 0 = b) B (lwInv B (i + 1)) σ I L := by
  obtain ⟨A, dN, nt, ns, np, c, tm, dc, NT, NS, NP, hL, hd, hS⟩ := h
  have hr := hS.1
  have hW := hr.wAll (Nat.le_refl c)
  have hM := hr.wM
  have hcb := hS.2.1.1
  have hX := c_X5_shortTicks (σ := σ) (x := B) (p := B + 1) (t := B + 29) (dd := B + 57) (I0 := rw_ (B + 1) I) (v := I) (L0 := rw_ (B + 1) L) (w := L) hL.1 hL.2.1 hW.2.2.1 a1
  have hMC := fun n I1 L1 => c_X6_shortTicks (σ := (n, σ.2)) (r := B + 58) (J := rw_ (B + 58) I) (K := rw_ (B + 58) L) (v := I1) (w := L1) hL.2.2.2.1 hM.2.2.1.1 hM.2.2.1.2 a1
  rw [reg_rw, reg_rw] at hX
  have ha := p_shortTicks hr a1
  have hs := staR.th (J := (if off a1 np then mTh 1 (rw_ (B + 58) I) else mT0 (rw_ (B + 58) I))) hr (z0.if _ 1)
  rcases ha with ⟨e, t⟩ | ⟨z, hz, e, t⟩
  · rw [e] at hX
    exact .mk' hL hd hS (by omega) (by omega) (w_shortTicks_ok hL.1.1 hL.2.2.2.2.2.1.1 a1 _ hX) ((lwX1.same B I L).out (Or.inl rfl) _) (fun n => hMC n _ _) t (fun _ => out_at) hs
  · simp only [List.mem_cons, List.not_mem_nil, or_false] at hz
    subst hz
    rw [e] at hX
    exact .mk' hL hd hS (by omega) (by omega) (w_shortTicks_iob hL.1.1 a1 hX) (lwX1.same B I L) (fun n => hMC n _ _) t (fun z => absurd z (by decide)) hs
theorem l_changeTime (h : lwInv B i σ I L) (hi : i ≤ 512) (a1 : Int32) :
    lwPair (.codeWith yL_changeTime cL_changeTime 4 (some .int) [(0, 8, 11, 20)]) yL_changeTime [.ref B, .int a1, .ref (B + 79)] (.code yX6_changeTime cX6_changeTime 2 (some .long)) yX6_changeTime 2 [.ref (B + 58), .int a1] Int64 Value.long (fun b L2 => L2 (B + 79) 0 = b) B (lwInv B (i + 1)) σ I L := by
  obtain ⟨A, dN, nt, ns, np, c, tm, dc, NT, NS, NP, hL, hd, hS⟩ := h
  have hr := hS.1
  have hW := hr.wAll (Nat.le_refl c)
  have hM := hr.wM
  have hcb := hS.2.1.1
  have hX := c_X5_changeTime (σ := σ) (x := B) (p := B + 1) (t := B + 29) (dd := B + 57) (I0 := rw_ (B + 1) I) (v := I) (L0 := rw_ (B + 1) L) (w := L) hL.1 hL.2.1 hr.2.2.2.2.2.2.1 (by omega) a1
  have hMC := fun n I1 L1 => c_X6_changeTime (σ := (n, σ.2)) (r := B + 58) (J := rw_ (B + 58) I) (K := rw_ (B + 58) L) (v := I1) (w := L1) hL.2.2.2.1 hr.2.2.2.2.2.2.2.2.1 (by omega) a1
  rw [reg_rw, reg_rw] at hX
  have ha := p_changeTime hr a1
  have hs := staR.th (J := (if off a1 (min c 30) then mTh 1 (rw_ (B + 58) I) else mT0 (rw_ (B + 58) I))) hr (z0.if _ 1)
  rcases ha with ⟨e, t⟩ | ⟨z, hz, e, t⟩
  · rw [e] at hX
    exact .mk' hL hd hS (by omega) (by omega) (w_changeTime_ok hL.1.1 hL.2.2.2.2.2.1.1 a1 _ hX) ((lwX1.same B I L).out (Or.inl rfl) _) (fun n => hMC n _ _) t (fun _ => out_at) hs
  · simp only [List.mem_cons, List.not_mem_nil, or_false] at hz
    subst hz
    rw [e] at hX
    exact .mk' hL hd hS (by omega) (by omega) (w_changeTime_iob hL.1.1 a1 hX) (lwX1.same B I L) (fun n => hMC n _ _) t (fun z => absurd z (by decide)) hs
theorem l_changeSwitch (h : lwInv B i σ I L) (hi : i ≤ 512) (a1 : Int32) :
    lwPair (.codeWith yL_changeSwitch cL_changeSwitch 4 (some .int) [(0, 9, 12, 20)]) yL_changeSwitch [.ref B, .int a1, .ref (B + 79)] (.code yX6_changeSwitch cX6_changeSwitch 2 (some .int)) yX6_changeSwitch 2 [.ref (B + 58), .int a1] Int32 Value.int (fun b L2 => L2 (B + 79) 0 = b.toInt64) B (lwInv B (i + 1)) σ I L := by
  obtain ⟨A, dN, nt, ns, np, c, tm, dc, NT, NS, NP, hL, hd, hS⟩ := h
  have hr := hS.1
  have hW := hr.wAll (Nat.le_refl c)
  have hM := hr.wM
  have hcb := hS.2.1.1
  have hX := c_X5_changeSwitch (σ := σ) (x := B) (p := B + 1) (t := B + 29) (dd := B + 57) (I0 := rw_ (B + 1) I) (v := I) (L0 := rw_ (B + 1) L) (w := L) hL.1 hL.2.1 hr.2.2.2.2.2.2.1 (by omega) a1
  have hMC := fun n I1 L1 => c_X6_changeSwitch (σ := (n, σ.2)) (r := B + 58) (J := rw_ (B + 58) I) (K := rw_ (B + 58) L) (v := I1) (w := L1) hL.2.2.2.1 hr.2.2.2.2.2.2.2.2.1 (by omega) a1
  rw [reg_rw, reg_rw] at hX
  have ha := p_changeSwitch hr a1
  have hs := staR.th (J := (if off a1 (min c 30) then mTh 1 (rw_ (B + 58) I) else mT0 (rw_ (B + 58) I))) hr (z0.if _ 1)
  rcases ha with ⟨e, t⟩ | ⟨z, hz, e, t⟩
  · rw [e] at hX
    exact .mk' hL hd hS (by omega) (by omega) (w_changeSwitch_ok hL.1.1 hL.2.2.2.2.2.1.1 a1 _ hX) ((lwX1.same B I L).out (Or.inl rfl) _) (fun n => hMC n _ _) t (fun _ => out_at) hs
  · simp only [List.mem_cons, List.not_mem_nil, or_false] at hz
    subst hz
    rw [e] at hX
    exact .mk' hL hd hS (by omega) (by omega) (w_changeSwitch_iob hL.1.1 a1 hX) (lwX1.same B I L) (fun n => hMC n _ _) t (fun z => absurd z (by decide)) hs
theorem l_meanLevel (h : lwInv B i σ I L) (hi : i ≤ 512) (a1 : Int32) :
    lwPair (.codeWith yL_meanLevel cL_meanLevel 4 (some .int) [(0, 8, 11, 20)]) yL_meanLevel [.ref B, .int a1, .ref (B + 80)] (.code yX6_meanLevel cX6_meanLevel 2 (some .double)) yX6_meanLevel 2 [.ref (B + 58), .int a1] UInt64 Value.double (fun b L2 => (L2 (B + 80) 0).toUInt64 = b ∧ Jvm.FP.Core.dIsNaN b = false) B (lwInv B (i + 1)) σ I L := by
  obtain ⟨A, dN, nt, ns, np, c, tm, dc, NT, NS, NP, hL, hd, hS⟩ := h
  have hr := hS.1
  have hW := hr.wAll (Nat.le_refl c)
  have hM := hr.wM
  have hcb := hS.2.1.1
  have htm := hS.2.1.2.1
  have htb := hS.2.1.2.2
  have hX := c_X5_meanLevel (σ := σ) (x := B) (p := B + 1) (t := B + 29) (dd := B + 57) (I0 := rw_ (B + 1) I) (v := I) (L0 := rw_ (B + 1) L) (w := L) hL.1 hL.2.1 hW.1 a1 (p_meanX (q := (rw_ (B + 1) I, rw_ (B + 1) L)) (t := tm) (by omega) htm _)
  have hMC := fun n I1 L1 => c_X6_meanLevel (σ := (n, σ.2)) (r := B + 58) (J := rw_ (B + 58) I) (K := rw_ (B + 58) L) (v := I1) (w := L1) hL.2.2.2.1 hM a1 (p_meanM _ _)
  rw [reg_rw, reg_rw] at hX
  have hs := staR.th (J := (if off a1 nt then mTh 1 (rw_ (B + 58) I) else mT0 (rw_ (B + 58) I))) hr (z0.if _ 1)
  rcases p_meanLevel hr (t := tm) (by omega) htm a1 with ⟨h1, h2⟩ | ⟨h1, h2, e1, e2⟩
  · have h2 : bad a1 0 (rw_ (B + 1) I 1 0 - 1) := h2
    rw [if_pos h2] at hX
    rw [if_pos h1] at hs
    simp only [if_pos h1] at hMC
    exact .mk' hL hd hS (by omega) (by omega) (w_meanLevel_iob hL.1.1 a1 hX) (lwX1.same B I L) (fun n => hMC n _ _) (mTh_0 1 (rw_ (B + 58) I)) (fun z => absurd z (by decide)) hs
  · have h2 : ¬ bad a1 0 (rw_ (B + 1) I 1 0 - 1) := h2
    dsimp only at e1 e2
    rw [if_neg h2, e1] at hX
    rw [if_neg h1] at hs
    simp only [if_neg h1, e2] at hMC
    exact .mk' hL hd hS (by omega) (by omega) (w_meanLevel_ok hL.1.1 hL.2.2.2.2.2.1.2 a1 _ hX) ((lwX1.same B I L).out (Or.inr rfl) _) (fun n => hMC n _ _) (mT0_0 (rw_ (B + 58) I)) (fun _ => ⟨by rw [out_at2]; simp, mnV_ok _ _ _⟩) hs
theorem lwAsk.mk' {w1 w2 : Cond} {y1 y2 : MethodName} {dN nt ns np c tm dc : Nat} {A NT NS NP : Nat → Nat} {mc ms : Nat} {b : Int64}
    (hL : lwLay B σ A dN) (hd : dc ≤ dN) (h : lwSt B I L A i nt ns np c tm dc NT NS NP) (h1 : mc ≤ 28) (h2 : ms ≤ 364) (con1 : tkCon false w1 y1 10 [.ref B] σ I L mc ms (.inl (some (.long b))) σ I L)
    (con2 : tkCon false w2 y2 2 [.ref (B + 58)] σ (reg (B + 58) 21 (rw_ (B + 58) I) I) (reg (B + 58) 21 (rw_ (B + 58) L) L) 0 0 (.inl (some (.long b))) σ (reg (B + 58) 21 (mT0 (rw_ (B + 58) I)) I) (reg (B + 58) 21 (rw_ (B + 58) L) L)) : lwAsk w1 y1 w2 y2 B (lwInv B (i + 1)) σ I L := by
  have hs := lwInv.step (σ' := σ) hL hd h (lwX1.same B I L) (m' := (mT0 (rw_ (B + 58) I), rw_ (B + 58) L)) (staR.th h.1 (z0.t0 _)) rfl (Nat.le_refl _)
  rw [reg_rw, reg_rw] at con2
  exact ⟨mc, ms, I, L, b, _, _, ⟨h1, h2⟩, con1, con2, ⟨hL.1.1, hL.2.2.2.1⟩, by dsimp only at hs; rw [reg_rw] at hs; exact hs⟩
theorem l_time (h : lwInv B i σ I L) (hi : i ≤ 512) : lwAsk (.code yX5_time cX5_time 1 (some .long)) yX5_time (.code yX6_time cX6_time 1 (some .long)) yX6_time B (lwInv B (i + 1)) σ I L := by
  obtain ⟨A, dN, nt, ns, np, c, tm, dc, NT, NS, NP, hL, hd, hS⟩ := h
  have hr := hS.1
  have hW := hr.wAll (Nat.le_refl c)
  have hM := hr.wM
  have hcb := hS.2.1.1
  have hX := c_X5_time (σ := σ) (x := B) (p := B + 1) (t := B + 29) (dd := B + 57) (I0 := rw_ (B + 1) I) (v := I) (L0 := rw_ (B + 1) L) (w := L) hL.1 hL.2.1
  have hMC := c_X6_time (σ := σ) (r := B + 58) (J := rw_ (B + 58) I) (K := rw_ (B + 58) L) (v := I) (w := L) hL.2.2.2.1
  rw [reg_rw, reg_rw] at hX
  rw [← (show rw_ (B + 1) L 0 4 = rw_ (B + 58) L 0 21 from hr.2.2.2.2.2.1)] at hMC
  exact .mk' hL hd hS (by omega) (by omega) hX hMC
theorem l_balance (h : lwInv B i σ I L) (hi : i ≤ 512) : lwAsk (.code yX5_balance cX5_balance 1 (some .long)) yX5_balance (.code yX6_balance cX6_balance 4 (some .long)) yX6_balance B (lwInv B (i + 1)) σ I L := by
  obtain ⟨A, dN, nt, ns, np, c, tm, dc, NT, NS, NP, hL, hd, hS⟩ := h
  have hr := hS.1
  have hW := hr.wAll (Nat.le_refl c)
  have hM := hr.wM
  have hcb := hS.2.1.1
  have hX := c_X5_balance (σ := σ) (x := B) (p := B + 1) (t := B + 29) (dd := B + 57) (I0 := rw_ (B + 1) I) (v := I) (L0 := rw_ (B + 1) L) (w := L) hL.1 hL.2.1 hW.2.2.1
  have hMC := c_X6_balance (σ := σ) (r := B + 58) (J := rw_ (B + 58) I) (K := rw_ (B + 58) L) (v := I) (w := L) hL.2.2.2.1 hM
  rw [reg_rw, reg_rw] at hX
  rw [← p_balance hr] at hMC
  exact .mk' hL hd hS (by omega) (by omega) hX hMC
theorem l_changeCount (h : lwInv B i σ I L) (hi : i ≤ 512) : lwAsk (.code yX5_changeCount cX5_changeCount 1 (some .long)) yX5_changeCount (.code yX6_changeCount cX6_changeCount 1 (some .long)) yX6_changeCount B (lwInv B (i + 1)) σ I L := by
  obtain ⟨A, dN, nt, ns, np, c, tm, dc, NT, NS, NP, hL, hd, hS⟩ := h
  have hr := hS.1
  have hW := hr.wAll (Nat.le_refl c)
  have hM := hr.wM
  have hcb := hS.2.1.1
  have hX := c_X5_changeCount (σ := σ) (x := B) (p := B + 1) (t := B + 29) (dd := B + 57) (I0 := rw_ (B + 1) I) (v := I) (L0 := rw_ (B + 1) L) (w := L) hL.1 hL.2.1
  have hMC := c_X6_changeCount (σ := σ) (r := B + 58) (J := rw_ (B + 58) I) (K := rw_ (B + 58) L) (v := I) (w := L) hL.2.2.2.1
  rw [reg_rw, reg_rw] at hX
  rw [← (show rw_ (B + 1) L 25 0 = rw_ (B + 58) L 0 22 from hr.2.2.2.2.2.2.1.trans hr.2.2.2.2.2.2.2.1.symm)] at hMC
  exact .mk' hL hd hS (by omega) (by omega) hX hMC
theorem l_digest (h : lwInv B i σ I L) (hi : i ≤ 512) : lwAsk (.code yX5_digest cX5_digest 3 (some .long)) yX5_digest (.code yX6_digest cX6_digest 4 (some .long)) yX6_digest B (lwInv B (i + 1)) σ I L := by
  obtain ⟨A, dN, nt, ns, np, c, tm, dc, NT, NS, NP, hL, hd, hS⟩ := h
  have hr := hS.1
  have hW := hr.wAll (Nat.le_refl c)
  have hM := hr.wM
  have hcb := hS.2.1.1
  have hX := c_X5_digest (σ := σ) (x := B) (p := B + 1) (t := B + 29) (dd := B + 57) (I0 := rw_ (B + 1) I) (v := I) (L0 := rw_ (B + 1) L) (w := L) hL.1 hL.2.1 (Or.inl (by omega)) hW.1 hW.2.1 hW.2.2.1
  have hMC := c_X6_digest (σ := σ) (r := B + 58) (J := rw_ (B + 58) I) (K := rw_ (B + 58) L) (v := I) (w := L) hL.2.2.2.1 hM
  rw [reg_rw, reg_rw] at hX
  rw [← p_digest hr (hS.2.2.1.2.trans hS.2.2.1.1.symm)] at hMC
  exact .mk' hL hd hS (by omega) (by omega) hX hMC
end TKPAIRL

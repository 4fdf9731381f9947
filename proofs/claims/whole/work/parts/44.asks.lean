section TKASKS
variable {nt ns np c : Nat} {q m : tkI × tkL}
theorem staR.th {J : tkI} (h : wRel nt ns np c q m) (hz : z0 m.1 J) : staR nt ns np c m q (J, m.2) := .of (.z0 h hz) rfl
theorem z0.if (m : tkI) {P : Prop} [Decidable P] (e : Int32) : z0 m (if P then mTh e m else mT0 m) := by
  split
  · exact z0.th e m
  · exact z0.t0 m
theorem offR {i : Int32} {n : Nat} {J : tkI} {f g : Nat → Int32} (hn : n < 2 ^ 30) (h : eqR n f g) : ansR [(xIOB, 1)] (if bad i 0 (nI n - 1) then xIOB else .inl (some (.int (f i.toNatClampNeg)))) (if off i n then 0 else g i.toNatClampNeg) ((if off i n then mTh 1 J else mT0 J) 0 0) := by
  by_cases h1 : off i n
  · rw [if_pos ((bad_off hn).mpr h1), if_pos h1, if_pos h1]
    exact Or.inr ⟨(xIOB, 1), List.mem_cons_self, rfl, mTh_0 1 J⟩
  · rw [if_neg (fun z => h1 ((bad_off hn).mp z)), if_neg h1, if_neg h1]
    obtain ⟨t, ht, rfl⟩ := off_not hn h1
    rw [nI_clamp (by omega), h t ht]
    exact Or.inl ⟨rfl, mT0_0 J⟩
theorem offL {i : Int32} {n : Nat} {J : tkI} {f g : Nat → Int64} (hn : n < 2 ^ 30) (h : eqR n f g) : ansL [(xIOB, 1)] (if bad i 0 (nI n - 1) then xIOB else .inl (some (.long (f i.toNatClampNeg)))) (if off i n then 0 else g i.toNatClampNeg) ((if off i n then mTh 1 J else mT0 J) 0 0) := by
  by_cases h1 : off i n
  · rw [if_pos ((bad_off hn).mpr h1), if_pos h1, if_pos h1]
    exact Or.inr ⟨(xIOB, 1), List.mem_cons_self, rfl, mTh_0 1 J⟩
  · rw [if_neg (fun z => h1 ((bad_off hn).mp z)), if_neg h1, if_neg h1]
    obtain ⟨t, ht, rfl⟩ := off_not hn h1
    rw [nI_clamp (by omega), h t ht]
    exact Or.inl ⟨rfl, mT0_0 J⟩
theorem p_level (h : wRel nt ns np c q m) (i : Int32) : ansR [(xIOB, 1)] (if bad i 0 (q.1 1 0 - 1) then xIOB else .inl (some (.int (q.1 3 i.toNatClampNeg)))) (if off i nt then 0 else m.1 10 i.toNatClampNeg) ((if off i nt then mTh 1 m.1 else mT0 m.1) 0 0) := by
  rw [h.1.1.1.1]
  exact offR (by have := h.1.1.1.2.2; omega) h.2.1.1
theorem p_levelSum (h : wRel nt ns np c q m) (i : Int32) : ansL [(xIOB, 1)] (if bad i 0 (q.1 1 0 - 1) then xIOB else .inl (some (.long (q.2 5 i.toNatClampNeg)))) (if off i nt then 0 else m.2 12 i.toNatClampNeg) ((if off i nt then mTh 1 m.1 else mT0 m.1) 0 0) := by
  rw [h.1.1.1.1]
  exact offL (by have := h.1.1.1.2.2; omega) h.2.2.2.1
theorem p_total (h : wRel nt ns np c q m) (i : Int32) : ansL [(xIOB, 1)] (if bad i 0 (q.1 12 0 - 1) then xIOB else .inl (some (.long (q.2 19 i.toNatClampNeg)))) (if off i np then 0 else m.2 15 i.toNatClampNeg) ((if off i np then mTh 1 m.1 else mT0 m.1) 0 0) := by
  rw [h.1.1.2.2.1]
  exact offL (by have := h.1.1.2.2.2.2; omega) h.2.2.2.2.1.1
theorem p_energy (h : wRel nt ns np c q m) (i : Int32) : ansL [(xIOB, 1)] (if bad i 0 (q.1 12 0 - 1) then xIOB else .inl (some (.long (q.2 20 i.toNatClampNeg)))) (if off i np then 0 else m.2 16 i.toNatClampNeg) ((if off i np then mTh 1 m.1 else mT0 m.1) 0 0) := by
  rw [h.1.1.2.2.1]
  exact offL (by have := h.1.1.2.2.2.2; omega) h.2.2.2.2.1.2.1
theorem p_shortTicks (h : wRel nt ns np c q m) (i : Int32) : ansL [(xIOB, 1)] (if bad i 0 (q.1 12 0 - 1) then xIOB else .inl (some (.long (q.2 21 i.toNatClampNeg)))) (if off i np then 0 else m.2 17 i.toNatClampNeg) ((if off i np then mTh 1 m.1 else mT0 m.1) 0 0) := by
  rw [h.1.1.2.2.1]
  exact offL (by have := h.1.1.2.2.2.2; omega) h.2.2.2.2.1.2.2
theorem p_isOn (h : wRel nt ns np c q m) (i : Int32) : ansR [(xIOB, 1)] (if bad i 0 (q.1 7 0 - 1) then xIOB else .inl (some (.int (q.1 11 i.toNatClampNeg)))) (if off i ns then 0 else m.1 13 i.toNatClampNeg) (tk2 m.1 0 0 (if off i ns then 1 else 0) 0 0) := by
  have hn := h.1.1.2.1.2.2
  rw [h.1.1.2.1.1, tk2_at]
  by_cases h1 : off i ns
  · rw [if_pos ((bad_off (by omega)).mpr h1), if_pos h1, if_pos h1]
    exact Or.inr ⟨(xIOB, 1), List.mem_cons_self, rfl, rfl⟩
  · rw [if_neg (fun z => h1 ((bad_off (by omega)).mp z)), if_neg h1, if_neg h1]
    obtain ⟨t, ht, rfl⟩ := off_not (by omega) h1
    rw [nI_clamp (by omega), h.2.2.1.1 t ht]
    exact Or.inl ⟨rfl, rfl⟩
theorem p_changeTime (h : wRel nt ns np c q m) (i : Int32) : ansL [(xIOB, 1)] (if bad i 0 (nI (min c 30) - 1) then xIOB else .inl (some (.long (q.2 26 ((c - min c 30 + i.toNatClampNeg) % 30))))) (if off i (min c 30) then 0 else m.2 18 i.toNatClampNeg) ((if off i (min c 30) then mTh 1 m.1 else mT0 m.1) 0 0) :=
  offL (f := fun j => q.2 26 ((c - min c 30 + j) % 30)) (by omega) (fun j hj => (h.2.2.2.2.2.2.2.2.2 j hj).1)
theorem p_changeSwitch (h : wRel nt ns np c q m) (i : Int32) : ansR [(xIOB, 1)] (if bad i 0 (nI (min c 30) - 1) then xIOB else .inl (some (.int (q.1 27 ((c - min c 30 + i.toNatClampNeg) % 30))))) (if off i (min c 30) then 0 else m.1 19 i.toNatClampNeg) ((if off i (min c 30) then mTh 1 m.1 else mT0 m.1) 0 0) :=
  offR (f := fun j => q.1 27 ((c - min c 30 + j) % 30)) (by omega) (fun j hj => (h.2.2.2.2.2.2.2.2.2 j hj).2)
theorem p_balance (h : wRel nt ns np c q m) : itr (sIn q.1 q.2) np 0 - itr (sGo q.1 q.2) np 0 = itr (mBal m.1 m.2) np 0 := by
  obtain ⟨-, -, e13, e14, -⟩ := h.1.2.1
  have e19 := h.2.2.2.2.1.1
  have hB := h.1.2.2.2.2
  have key : ∀ n, n ≤ np → itr (sIn q.1 q.2) n 0 - itr (sGo q.1 q.2) n 0 = itr (mBal m.1 m.2) n 0 := by
    intro n
    induction n with
    | zero => intro _; exact Int64.sub_self _
    | succ n ih =>
      intro hn
      rw [itr_s, itr_s, itr_s, ← ih (by omega)]
      unfold sIn sGo mBal
      rw [← e13 n (by omega), ← e14 n (by omega), ← e19 n (by omega)]
      have hne := (hB n (by omega)).2.2.2.1
      generalize itr (fun i d => d + if q.1 13 i = -1 then q.2 19 i else 0) n 0 = a
      generalize itr (fun i d => d + if q.1 14 i = -1 then q.2 19 i else 0) n 0 = b
      generalize q.2 19 n = x
      by_cases h1 : q.1 13 n = -1
      · have h2 : ¬ q.1 14 n = -1 := fun z => hne (h1.trans z.symm)
        rw [if_pos h1, if_neg h2, if_pos h1, Int64.add_zero, Int64.sub_eq_add_neg, Int64.sub_eq_add_neg]
        ac_rfl
      · rw [if_neg h1, if_neg h1, Int64.add_zero]
        by_cases h2 : q.1 14 n = -1
        · rw [if_pos h2, if_pos h2, Int64.sub_eq_add_neg, Int64.sub_eq_add_neg, Int64.neg_add, Int64.sub_eq_add_neg]
          ac_rfl
        · rw [if_neg h2, if_neg h2, Int64.add_zero, Int64.add_zero]
  exact key np (Nat.le_refl _)
theorem itr_congr {α : Type} {f g : Nat → α → α} {n : Nat} (h : ∀ i a, i < n → f i a = g i a) : ∀ {k : Nat} {a : α}, k ≤ n → itr f k a = itr g k a
  | 0, _, _ => rfl
  | k + 1, a, hk => by rw [itr_s, itr_s, itr_congr h (by omega), h k _ (by omega)]
theorem p_digest (h : wRel nt ns np c q m) {d : Int32} (hd : m.1 0 26 = d) : xDigest nt ns np d q = mDig nt ns np m.1 m.2 := by
  obtain ⟨⟨⟨⟨a1, a2, a3⟩, ⟨b1, b2, b3⟩, ⟨d1, d2, d3⟩⟩, ⟨⟨t2, t4⟩, -, -, -, p15, -⟩, -⟩, ⟨l1, -⟩, ⟨o1, -⟩, -, ⟨k1, k2, k3⟩, hTm, g1, g2, -⟩ := h
  unfold xDigest mDig
  rw [hd, a1, a2, b1, b2, d1, d2, g1, g2, show q.2 0 4 = m.2 0 21 from hTm]
  have e1 : ∀ x, itr (sTmix q.1) nt x = itr (mD1 m.1) nt x := fun x => itr_congr (n := nt) (fun i a hi => by
    unfold sTmix mD1 jmix
    rw [l1 i hi, t4 i hi]) (Nat.le_refl _)
  have e2 : ∀ x, itr (sSmix q.1) ns x = itr (mD2 m.1) ns x := fun x => itr_congr (n := ns) (fun i a hi => by
    unfold sSmix mD2 jmix
    rw [o1 i hi]) (Nat.le_refl _)
  have e3 : ∀ x, itr (sPmix q.1 q.2) np x = itr (mD3 m.1 m.2) np x := fun x => itr_congr (n := np) (fun i a hi => by
    unfold sPmix mD3 jmix
    rw [p15 i hi, k1 i hi, k2 i hi, k3 i hi]) (Nat.le_refl _)
  rw [e3, e2, e1]
  unfold jmix
  rw [show (67 : Int64) * 31 = 2077 by decide]
/-! the mean: no NaN -/
theorem fp_ok {a b : Int64} (hb : ¬ b = 0) : Jvm.FP.Core.dIsNaN (FP.ddiv (FP.l2d a) (FP.l2d b)) = false :=
  Jvm.FP.Core.ddiv_out ((Jvm.FP.Core.l2d_fin a).notNaN) (Jvm.FP.Core.l2d_fin b) (fun z => Jvm.FP.Core.l2d_ne_zero hb ((Jvm.FP.Core.zero_bits2 _).mp z))
theorem fp_n64 {x : UInt64} (h : Jvm.FP.Core.dIsNaN x = false) : vf_n64 x := by
  unfold vf_n64
  have h1 : ¬ 9218868437227405312 < x.toNat % 2 ^ 63 := fun z => by
    rw [(Jvm.FP.Core.isNaN_bits x).mpr z] at h
    cases h
  rw [UInt64.le_iff_toNat_le, UInt64.toNat_and, show (0x7fffffffffffffff : UInt64).toNat = 2 ^ 63 - 1 from rfl, Nat.and_two_pow_sub_one_eq_mod]
  exact Nat.not_lt.mp h1
theorem fp_eq {x : UInt64} (h : Jvm.FP.Core.dIsNaN x = false) (op : CmpOp) : Op.cmpValue (FP.dcmp x x) op = 0 := by
  rw [show FP.dcmp x x = some .eq from Jvm.FP.Core.dcmp_self ((Jvm.FP.Core.notNaN_iff x).mp h)]
  rfl
def mnV (s t : Int64) (l : Int32) : UInt64 := if 0 < t then FP.ddiv (FP.l2d s) (FP.l2d t) else FP.i2d l
theorem mnV_ok (s t : Int64) (l : Int32) : Jvm.FP.Core.dIsNaN (mnV s t l) = false := by
  unfold mnV
  split
  · rename_i h
    exact fp_ok (fun z => by rw [z] at h; exact absurd h (by decide))
  · exact (Jvm.FP.Core.i2d_fin l).notNaN
theorem lN_pos {t : Nat} (ht : t < 2 ^ 62) : (0 < lN t ↔ ¬ lN t = 0) := by
  rw [Int64.lt_iff_toInt_lt, ← Int64.toInt_inj, pk_lT (by omega), show (0 : Int64).toInt = 0 by decide]
  omega
/-- the answers of meanLevel -/
theorem p_meanLevel (h : wRel nt ns np c q m) {t : Nat} (ht : t < 2 ^ 62) (e : q.2 0 4 = lN t) (i : Int32) :
    (off i nt ∧ bad i 0 (q.1 1 0 - 1)) ∨ (¬ off i nt ∧ ¬ bad i 0 (q.1 1 0 - 1) ∧ (if 0 < q.2 0 4 then FP.ddiv (FP.l2d (q.2 5 i.toNatClampNeg)) (FP.l2d (q.2 0 4)) else FP.i2d (q.1 3 i.toNatClampNeg)) = mnV (q.2 5 i.toNatClampNeg) (q.2 0 4) (q.1 3 i.toNatClampNeg) ∧
      (if m.2 0 21 = 0 then FP.i2d (m.1 10 i.toNatClampNeg) else FP.ddiv (FP.l2d (m.2 12 i.toNatClampNeg)) (FP.l2d (m.2 0 21))) = mnV (q.2 5 i.toNatClampNeg) (q.2 0 4) (q.1 3 i.toNatClampNeg)) := by
  have hn := h.1.1.1.2.2
  rw [h.1.1.1.1]
  by_cases h1 : off i nt
  · exact Or.inl ⟨h1, (bad_off (by omega)).mpr h1⟩
  · refine Or.inr ⟨h1, fun z => h1 ((bad_off (by omega)).mp z), rfl, ?_⟩
    obtain ⟨j, hj, rfl⟩ := off_not (by omega) h1
    rw [nI_clamp (by omega), ← h.2.1.1 j hj, ← h.2.2.2.1 j hj, ← (show q.2 0 4 = m.2 0 21 from h.2.2.2.2.2.1), e]
    unfold mnV
    by_cases z : lN t = 0
    · rw [if_pos z, if_neg (fun y => (lN_pos ht).mp y z)]
    · rw [if_neg z, if_pos ((lN_pos ht).mpr z)]
theorem p_meanX {t : Nat} (ht : t < 2 ^ 62) (e : q.2 0 4 = lN t) (x : Int64) : 0 < q.2 0 4 → vf_n64 (FP.ddiv (FP.l2d x) (FP.l2d (q.2 0 4))) := fun z => fp_n64 (fp_ok (fun y => by rw [y] at z; exact absurd z (by decide)))
theorem p_meanM (x y : Int64) : ¬ y = 0 → vf_n64 (FP.ddiv (FP.l2d x) (FP.l2d y)) := fun z => fp_n64 (fp_ok z)
end TKASKS

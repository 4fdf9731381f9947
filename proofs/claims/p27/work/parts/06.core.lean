/-! ===== the layer G: one memory of numbered cells, contracts that tell the answer and the memory behind it ===== -/
/-- a word that rides from a method's start to its callees' -/
def tkRide (w : Cond) : Bool := (match w with | .arrayClass _ => true | .methodLinkNest .. => true | _ => false) || (w.onTables && w.keepsFace)
def tkAll : List Cond := lw_tbl.filter tkRide
theorem tk_ride {s U : State} {args a' : Array Value} {w : Cond} (hW : s.WarmedH U.vm) (hw : tkRide w = true) (h : w.before args s = true) : w.before a' U = true := by
  simp only [tkRide, Bool.or_eq_true, Bool.and_eq_true] at hw
  rcases hw with hw | ⟨h1, h2⟩
  · cases w <;> first | exact word_at hW (Or.inr ⟨_, rfl⟩) h | exact (va_Nw.warmM hW (va_Nw.of rfl h)).use rfl | (exact (Bool.false_ne_true hw).elim)
  · have h3 : w.before args (s.setVm U.vm) = true := Cond.before_shiftedFace (State.Shifted.of_warmed hW) _ h2 h
    exact va_tabs h1 (rfl : (s.setVm U.vm).vm = U.vm) h3
theorem tk_rides {s U : State} {args a' : Array Value} (hW : s.WarmedH U.vm) (h : ∀ w ∈ tkAll, w.before args s = true) : ∀ w ∈ tkAll, w.before a' U = true :=
  fun w hw => tk_ride hW (List.mem_filter.mp hw).2 (h w hw)
theorem tk_in {w : Cond} (h1 : w ∈ lw_tbl) (h2 : tkRide w = true) : w ∈ tkAll := List.mem_filter.mpr ⟨h1, h2⟩
theorem tk_at {w : Cond} (i : Nat) (h1 : lw_tbl[i]? = some w) (h2 : tkRide w = true) : w ∈ tkAll := tk_in (List.mem_of_getElem? h1) h2
/-! memory: its size, the shape of each cell (kind, length), the references in it; ints and longs stand apart -/
abbrev tkM : Type := Nat × (Nat → Nat × Nat) × (Nat → Nat → Option Nat)
abbrev tkI : Type := Nat → Nat → Int32
abbrev tkL : Type := Nat → Nat → Int64
def tk2 {α : Type} (f : Nat → Nat → α) (a i : Nat) (x : α) : Nat → Nat → α := fun b j => if b = a ∧ j = i then x else f b j
def tk1 {α : Type} (f : Nat → α) (a : Nat) (x : α) : Nat → α := fun b => if b = a then x else f b
def tkTy (k : Nat) : Nat → FieldType := match k with | 0 => tyX0 | 1 => tyX1 | 2 => tyX2 | 3 => tyX3 | 4 => tyX4 | 5 => tyX5 | _ => tyX6
def tkVal (t : FieldType) (x : Int32) (y : Int64) (r : Option Nat) : Value := match t with
  | .long => .long y
  | .object _ => va_rf r
  | .array _ => va_rf r
  | _ => .int x
def tkObj (D : va_G) (H : Heap) (a k : Nat) (f : Nat → Int32) (g : Nat → Int64) (r : Nat → Option Nat) : Prop :=
  ∃ q : vw_C, vwCl[k]? = some q ∧ t_OB a (D.1 k) q.2.2 (D.2 k) H (fun j => tkVal (tkTy k j) (f j) (g j) (r j))
def tkCell (D : va_G) (H : Heap) (a : Nat) (sh : Nat × Nat) (f : Nat → Int32) (g : Nat → Int64) (r : Nat → Option Nat) : Prop :=
  (sh.1 < 7 → tkObj D H a sh.1 f g r) ∧
  (sh.1 = 10 → H[a]? = some (arrV (D.1 10) sh.2 (fun j => .int (f j)))) ∧
  (sh.1 = 11 → H[a]? = some (arrV (D.1 11) sh.2 (fun j => .long (g j)))) ∧
  (sh.1 = 12 → H[a]? = some (arrV (D.1 12) sh.2 (fun j => .int (f j))) ∧ ∀ j, j < sh.2 → fits .boolean (.int (f j)) = true) ∧
  (sh.1 = 13 → H[a]? = some (arrV (D.1 13) sh.2 (fun j => .double (g j).toUInt64))) ∧
  (sh.1 = 14 → H[a]? = some (arrV (D.1 14) sh.2 (fun j => va_rf (r j))))
/-- 99: a cell of which nothing is known -/
def tkRel (D : va_G) (base : Nat) (σ : tkM) (I : tkI) (L : tkL) (H : Heap) : Prop :=
  H.size = σ.1 ∧ base ≤ σ.1 ∧ (∀ a, (a < base ∨ σ.1 ≤ a) → (σ.2.1 a).1 = 99) ∧ ∀ a, base ≤ a → a < σ.1 → tkCell D H a (σ.2.1 a) (I a) (L a) (σ.2.2 a)
theorem tkCell.kept {D : va_G} {H H1 : Heap} {a : Nat} {sh : Nat × Nat} {f : Nat → Int32} {g : Nat → Int64} {r : Nat → Option Nat} (h : tkCell D H a sh f g r) (hq : H1[a]? = H[a]?) : tkCell D H1 a sh f g r := by
  obtain ⟨h1, h2, h3, h4, h5, h6⟩ := h
  refine ⟨fun q => ?_, fun q => ?_, fun q => ?_, fun q => ?_, fun q => ?_, fun q => ?_⟩
  · obtain ⟨c, c1, c2⟩ := h1 q
    exact ⟨c, c1, c2.kept hq⟩
  · rw [hq]; exact h2 q
  · rw [hq]; exact h3 q
  · rw [hq]; exact h4 q
  · rw [hq]; exact h5 q
  · rw [hq]; exact h6 q
theorem tkCell.hole (D : va_G) (H : Heap) (a n : Nat) (f : Nat → Int32) (g : Nat → Int64) (r : Nat → Option Nat) : tkCell D H a (99, n) f g r :=
  ⟨fun q => absurd (show 99 < 7 from q) (by decide), fun q => absurd (show 99 = 10 from q) (by decide), fun q => absurd (show 99 = 11 from q) (by decide), fun q => absurd (show 99 = 12 from q) (by decide), fun q => absurd (show 99 = 13 from q) (by decide), fun q => absurd (show 99 = 14 from q) (by decide)⟩
theorem tkRel.at {D : va_G} {base : Nat} {σ : tkM} {I : tkI} {L : tkL} {H : Heap} (h : tkRel D base σ I L H) {a k n : Nat} (hs : σ.2.1 a = (k, n)) (hk : k ≠ 99) :
    base ≤ a ∧ a < σ.1 ∧ a < H.size ∧ tkCell D H a (k, n) (I a) (L a) (σ.2.2 a) := by
  obtain ⟨h1, h2, h3, h4⟩ := h
  have hb : base ≤ a := by
    rcases Nat.lt_or_ge a base with q | q
    · have := h3 a (Or.inl q); rw [hs] at this; exact absurd this hk
    · exact q
  have hl : a < σ.1 := by
    rcases Nat.lt_or_ge a σ.1 with q | q
    · exact q
    · have := h3 a (Or.inr q); rw [hs] at this; exact absurd this hk
  exact ⟨hb, hl, by rw [h1]; exact hl, by rw [← hs]; exact h4 a hb hl⟩
/-- one cell has changed -/
theorem tkRel.put {D : va_G} {base : Nat} {σ σ1 : tkM} {I I1 : tkI} {L L1 : tkL} {H H1 : Heap} (h : tkRel D base σ I L H) {a : Nat} (ha : base ≤ a) (hz : H1.size = H.size) (oq : ∀ q, q ≠ a → H1[q]? = H[q]?)
    (hn : σ1.1 = σ.1) (hs : σ1.2.1 = σ.2.1) (hI : ∀ b, b ≠ a → I1 b = I b) (hL : ∀ b, b ≠ a → L1 b = L b) (hR : ∀ b, b ≠ a → σ1.2.2 b = σ.2.2 b)
    (hc : a < σ.1 → tkCell D H1 a (σ.2.1 a) (I1 a) (L1 a) (σ1.2.2 a)) : tkRel D base σ1 I1 L1 H1 := by
  obtain ⟨h1, h2, h3, h4⟩ := h
  refine ⟨by rw [hz, h1, hn], by rw [hn]; exact h2, fun b hb => by rw [hs]; exact h3 b (by rw [hn] at hb; exact hb), fun b hb hl => ?_⟩
  rw [hn] at hl
  rw [hs]
  by_cases e : b = a
  · subst e; exact hc hl
  · rw [hI b e, hL b e, hR b e]
    exact (h4 b hb hl).kept (oq b e)
/-- a new cell -/
theorem tkRel.push {D : va_G} {base : Nat} {σ : tkM} {I I1 : tkI} {L L1 : tkL} {H H1 : Heap} (h : tkRel D base σ I L H) {sh : Nat × Nat} {r : Nat → Option Nat} (hz : H1.size = H.size + 1) (oq : ∀ q, q < H.size → H1[q]? = H[q]?)
    (hI : ∀ b, b ≠ σ.1 → I1 b = I b) (hL : ∀ b, b ≠ σ.1 → L1 b = L b) (hc : tkCell D H1 σ.1 sh (I1 σ.1) (L1 σ.1) r) : tkRel D base (σ.1 + 1, tk1 σ.2.1 σ.1 sh, tk1 σ.2.2 σ.1 r) I1 L1 H1 := by
  obtain ⟨h1, h2, h3, h4⟩ := h
  refine ⟨by rw [hz, h1], by omega, fun b hb => ?_, fun b hb hl => ?_⟩
  · have hb' : b < base ∨ σ.1 + 1 ≤ b := hb
    have e : b ≠ σ.1 := by omega
    show (tk1 σ.2.1 σ.1 sh b).1 = 99
    rw [tk1, if_neg e]
    exact h3 b (by omega)
  · have hl' : b < σ.1 + 1 := hl
    show tkCell D H1 b (tk1 σ.2.1 σ.1 sh b) (I1 b) (L1 b) (tk1 σ.2.2 σ.1 r b)
    by_cases e : b = σ.1
    · subst e
      rw [tk1, if_pos rfl, tk1, if_pos rfl]
      exact hc
    · rw [tk1, if_neg e, tk1, if_neg e, hI b e, hL b e]
      exact (h4 b hb (by omega)).kept (oq b (by omega))
theorem tkRel.grow {D : va_G} {base n : Nat} {σ : tkM} {I : tkI} {L : tkL} {H H1 : Heap} (h : tkRel D base σ I L H) (hz : H1.size = n) (hn : σ.1 ≤ n) (oq : ∀ q, q < H.size → H1[q]? = H[q]?) : tkRel D base (n, σ.2) I L H1 := by
  obtain ⟨h1, h2, h3, h4⟩ := h
  refine ⟨hz, Nat.le_trans h2 hn, fun b hb => h3 b (hb.elim Or.inl (fun q => Or.inr (Nat.le_trans hn q))), fun b hb hl => ?_⟩
  rcases Nat.lt_or_ge b σ.1 with q | q
  · exact (h4 b hb q).kept (oq b (by omega))
  · have e : (σ.2.1 b) = (99, (σ.2.1 b).2) := Prod.ext (h3 b (Or.inr q)) rfl
    show tkCell D H1 b (σ.2.1 b) _ _ _
    rw [e]
    exact tkCell.hole _ _ _ _ _ _ _
/-! locals by their places -/
def tkGet : List (Option Value) → Nat → Option Value
  | [], _ => none
  | o :: _, 0 => o
  | _ :: r, n + 1 => tkGet r n
def tkPut (v : Option Value) : List (Option Value) → Nat → List (Option Value)
  | [], _ => []
  | _ :: r, 0 => v :: r
  | o :: r, n + 1 => o :: tkPut v r n
def tkWide : Option Value → Bool
  | some (.long _) => true
  | some (.double _) => true
  | _ => false
def tkKill (lv : List (Option Value)) (i : Nat) : List (Option Value) := match i with
  | 0 => lv
  | j + 1 => match tkWide (tkGet lv j) with
    | true => tkPut none lv j
    | false => lv
def tkSt1 (lv : List (Option Value)) (i : Nat) (v : Value) : List (Option Value) := tkPut (some v) (tkKill lv i) i
def tkSt2 (lv : List (Option Value)) (i : Nat) (v : Value) : List (Option Value) := tkPut none (tkPut (some v) (tkKill lv i) i) (i + 1)
theorem tkGet_put (v : Option Value) : ∀ (lv : List (Option Value)) (i j : Nat) (w : Value), tkGet (tkPut v lv i) j = some w → (j = i ∧ v = some w) ∨ (j ≠ i ∧ tkGet lv j = some w)
  | [], i, j, w, h => by simp [tkPut, tkGet] at h
  | o :: r, 0, 0, w, h => Or.inl ⟨rfl, h⟩
  | o :: r, 0, j + 1, w, h => Or.inr ⟨by omega, h⟩
  | o :: r, i + 1, 0, w, h => Or.inr ⟨by omega, h⟩
  | o :: r, i + 1, j + 1, w, h => by
    rcases tkGet_put v r i j w h with ⟨e, q⟩ | ⟨e, q⟩
    · exact Or.inl ⟨by omega, q⟩
    · exact Or.inr ⟨by omega, q⟩
theorem tkWide_cat (v : Value) : (tkWide (some v) = true ↔ v.category = 2) := by
  cases v <;> simp [tkWide, Value.category]
theorem tkGet_kill {lv : List (Option Value)} {i j : Nat} {w : Value} (h : tkGet (tkKill lv i) j = some w) : tkGet lv j = some w ∧ ¬ (j + 1 = i ∧ w.category = 2) := by
  cases i with
  | zero => exact ⟨h, fun q => by omega⟩
  | succ k =>
    simp only [tkKill] at h
    cases hw : tkWide (tkGet lv k) with
    | true =>
      rw [hw] at h
      rcases tkGet_put none lv k j w h with ⟨e, q⟩ | ⟨e, q⟩
      · cases q
      · exact ⟨q, fun z => e (by omega)⟩
    | false =>
      rw [hw] at h
      refine ⟨h, fun z => ?_⟩
      have e : j = k := by omega
      subst e
      have h5 : tkGet lv j = some w := h
      rw [h5, (tkWide_cat w).mpr z.2] at hw
      cases hw
def tkAl (lv : List (Option Value)) : List (Nat × Value) := (List.range lv.length).filterMap fun j => (tkGet lv j).map fun v => (j, v)
theorem tkGet_lt : ∀ {lv : List (Option Value)} {j : Nat} {v : Value}, tkGet lv j = some v → j < lv.length
  | [], j, v, h => by simp [tkGet] at h
  | o :: r, 0, v, _ => Nat.succ_pos _
  | o :: r, j + 1, v, h => Nat.succ_lt_succ (tkGet_lt (lv := r) h)
theorem tkAl_mem {lv : List (Option Value)} {j : Nat} {v : Value} : (j, v) ∈ tkAl lv ↔ tkGet lv j = some v := by
  simp only [tkAl, List.mem_filterMap, List.mem_range, Option.map_eq_some_iff, Prod.mk.injEq]
  constructor
  · rintro ⟨k, -, w, hw, rfl, rfl⟩
    exact hw
  · intro h
    exact ⟨j, tkGet_lt h, v, h, rfl, rfl⟩
def tkLv (ls : Array Slot) (nL : Nat) (lv : List (Option Value)) : Prop := lv_has ls nL (tkAl lv)
theorem tkLv.get {ls : Array Slot} {nL : Nat} {lv : List (Option Value)} (h : tkLv ls nL lv) {i : Nat} {v : Value} (hv : tkGet lv i = some v) : ls[i]? = some (.val v) := h.2.2 (i, v) (tkAl_mem.mpr hv)
theorem tkLv.of {ls : Array Slot} {nL : Nat} {lv : List (Option Value)} {l : List (Nat × Value)} (h : lv_has ls nL l) (hv : ∀ j v, tkGet lv j = some v → (j, v) ∈ l) : tkLv ls nL lv := ⟨h.1, h.2.1, fun q hq => h.2.2 q (hv q.1 q.2 (tkAl_mem.mp hq))⟩
theorem tkLv.st1 {ls : Array Slot} {nL : Nat} {lv : List (Option Value)} {i : Nat} {v : Value} (h : lv_has ls nL ((i, v) :: (tkAl lv).filter (fun q => !(q.1 == i) && !(q.1 + 1 == i && q.2.category == 2)))) : tkLv ls nL (tkSt1 lv i v) := by
  refine tkLv.of h fun j w hj => ?_
  rcases tkGet_put _ _ _ _ _ hj with ⟨e, q⟩ | ⟨e, q⟩
  · cases q; subst e; exact List.mem_cons_self
  · obtain ⟨q1, q2⟩ := tkGet_kill q
    refine List.mem_cons_of_mem _ (List.mem_filter.mpr ⟨tkAl_mem.mpr q1, ?_⟩)
    simp only [Bool.and_eq_true, Bool.not_eq_true', beq_eq_false_iff_ne, ne_eq, Bool.and_eq_false_iff]
    refine ⟨e, ?_⟩
    by_cases e2 : j + 1 = i
    · exact Or.inr fun z => q2 ⟨e2, z⟩
    · exact Or.inl e2
theorem tkLv.st2 {ls : Array Slot} {nL : Nat} {lv : List (Option Value)} {i : Nat} {v : Value} (h : lv_has ls nL ((i, v) :: (tkAl lv).filter (fun q => !(q.1 == i) && (!(q.1 == i + 1) && !(q.1 + 1 == i && q.2.category == 2))))) : tkLv ls nL (tkSt2 lv i v) := by
  refine tkLv.of h fun j w hj => ?_
  rcases tkGet_put _ _ _ _ _ hj with ⟨e, q⟩ | ⟨e, q⟩
  · cases q
  rcases tkGet_put _ _ _ _ _ q with ⟨e2, q⟩ | ⟨e2, q⟩
  · cases q; subst e2; exact List.mem_cons_self
  · obtain ⟨q1, q2⟩ := tkGet_kill q
    refine List.mem_cons_of_mem _ (List.mem_filter.mpr ⟨tkAl_mem.mpr q1, ?_⟩)
    simp only [Bool.and_eq_true, Bool.not_eq_true', beq_eq_false_iff_ne, ne_eq, Bool.and_eq_false_iff]
    refine ⟨e2, e, ?_⟩
    by_cases e3 : j + 1 = i
    · exact Or.inr fun z => q2 ⟨e3, z⟩
    · exact Or.inl e3
def tkEnt : List Value → List (Option Value)
  | [] => []
  | v :: vs => match tkWide (some v) with
    | true => some v :: none :: tkEnt vs
    | false => some v :: tkEnt vs
theorem tkEnt_mem : ∀ (vs : List Value) (k n j : Nat) (w : Value), tkGet (tkEnt vs ++ List.replicate n none) j = some w → (k + j, w) ∈ lv_args k vs
  | [], k, n, j, w, h => by
    exfalso
    have h1 : tkGet (List.replicate n none) j = some w := h
    clear h
    induction n generalizing j with
    | zero => simp [tkGet] at h1
    | succ n ih =>
      rw [List.replicate_succ] at h1
      cases j with
      | zero => cases h1
      | succ j => exact ih j h1
  | v :: vs, k, n, j, w, h => by
    have hc := tkWide_cat v
    cases hw : tkWide (some v) with
    | true =>
      have c2 : v.category = 2 := hc.mp hw
      simp only [tkEnt, hw] at h
      cases j with
      | zero =>
        cases h
        exact List.mem_cons_self
      | succ j =>
        cases j with
        | zero => cases h
        | succ j =>
          have h2 := tkEnt_mem vs (k + 2) n j w h
          refine List.mem_cons_of_mem _ ?_
          show (k + (j + 1 + 1), w) ∈ lv_args (if v.category = 2 then k + 2 else k + 1) vs
          rw [if_pos c2, show k + (j + 1 + 1) = k + 2 + j by omega]
          exact h2
    | false =>
      have c2 : ¬ v.category = 2 := fun z => by rw [hc.mpr z] at hw; cases hw
      simp only [tkEnt, hw] at h
      cases j with
      | zero =>
        cases h
        exact List.mem_cons_self
      | succ j =>
        have h2 := tkEnt_mem vs (k + 1) n j w h
        refine List.mem_cons_of_mem _ ?_
        show (k + (j + 1), w) ∈ lv_args (if v.category = 2 then k + 2 else k + 1) vs
        rw [if_neg c2, show k + (j + 1) = k + 1 + j by omega]
        exact h2
/-! what the tables say, at any method's start -/
def tkStr : List (Nat × String) := [(34, "capacity is not 1 to 1000000000"), (58, "there are 8 tanks"), (72, "not 0 <= low < high <= capacity"), (81, "there are 10 switches"), (90, "from and to are the same"), (95, "lift is not 0 to 100"), (104, "there are 16 pumps"), (205, "there is no such tank"), (208, "there is no such switch"), (210, "there is no such pump"), (218, "level is not 0 to the capacity"), (221, "leak is not 0 to 1000000"), (223, "rate is not 1 to 1000000"), (225, "the number of ticks is out of its range")]
def tkNc : List (String × String) := ([] : List (String × String))
def tkTys (D : va_G) : List (ClassId × FieldType) := [(D.1 10, .int), (D.1 11, .long), (D.1 12, .boolean), (D.1 14, .object RX1)]
def tkK (D : va_G) (U : State) : Prop := va_K D vwCl (tkTys D) U ∧ va_AO RX1 U ∧ (∀ q ∈ tkStr, ∃ sa, vk_R RX5 q.1 q.2 sa U) ∧ ∀ q ∈ tkNc, va_Nc q.1 q.2 U
theorem tkK.warm {D : va_G} {s U : State} (hW : s.WarmedH U.vm) (h : tkK D s) : tkK D U :=
  ⟨va_K.moved hW.alike h.1, va_AO.moved hW.alike h.2.1, fun q hq => (h.2.2.1 q hq).imp fun _ z => vk_R.warm hW z, fun q hq => va_Nc.moved hW.alike (h.2.2.2 q hq)⟩
def tkE (base : Nat) (U : State) (H : Heap) : Prop := vx_Zq Bundle.tN "UNASSIGNED_STACK" Bundle.steD (fun q => base ≤ q) U H ∧ vx_Zq Bundle.tN "SUPPRESSED_SENTINEL" Bundle.listD (fun q => base ≤ q) U H
theorem tkE.warm {base : Nat} {s U : State} {H : Heap} (hW : s.WarmedH U.vm) (h : tkE base s H) : tkE base U H := ⟨vx_Zq.moved hW.alike h.1, vx_Zq.moved hW.alike h.2⟩
theorem tkE.kept {base : Nat} {s : State} {H H1 : Heap} (h : tkE base s H) (hq : ∀ a : Nat, a < H.size → ¬ base ≤ a → H1[a]? = H[a]?) : tkE base s H1 := ⟨h.1.kept hq, h.2.kept hq⟩
/-! the contract of a method: it answers 'out' (a value, none, or an exception's class) and leaves the memory as told -/
abbrev tkOut : Type := Option Value ⊕ String
def tkRm (d mc ms : Nat) : Room := { frames := d, cells := mc, slots := ms, locals := 37 * d }
def tkPc (base : Nat) (D : va_G) (a : List Value) (σ : tkM) (I : tkI) (L : tkL) : Array Value → State → Prop := fun v U => v = a.toArray ∧ tkK D U ∧ tkE base U U.heap ∧ tkRel D base σ I L U.heap
def tkQc (lo : Bool) (base : Nat) (D : va_G) (out : tkOut) (σ : tkM) (I : tkI) (L : tkL) : Array Value → State → Outcome → State → Prop := fun _ st o t =>
  (∃ v, out = .inl v ∧ o = .returned v) ∧ (∃ n, σ.1 ≤ n ∧ (lo = false → n = σ.1) ∧ tkRel D base (n, σ.2) I L t.heap) ∧ va_F (fun q => base ≤ q) st t
def tkXC (base : Nat) (D : va_G) (out : tkOut) (σ : tkM) (I : tkI) (L : tkL) : String → State → State → Prop := fun E st t =>
  out = .inr E ∧ (∃ n, σ.1 ≤ n ∧ tkRel D base (n, σ.2) I L t.heap) ∧ va_F (fun q => base ≤ q) st t
def tkCon (lo : Bool) (w : Cond) (y : MethodName) (d : Nat) (a : List Value) (σ : tkM) (I : tkI) (L : tkL) (mc ms : Nat) (out : tkOut) (σ' : tkM) (I' : tkI) (L' : tkL) : Prop :=
  ∀ (l : Launch), l.stackTraces = false → ∀ (base : Nat) (D : va_G), vx_Met l y (w :: tkAll) (tkRm d mc ms) (tkPc base D a σ I L) (tkQc lo base D out σ' I' L') (tkXC base D out σ' I' L') mc ms (fun q => base ≤ q)
abbrev tkX : Type := Program × Launch × Env × Room × State × MethodId × Array Value × List Frame × Method × Code × Nat × va_G
def tkG (X : tkX) (Q : State → Prop) (cells slots pc : Nat) (lv : List (Option Value)) (stk : List Value) (σ : tkM) (I : tkI) (L : tkL) : Prop :=
  match X with
  | (p, l, e, R, s, m, args, below, meth, c, base, D) => ∀ (H : Heap) (locs : List Loc) (ls : Array Slot), va_S (fun q => base ≤ q) s.heap H locs → tkRel D base σ I L H → tkLv ls c.maxLocals lv →
    W p l e R s m args below meth c H locs cells slots Q (F0 m pc ls stk)
/-- the same with q thrown over the frame -/
def tkT (X : tkX) (Q : State → Prop) (cells slots pc : Nat) (lv : List (Option Value)) (stk : List Value) (σ : tkM) (I : tkI) (L : tkL) (E : String) : Prop :=
  match X with
  | (p, l, e, R, s, m, args, below, meth, c, base, D) => ∀ (H : Heap) (locs : List Loc) (ls : Array Slot) (q : Addr) (ce : Cell), va_S (fun q => base ≤ q) s.heap H locs → tkRel D base σ I L H → tkLv ls c.maxLocals lv → H[q]? = some ce → ce.vm = .none → s.vm.findClass E = some ce.cls →
    vx_W p l e R s m args below meth c H locs cells slots Q (F0 m pc ls stk) q
def tkC (X : tkX) (cc : ByteArray) (own nm : String) (nL : Nat) (ret : Option FieldType) (hh : List (Nat × Nat × Nat × Nat)) (d MC MS : Nat) : Prop :=
  match X with
  | (p, l, e, R, s, m, args, below, meth, c, base, D) => p.tables.exec = Jvm.exec ∧ c.code = cc ∧ c.maxLocals = nL ∧ s.vm.findClass own = some m.cls ∧ (∀ w ∈ tkAll, w.before args s = true) ∧ tkK D s ∧ tkE base s s.heap ∧ meth.locks = false ∧ meth.sig.returnType = ret ∧ meth.name = nm ∧
    c.exceptionTable.toList = tableOf hh ∧ d ≤ R.frames ∧ 37 * d ≤ R.locals ∧ R.cells = MC ∧ R.slots = MS ∧ l.stackTraces = false
def tkQ (lo : Bool) (X : tkX) (mc ms : Nat) (out : tkOut) (σ' : tkM) (I' : tkI) (L' : tkL) : State → Prop :=
  match X with
  | (p, l, e, R, s, m, args, below, meth, c, base, D) => vx_MQ below (tkQc lo base D out σ' I' L') (tkXC base D out σ' I' L') args s mc ms (fun q => base ≤ q)
theorem tkG.entry {X : tkX} {Q : State → Prop} {p : Program} {l : Launch} {e : Env} {R : Room} {s : State} {m : MethodId} {below : List Frame} {meth : Method} {c : Code} {base : Nat} {D : va_G} {a : List Value} {nL : Nat} {σ : tkM} {I : tkI} {L : tkL}
    (hX : X = (p, l, e, R, s, m, a.toArray, below, meth, c, base, D)) (hml : c.maxLocals = nL) (hn : (lg_sl a).length ≤ nL) (hr : tkRel D base σ I L s.heap)
    (h : tkG X Q 0 0 0 (tkEnt a ++ List.replicate (nL - (lg_sl a).length) none) [] σ I L) : W p l e R s m a.toArray below meth c s.heap [] 0 0 Q (entryFrame m a.toArray nL) := by
  subst hX
  rw [lg_entry_eq]
  refine h s.heap [] _ va_S.rf hr ?_
  rw [hml]
  refine tkLv.of (lv_entry a hn) fun j v hj => ?_
  have := tkEnt_mem a 0 _ j v hj
  rwa [Nat.zero_add] at this
theorem tkCon.of {lo : Bool} {y : MethodName} {cc : ByteArray} {nL d mc ms : Nat} {ret : Option FieldType} {a : List Value} {σ σ' : tkM} {I I' : tkI} {L L' : tkL} {out : tkOut} (hy : plainName y.cls = true) (hn : (lg_sl a).length ≤ nL)
    (body : ∀ X : tkX, tkC X cc y.cls y.name nL ret [] d mc ms → tkG X (tkQ lo X mc ms out σ' I' L') 0 0 0 (tkEnt a ++ List.replicate (nL - (lg_sl a).length) none) [] σ I L) :
    tkCon lo (.code y cc nL ret) y d a σ I L mc ms out σ' I' L' := by
  intro l hl base D
  refine vx_ofW (cc := cc) (maxL := nL) (ret := ret) hy rfl ?_
  intro p e s m args below meth c s₁ B hml ht hv
  obtain ⟨rfl, hK, hE, hR⟩ := hv
  have hts0 := atoms_spec (ws := Cond.code y cc nL ret :: tkAll) B.pre
  have C : tkC (p, l, e, tkRm d mc ms, s, m, a.toArray, below, meth, c, base, D) cc y.cls y.name nL ret [] d mc ms :=
    ⟨B.exec, B.bytes, hml, findClass_of_methodNamed B.named, fun w hw => hts0 w (List.mem_cons_of_mem _ hw), hK, hE, B.notSynchronized, B.returns, (name_of_methodNamed B.named B.method).1, List.eq_nil_iff_forall_not_mem.mpr ht, Nat.le_refl _, Nat.le_refl _, rfl, rfl, hl⟩
  exact tkG.entry rfl hml hn hR (body _ C)
theorem tkCon.ofH {lo : Bool} {y : MethodName} {cc : ByteArray} {nL d mc ms : Nat} {ret : Option FieldType} {hh : List (Nat × Nat × Nat × Nat)} {a : List Value} {σ σ' : tkM} {I I' : tkI} {L L' : tkL} {out : tkOut} (hy : plainName y.cls = true) (hn : (lg_sl a).length ≤ nL)
    (body : ∀ X : tkX, tkC X cc y.cls y.name nL ret hh d mc ms → tkG X (tkQ lo X mc ms out σ' I' L') 0 0 0 (tkEnt a ++ List.replicate (nL - (lg_sl a).length) none) [] σ I L) :
    tkCon lo (.codeWith y cc nL ret hh) y d a σ I L mc ms out σ' I' L' := by
  intro l hl base D
  refine vx_ofWH (cc := cc) (maxL := nL) (ret := ret) (hh := hh) hy rfl ?_
  intro p e s m args below meth c s₁ B hml hv
  obtain ⟨rfl, hK, hE, hR⟩ := hv
  have hts0 := atoms_spec (ws := Cond.codeWith y cc nL ret hh :: tkAll) B.pre
  have C : tkC (p, l, e, tkRm d mc ms, s, m, a.toArray, below, meth, c, base, D) cc y.cls y.name nL ret hh d mc ms :=
    ⟨B.exec, B.bytes, hml, findClass_of_methodNamed B.named, fun w hw => hts0 w (List.mem_cons_of_mem _ hw), hK, hE, B.notSynchronized, B.returns, (name_of_methodNamed B.named B.method).1, vx_table (x := y) B (hts0 _ List.mem_cons_self), Nat.le_refl _, Nat.le_refl _, rfl, rfl, hl⟩
  exact tkG.entry rfl hml hn hR (body _ C)

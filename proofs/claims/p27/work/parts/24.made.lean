section TKMADE
variable {σ : tkM} {x : Nat} {v : tkI} {w : tkL}
theorem nDe_x {j : Nat} (hx : σ.2.1 x = (5, 0)) (hxs : x < σ.1) : (nDe σ x j).2.1 x = (5, 0) := (rgS_off (Or.inl hxs)).trans hx
/-- memory behind the making of the program's object -/
def nX5 (σ : tkM) (x : Nat) : tkM := ((tkNw (nDe (nDe σ x 0) x 1) (14, 4)).1, (tkNw (nDe (nDe σ x 0) x 1) (14, 4)).2.1, tk2 (tkNw (nDe (nDe σ x 0) x 1) (14, 4)).2.2 x 2 (some (nDe (nDe σ x 0) x 1).1))
theorem c_X5_init (hx : σ.2.1 x = (5, 0)) (hxs : x < σ.1) :
    tkCon false (.code yX5_init cX5_init 1 none) yX5_init 4 [.ref x] σ v w 57 732 (.inl none) (nX5 σ x) (tk2 (tkZI (nDe (nDe σ x 0) x 1) (reg (nDe σ x 0).1 28 zI (reg σ.1 28 zI v))) x 3 0) (tkZL (nDe (nDe σ x 0) x 1) (reg (nDe σ x 0).1 28 zL (reg σ.1 28 zL w))) := by
  have hx2 : (nDe σ x 0).2.1 x = (5, 0) := nDe_x hx hxs
  have hs2 : x < (nDe σ x 0).1 := by show x < σ.1 + 28; omega
  have hx3 : (nDe (nDe σ x 0) x 1).2.1 x = (5, 0) := nDe_x hx2 hs2
  have hs3 : x < (nDe (nDe σ x 0) x 1).1 := by show x < σ.1 + 28 + 28; omega
  unfold nX5
  refine tkCon.of (by decide) (Nat.le_of_ble_eq_true rfl) (fun X C => ?_)
  refine g_aload_n C (i := 0) dX5_init_0 rfl rfl ?_
  refine g_objInit C dX5_init_1 ml_X5_1 mv_objectInit mc_objectInit (by decide) (Nat.le_of_ble_eq_true rfl) ?_
  refine g_aload_n C (i := 0) dX5_init_4 rfl rfl ?_
  refine g_newP C dX5_init_5 ml_X5_7 (Nat.le_of_ble_eq_true rfl) (Nat.le_of_ble_eq_true rfl) ?_
  refine g_dup C dX5_init_8 rfl ?_
  refine g_callIN C dX5_init_9 mm_X1_init ml_X5_9 mv_yX1_init rfl (c_X1_init) rfl ⟨by decide, Nat.le_of_ble_eq_true rfl, Nat.le_of_ble_eq_true rfl, Nat.le_of_ble_eq_true rfl⟩ (tk_retn ?_) tk_nothr
  refine g_putF C (r1 := reg σ.1 28 (rPl σ.1 (rOb 0 zR)) (tk2 σ.2.2 x 0 (some (σ.1 + 0)))) 5 0 (RX5, TX5, 4) dX5_init_12 (nDe_x (j := 0) hx hxs) (tk2_off (Or.inl hxs)) ml_X5_10 rfl (by decide) ⟨rfl, rfl, rfl⟩ rfl ?_
  show tkG X _ _ _ 15 _ [] (nDe σ x 0) (reg σ.1 28 zI v) (reg σ.1 28 zL w)
  generalize eσ : nDe σ x 0 = τ at *
  refine g_aload_n C (i := 0) dX5_init_15 rfl rfl ?_
  refine g_newP C dX5_init_16 ml_X5_7 (Nat.le_of_ble_eq_true rfl) (Nat.le_of_ble_eq_true rfl) ?_
  refine g_dup C dX5_init_19 rfl ?_
  refine g_callIN C dX5_init_20 mm_X1_init ml_X5_9 mv_yX1_init rfl (c_X1_init) rfl ⟨by decide, Nat.le_of_ble_eq_true rfl, Nat.le_of_ble_eq_true rfl, Nat.le_of_ble_eq_true rfl⟩ (tk_retn ?_) tk_nothr
  refine g_putF C (r1 := reg τ.1 28 (rPl τ.1 (rOb 0 zR)) (tk2 τ.2.2 x 1 (some (τ.1 + 0)))) 5 1 (RX5, TX5, 4) dX5_init_23 (nDe_x (j := 1) hx2 hs2) (tk2_off (Or.inl hs2)) ml_X5_16 rfl (by decide) ⟨rfl, rfl, rfl⟩ rfl ?_
  show tkG X _ _ _ 26 _ [] (nDe τ x 1) (reg τ.1 28 zI (reg σ.1 28 zI v)) (reg τ.1 28 zL (reg σ.1 28 zL w))
  refine g_aload_n C (i := 0) dX5_init_26 rfl rfl ?_
  refine g_iconst C (4) dX5_init_27 rfl ?_
  refine g_anewa C 4 dX5_init_28 ml_X5_7 (by decide) (by decide) (by decide) (Nat.le_of_ble_eq_true rfl) (Nat.le_of_ble_eq_true rfl) ?_
  have hx4 : (tkNw (nDe τ x 1) (14, 4)).2.1 x = (5, 0) := (if_neg (by omega)).trans hx3
  refine g_putF C (r1 := tk2 (tkNw (nDe τ x 1) (14, 4)).2.2 x 2 (some (nDe τ x 1).1)) 5 2 (RX5, TX5, 4) dX5_init_31 hx4 rfl ml_X5_19 rfl (by decide) ⟨rfl, rfl, rfl⟩ rfl ?_
  refine g_aload_n C (i := 0) dX5_init_34 rfl rfl ?_
  refine g_iconst C (0) dX5_init_35 rfl ?_
  refine g_putI C 5 3 (RX5, TX5, 4) dX5_init_36 hx4 rfl ml_X5_23 rfl (by decide) rfl rfl ?_
  exact g_return C dX5_init_39 ⟨Nat.le_of_ble_eq_true rfl, Nat.le_of_ble_eq_true rfl⟩ (tkEnd.rf rfl rfl rfl)
end TKMADE

set_option maxRecDepth 100000 in
set_option maxHeartbeats 400000 in
theorem k_X4_joinTo {l : Launch} {D : va_G} {cy : CY} (hst : l.stackTraces = false) {h : HS} {A : AD} {M : MS} {k j : Int} (s : SP h A M) (hk : 0 ≤ k ∧ k < 20) (hj : 0 ≤ j ∧ j < 20) : Ct l D cy yX4_joinTo (Cond.code yX4_joinTo cX4_joinTo 2 none) 0 0 0 0 (RepH cy) [vr (some (nd A k)), vr (some (nd A j))] h (fun r h' => r = .ok none ∧ h' = setP h 42 (nd A k) (if j = k then none else some (nd A j))) := by
  refine Ct.of1 (own := RX4) hst (by decide) rfl (Nat.le_of_ble_eq_true rfl) (cat1 (vr_cat _) (cat1 (vr_cat _) (cat0))) ?_
  intro φ C hQ hn hR hl hD
  subst hl hD
  obtain ⟨n0, n40, n41, n42, n43⟩ := s.no k hk.1 hk.2
  have hij := nd_inj s hj.1 hj.2 hk.1 hk.2
  refine x_aload_n C dX4_joinTo_0 rfl rfl ?_
  refine x_aload_n C dX4_joinTo_1 rfl rfl ?_
  refine x_aload_n C dX4_joinTo_2 rfl rfl ?_
  refine x_acmp_ne (tgt := 10) C dX4_joinTo_3 (by decide) (fun h3 => ?_) (fun h3 => ?_)
  ·
    refine x_aload_n C dX4_joinTo_10 rfl rfl ?_
    refine h_put4 (f := 2) (h' := setP _ 42 _ _) C (by assumption) (by decide) u7_10 rfl rfl (tyX4_ok 2 (by decide)) (fit_vr _) (cs4_2 (by assumption)) (fun _ => rfl) (fun _ hx => cell_setP_ne hx) dX4_joinTo_11 ?_
    refine x_vret C hQ dX4_joinTo_14 rfl (by decide) (by decide) ?_
    first
    | (rw [if_neg (fun q => h3 (by rw [q]))]; exact ⟨rfl, rfl⟩)
    | (rw [if_pos (hij.mp (Option.some.inj h3))]; exact ⟨rfl, rfl⟩)
  ·
    refine x_null C dX4_joinTo_6 ?_
    refine x_goto (tgt := 11) C dX4_joinTo_7 (by decide) ?_
    refine h_put4 (f := 2) (h' := setP _ 42 _ _) C (by assumption) (by decide) u7_10 rfl rfl (tyX4_ok 2 (by decide)) (fit_vr _) (cs4_2 (by assumption)) (fun _ => rfl) (fun _ hx => cell_setP_ne hx) dX4_joinTo_11 ?_
    refine x_vret C hQ dX4_joinTo_14 rfl (by decide) (by decide) ?_
    first
    | (rw [if_neg (fun q => h3 (by rw [q]))]; exact ⟨rfl, rfl⟩)
    | (rw [if_pos (hij.mp (Option.some.inj h3))]; exact ⟨rfl, rfl⟩)

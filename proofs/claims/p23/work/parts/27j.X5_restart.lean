set_option maxRecDepth 100000 in
set_option maxHeartbeats 400000 in
theorem k_X5_restart {l : Launch} {D : va_G} {cy : CY} (hst : l.stackTraces = false) {h : HS} {A : AD} {M : MS} {T : Nat} (hT : kD h T = 6) : Ct l D cy yX5_restart (Cond.code yX5_restart cX5_restart 1 none) 0 0 0 0 (RepH cy) [vr (some T)] h (fun r h' => r = .ok none ∧ h' = setI h 50 T 0) := by
  refine Ct.of1 (own := RX5) hst (by decide) rfl (Nat.le_of_ble_eq_true rfl) (cat1 (vr_cat _) (cat0)) ?_
  intro φ C hQ hn hR hl hD
  subst hl hD
  refine x_aload_n C dX5_restart_0 rfl rfl ?_
  refine x_iconst C dX5_restart_1 ?_
  refine h_put5 (f := 0) (h' := setI _ 50 _ _) C (by assumption) (by decide) u13_7 rfl rfl (tyX5_ok 0 (by decide)) (fit_vi _) (cs5_0 (by assumption)) (fun _ => rfl) (fun _ hx => cell_setI_ne hx) dX5_restart_2 ?_
  refine x_vret C hQ dX5_restart_5 rfl (by decide) (by decide) ?_
  exact ⟨rfl, rfl⟩

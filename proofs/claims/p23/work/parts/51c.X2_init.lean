set_option maxRecDepth 100000 in
set_option maxHeartbeats 400000 in
theorem k_X2_init {l : Launch} {D : va_G} {cy : CY} (hst : l.stackTraces = false) {h : HS} {A : AD} {M : MS} {a : Nat}  : Ct l D cy yX2_init (Cond.code yX2_init cX2_init 1 none) 1 21 0 0 (RepH cy) [vr (some a)] h (fun r h' => r = .ok none ∧ h' = h) := by
  refine Ct.of1I (own := RX2) hst (by decide) rfl rfl (Nat.le_of_ble_eq_true rfl) (cat1 (vr_cat _) (cat0)) ?_
  intro φ C hQ hn hR hl hD hin
  subst hl hD
  refine x_aload_n C dX2_init_0 rfl rfl ?_
  refine x_objInit C hR u1_14 u0_11 u0_12 dX2_init_1 (by decide) (Nat.le_of_ble_eq_true rfl) ?_
  refine x_vret C hQ dX2_init_4 rfl (by decide) (by decide) ?_
  exact ⟨rfl, rfl⟩

set_option maxRecDepth 100000 in
set_option maxHeartbeats 400000 in
theorem k_X4_standAlone {l : Launch} {D : va_G} {cy : CY} (hst : l.stackTraces = false) {h : HS} {A : AD} {M : MS} {k : Int} (s : SP h A M) (hk : 0 ≤ k ∧ k < 20) : Ct l D cy yX4_standAlone (Cond.code yX4_standAlone cX4_standAlone 1 none) 0 0 0 0 (RepH cy) [vr (some (nd A k))] h (fun r h' => r = .ok none ∧ h' = setP h 42 (nd A k) none) := by
  refine Ct.of1 (own := RX4) hst (by decide) rfl (Nat.le_of_ble_eq_true rfl) (cat1 (vr_cat _) (cat0)) ?_
  intro φ C hQ hn hR hl hD
  subst hl hD
  obtain ⟨n0, n40, n41, n42, n43⟩ := s.no k hk.1 hk.2
  refine x_aload_n C dX4_standAlone_0 rfl rfl ?_
  refine x_null C dX4_standAlone_1 ?_
  refine h_put4 (f := 2) (h' := setP _ 42 _ _) C (by assumption) (by decide) u7_10 rfl rfl (tyX4_ok 2 (by decide)) (fit_vr _) (cs4_2 (by assumption)) (fun _ => rfl) (fun _ hx => cell_setP_ne hx) dX4_standAlone_2 ?_
  refine x_vret C hQ dX4_standAlone_5 rfl (by decide) (by decide) ?_
  exact ⟨rfl, rfl⟩

set_option maxRecDepth 100000 in
set_option maxHeartbeats 400000 in
theorem k_X3_turn {l : Launch} {D : va_G} {cy : CY} (hst : l.stackTraces = false) {h : HS} {A : AD} {M : MS} {g k : Int} (s : SP h A M) (hk : 0 ≤ k ∧ k < 20) (hg : kD h (gp A g) = 4) : Ct l D cy yX3_turn (Cond.code yX3_turn cX3_turn 2 none) 1 20 0 0 (RepH cy) [vr (some (gp A g)), vr (some (nd A k))] h (fun r h' => r = .ok none ∧ h' = setI h 35 (gp A g) (bOp (· ^^^ ·) (fI h 35 (gp A g)) (bitI k))) := by
  refine Ct.of1 (own := RX3) hst (by decide) rfl (Nat.le_of_ble_eq_true rfl) (cat1 (vr_cat _) (cat1 (vr_cat _) (cat0))) ?_
  intro φ C hQ hn hR hl hD
  subst hl hD
  obtain ⟨n0, n40, n41, n42, n43⟩ := s.no k hk.1 hk.2
  refine x_aload_n C dX3_turn_0 rfl rfl ?_
  refine x_dup C dX3_turn_1 (by first | rfl | exact vr_cat _ | exact vi_cat _) ?_
  refine h_get3 (f := 5) C (by assumption) (by decide) u23_22 rfl rfl dX3_turn_2 ?_
  refine x_aload_n C dX3_turn_5 rfl rfl ?_
  refine x_callV C hR cb_X4_bit cv_X4_bit u23_23 (k_X4_bit (k := k) hst s (by omega)) (h_recv (by assumption) (by decide)) ⟨_, _, rfl⟩ rfl (Nat.le_of_ble_eq_true rfl) rfl dX3_turn_6 (by decide) (by decide) (fun E x9 h9 => absurd h9.1 (by intro h; cases h)) (fun r9 x9 h9 => ?_)
  obtain ⟨e9, q9⟩ := h9
  cases e9
  subst x9
  refine x_ixor C dX3_turn_9 ?_
  refine h_put3 (f := 5) (h' := setI _ 35 _ _) C (by assumption) (by decide) u23_22 rfl rfl (tyX3_ok 5 (by decide)) (fit_vi _) (cs3_5 (by assumption)) (fun _ => rfl) (fun _ hx => cell_setI_ne hx) dX3_turn_10 ?_
  refine x_vret C hQ dX3_turn_13 rfl (by decide) (by decide) ?_
  exact ⟨rfl, rfl⟩

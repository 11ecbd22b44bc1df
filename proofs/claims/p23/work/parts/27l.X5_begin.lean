set_option maxRecDepth 100000 in
set_option maxHeartbeats 400000 in
theorem k_X5_begin {l : Launch} {D : va_G} {cy : CY} (hst : l.stackTraces = false) {h : HS} {A : AD} {M : MS} {T : Nat} {e : Int} (s : SP h A M) (he : 0 ≤ e ∧ e < M 2 0) (hT : kD h T = 6) : Ct l D cy yX5_begin (Cond.code yX5_begin cX5_begin 2 none) 2 41 0 0 (RepH cy) [vr (some T), vr (some (ev A e))] h (fun r h' => r = .ok none ∧ h' = setI (setI (setI (setI h 50 T (fI h 50 T + 1)) 51 T (tmOf M e)) 53 T 0) 54 T (-1)) := by
  refine Ct.of1 (own := RX5) hst (by decide) rfl (Nat.le_of_ble_eq_true rfl) (cat1 (vr_cat _) (cat1 (vr_cat _) (cat0))) ?_
  intro φ C hQ hn hR hl hD
  subst hl hD
  obtain ⟨e0, e10, e11, e12, e13, e14, e15, e16⟩ := s.ve e he.1 he.2
  obtain ⟨⟨m3a, m3b⟩, ⟨m4a, m4b⟩, ⟨m5a, m5b⟩, ⟨m6a, m6b⟩, ⟨m7a, m7b⟩, ⟨m8a, m8b⟩⟩ := s.mi.ev e he.1 he.2
  obtain ⟨d0, d40, d41, d42, d43⟩ := s.no (10 + M 4 e) (by omega) (by omega)
  obtain ⟨v44, v45, v43⟩ := s.dv (M 4 e) (by omega) (by omega)
  have hsk := s.mi.sk _ m4a m4b
  have g12 := s.mi.b12 (M 4 e)
  have hN := s.mi.n
  refine x_aload_n C dX5_begin_0 rfl rfl ?_
  refine x_dup C dX5_begin_1 (by first | rfl | exact vr_cat _ | exact vi_cat _) ?_
  refine h_get5 (f := 0) C (by assumption) (by decide) u13_7 rfl rfl dX5_begin_2 ?_
  refine x_iconst C dX5_begin_5 ?_
  refine x_iadd C dX5_begin_6 ?_
  refine h_put5 (f := 0) (h' := setI _ 50 _ _) C (by assumption) (by decide) u13_7 rfl rfl (tyX5_ok 0 (by decide)) (fit_vi _) (cs5_0 (by assumption)) (fun _ => rfl) (fun _ hx => cell_setI_ne hx) dX5_begin_7 ?_
  refine x_aload_n C dX5_begin_10 rfl rfl ?_
  refine x_aload_n C dX5_begin_11 rfl rfl ?_
  refine x_callV C hR cb_X1_minute cv_X1_minute u13_15 (k_X1_minute hst s.cg he) (h_recv e0 (by decide)) ⟨_, _, rfl⟩ rfl (Nat.le_of_ble_eq_true rfl) rfl dX5_begin_12 (by decide) (by decide) (fun E x9 h9 => absurd h9.1 (by intro h; cases h)) (fun r9 x9 h9 => ?_)
  obtain ⟨e9, q9⟩ := h9
  cases e9
  subst x9
  refine h_put5 (f := 1) (h' := setI _ 51 _ _) C (by assumption) (by decide) u13_20 rfl rfl (tyX5_ok 1 (by decide)) (fit_vi _) (cs5_1 (by assumption)) (fun _ => rfl) (fun _ hx => cell_setI_ne hx) dX5_begin_15 ?_
  refine x_aload_n C dX5_begin_18 rfl rfl ?_
  refine x_iconst C dX5_begin_19 ?_
  refine h_put5 (f := 3) (h' := setI _ 53 _ _) C (by assumption) (by decide) u13_21 rfl rfl (tyX5_ok 3 (by decide)) (fit_vi _) (cs5_3 (by assumption)) (fun _ => rfl) (fun _ hx => cell_setI_ne hx) dX5_begin_20 ?_
  refine x_aload_n C dX5_begin_23 rfl rfl ?_
  refine x_iconst C dX5_begin_24 ?_
  refine h_put5 (f := 4) (h' := setI _ 54 _ _) C (by assumption) (by decide) u13_13 rfl rfl (tyX5_ok 4 (by decide)) (fit_vi _) (cs5_4 (by assumption)) (fun _ => rfl) (fun _ hx => cell_setI_ne hx) dX5_begin_25 ?_
  refine x_vret C hQ dX5_begin_28 rfl (by decide) (by decide) ?_
  exact ⟨rfl, rfl⟩

set_option maxRecDepth 100000 in
set_option maxHeartbeats 400000 in
theorem k_X5_add {l : Launch} {D : va_G} {cy : CY} (hst : l.stackTraces = false) {h : HS} {A : AD} {M : MS} {T : Nat} {e c : Int} (s : SP h A M) (he : 0 ≤ e ∧ e < M 2 0) (hT : kD h T = 6) (t54 : fI h 54 T = c) (hc : -1 ≤ c ∧ c ≤ 9) : Ct l D cy yX5_add (Cond.code yX5_add cX5_add 2 none) 2 41 0 0 (RepH cy) [vr (some T), vr (some (ev A e))] h (fun r h' => r = .ok none ∧ h' = (if c = -1 then setI (setI (setI h 52 T (tmOf M e)) 53 T (fI h 53 T + 1)) 54 T (M 7 e) else setI (setI h 52 T (tmOf M e)) 53 T (fI h 53 T + 1))) := by
  refine Ct.of1 (own := RX5) hst (by decide) rfl (Nat.le_of_ble_eq_true rfl) (cat1 (vr_cat _) (cat1 (vr_cat _) (cat0))) ?_
  intro φ C hQ hn hR hl hD
  subst hl hD
  obtain ⟨e0, e10, e11, e12, e13, e14, e15, e16⟩ := s.ve e he.1 he.2
  obtain ⟨⟨m3a, m3b⟩, ⟨m4a, m4b⟩, ⟨m5a, m5b⟩, ⟨m6a, m6b⟩, ⟨m7a, m7b⟩, ⟨m8a, m8b⟩⟩ := s.mi.ev e he.1 he.2
  obtain ⟨d0, d40, d41, d42, d43⟩ := s.no (10 + M 4 e) (by omega) (by omega)
  obtain ⟨v44, v45, v43⟩ := s.dv (M 4 e) (by omega) (by omega)
  have hsk := s.mi.sk _ m4a m4b
  have g12 := s.mi.b12 (M 4 e)
  have hN := s.mi.n
  refine x_aload_n C dX5_add_0 rfl rfl ?_
  refine x_aload_n C dX5_add_1 rfl rfl ?_
  refine x_callV C hR cb_X1_minute cv_X1_minute u13_15 (k_X1_minute hst s (by omega)) (h_recv (by assumption) (by decide)) ⟨_, _, rfl⟩ rfl (Nat.le_of_ble_eq_true rfl) rfl dX5_add_2 (by decide) (by decide) (fun E x9 h9 => absurd h9.1 (by intro h; cases h)) (fun r9 x9 h9 => ?_)
  obtain ⟨e9, q9⟩ := h9
  cases e9
  subst x9
  refine h_put5 (f := 2) (h' := setI _ 52 _ _) C (by assumption) (by decide) u13_12 rfl rfl (tyX5_ok 2 (by decide)) (fit_vi _) (cs5_2 (by assumption)) (fun _ => rfl) (fun _ hx => cell_setI_ne hx) dX5_add_5 ?_
  refine x_aload_n C dX5_add_8 rfl rfl ?_
  refine x_dup C dX5_add_9 (by first | rfl | exact vr_cat _ | exact vi_cat _) ?_
  refine h_get5 (f := 3) C (by assumption) (by decide) u13_21 rfl rfl dX5_add_10 ?_
  change X φ _ _ _ _ _ (vi (fI h 53 T) :: _)
  refine x_iconst C dX5_add_13 ?_
  refine x_iadd C dX5_add_14 ?_
  refine h_put5 (f := 3) (h' := setI _ 53 _ _) C (by assumption) (by decide) u13_21 rfl rfl (tyX5_ok 3 (by decide)) (fit_vi _) (cs5_3 (by assumption)) (fun _ => rfl) (fun _ hx => cell_setI_ne hx) dX5_add_15 ?_
  refine x_aload_n C dX5_add_18 rfl rfl ?_
  refine h_get5 (f := 4) C (by assumption) (by decide) u13_13 rfl rfl dX5_add_19 ?_
  change X φ _ _ _ _ _ (vi (fI h 54 T) :: _)
  rw [t54]
  refine x_iconst C dX5_add_22 ?_
  refine x_icmp_ne (tgt := 34) C dX5_add_23 (by decide) (by first | omega | exact bi_rng _) (by first | omega | exact bi_rng _) (fun h23 => ?_) (fun h23 => ?_)
  ·
    refine x_vret C hQ dX5_add_34 rfl (by decide) (by decide) ?_
    first
    | (rw [if_pos h23]; exact ⟨rfl, rfl⟩)
    | (rw [if_neg h23]; exact ⟨rfl, rfl⟩)
  ·
    refine x_aload_n C dX5_add_26 rfl rfl ?_
    refine x_aload_n C dX5_add_27 rfl rfl ?_
    refine h_get1 (f := 4) C (by assumption) (by decide) u13_14 rfl rfl dX5_add_28 ?_
    change X φ _ _ _ _ _ (vi (fI h 14 (ev A e)) :: _)
    rw [e14]
    refine h_put5 (f := 4) (h' := setI _ 54 _ _) C (by assumption) (by decide) u13_13 rfl rfl (tyX5_ok 4 (by decide)) (fit_vi _) (cs5_4 (by assumption)) (fun _ => rfl) (fun _ hx => cell_setI_ne hx) dX5_add_31 ?_
    refine x_vret C hQ dX5_add_34 rfl (by decide) (by decide) ?_
    first
    | (rw [if_pos h23]; exact ⟨rfl, rfl⟩)
    | (rw [if_neg h23]; exact ⟨rfl, rfl⟩)

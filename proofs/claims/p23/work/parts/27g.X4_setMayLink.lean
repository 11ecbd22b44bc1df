set_option maxRecDepth 100000 in
set_option maxHeartbeats 400000 in
theorem k_X4_setMayLink {l : Launch} {D : va_G} {cy : CY} (hst : l.stackTraces = false) {h : HS} {A : AD} {M : MS} {d a is : Int} (s : SP h A M) (hd9 : 0 ≤ d ∧ d < 10) (ha : 0 ≤ a ∧ a < 10) (his : is = 0 ∨ is = 1) : Ct l D cy yX4_setMayLink (Cond.code yX4_setMayLink cX4_setMayLink 3 none) 1 20 0 0 (RepH cy) [vr (some (nd A (10 + d))), vr (some (nd A a)), vi is] h (fun r h' => r = .ok none ∧ h' = setI h 43 (nd A (10 + d)) (if is = 0 then bOp (· ||| ·) (fI h 43 (nd A (10 + d))) (bitI a) else bOp (· &&& ·) (fI h 43 (nd A (10 + d))) (bOp (· ^^^ ·) (bitI a) (-1)))) := by
  refine Ct.of1 (own := RX4) hst (by decide) rfl (Nat.le_of_ble_eq_true rfl) (cat1 (vr_cat _) (cat1 (vr_cat _) (cat1 (vi_cat _) (cat0)))) ?_
  intro φ C hQ hn hR hl hD
  subst hl hD
  obtain ⟨n0, n40, n41, n42, n43⟩ := s.no (10 + d) (by omega) (by omega)
  obtain ⟨q0, q40, q41, q42, q43⟩ := s.no a (by omega) (by omega)
  refine x_iload_n C dX4_setMayLink_0 rfl rfl ?_
  refine x_if_eq (tgt := 22) C dX4_setMayLink_1 (by decide) (by first | omega | exact bi_rng _) (fun h1 => ?_) (fun h1 => ?_)
  ·
    refine x_aload_n C dX4_setMayLink_22 rfl rfl ?_
    refine x_dup C dX4_setMayLink_23 (by first | rfl | exact vr_cat _ | exact vi_cat _) ?_
    refine h_get4 (f := 3) C (by assumption) (by decide) u7_1 rfl rfl dX4_setMayLink_24 ?_
    refine x_aload_n C dX4_setMayLink_27 rfl rfl ?_
    refine x_callV C hR cb_X4_bit cv_X4_bit u7_2 (k_X4_bit (k := a) hst s (by omega)) (h_recv (by assumption) (by decide)) ⟨_, _, rfl⟩ rfl (Nat.le_of_ble_eq_true rfl) rfl dX4_setMayLink_28 (by decide) (by decide) (fun E x9 h9 => absurd h9.1 (by intro h; cases h)) (fun r9 x9 h9 => ?_)
    obtain ⟨e9, q9⟩ := h9
    cases e9
    subst x9
    refine x_ior C dX4_setMayLink_31 ?_
    refine h_put4 (f := 3) (h' := setI _ 43 _ _) C (by assumption) (by decide) u7_1 rfl rfl (tyX4_ok 3 (by decide)) (fit_vi _) (cs4_3 (by assumption)) (fun _ => rfl) (fun _ hx => cell_setI_ne hx) dX4_setMayLink_32 ?_
    refine x_vret C hQ dX4_setMayLink_35 rfl (by decide) (by decide) ?_
    first
    | (rw [if_pos h1]; exact ⟨rfl, rfl⟩)
    | (rw [if_neg h1]; exact ⟨rfl, rfl⟩)
  ·
    refine x_aload_n C dX4_setMayLink_4 rfl rfl ?_
    refine x_dup C dX4_setMayLink_5 (by first | rfl | exact vr_cat _ | exact vi_cat _) ?_
    refine h_get4 (f := 3) C (by assumption) (by decide) u7_1 rfl rfl dX4_setMayLink_6 ?_
    refine x_aload_n C dX4_setMayLink_9 rfl rfl ?_
    refine x_callV C hR cb_X4_bit cv_X4_bit u7_2 (k_X4_bit (k := a) hst s (by omega)) (h_recv (by assumption) (by decide)) ⟨_, _, rfl⟩ rfl (Nat.le_of_ble_eq_true rfl) rfl dX4_setMayLink_10 (by decide) (by decide) (fun E x9 h9 => absurd h9.1 (by intro h; cases h)) (fun r9 x9 h9 => ?_)
    obtain ⟨e9, q9⟩ := h9
    cases e9
    subst x9
    refine x_iconst C dX4_setMayLink_13 ?_
    refine x_ixor C dX4_setMayLink_14 ?_
    refine x_iand C dX4_setMayLink_15 ?_
    refine h_put4 (f := 3) (h' := setI _ 43 _ _) C (by assumption) (by decide) u7_1 rfl rfl (tyX4_ok 3 (by decide)) (fit_vi _) (cs4_3 (by assumption)) (fun _ => rfl) (fun _ hx => cell_setI_ne hx) dX4_setMayLink_16 ?_
    refine x_goto (tgt := 35) C dX4_setMayLink_19 (by decide) ?_
    refine x_vret C hQ dX4_setMayLink_35 rfl (by decide) (by decide) ?_
    first
    | (rw [if_pos h1]; exact ⟨rfl, rfl⟩)
    | (rw [if_neg h1]; exact ⟨rfl, rfl⟩)

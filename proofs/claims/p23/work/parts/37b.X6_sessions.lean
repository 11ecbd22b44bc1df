set_option maxRecDepth 100000 in
set_option maxHeartbeats 400000 in
theorem k_X6_sessions {l : Launch} {D : va_G} {cy : CY} (hst : l.stackTraces = false) {h : HS} {A : AD} {M : MS} {x : Int} {lz : List Int} {f : Int → Int} (s : SP h A M) (v : VO h A) (hf : LW h A f) (hC : ChL h A lz) (hl : ∀ e ∈ lz, 0 ≤ e ∧ e < M 2 0) (hll : (lz.length : Int) ≤ 200) (hx : -2147483648 ≤ x ∧ x ≤ 2147483647) : Ct l D cy yX6_sessions (Cond.code yX6_sessions cX6_sessions 2 (some .int)) 7 104 1 6 (RepH cy) [vr (some (cO A)), vi x] h (fun r h' => OnlyT h h' ∧ (((0 ≤ x ∧ x < 20) ∧ r = .ok (some (vi ((sgs M (lz.filter (fun e => decide (f (ndOf M e) = f x)))).length : Int)))) ∨ (¬ (0 ≤ x ∧ x < 20) ∧ r = .error "java/lang/IllegalArgumentException"))) := by
  refine Ct.of1 (own := RX6) hst (by decide) rfl (Nat.le_of_ble_eq_true rfl) (cat1 (vr_cat _) (cat1 (vi_cat _) (cat0))) ?_
  intro φ C hQ hn hR hl hD
  subst hl hD
  obtain ⟨v0, v60, v61, v62, v63, v64, vn, vnl, vnr, vm, vml, vh, vt, vw, vwl⟩ := id v
  refine x_aload_n C dX6_sessions_0 rfl rfl ?_
  refine x_aload_n C dX6_sessions_1 rfl rfl ?_
  refine x_iload_n C dX6_sessions_2 rfl rfl ?_
  refine x_callV C hR cb_X6_neededNode cv_X6_neededNode u10_22 (k_X6_neededNode (M := M) hst v (by omega)) (h_recv v0 (by decide)) ⟨_, _, rfl⟩ rfl (Nat.le_of_ble_eq_true rfl) rfl dX6_sessions_3 (by decide) (by decide) (fun E x9 h9 => by (obtain ⟨q9, g9⟩ := h9; subst x9; rcases g9 with ⟨-, g⟩ | ⟨g1, g⟩; (cases g); (cases g; exact xt_out C hQ (by decide) (by decide) ⟨OnlyT.rf h, Or.inr ⟨g1, rfl⟩⟩))) (fun r9 x9 h9 => ?_)
  obtain ⟨q9, g9⟩ := h9
  subst x9
  obtain ⟨hx2, e9⟩ := g9.resolve_right (fun g => by cases g.2)
  cases e9
  have hfx := (hf x hx2.1 hx2.2).2
  obtain ⟨m0, -⟩ := s.no x hx2.1 hx2.2
  refine x_callV C hR cb_X4_lowest cv_X4_lowest u7_6 (k_X4_lowest hst s hf hx2) (h_recv m0 (by decide)) ⟨_, _, rfl⟩ rfl (Nat.le_of_ble_eq_true rfl) rfl dX6_sessions_6 (by decide) (by decide) (fun E x9 h9 => absurd h9.1 (by intro h; cases h)) (fun r9 x9 h9 => ?_)
  obtain ⟨e9, q9⟩ := h9
  cases e9
  subst x9
  refine x_sipush C dX6_sessions_9 (by decide) ?_
  refine x_callV C hR cb_X6_cutUpTo cv_X6_cutUpTo u12_23 (k_X6_cutUpTo hst s v hf hC hl hll (hf x hx2.1 hx2.2).2 (by omega)) (h_recv v0 (by decide)) ⟨_, _, rfl⟩ rfl (Nat.le_of_ble_eq_true rfl) rfl dX6_sessions_12 (by decide) (by decide) (fun E x9 h9 => absurd h9.1 (by intro h; cases h)) (fun r9 x9 h9 => ?_)
  obtain ⟨e9, hQ9⟩ := h9
  cases e9
  obtain ⟨hO9, be, c50, c51, c52, c53, c54⟩ := hQ9
  obtain ⟨b0, -, -, b62, b63, -, -, -, -, -, -, bh, bT, -⟩ := hO9.vo v
  have hle := sgs_le M (lz.filter (fun e => decide (f (ndOf M e) = f x)))
  have hle2 := List.length_filter_le (fun e => decide (f (ndOf M e) = f x)) lz
  refine x_aload_n C dX6_sessions_15 rfl rfl ?_
  refine h_get6 (f := 3) C b0 (by decide) u1_2 rfl rfl dX6_sessions_16 ?_
  simp only [b63]
  refine h_get5 (f := 0) C bT (by decide) u12_18 rfl rfl dX6_sessions_19 ?_
  simp only [c50]
  refine x_iret (ty := .int) C hQ dX6_sessions_22 rfl rfl (by decide) (by decide) ?_
  exact ⟨hO9, Or.inl ⟨hx2, by rw [show be = (sgs M (lz.filter (fun e => decide (f (ndOf M e) = f x)))).length by omega]⟩⟩

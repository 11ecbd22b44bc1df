set_option maxRecDepth 100000 in
set_option maxHeartbeats 400000 in
theorem k_X6_profileAnew {l : Launch} {D : va_G} {cy : CY} (hst : l.stackTraces = false) {h : HS} {A : AD} {M : MS} {x : Int} {lz : List Int} (s : SP h A M) (v : VO h A) (hC : ChL h A lz) (hl : ∀ e ∈ lz, 0 ≤ e ∧ e < M 2 0) (hx : -2147483648 ≤ x ∧ x ≤ 2147483647) : Ct l D cy yX6_profileAnew (Cond.code yX6_profileAnew cX6_profileAnew 3 (some .int)) 7 107 1 6 (RepH cy) [vr (some (cO A)), vi x] h (fun r h' => ((0 ≤ x ∧ x < 20) ∧ OnlyL h h' ∧ LW h' A (lz.foldl (jbF M) (fun k => k)) ∧ r = .ok (some (vi ((lz.foldl (jbF M) (fun k => k)) x)))) ∨ (¬ (0 ≤ x ∧ x < 20) ∧ h' = h ∧ r = .error "java/lang/IllegalArgumentException")) := by
  refine Ct.of1 (own := RX6) hst (by decide) rfl (Nat.le_of_ble_eq_true rfl) (cat1 (vr_cat _) (cat1 (vi_cat _) (cat0))) ?_
  intro φ C hQ hn hR hl hD
  subst hl hD
  obtain ⟨v0, v60, v61, v62, v63, v64, vn, vnl, vnr, vm, vml, vh, vt, vw, vwl⟩ := id v
  refine x_aload_n C dX6_profileAnew_0 rfl rfl ?_
  refine x_iload_n C dX6_profileAnew_1 rfl rfl ?_
  refine x_callV C hR cb_X6_neededNode cv_X6_neededNode u10_22 (k_X6_neededNode (M := M) hst v (by omega)) (h_recv v0 (by decide)) ⟨_, _, rfl⟩ rfl (Nat.le_of_ble_eq_true rfl) rfl dX6_profileAnew_2 (by decide) (by decide) (fun E x9 h9 => by (obtain ⟨q9, g9⟩ := h9; subst x9; rcases g9 with ⟨-, g⟩ | ⟨g1, g⟩; (cases g); (cases g; exact xt_out C hQ (by decide) (by decide) (Or.inr ⟨g1, rfl, rfl⟩)))) (fun r9 x9 h9 => ?_)
  obtain ⟨q9, g9⟩ := h9
  subst x9
  obtain ⟨hx2, e9⟩ := g9.resolve_right (fun g => by cases g.2)
  cases e9
  refine x_astore_n C dX6_profileAnew_5 rfl (by rw [hn]; exact Nat.le_of_ble_eq_true rfl) ?_
  refine x_aload_n C dX6_profileAnew_6 rfl rfl ?_
  refine x_callV C hR cb_X6_findProfiles cv_X6_findProfiles u8_19 (k_X6_findProfiles hst s v hC hl) (h_recv v0 (by decide)) ⟨_, _, rfl⟩ rfl (Nat.le_of_ble_eq_true rfl) rfl dX6_profileAnew_7 (by decide) (by decide) (fun E x9 h9 => absurd h9.1 (by intro h; cases h)) (fun r9 x9 h9 => ?_)
  obtain ⟨e9, hO9, hf9⟩ := h9
  cases e9
  have s9 := hO9.sp s
  obtain ⟨m9, -⟩ := s9.no x hx2.1 hx2.2
  have hfx := (hf9 x hx2.1 hx2.2).2
  obtain ⟨n0, n40, -⟩ := s9.no ((lz.foldl (jbF M) (fun k => k)) x) hfx.1 hfx.2
  refine x_aload_n C dX6_profileAnew_10 rfl rfl ?_
  refine x_callV C hR cb_X4_lowest cv_X4_lowest u7_6 (k_X4_lowest hst s9 hf9 hx2) (h_recv m9 (by decide)) ⟨_, _, rfl⟩ rfl (Nat.le_of_ble_eq_true rfl) rfl dX6_profileAnew_11 (by decide) (by decide) (fun E x9 h9 => absurd h9.1 (by intro h; cases h)) (fun r9 x9 h9 => ?_)
  obtain ⟨e9, q9⟩ := h9
  cases e9
  subst x9
  refine h_get4 (f := 0) C n0 (by decide) u7_15 rfl rfl dX6_profileAnew_14 ?_
  simp only [n40]
  refine x_iret (ty := .int) C hQ dX6_profileAnew_17 rfl rfl (by decide) (by decide) ?_
  exact Or.inl ⟨hx2, hO9, hf9, rfl⟩

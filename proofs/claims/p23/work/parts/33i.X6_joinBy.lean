set_option maxRecDepth 100000 in
set_option maxHeartbeats 400000 in
theorem k_X6_joinBy {l : Launch} {D : va_G} {cy : CY} (hst : l.stackTraces = false) {h : HS} {A : AD} {M : MS} {e : Int} {f : Int → Int} (s : SP h A M) (v : VO h A) (hf : LW h A f) (he : 0 ≤ e ∧ e < M 2 0) : Ct l D cy yX6_joinBy (Cond.code yX6_joinBy cX6_joinBy 3 none) 3 61 0 0 (RepH cy) [vr (some (cO A)), vr (some (ev A e))] h (fun r h' => r = .ok none ∧ OnlyL h h' ∧ LW h' A (jbF M f e)) := by
  refine Ct.of1 (own := RX6) hst (by decide) rfl (Nat.le_of_ble_eq_true rfl) (cat1 (vr_cat _) (cat1 (vr_cat _) (cat0))) ?_
  intro φ C hQ hn hR hl hD
  subst hl hD
  obtain ⟨v0, v60, v61, v62, v63, v64, vn, vnl, vnr, vm, vml, vh, vt, vw, vwl⟩ := id v
  obtain ⟨e0, e10, e11, e12, -⟩ := s.ve e he.1 he.2
  obtain ⟨-, ⟨m4a, m4b⟩, ⟨m5a, m5b⟩, -⟩ := s.mi.ev e he.1 he.2
  obtain ⟨d0, -⟩ := s.no (10 + M 4 e) (by omega) (by omega)
  by_cases hl : lnk0 M e
  · have hl1 := hl.1
    obtain ⟨q0, -⟩ := s.no (M 5 e) (by omega) (by omega)
    refine x_aload_n C dX6_joinBy_0 rfl rfl ?_
    refine x_callV C hR cb_X1_linkedAccount cv_X1_linkedAccount u6_16 (k_X1_linkedAccount hst s he) (h_recv e0 (by decide)) ⟨_, _, rfl⟩ rfl (Nat.le_of_ble_eq_true rfl) rfl dX6_joinBy_1 (by decide) (by decide) (fun E x9 h9 => absurd h9.1 (by intro h; cases h)) (fun r9 x9 h9 => ?_)
    obtain ⟨e9, q9⟩ := h9
    cases e9
    subst x9
    rw [if_pos hl]
    refine x_astore_n C dX6_joinBy_4 rfl (by rw [hn]; exact Nat.le_of_ble_eq_true rfl) ?_
    refine x_aload_n C dX6_joinBy_5 rfl rfl ?_
    refine x_ifnull (tgt := 24) C dX6_joinBy_6 (by decide) (fun h6 => ?_) (fun a6 h6 => ?_)
    ·
      refine x_vret C hQ dX6_joinBy_24 rfl (by decide) (by decide) ?_
      first
      | (exfalso; cases h6; done)
      | (refine ⟨rfl, hO9, ?_⟩; simp only [jbF]; rw [if_pos hl]; exact hf9)
    ·
      refine x_aload_n C dX6_joinBy_9 rfl rfl ?_
      refine x_aload_n C dX6_joinBy_10 rfl rfl ?_
      refine h_get1 (f := 1) C e0 (by decide) u6_15 rfl rfl dX6_joinBy_11 ?_
      try simp only [e11]
      refine x_callV C hR cb_X4_lowest cv_X4_lowest u7_6 (k_X4_lowest hst s hf (by omega)) (h_recv d0 (by decide)) ⟨_, _, rfl⟩ rfl (Nat.le_of_ble_eq_true rfl) rfl dX6_joinBy_14 (by decide) (by decide) (fun E x9 h9 => absurd h9.1 (by intro h; cases h)) (fun r9 x9 h9 => ?_)
      obtain ⟨e9, q9⟩ := h9
      cases e9
      subst x9
      refine x_aload_n C dX6_joinBy_17 rfl rfl ?_
      refine x_callV C hR cb_X4_lowest cv_X4_lowest u7_6 (k_X4_lowest hst s hf (by omega)) (h_recv q0 (by decide)) ⟨_, _, rfl⟩ rfl (Nat.le_of_ble_eq_true rfl) rfl dX6_joinBy_18 (by decide) (by decide) (fun E x9 h9 => absurd h9.1 (by intro h; cases h)) (fun r9 x9 h9 => ?_)
      obtain ⟨e9, q9⟩ := h9
      cases e9
      subst x9
      refine x_callV C hR cb_X6_join cv_X6_join u7_11 (k_X6_join hst s v hf (hf _ (by omega) (by omega)).2 (hf _ (by omega) (by omega)).2) (h_recv v0 (by decide)) ⟨_, _, rfl⟩ rfl (Nat.le_of_ble_eq_true rfl) rfl dX6_joinBy_21 (by decide) (by decide) (fun E x9 h9 => absurd h9.1 (by intro h; cases h)) (fun r9 x9 h9 => ?_)
      obtain ⟨e9, hO9, hf9⟩ := h9
      cases e9
      refine x_vret C hQ dX6_joinBy_24 rfl (by decide) (by decide) ?_
      first
      | (exfalso; cases h6; done)
      | (refine ⟨rfl, hO9, ?_⟩; simp only [jbF]; rw [if_pos hl]; exact hf9)
  ·
    refine x_aload_n C dX6_joinBy_0 rfl rfl ?_
    refine x_callV C hR cb_X1_linkedAccount cv_X1_linkedAccount u6_16 (k_X1_linkedAccount hst s he) (h_recv e0 (by decide)) ⟨_, _, rfl⟩ rfl (Nat.le_of_ble_eq_true rfl) rfl dX6_joinBy_1 (by decide) (by decide) (fun E x9 h9 => absurd h9.1 (by intro h; cases h)) (fun r9 x9 h9 => ?_)
    obtain ⟨e9, q9⟩ := h9
    cases e9
    subst x9
    rw [if_neg hl]
    refine x_astore_n C dX6_joinBy_4 rfl (by rw [hn]; exact Nat.le_of_ble_eq_true rfl) ?_
    refine x_aload_n C dX6_joinBy_5 rfl rfl ?_
    refine x_ifnull (tgt := 24) C dX6_joinBy_6 (by decide) (fun h6 => ?_) (fun a6 h6 => ?_)
    ·
      refine x_vret C hQ dX6_joinBy_24 rfl (by decide) (by decide) ?_
      refine ⟨rfl, OnlyL.rf h, ?_⟩
      simp only [jbF]
      rw [if_neg hl]
      exact hf
    ·
      cases h6

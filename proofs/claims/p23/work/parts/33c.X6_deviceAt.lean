set_option maxRecDepth 100000 in
set_option maxHeartbeats 400000 in
theorem k_X6_deviceAt {l : Launch} {D : va_G} {cy : CY} (hst : l.stackTraces = false) {h : HS} {A : AD} {M : MS} {x : Int} (v : VO h A) (hx : -2147483648 ≤ x ∧ x ≤ 2147483647) : Ct l D cy yX6_deviceAt (Cond.code yX6_deviceAt cX6_deviceAt 2 (some (.object "VisitorLoom$Node"))) 1 21 0 0 (RepH cy) [vr (some (cO A)), vi x] h (fun r h' => r = .ok (some (vr (if 0 ≤ x ∧ x < 10 then some (nd A (10 + x)) else none))) ∧ h' = h) := by
  refine Ct.of1 (own := RX6) hst (by decide) rfl (Nat.le_of_ble_eq_true rfl) (cat1 (vr_cat _) (cat1 (vi_cat _) (cat0))) ?_
  intro φ C hQ hn hR hl hD
  subst hl hD
  obtain ⟨v0, v60, v61, v62, v63, v64, vn, vnl, vnr, vm, vml, vh, vt, vw, vwl⟩ := id v
  refine x_iload_n C dX6_deviceAt_0 rfl rfl ?_
  refine x_if_lt (tgt := 10) C dX6_deviceAt_1 (by decide) (by first | omega | exact bi_rng _) (fun h1 => ?_) (fun h1 => ?_)
  ·
    refine x_null C dX6_deviceAt_10 ?_
    refine x_goto (tgt := 22) C dX6_deviceAt_11 (by decide) ?_
    refine x_aret C hQ dX6_deviceAt_22 rfl (by decide) (by decide) ?_
    refine ⟨?_, rfl⟩
    first
    | (rw [if_pos (by omega)]; done)
    | (rw [if_neg (by omega)]; done)
  ·
    refine x_iload_n C dX6_deviceAt_4 rfl rfl ?_
    refine x_bipush C dX6_deviceAt_5 (by decide) ?_
    refine x_icmp_lt (tgt := 14) C dX6_deviceAt_7 (by decide) (by first | omega | exact bi_rng _) (by first | omega | exact bi_rng _) (fun h7 => ?_) (fun h7 => ?_)
    ·
      refine x_aload_n C dX6_deviceAt_14 rfl rfl ?_
      refine x_bipush C dX6_deviceAt_15 (by decide) ?_
      refine x_iload_n C dX6_deviceAt_17 rfl rfl ?_
      refine x_iadd C dX6_deviceAt_18 ?_
      refine x_callV C hR cb_X6_nodeAt cv_X6_nodeAt u4_16 (k_X6_nodeAt (M := M) hst v (by omega)) (h_recv (by assumption) (by decide)) ⟨_, _, rfl⟩ rfl (Nat.le_of_ble_eq_true rfl) rfl dX6_deviceAt_19 (by decide) (by decide) (fun E x9 h9 => absurd h9.1 (by intro h; cases h)) (fun r9 x9 h9 => ?_)
      obtain ⟨e9, q9⟩ := h9
      cases e9
      subst x9
      rw [if_pos (by omega)]
      refine x_aret C hQ dX6_deviceAt_22 rfl (by decide) (by decide) ?_
      refine ⟨?_, rfl⟩
      first
      | (rw [if_pos (by omega)]; done)
      | (rw [if_neg (by omega)]; done)
    ·
      refine x_null C dX6_deviceAt_10 ?_
      refine x_goto (tgt := 22) C dX6_deviceAt_11 (by decide) ?_
      refine x_aret C hQ dX6_deviceAt_22 rfl (by decide) (by decide) ?_
      refine ⟨?_, rfl⟩
      first
      | (rw [if_pos (by omega)]; done)
      | (rw [if_neg (by omega)]; done)

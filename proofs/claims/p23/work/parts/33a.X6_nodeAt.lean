/-! The object: reads, ranges, who is who -/
def upF (g f : Int → Int) (i k : Int) : Int := if k < i then g k else f k
theorem upF_lt {g f : Int → Int} {i k : Int} (q : k < i) : upF g f i k = g k := if_pos q
theorem upF_ge {g f : Int → Int} {i k : Int} (q : ¬ k < i) : upF g f i k = f k := if_neg q

set_option maxRecDepth 100000 in
set_option maxHeartbeats 400000 in
theorem k_X6_nodeAt {l : Launch} {D : va_G} {cy : CY} (hst : l.stackTraces = false) {h : HS} {A : AD} {M : MS} {x : Int} (v : VO h A) (hx : -2147483648 ≤ x ∧ x ≤ 2147483647) : Ct l D cy yX6_nodeAt (Cond.code yX6_nodeAt cX6_nodeAt 2 (some (.object "VisitorLoom$Node"))) 0 0 0 0 (RepH cy) [vr (some (cO A)), vi x] h (fun r h' => r = .ok (some (vr (if 0 ≤ x ∧ x < 20 then some (nd A x) else none))) ∧ h' = h) := by
  refine Ct.of1 (own := RX6) hst (by decide) rfl (Nat.le_of_ble_eq_true rfl) (cat1 (vr_cat _) (cat1 (vi_cat _) (cat0))) ?_
  intro φ C hQ hn hR hl hD
  subst hl hD
  obtain ⟨v0, v60, v61, v62, v63, v64, vn, vnl, vnr, vm, vml, vh, vt, vw, vwl⟩ := id v
  refine x_iload_n C dX6_nodeAt_0 rfl rfl ?_
  refine x_if_lt (tgt := 13) C dX6_nodeAt_1 (by decide) (by first | omega | exact bi_rng _) (fun h1 => ?_) (fun h1 => ?_)
  ·
    refine x_null C dX6_nodeAt_13 ?_
    refine x_goto (tgt := 23) C dX6_nodeAt_14 (by decide) ?_
    refine x_aret C hQ dX6_nodeAt_23 rfl (by decide) (by decide) ?_
    refine ⟨?_, rfl⟩
    first
    | (rw [if_pos (by omega)]; done)
    | (rw [if_neg (by omega)]; done)
  ·
    refine x_iload_n C dX6_nodeAt_4 rfl rfl ?_
    refine x_aload_n C dX6_nodeAt_5 rfl rfl ?_
    refine h_get6 (f := 0) C (by assumption) (by decide) u0_14 rfl rfl dX6_nodeAt_6 ?_
    try simp only [v60, v61, v62, v63, v64]
    refine h_alen C (by omega) dX6_nodeAt_9 ?_
    simp only [vnl]
    refine x_icmp_lt (tgt := 17) C dX6_nodeAt_10 (by decide) (by first | omega | exact bi_rng _) (by first | omega | exact bi_rng _) (fun h10 => ?_) (fun h10 => ?_)
    ·
      refine x_aload_n C dX6_nodeAt_17 rfl rfl ?_
      refine h_get6 (f := 0) C (by assumption) (by decide) u0_14 rfl rfl dX6_nodeAt_18 ?_
      try simp only [v60, v61, v62, v63, v64]
      refine x_iload_n C dX6_nodeAt_21 rfl rfl ?_
      refine h_aaldN C (by assumption) (by first | omega | exact bi_rng _) (by first | omega | exact bi_rng _) dX6_nodeAt_22 ?_
      simp only [vnr x (by omega) (by omega)]
      refine x_aret C hQ dX6_nodeAt_23 rfl (by decide) (by decide) ?_
      refine ⟨?_, rfl⟩
      first
      | (rw [if_pos (by omega)]; done)
      | (rw [if_neg (by omega)]; done)
    ·
      refine x_null C dX6_nodeAt_13 ?_
      refine x_goto (tgt := 23) C dX6_nodeAt_14 (by decide) ?_
      refine x_aret C hQ dX6_nodeAt_23 rfl (by decide) (by decide) ?_
      refine ⟨?_, rfl⟩
      first
      | (rw [if_pos (by omega)]; done)
      | (rw [if_neg (by omega)]; done)

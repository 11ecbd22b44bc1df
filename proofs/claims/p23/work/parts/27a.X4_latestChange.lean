/-! The class: consent, links, groups, sessions: methods that write a field or walk a list -/
set_option maxRecDepth 100000 in
set_option maxHeartbeats 400000 in
theorem k_X4_latestChange {l : Launch} {D : va_G} {cy : CY} (hst : l.stackTraces = false) {h : HS} {A : AD} {M : MS} {k p : Int} (s : SP h A M) (hk : 0 ≤ k ∧ k < 20) (hp : -2147483648 ≤ p ∧ p ≤ 2147483647) : Ct l D cy yX4_latestChange (Cond.code yX4_latestChange cX4_latestChange 2 (some (.object "VisitorLoom$Change"))) 0 0 0 0 (RepH cy) [vr (some (nd A k)), vi p] h (fun r h' => r = .ok (some (vr (if 0 ≤ p ∧ p < 4 then aR h (lc A k) p else none))) ∧ h' = h) := by
  refine Ct.of1 (own := RX4) hst (by decide) rfl (Nat.le_of_ble_eq_true rfl) (cat1 (vr_cat _) (cat1 (vi_cat _) (cat0))) ?_
  intro φ C hQ hn hR hl hD
  subst hl hD
  obtain ⟨n0, n40, n41, n42, n43⟩ := s.no k hk.1 hk.2
  refine x_iload_n C dX4_latestChange_0 rfl rfl ?_
  refine x_if_lt (tgt := 13) C dX4_latestChange_1 (by decide) (by first | omega | exact bi_rng _) (fun h1 => ?_) (fun h1 => ?_)
  ·
    refine x_null C dX4_latestChange_13 ?_
    refine x_goto (tgt := 23) C dX4_latestChange_14 (by decide) ?_
    refine x_aret C hQ dX4_latestChange_23 rfl (by decide) (by decide) ?_
    refine ⟨?_, rfl⟩
    first
    | (rw [if_pos (by omega)]; done)
    | (rw [if_neg (by omega)])
  ·
    refine x_iload_n C dX4_latestChange_4 rfl rfl ?_
    refine x_aload_n C dX4_latestChange_5 rfl rfl ?_
    refine h_get4 (f := 1) C (by assumption) (by decide) u1_11 rfl rfl dX4_latestChange_6 ?_
    try simp only [n41, n43]
    refine h_alen C (by omega) dX4_latestChange_9 ?_
    try simp only [n41, n43]
    refine x_icmp_lt (tgt := 17) C dX4_latestChange_10 (by decide) (by first | omega | exact bi_rng _) (by first | omega | exact bi_rng _) (fun h10 => ?_) (fun h10 => ?_)
    ·
      refine x_aload_n C dX4_latestChange_17 rfl rfl ?_
      refine h_get4 (f := 1) C (by assumption) (by decide) u1_11 rfl rfl dX4_latestChange_18 ?_
      try simp only [n41, n43]
      refine x_iload_n C dX4_latestChange_21 rfl rfl ?_
      refine h_aaldC C (by assumption) (by omega) (by omega) dX4_latestChange_22 ?_
      try simp only [n41, n43]
      refine x_aret C hQ dX4_latestChange_23 rfl (by decide) (by decide) ?_
      refine ⟨?_, rfl⟩
      first
      | (rw [if_pos (by omega)]; done)
      | (rw [if_neg (by omega)])
    ·
      refine x_null C dX4_latestChange_13 ?_
      refine x_goto (tgt := 23) C dX4_latestChange_14 (by decide) ?_
      refine x_aret C hQ dX4_latestChange_23 rfl (by decide) (by decide) ?_
      refine ⟨?_, rfl⟩
      first
      | (rw [if_pos (by omega)]; done)
      | (rw [if_neg (by omega)])

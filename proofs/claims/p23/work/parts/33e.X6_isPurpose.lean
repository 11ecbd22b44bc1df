set_option maxRecDepth 100000 in
set_option maxHeartbeats 400000 in
theorem k_X6_isPurpose {l : Launch} {D : va_G} {cy : CY} (hst : l.stackTraces = false) {h : HS} {A : AD} {M : MS} {x : Int} (hx : -2147483648 ≤ x ∧ x ≤ 2147483647) : Ct l D cy yX6_isPurpose (Cond.code yX6_isPurpose cX6_isPurpose 1 (some .boolean)) 0 0 0 0 (RepH cy) [vi x] h (fun r h' => r = .ok (some (vi (bi (0 ≤ x ∧ x ≤ 3)))) ∧ h' = h) := by
  refine Ct.of1 (own := RX6) hst (by decide) rfl (Nat.le_of_ble_eq_true rfl) (cat1 (vi_cat _) (cat0)) ?_
  intro φ C hQ hn hR hl hD
  subst hl hD
  refine x_iload_n C dX6_isPurpose_0 rfl rfl ?_
  refine x_if_lt (tgt := 13) C dX6_isPurpose_1 (by decide) (by first | omega | exact bi_rng _) (fun h1 => ?_) (fun h1 => ?_)
  ·
    refine x_iconst C dX6_isPurpose_13 ?_
    refine x_iret (ty := .boolean) C hQ dX6_isPurpose_14 rfl (by decide) (by decide) (by decide) ?_
    exact ⟨rv (by simp only [bi]; split <;> omega), rfl⟩
  ·
    refine x_iload_n C dX6_isPurpose_4 rfl rfl ?_
    refine x_iconst C dX6_isPurpose_5 ?_
    refine x_icmp_ge (tgt := 13) C dX6_isPurpose_6 (by decide) (by first | omega | exact bi_rng _) (by first | omega | exact bi_rng _) (fun h6 => ?_) (fun h6 => ?_)
    ·
      refine x_iconst C dX6_isPurpose_13 ?_
      refine x_iret (ty := .boolean) C hQ dX6_isPurpose_14 rfl (by decide) (by decide) (by decide) ?_
      exact ⟨rv (by simp only [bi]; split <;> omega), rfl⟩
    ·
      refine x_iconst C dX6_isPurpose_9 ?_
      refine x_goto (tgt := 14) C dX6_isPurpose_10 (by decide) ?_
      refine x_iret (ty := .boolean) C hQ dX6_isPurpose_14 rfl (by decide) (by decide) (by decide) ?_
      exact ⟨rv (by simp only [bi]; split <;> omega), rfl⟩

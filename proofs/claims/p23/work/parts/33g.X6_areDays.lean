set_option maxRecDepth 100000 in
set_option maxHeartbeats 400000 in
theorem k_X6_areDays {l : Launch} {D : va_G} {cy : CY} (hst : l.stackTraces = false) {h : HS} {A : AD} {M : MS} {x : Int} (hx : -2147483648 ≤ x ∧ x ≤ 2147483647) : Ct l D cy yX6_areDays (Cond.code yX6_areDays cX6_areDays 1 (some .boolean)) 0 0 0 0 (RepH cy) [vi x] h (fun r h' => r = .ok (some (vi (bi (1 ≤ x ∧ x ≤ 30)))) ∧ h' = h) := by
  refine Ct.of1 (own := RX6) hst (by decide) rfl (Nat.le_of_ble_eq_true rfl) (cat1 (vi_cat _) (cat0)) ?_
  intro φ C hQ hn hR hl hD
  subst hl hD
  refine x_iload_n C dX6_areDays_0 rfl rfl ?_
  refine x_iconst C dX6_areDays_1 ?_
  refine x_icmp_lt (tgt := 15) C dX6_areDays_2 (by decide) (by first | omega | exact bi_rng _) (by first | omega | exact bi_rng _) (fun h2 => ?_) (fun h2 => ?_)
  ·
    refine x_iconst C dX6_areDays_15 ?_
    refine x_iret (ty := .boolean) C hQ dX6_areDays_16 rfl (by decide) (by decide) (by decide) ?_
    exact ⟨rv (by simp only [bi]; split <;> omega), rfl⟩
  ·
    refine x_iload_n C dX6_areDays_5 rfl rfl ?_
    refine x_bipush C dX6_areDays_6 (by decide) ?_
    refine x_icmp_gt (tgt := 15) C dX6_areDays_8 (by decide) (by first | omega | exact bi_rng _) (by first | omega | exact bi_rng _) (fun h8 => ?_) (fun h8 => ?_)
    ·
      refine x_iconst C dX6_areDays_15 ?_
      refine x_iret (ty := .boolean) C hQ dX6_areDays_16 rfl (by decide) (by decide) (by decide) ?_
      exact ⟨rv (by simp only [bi]; split <;> omega), rfl⟩
    ·
      refine x_iconst C dX6_areDays_11 ?_
      refine x_goto (tgt := 16) C dX6_areDays_12 (by decide) ?_
      refine x_iret (ty := .boolean) C hQ dX6_areDays_16 rfl (by decide) (by decide) (by decide) ?_
      exact ⟨rv (by simp only [bi]; split <;> omega), rfl⟩

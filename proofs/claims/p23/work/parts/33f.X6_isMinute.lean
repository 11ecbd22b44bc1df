set_option maxRecDepth 100000 in
set_option maxHeartbeats 400000 in
theorem k_X6_isMinute {l : Launch} {D : va_G} {cy : CY} (hst : l.stackTraces = false) {h : HS} {A : AD} {M : MS} {x : Int} (hx : -2147483648 ≤ x ∧ x ≤ 2147483647) : Ct l D cy yX6_isMinute (Cond.code yX6_isMinute cX6_isMinute 1 (some .boolean)) 0 0 0 0 (RepH cy) [vi x] h (fun r h' => r = .ok (some (vi (bi (0 ≤ x ∧ x ≤ 100000)))) ∧ h' = h) := by
  refine Ct.of1 (own := RX6) hst (by decide) rfl (Nat.le_of_ble_eq_true rfl) (cat1 (vi_cat _) (cat0)) ?_
  intro φ C hQ hn hR hl hD
  subst hl hD
  refine x_iload_n C dX6_isMinute_0 rfl rfl ?_
  refine x_if_lt (tgt := 14) C dX6_isMinute_1 (by decide) (by first | omega | exact bi_rng _) (fun h1 => ?_) (fun h1 => ?_)
  ·
    refine x_iconst C dX6_isMinute_14 ?_
    refine x_iret (ty := .boolean) C hQ dX6_isMinute_15 rfl (by decide) (by decide) (by decide) ?_
    exact ⟨rv (by simp only [bi]; split <;> omega), rfl⟩
  ·
    refine x_iload_n C dX6_isMinute_4 rfl rfl ?_
    refine x_ldc (z := 100000) C u5_3 (by decide) dX6_isMinute_5 ?_
    refine x_icmp_gt (tgt := 14) C dX6_isMinute_7 (by decide) (by first | omega | exact bi_rng _) (by first | omega | exact bi_rng _) (fun h7 => ?_) (fun h7 => ?_)
    ·
      refine x_iconst C dX6_isMinute_14 ?_
      refine x_iret (ty := .boolean) C hQ dX6_isMinute_15 rfl (by decide) (by decide) (by decide) ?_
      exact ⟨rv (by simp only [bi]; split <;> omega), rfl⟩
    ·
      refine x_iconst C dX6_isMinute_10 ?_
      refine x_goto (tgt := 15) C dX6_isMinute_11 (by decide) ?_
      refine x_iret (ty := .boolean) C hQ dX6_isMinute_15 rfl (by decide) (by decide) (by decide) ?_
      exact ⟨rv (by simp only [bi]; split <;> omega), rfl⟩

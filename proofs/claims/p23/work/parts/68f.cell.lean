/-! A cell of the script -/
set_option maxRecDepth 100000 in
set_option maxHeartbeats 400000 in
theorem k_L_cell {l : Launch} {D : va_G} {cy : CY} (hst : l.stackTraces = false) {ba : Nat → Nat} {h : HS} {V : MS} {bs Ls : Nat} {xs : Nat → Int32} (hL : Ls ≤ 260) {k : Int} (hk : 0 ≤ k ∧ k ≤ 1000) : CtC l D cy yL_cell (Cond.code yL_cell cL_cell 2 (some .int)) 0 0 0 0 (LA cy ba) [vr (some bs), vi k] (h, V) (fun r q' => q' = (h, V) ∧ ∃ z : Int, (-2147483648 ≤ z ∧ z ≤ 2147483647) ∧ r = .ok (some (vi z))) bs Ls xs := by
  refine CtC.of1 (own := RL) hst (by decide) rfl (Nat.le_of_ble_eq_true rfl) (cat1 (vr_cat _) (cat1 (vi_cat _) (cat0))) ?_
  intro φ C hQ hn hR hl hD hX
  subst hl hD
  refine x_iload_n C dL_cell_0 rfl rfl ?_
  refine x_aload_n C dL_cell_1 rfl rfl ?_
  refine x_slen C hX dL_cell_2 ?_
  refine x_icmp_ge (tgt := 12) C dL_cell_3 (by decide) (by first | omega | exact bi_rng _) (by first | omega | exact bi_rng _) (fun h3 => ?_) (fun h3 => ?_)
  ·
    refine x_ldc (z := 1000308275) C u3_8 (by decide) dL_cell_12 ?_
    refine x_iload_n C dL_cell_14 rfl rfl ?_
    refine x_iconst C dL_cell_15 ?_
    refine x_iadd C dL_cell_16 ?_
    refine x_imul C dL_cell_17 ?_
    refine x_ldc (z := 751363449) C u3_9 (by decide) dL_cell_18 ?_
    refine x_iadd C dL_cell_20 ?_
    refine x_iret (ty := .int) C hQ dL_cell_21 rfl rfl (by decide) (by decide) ?_
    exact ⟨rfl, (Int32.ofInt (1000308275 * (k + 1) + 751363449)).toInt, i32_range _, by rw [vi_toInt]; rfl⟩
  ·
    refine x_aload_n C dL_cell_6 rfl rfl ?_
    refine x_iload_n C dL_cell_7 rfl rfl ?_
    refine x_sld C hX hL (by omega) dL_cell_8 ?_
    refine x_goto (tgt := 21) C dL_cell_9 (by decide) ?_
    refine x_iret (ty := .int) C hQ dL_cell_21 rfl rfl (by decide) (by decide) ?_
    exact ⟨rfl, _, sc_rng xs _, rfl⟩

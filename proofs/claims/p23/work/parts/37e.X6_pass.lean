set_option maxRecDepth 100000 in
set_option maxHeartbeats 400000 in
theorem k_X6_pass {l : Launch} {D : va_G} {cy : CY} (hst : l.stackTraces = false) {h : HS} {A : AD} {M : MS} {x : Int} (v : VO h A) (hnow : 1440 ≤ fI h 71 (cO A) ∧ fI h 71 (cO A) ≤ 100000) (hx : -2147483648 ≤ x ∧ x ≤ 2147483647) : Ct l D cy yX6_pass (Cond.code yX6_pass cX6_pass 2 (some .int)) 6 82 1 6 (RepH cy) [vr (some (cO A)), vi x] h (fun r h' => ((1 ≤ x ∧ x ≤ 20000) ∧ fI h 71 (cO A) + x ≤ 100000 ∧ h' = setI h 71 (cO A) (fI h 71 (cO A) + x) ∧ r = .ok (some (vi (fI h 71 (cO A) + x)))) ∨ (¬ (1 ≤ x ∧ x ≤ 20000) ∧ h' = h ∧ r = .error "java/lang/IllegalArgumentException") ∨ ((1 ≤ x ∧ x ≤ 20000) ∧ ¬ fI h 71 (cO A) + x ≤ 100000 ∧ h' = h ∧ r = .error "java/lang/IllegalStateException")) := by
  refine Ct.of1 (own := RX6) hst (by decide) rfl (Nat.le_of_ble_eq_true rfl) (cat1 (vr_cat _) (cat1 (vi_cat _) (cat0))) ?_
  intro φ C hQ hn hR hl hD
  subst hl hD
  obtain ⟨v0, v60, v61, v62, v63, v64, vn, vnl, vnr, vm, vml, vh, vt, vw, vwl⟩ := id v
  refine x_iload_n C dX6_pass_0 rfl rfl ?_
  refine x_iconst C dX6_pass_1 ?_
  refine x_icmp_lt (tgt := 12) C dX6_pass_2 (by decide) (by first | omega | exact bi_rng _) (by first | omega | exact bi_rng _) (fun h2 => ?_) (fun h2 => ?_)
  ·
    refine x_throwS C hQ hR th_IAE (List.mem_of_getElem? (i := 10) rfl) dX6_pass_12 dX6_pass_15 dX6_pass_16 dX6_pass_18 dX6_pass_21 (by decide) (by decide) (by decide) (by decide) ?_
    exact Or.inr (Or.inl ⟨by omega, rfl, rfl⟩)
  ·
    refine x_iload_n C dX6_pass_5 rfl rfl ?_
    refine x_sipush C dX6_pass_6 (by decide) ?_
    refine x_icmp_le (tgt := 22) C dX6_pass_9 (by decide) (by first | omega | exact bi_rng _) (by first | omega | exact bi_rng _) (fun h9 => ?_) (fun h9 => ?_)
    ·
      refine x_aload_n C dX6_pass_22 rfl rfl ?_
      refine h_get6 (f := 11) C v0 (by decide) u1_4 rfl rfl dX6_pass_23 ?_
      refine x_iload_n C dX6_pass_26 rfl rfl ?_
      refine x_iadd C dX6_pass_27 ?_
      refine x_ldc (z := 100000) C u5_3 (by decide) dX6_pass_28 ?_
      refine x_icmp_le (tgt := 43) C dX6_pass_30 (by decide) (by first | omega | exact bi_rng _) (by first | omega | exact bi_rng _) (fun h30 => ?_) (fun h30 => ?_)
      ·
        refine x_aload_n C dX6_pass_43 rfl rfl ?_
        refine x_dup C dX6_pass_44 (by first | rfl | exact vr_cat _ | exact vi_cat _) ?_
        refine h_get6 (f := 11) C v0 (by decide) u1_4 rfl rfl dX6_pass_45 ?_
        refine x_iload_n C dX6_pass_48 rfl rfl ?_
        refine x_iadd C dX6_pass_49 ?_
        refine h_put6 (f := 11) (h' := setI _ 71 _ _) C v0 (by decide) u1_4 rfl rfl (tyX6_ok 11 (by decide)) (fit_vi _) (cs6_11 v0) (fun _ => rfl) (fun _ hx => cell_setI_ne hx) dX6_pass_50 ?_
        refine x_aload_n C dX6_pass_53 rfl rfl ?_
        refine h_get6 (f := 11) C v0 (by decide) u1_4 rfl rfl dX6_pass_54 ?_
        refine x_iret (ty := .int) C hQ dX6_pass_57 rfl rfl (by decide) (by decide) ?_
        exact Or.inl ⟨by omega, by omega, rfl, by rw [fI_set_eq]⟩
      ·
        refine x_throwS C hQ hR th_ISE (List.mem_of_getElem? (i := 11) rfl) dX6_pass_33 dX6_pass_36 dX6_pass_37 dX6_pass_39 dX6_pass_42 (by decide) (by decide) (by decide) (by decide) ?_
        exact Or.inr (Or.inr ⟨by omega, by omega, rfl, rfl⟩)
    ·
      refine x_throwS C hQ hR th_IAE (List.mem_of_getElem? (i := 10) rfl) dX6_pass_12 dX6_pass_15 dX6_pass_16 dX6_pass_18 dX6_pass_21 (by decide) (by decide) (by decide) (by decide) ?_
      exact Or.inr (Or.inl ⟨by omega, rfl, rfl⟩)

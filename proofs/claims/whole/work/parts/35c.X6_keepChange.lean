set_option maxRecDepth 100000 in
set_option maxHeartbeats 400000 in
theorem k_X6_keepChange {l : Launch} {D : va_G} {cy : CY} (hst : l.stackTraces = false) {h : HS} {A : AD} {M : MS} {c : Int} (v : VO h A) (hn2 : 0 ≤ fI h 69 (cO A) ∧ fI h 69 (cO A) < 160) : Ct l D cy yX6_keepChange (Cond.code yX6_keepChange cX6_keepChange 2 none) 0 0 0 0 (RepH cy) [vr (some (cO A)), vi c] h (fun r h' => r = .ok none ∧ h' = setI (setA h (cW A) (fI h 69 (cO A)) c) 69 (cO A) (fI h 69 (cO A) + 1)) := by
  refine Ct.of1 (own := RX6) hst (by decide) rfl (Nat.le_of_ble_eq_true rfl) (cat1 (vr_cat _) (cat1 (vi_cat _) (cat0))) ?_
  intro φ C hQ hn hR hl hD
  subst hl hD
  obtain ⟨v0, v60, v61, v62, v63, v64, vn, vnl, vnr, vm, vml, vh, vt, vw, vwl⟩ := id v
  refine x_aload_n C dX6_keepChange_0 rfl rfl ?_
  refine h_get6 (f := 9) C v0 (by decide) u23_10 rfl rfl dX6_keepChange_1 ?_
  try simp only [v60, v61, v62, v63, v64]
  refine x_if_lt (tgt := 39) C dX6_keepChange_4 (by decide) (by omega) (fun h4 => ?_) (fun h4 => ?_)
  ·
    first
    | (exfalso; omega)
    | (refine x_vret C hQ dX6_keepChange_39 rfl (by decide) (by decide) ?_; exact ⟨rfl, rfl⟩)
  ·
    refine x_aload_n C dX6_keepChange_7 rfl rfl ?_
    refine h_get6 (f := 9) C v0 (by decide) u23_10 rfl rfl dX6_keepChange_8 ?_
    try simp only [v60, v61, v62, v63, v64]
    refine x_aload_n C dX6_keepChange_11 rfl rfl ?_
    refine h_get6 (f := 4) C v0 (by decide) u1_4 rfl rfl dX6_keepChange_12 ?_
    try simp only [v60, v61, v62, v63, v64]
    refine h_alen C (by omega) dX6_keepChange_15 ?_
    try simp only [v60, v61, v62, v63, v64]
    refine x_icmp_ge (tgt := 39) C dX6_keepChange_16 (by decide) (by omega) (by omega) (fun h16 => ?_) (fun h16 => ?_)
    ·
      first
      | (exfalso; omega)
      | (refine x_vret C hQ dX6_keepChange_39 rfl (by decide) (by decide) ?_; exact ⟨rfl, rfl⟩)
    ·
      refine x_aload_n C dX6_keepChange_19 rfl rfl ?_
      refine h_get6 (f := 4) C v0 (by decide) u1_4 rfl rfl dX6_keepChange_20 ?_
      try simp only [v60, v61, v62, v63, v64]
      refine x_aload_n C dX6_keepChange_23 rfl rfl ?_
      refine h_get6 (f := 9) C v0 (by decide) u23_10 rfl rfl dX6_keepChange_24 ?_
      try simp only [v60, v61, v62, v63, v64]
      refine x_iload_n C dX6_keepChange_27 rfl rfl ?_
      refine h_iast C vw (by omega) (by omega) dX6_keepChange_28 ?_
      refine x_aload_n C dX6_keepChange_29 rfl rfl ?_
      refine x_dup C dX6_keepChange_30 (by first | rfl | exact vr_cat _ | exact vi_cat _) ?_
      refine h_get6 (f := 9) C v0 (by decide) u23_10 rfl rfl dX6_keepChange_31 ?_
      try simp only [v60, v61, v62, v63, v64]
      refine x_iconst C dX6_keepChange_34 ?_
      refine x_iadd C dX6_keepChange_35 ?_
      refine h_put6 (f := 9) (h' := setI _ 69 _ _) C v0 (by decide) u23_10 rfl rfl (tyX6_ok 9 (by decide)) (fit_vi _) (cs6_9 v0) (fun _ => rfl) (fun _ hx => cell_setI_ne hx) dX6_keepChange_36 ?_
      first
      | (exfalso; omega)
      | (refine x_vret C hQ dX6_keepChange_39 rfl (by decide) (by decide) ?_; exact ⟨rfl, rfl⟩)

set_option maxRecDepth 100000 in
set_option maxHeartbeats 400000 in
theorem k_X6_toldInAll {l : Launch} {D : va_G} {cy : CY} (hst : l.stackTraces = false) {h : HS} {A : AD} {M : MS}  (v : VO h A) : Ct l D cy yX6_toldInAll (Cond.code yX6_toldInAll cX6_toldInAll 1 (some .int)) 0 0 0 0 (RepH cy) [vr (some (cO A))] h (fun r h' => h' = h ∧ r = .ok (some (vi (fI h 70 (cO A))))) := by
  refine Ct.of1 (own := RX6) hst (by decide) rfl (Nat.le_of_ble_eq_true rfl) (cat1 (vr_cat _) (cat0)) ?_
  intro φ C hQ hn hR hl hD
  subst hl hD
  obtain ⟨v0, v60, v61, v62, v63, v64, vn, vnl, vnr, vm, vml, vh, vt, vw, vwl⟩ := id v
  refine x_aload_n C dX6_toldInAll_0 rfl rfl ?_
  refine h_get6 (f := 10) C v0 (by decide) u23_11 rfl rfl dX6_toldInAll_1 ?_
  refine x_iret (ty := .int) C hQ dX6_toldInAll_4 rfl rfl (by decide) (by decide) ?_
  exact ⟨rfl, rfl⟩

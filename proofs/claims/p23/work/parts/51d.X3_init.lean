set_option maxRecDepth 100000 in
set_option maxHeartbeats 400000 in
theorem k_X3_init {l : Launch} {D : va_G} {cy : CY} (hst : l.stackTraces = false) {h : HS} {A : AD} {M : MS} {a : Nat} {nu pu ki le da : Int} (ha : kD h a = 4) : Ct l D cy yX3_init (Cond.code yX3_init cX3_init 6 none) 1 21 0 0 (RepH cy) [vr (some a), vi nu, vi pu, vi ki, vi le, vi da] h (fun r h' => r = .ok none ∧ h' = setI (setI (setI (setI (setI h 30 a nu) 31 a pu) 32 a ki) 33 a le) 34 a da) := by
  refine Ct.of1I (own := RX3) hst (by decide) rfl rfl (Nat.le_of_ble_eq_true rfl) (cat1 (vr_cat _) (cat1 (vi_cat _) (cat1 (vi_cat _) (cat1 (vi_cat _) (cat1 (vi_cat _) (cat1 (vi_cat _) (cat0))))))) ?_
  intro φ C hQ hn hR hl hD hin
  subst hl hD
  refine x_aload_n C dX3_init_0 rfl rfl ?_
  refine x_objInit C hR u2_22 u0_11 u0_12 dX3_init_1 (by decide) (Nat.le_of_ble_eq_true rfl) ?_
  refine x_aload_n C dX3_init_4 rfl rfl ?_
  refine x_iload_n C dX3_init_5 rfl rfl ?_
  refine h_put3F (f := 0) (h' := setI _ 30 _ _) C hin rfl ha (by decide) u2_23 rfl rfl (tyX3_ok 0 (by decide)) (fit_vi _) (cs3_0 ha) (fun _ => rfl) (fun _ hx => cell_setI_ne hx) dX3_init_6 ?_
  refine x_aload_n C dX3_init_9 rfl rfl ?_
  refine x_iload_n C dX3_init_10 rfl rfl ?_
  refine h_put3F (f := 1) (h' := setI _ 31 _ _) C hin rfl ha (by decide) u3_0 rfl rfl (tyX3_ok 1 (by decide)) (fit_vi _) (cs3_1 ha) (fun _ => rfl) (fun _ hx => cell_setI_ne hx) dX3_init_11 ?_
  refine x_aload_n C dX3_init_14 rfl rfl ?_
  refine x_iload_n C dX3_init_15 rfl rfl ?_
  refine h_put3F (f := 2) (h' := setI _ 32 _ _) C hin rfl ha (by decide) u3_1 rfl rfl (tyX3_ok 2 (by decide)) (fit_vi _) (cs3_2 ha) (fun _ => rfl) (fun _ hx => cell_setI_ne hx) dX3_init_16 ?_
  refine x_aload_n C dX3_init_19 rfl rfl ?_
  refine x_iload C dX3_init_20 rfl ?_
  refine h_put3F (f := 3) (h' := setI _ 33 _ _) C hin rfl ha (by decide) u3_2 rfl rfl (tyX3_ok 3 (by decide)) (fit_vi _) (cs3_3 ha) (fun _ => rfl) (fun _ hx => cell_setI_ne hx) dX3_init_22 ?_
  refine x_aload_n C dX3_init_25 rfl rfl ?_
  refine x_iload C dX3_init_26 rfl ?_
  refine h_put3F (f := 4) (h' := setI _ 34 _ _) C hin rfl ha (by decide) u3_3 rfl rfl (tyX3_ok 4 (by decide)) (fit_vi _) (cs3_4 ha) (fun _ => rfl) (fun _ hx => cell_setI_ne hx) dX3_init_28 ?_
  refine x_vret C hQ dX3_init_31 rfl (by decide) (by decide) ?_
  exact ⟨rfl, rfl⟩

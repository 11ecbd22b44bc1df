set_option maxRecDepth 100000 in
set_option maxHeartbeats 400000 in
theorem k_X1_init {l : Launch} {D : va_G} {cy : CY} (hst : l.stackTraces = false) {h : HS} {A : AD} {M : MS} {a : Nat} {nu ki cp tm rk : Int} {dv ac : Option Nat} (ha : kD h a = 2) : Ct l D cy yX1_init (Cond.code yX1_init cX1_init 8 none) 1 21 0 0 (RepH cy) [vr (some a), vi nu, vr dv, vr ac, vi ki, vi cp, vi tm, vi rk] h (fun r h' => r = .ok none ∧ h' = setI (setI (setI (setI (setP (setP (setI h 10 a nu) 11 a dv) 12 a ac) 13 a ki) 14 a cp) 15 a tm) 16 a rk) := by
  refine Ct.of1I (own := RX1) hst (by decide) rfl rfl (Nat.le_of_ble_eq_true rfl) (cat1 (vr_cat _) (cat1 (vi_cat _) (cat1 (vr_cat _) (cat1 (vr_cat _) (cat1 (vi_cat _) (cat1 (vi_cat _) (cat1 (vi_cat _) (cat1 (vi_cat _) (cat0))))))))) ?_
  intro φ C hQ hn hR hl hD hin
  subst hl hD
  refine x_aload_n C dX1_init_0 rfl rfl ?_
  refine x_objInit C hR u5_7 u0_11 u0_12 dX1_init_1 (by decide) (Nat.le_of_ble_eq_true rfl) ?_
  refine x_aload_n C dX1_init_4 rfl rfl ?_
  refine x_iload_n C dX1_init_5 rfl rfl ?_
  refine h_put1F (f := 0) (h' := setI _ 10 _ _) C hin rfl ha (by decide) u5_8 rfl rfl (tyX1_ok 0 (by decide)) (fit_vi _) (cs1_0 ha) (fun _ => rfl) (fun _ hx => cell_setI_ne hx) dX1_init_6 ?_
  refine x_aload_n C dX1_init_9 rfl rfl ?_
  refine x_aload_n C dX1_init_10 rfl rfl ?_
  refine h_put1F (f := 1) (h' := setP _ 11 _ _) C hin rfl ha (by decide) u5_9 rfl rfl (tyX1_ok 1 (by decide)) (fit_vr _) (cs1_1 ha) (fun _ => rfl) (fun _ hx => cell_setP_ne hx) dX1_init_11 ?_
  refine x_aload_n C dX1_init_14 rfl rfl ?_
  refine x_aload_n C dX1_init_15 rfl rfl ?_
  refine h_put1F (f := 2) (h' := setP _ 12 _ _) C hin rfl ha (by decide) u5_10 rfl rfl (tyX1_ok 2 (by decide)) (fit_vr _) (cs1_2 ha) (fun _ => rfl) (fun _ hx => cell_setP_ne hx) dX1_init_16 ?_
  refine x_aload_n C dX1_init_19 rfl rfl ?_
  refine x_iload C dX1_init_20 rfl ?_
  refine h_put1F (f := 3) (h' := setI _ 13 _ _) C hin rfl ha (by decide) u5_11 rfl rfl (tyX1_ok 3 (by decide)) (fit_vi _) (cs1_3 ha) (fun _ => rfl) (fun _ hx => cell_setI_ne hx) dX1_init_22 ?_
  refine x_aload_n C dX1_init_25 rfl rfl ?_
  refine x_iload C dX1_init_26 rfl ?_
  refine h_put1F (f := 4) (h' := setI _ 14 _ _) C hin rfl ha (by decide) u5_12 rfl rfl (tyX1_ok 4 (by decide)) (fit_vi _) (cs1_4 ha) (fun _ => rfl) (fun _ hx => cell_setI_ne hx) dX1_init_28 ?_
  refine x_aload_n C dX1_init_31 rfl rfl ?_
  refine x_iload C dX1_init_32 rfl ?_
  refine h_put1F (f := 5) (h' := setI _ 15 _ _) C hin rfl ha (by decide) u5_13 rfl rfl (tyX1_ok 5 (by decide)) (fit_vi _) (cs1_5 ha) (fun _ => rfl) (fun _ hx => cell_setI_ne hx) dX1_init_34 ?_
  refine x_aload_n C dX1_init_37 rfl rfl ?_
  refine x_iload C dX1_init_38 rfl ?_
  refine h_put1F (f := 6) (h' := setI _ 16 _ _) C hin rfl ha (by decide) u5_14 rfl rfl (tyX1_ok 6 (by decide)) (fit_vi _) (cs1_6 ha) (fun _ => rfl) (fun _ hx => cell_setI_ne hx) dX1_init_40 ?_
  refine x_vret C hQ dX1_init_43 rfl (by decide) (by decide) ?_
  exact ⟨rfl, rfl⟩

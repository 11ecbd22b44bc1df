/-! The constructors of the class's parts
-/

set_option maxRecDepth 100000 in
set_option maxHeartbeats 400000 in
theorem k_X0_init {l : Launch} {D : va_G} {cy : CY} (hst : l.stackTraces = false) {h : HS} {A : AD} {M : MS} {a : Nat} {fr is : Int} {u : Option Nat} (ha : kD h a = 1) (his : is = 0 ∨ is = 1) : Ct l D cy yX0_init (Cond.code yX0_init cX0_init 4 none) 1 21 0 0 (RepH cy) [vr (some a), vi fr, vi is, vr u] h (fun r h' => r = .ok none ∧ h' = setP (setI (setI h 0 a fr) 1 a is) 2 a u) := by
  refine Ct.of1I (own := RX0) hst (by decide) rfl rfl (Nat.le_of_ble_eq_true rfl) (cat1 (vr_cat _) (cat1 (vi_cat _) (cat1 (vi_cat _) (cat1 (vr_cat _) (cat0))))) ?_
  intro φ C hQ hn hR hl hD hin
  subst hl hD
  refine x_aload_n C dX0_init_0 rfl rfl ?_
  refine x_objInit C hR u10_11 u0_11 u0_12 dX0_init_1 (by decide) (Nat.le_of_ble_eq_true rfl) ?_
  refine x_aload_n C dX0_init_4 rfl rfl ?_
  refine x_iload_n C dX0_init_5 rfl rfl ?_
  refine h_put0F (f := 0) (h' := setI _ 0 _ _) C hin rfl ha (by decide) u10_12 rfl rfl (tyX0_ok 0 (by decide)) (fit_vi _) (cs0_0 ha) (fun _ => rfl) (fun _ hx => cell_setI_ne hx) dX0_init_6 ?_
  refine x_aload_n C dX0_init_9 rfl rfl ?_
  refine x_iload_n C dX0_init_10 rfl rfl ?_
  refine h_put0F (f := 1) (h' := setI _ 1 _ _) C hin rfl ha (by decide) u10_13 rfl rfl (tyX0_ok 1 (by decide)) (fit_vz his) (cs0_1 ha) (fun _ => rfl) (fun _ hx => cell_setI_ne hx) dX0_init_11 ?_
  refine x_aload_n C dX0_init_14 rfl rfl ?_
  refine x_aload_n C dX0_init_15 rfl rfl ?_
  refine h_put0 (f := 2) (h' := setP _ 2 _ _) C ha (by decide) u10_14 rfl rfl (tyX0_ok 2 (by decide)) (fit_vr _) (cs0_2 ha) (fun _ => rfl) (fun _ hx => cell_setP_ne hx) dX0_init_16 ?_
  refine x_vret C hQ dX0_init_19 rfl (by decide) (by decide) ?_
  exact ⟨rfl, rfl⟩

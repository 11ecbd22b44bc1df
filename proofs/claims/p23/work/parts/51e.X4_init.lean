set_option maxRecDepth 100000 in
set_option maxHeartbeats 400000 in
theorem k_X4_init {l : Launch} {D : va_G} {cy : CY} (hst : l.stackTraces = false) {h : HS} {A : AD} {M : MS} {a : Nat} {nu : Int} (ha : kD h a = 5) : Ct l D cy yX4_init (Cond.code yX4_init cX4_init 2 none) 1 21 1 4 (RepH cy) [vr (some a), vi nu] h (fun r h' => r = .ok none ∧ ∃ q, kD h q = 0 ∧ h' = setP (newA (setI h 40 a nu) 10 q 4) 41 a (some q)) := by
  refine Ct.of1I (own := RX4) hst (by decide) rfl rfl (Nat.le_of_ble_eq_true rfl) (cat1 (vr_cat _) (cat1 (vi_cat _) (cat0))) ?_
  intro φ C hQ hn hR hl hD hin
  subst hl hD
  refine x_aload_n C dX4_init_0 rfl rfl ?_
  refine x_objInit C hR u1_8 u0_11 u0_12 dX4_init_1 (by decide) (Nat.le_of_ble_eq_true rfl) ?_
  refine x_aload_n C dX4_init_4 rfl rfl ?_
  refine x_iload_n C dX4_init_5 rfl rfl ?_
  refine h_put4F (f := 0) (h' := setI _ 40 _ _) C hin rfl ha (by decide) u1_9 rfl rfl (tyX4_ok 0 (by decide)) (fit_vi _) (cs4_0 ha) (fun _ => rfl) (fun _ hx => cell_setI_ne hx) dX4_init_6 ?_
  refine x_aload_n C dX4_init_9 rfl rfl ?_
  refine x_iconst C dX4_init_10 ?_
  refine h_newaC C hR u1_10 rfl (by decide) (by decide) dX4_init_11 (fun q11 hq11 => ?_)
  have ha9 : kD (newA (setI h 40 a nu) 10 q11 4) a = 5 := ((Ex.newA (h := setI h 40 a nu) (kd := 10) (n := 4) hq11) a (by show kD h a ≠ 0; omega)).1.trans ha
  refine h_put4F (f := 1) (h' := setP _ 41 _ _) C hin rfl ha9 (by decide) u1_11 rfl rfl (tyX4_ok 1 (by decide)) (fit_va _) (cs4_1 ha9) (fun _ => rfl) (fun _ hx => cell_setP_ne hx) dX4_init_14 ?_
  refine x_vret C hQ dX4_init_17 rfl (by decide) (by decide) ?_
  exact ⟨rfl, q11, hq11, rfl⟩

set_option maxRecDepth 100000 in
set_option maxHeartbeats 400000 in
theorem k_X3_wasToldOf {l : Launch} {D : va_G} {cy : CY} (hst : l.stackTraces = false) {h : HS} {A : AD} {M : MS} {g k : Int} {P : Int → Prop} [DecidablePred P] (s : SP h A M) (hk : 0 ≤ k ∧ k < 20) (hg : kD h (gp A g) = 4) (hb : BW (fI h 35 (gp A g)) P) : Ct l D cy yX3_wasToldOf (Cond.code yX3_wasToldOf cX3_wasToldOf 2 (some .boolean)) 1 20 0 0 (RepH cy) [vr (some (gp A g)), vr (some (nd A k))] h (fun r h' => r = .ok (some (vi (bi (P k)))) ∧ h' = h) := by
  refine Ct.of1 (own := RX3) hst (by decide) rfl (Nat.le_of_ble_eq_true rfl) (cat1 (vr_cat _) (cat1 (vr_cat _) (cat0))) ?_
  intro φ C hQ hn hR hl hD
  subst hl hD
  obtain ⟨n0, n40, n41, n42, n43⟩ := s.no k hk.1 hk.2
  obtain ⟨j, rfl⟩ : ∃ j : Nat, k = j := ⟨k.toNat, (Int.toNat_of_nonneg hk.1).symm⟩
  have hbw := bw_and hb j (by omega)
  refine x_aload_n C dX3_wasToldOf_0 rfl rfl ?_
  refine h_get3 (f := 5) C (by assumption) (by decide) u23_22 rfl rfl dX3_wasToldOf_1 ?_
  refine x_aload_n C dX3_wasToldOf_4 rfl rfl ?_
  refine x_callV C hR cb_X4_bit cv_X4_bit u23_23 (k_X4_bit (k := _) hst s (by omega)) (h_recv (by assumption) (by decide)) ⟨_, _, rfl⟩ rfl (Nat.le_of_ble_eq_true rfl) rfl dX3_wasToldOf_5 (by decide) (by decide) (fun E x9 h9 => absurd h9.1 (by intro h; cases h)) (fun r9 x9 h9 => ?_)
  obtain ⟨e9, q9⟩ := h9
  cases e9
  subst x9
  refine x_iand C dX3_wasToldOf_8 ?_
  refine x_if_eq (tgt := 16) C dX3_wasToldOf_9 (by decide) (by exact bOp_in _ _ _) (fun h9 => ?_) (fun h9 => ?_)
  ·
    refine x_iconst C dX3_wasToldOf_16 ?_
    refine x_iret (ty := .boolean) C hQ dX3_wasToldOf_17 rfl (by decide) (by decide) (by decide) ?_
    first
    | exact ⟨rv (bi_f (hbw.mp h9)).symm, rfl⟩
    | exact ⟨rv (bi_t (Classical.not_not.mp (fun q => h9 (hbw.mpr q)))).symm, rfl⟩
  ·
    refine x_iconst C dX3_wasToldOf_12 ?_
    refine x_goto (tgt := 17) C dX3_wasToldOf_13 (by decide) ?_
    refine x_iret (ty := .boolean) C hQ dX3_wasToldOf_17 rfl (by decide) (by decide) (by decide) ?_
    first
    | exact ⟨rv (bi_f (hbw.mp h9)).symm, rfl⟩
    | exact ⟨rv (bi_t (Classical.not_not.mp (fun q => h9 (hbw.mpr q)))).symm, rfl⟩

/-! The law's act: pass -/
set_option maxRecDepth 100000 in
set_option maxHeartbeats 400000 in
theorem act_pass {φ : Fx} {cy : CY} {bs : Nat} {ba : Nat → Nat} {ob : Nat} {h : HS} {V M : MS} {k n : Nat} {x y t kd dv ac nd : Int} (C : Cx φ cL_law RL ret cy) (hR : ROf φ = RLaw) (hn : nLof φ = 19) (hk : k + 100 ≤ 600074 ∧ n + 1000 ≤ 7301550) (G : GF ob h V M) (hnw : M 1 0 ≤ 84000) (hx : -2147483648 ≤ x ∧ x ≤ 2147483647) (hy : -2147483648 ≤ y ∧ y ≤ 2147483647) (hdv : 0 ≤ dv ∧ dv < 3) (hac : -1 ≤ ac ∧ ac < 3) (hnd : 0 ≤ nd ∧ nd < 6)  (K : ∀ (h' : HS) (V' M' : MS), GI ob h' V' M' → M' 1 0 ≤ M 1 0 + 1500 → X φ (LA cy ba (h', V')) (k + 100) (n + 1000) 810 (LL bs ob ba (M' 2 0) (M' 1 0) t y) []) : X φ (LA cy ba (h, V)) k n 761 (LF bs ob ba (M 2 0) (M 1 0) t x y kd dv ac nd) [] := by
  have hst := C.st
  obtain ⟨⟨R, hL, hX, hN⟩, hlow, hP⟩ := G
  have hM := R.mi
  have hn0 := hM.n
  have hnow := hM.now
  have K784 : ∀ u : Int, (u = 60 ∨ u = 1500) → X φ (LA cy ba (h, V)) (k + 0) (n + 0) 784 [(0, vr (some bs)), (1, vr (some ob)), (2, vr (some (ba 0))), (3, vr (some (ba 1))), (4, vr (some (ba 2))), (5, vr (some (ba 3))), (6, vr (some (ba 4))), (7, vi (M 2 0)), (8, vi (M 1 0)), (9, vi t), (10, vi x), (11, vi y), (12, vi kd), (13, vi dv), (14, vi ac), (15, vi nd)] [vi u, vi y, vi 1] := by
    intro u hu
    have hu0 : 0 < u ∧ u ≤ 2147483647 := by omega
    refine x_callS C hR cb_L_low u3_11 u3_10 (k_L_low hst (by omega) hu0) rfl (Nat.le_of_ble_eq_true rfl) rfl dL_law_784 (by decide) (by show _ ≤ 600074 ∧ _ ≤ 7301550; omega) (fun E x9 h9 => absurd h9.1 (by intro h; cases h)) (fun r9 x9 h9 => ?_)
    obtain ⟨e9, rfl⟩ := h9
    cases e9
    obtain ⟨mi, hmi⟩ : ∃ z, z = lwF y u := ⟨_, rfl⟩
    rw [← hmi]
    have gmi := lwF_in (v := y) (n := u) (by omega)
    rw [← hmi] at gmi
    refine x_iadd C dL_law_787 ?_
    refine x_istore C dL_law_788 (by rw [hn]; exact Nat.le_of_ble_eq_true rfl) ?_
    refine x_iload C dL_law_790 rfl ?_
    refine x_iload C dL_law_792 rfl ?_
    refine x_iadd C dL_law_794 ?_
    refine x_istore C dL_law_795 (by rw [hn]; exact Nat.le_of_ble_eq_true rfl) ?_
    refine x_aload_n C dL_law_797 rfl rfl ?_
    refine x_iload C dL_law_798 rfl ?_
    refine x_callV C hR cb_X6_pass cv_X6_pass u11_15 (q_pass hst R (by omega) (by omega)) (a_recvH R.k (by decide)) ⟨_, _, rfl⟩ rfl (Nat.le_of_ble_eq_true rfl) rfl dL_law_800 (by decide) (by show _ ≤ 600074 ∧ _ ≤ 7301550; omega) (fun E x9 h9 => absurd h9.1 (by intro h; cases h)) (fun r9 x9 h9 => ?_)
    obtain ⟨e9, h9x, rfl, R⟩ := h9
    cases e9
    refine x_iload C dL_law_803 rfl ?_
    refine x_icmp_eq (tgt := 810) C dL_law_805 (by decide) (by first | omega | exact bi_rng _) (by first | omega | exact bi_rng _) (fun h805 => ?_) (fun h805 => ?_)
    ·
      exact X.mono (by omega) (by omega) (X.to (K _ _ _ ⟨R, hL.sm (Sm.set M 1 0 _), hX.sm (Sm.set M 1 0 _), by rw [mset_ne (by decide)]; exact hN⟩ (by rw [mset_eq]; omega)) (lsc (rfl) (lsc (rfl) (lsc (rfl) (lsc (rfl) (lsc (rfl) (lsc (rfl) (lsc (rfl) (lsc (lkv (by rw [mset_ne (by decide)])) (lsc (lkv (by rw [mset_eq])) (lsc (rfl) (lsc (rfl) (lsn)))))))))))))
    ·
      exfalso; omega
  refine x_iconst C dL_law_761 ?_
  refine x_iload C dL_law_762 rfl ?_
  refine x_iload C dL_law_764 rfl ?_
  refine x_bipush C dL_law_766 (by decide) ?_
  refine x_ishr C dL_law_768 ?_
  refine x_iconst C dL_law_769 ?_
  refine x_callS C hR cb_L_low u3_11 u3_10 (k_L_low hst (by first | omega | exact bOp_in _ _ _) (by decide)) rfl (Nat.le_of_ble_eq_true rfl) rfl dL_law_770 (by decide) (by show _ ≤ 600074 ∧ _ ≤ 7301550; omega) (fun E x9 h9 => absurd h9.1 (by intro h; cases h)) (fun r9 x9 h9 => ?_)
  obtain ⟨e9, rfl⟩ := h9
  cases e9
  obtain ⟨l9, hl9⟩ : ∃ z, z = lwF (bOp (fun x y => x >>> (y &&& 31)) x 9) 3 := ⟨_, rfl⟩
  rw [← hl9]
  have gl9 := lwF_in (v := (bOp (fun x y => x >>> (y &&& 31)) x 9)) (n := 3) (by decide)
  rw [← hl9] at gl9
  refine x_if_ne (tgt := 782) C dL_law_773 (by decide) (by first | omega | exact bi_rng _) (fun h773 => ?_) (fun h773 => ?_)
  ·
    refine x_bipush C dL_law_782 (by decide) ?_
    exact X.to (K784 60 (by decide)) (lsc (rfl) (lsc (rfl) (lsc (rfl) (lsc (rfl) (lsc (rfl) (lsc (rfl) (lsc (rfl) (lsc (rfl) (lsc (rfl) (lsc (rfl) (lsc (rfl) (lsc (rfl) (lsc (rfl) (lsc (rfl) (lsc (rfl) (lsc (rfl) (lsn)))))))))))))))))
  ·
    refine x_sipush C dL_law_776 (by decide) ?_
    refine x_goto (tgt := 784) C dL_law_779 (by decide) ?_
    exact X.to (K784 1500 (by decide)) (lsc (rfl) (lsc (rfl) (lsc (rfl) (lsc (rfl) (lsc (rfl) (lsc (rfl) (lsc (rfl) (lsc (rfl) (lsc (rfl) (lsc (rfl) (lsc (rfl) (lsc (rfl) (lsc (rfl) (lsc (rfl) (lsc (rfl) (lsc (rfl) (lsn)))))))))))))))))

/-! The law's act: skew -/
set_option maxRecDepth 100000 in
set_option maxHeartbeats 400000 in
theorem act_skew {φ : Fx} {cy : CY} {bs : Nat} {ba : Nat → Nat} {ob : Nat} {h : HS} {V M : MS} {k n : Nat} {x y t kd dv ac nd : Int} (C : Cx φ cL_law RL ret cy) (hR : ROf φ = RLaw) (hn : nLof φ = 19) (hk : k + 100 ≤ 600074 ∧ n + 1000 ≤ 7301550) (G : GF ob h V M) (hnw : M 1 0 ≤ 84000) (hx : -2147483648 ≤ x ∧ x ≤ 2147483647) (hy : -2147483648 ≤ y ∧ y ≤ 2147483647) (hdv : 0 ≤ dv ∧ dv < 3) (hac : -1 ≤ ac ∧ ac < 3) (hnd : 0 ≤ nd ∧ nd < 6)  (K : ∀ (h' : HS) (V' M' : MS), GI ob h' V' M' → M' 1 0 ≤ M 1 0 + 1500 → X φ (LA cy ba (h', V')) (k + 100) (n + 1000) 810 (LL bs ob ba (M' 2 0) (M' 1 0) t y) []) : X φ (LA cy ba (h, V)) k n 281 (LF bs ob ba (M 2 0) (M 1 0) t x y kd dv ac nd) [] := by
  have hst := C.st
  obtain ⟨⟨R, hL, hX, hN⟩, hlow, hP⟩ := G
  have hM := R.mi
  have hn0 := hM.n
  have hnow := hM.now
  refine x_iload C dL_law_281 rfl ?_
  refine x_sipush C dL_law_283 (by decide) ?_
  refine x_callS C hR cb_L_low u3_11 u3_10 (k_L_low hst (by first | omega | exact bOp_in _ _ _) (by decide)) rfl (Nat.le_of_ble_eq_true rfl) rfl dL_law_286 (by decide) (by show _ ≤ 600074 ∧ _ ≤ 7301550; omega) (fun E x9 h9 => absurd h9.1 (by intro h; cases h)) (fun r9 x9 h9 => ?_)
  obtain ⟨e9, rfl⟩ := h9
  cases e9
  obtain ⟨sk, hsk⟩ : ∃ z, z = lwF y 400 := ⟨_, rfl⟩
  rw [← hsk]
  have gsk := lwF_in (v := y) (n := 400) (by decide)
  rw [← hsk] at gsk
  refine x_sipush C dL_law_289 (by decide) ?_
  refine x_isub C dL_law_292 ?_
  refine x_istore C dL_law_293 (by rw [hn]; exact Nat.le_of_ble_eq_true rfl) ?_
  have hw := (hL.2.1 dv hdv.1 hdv.2).1
  have hsk := hM.sk dv (by omega) (by omega)
  refine x_aload_n C dL_law_295 rfl rfl ?_
  refine x_iload C dL_law_296 rfl ?_
  refine a_iald (f := 1) (N := 15) C rfl (by decide) (by first | omega | exact bi_rng _) dL_law_298 ?_
  refine x_istore C dL_law_299 (by rw [hn]; exact Nat.le_of_ble_eq_true rfl) ?_
  refine x_aload_n C dL_law_301 rfl rfl ?_
  refine x_iload C dL_law_302 rfl ?_
  refine x_iload C dL_law_304 rfl ?_
  refine a_iast (f := 1) (N := 15) C rfl (by decide) (by first | omega | exact bi_rng _) (wsA_st1 _ _ _ (by first | omega | exact bi_rng _) _) dL_law_306 ?_
  refine x_aload_n C dL_law_307 rfl rfl ?_
  refine x_iload C dL_law_308 rfl ?_
  refine x_iload C dL_law_310 rfl ?_
  refine x_callV C hR cb_X6_skew cv_X6_skew u7_20 (q_skew hst R (by omega) (by omega)) (a_recvH R.k (by decide)) ⟨_, _, rfl⟩ rfl (Nat.le_of_ble_eq_true rfl) rfl dL_law_312 (by decide) (by show _ ≤ 600074 ∧ _ ≤ 7301550; omega) (fun E x9 h9 => absurd h9.1 (by intro h; cases h)) (fun r9 x9 h9 => ?_)
  obtain ⟨e9, h9x, rfl, R⟩ := h9
  cases e9
  refine x_iload C dL_law_315 rfl ?_
  refine x_icmp_eq (tgt := 322) C dL_law_317 (by decide) (by first | omega | exact bi_rng _) (by first | omega | exact bi_rng _) (fun h317 => ?_) (fun h317 => ?_)
  ·
    refine x_goto (tgt := 810) C dL_law_322 (by decide) ?_
    exact X.mono (by omega) (by omega) (X.to (K _ _ _ ⟨R, hL.sk hdv, hX.sm (Sm.set M 11 dv _), by rw [mset_ne (by decide)]; exact hN⟩ (by rw [mset_ne (by decide)]; omega)) (lsc (rfl) (lsc (rfl) (lsc (rfl) (lsc (rfl) (lsc (rfl) (lsc (rfl) (lsc (rfl) (lsc (lkv (by rw [mset_ne (by decide)])) (lsc (lkv (by rw [mset_ne (by decide)])) (lsc (rfl) (lsc (rfl) (lsn)))))))))))))
  ·
    exfalso; omega

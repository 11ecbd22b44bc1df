/-! The law's act: share -/
set_option maxRecDepth 100000 in
set_option maxHeartbeats 400000 in
theorem act_share {φ : Fx} {cy : CY} {bs : Nat} {ba : Nat → Nat} {ob : Nat} {h : HS} {V M : MS} {k n : Nat} {x y t kd dv ac nd : Int} (C : Cx φ cL_law RL ret cy) (hR : ROf φ = RLaw) (hn : nLof φ = 19) (hk : k + 100 ≤ 600074 ∧ n + 1000 ≤ 7301550) (G : GF ob h V M) (hnw : M 1 0 ≤ 84000) (hx : -2147483648 ≤ x ∧ x ≤ 2147483647) (hy : -2147483648 ≤ y ∧ y ≤ 2147483647) (hdv : 0 ≤ dv ∧ dv < 3) (hac : -1 ≤ ac ∧ ac < 3) (hnd : 0 ≤ nd ∧ nd < 6)  (K : ∀ (h' : HS) (V' M' : MS), GI ob h' V' M' → M' 1 0 ≤ M 1 0 + 1500 → X φ (LA cy ba (h', V')) (k + 100) (n + 1000) 810 (LL bs ob ba (M' 2 0) (M' 1 0) t y) []) : X φ (LA cy ba (h, V)) k n 332 (LF bs ob ba (M 2 0) (M 1 0) t x y kd dv ac nd) [] := by
  have hst := C.st
  obtain ⟨⟨R, hL, hX, hN⟩, hlow, hP⟩ := G
  have hM := R.mi
  have hn0 := hM.n
  have hnow := hM.now
  have hw := (hL.2.1 dv hdv.1 hdv.2).2.1
  have h12 := hM.b12 dv
  have K349 : ∀ was : Int, was = M 12 dv → X φ (LA cy ba (h, V)) k n 349 [(0, vr (some bs)), (1, vr (some ob)), (2, vr (some (ba 0))), (3, vr (some (ba 1))), (4, vr (some (ba 2))), (5, vr (some (ba 3))), (6, vr (some (ba 4))), (7, vi (M 2 0)), (8, vi (M 1 0)), (9, vi t), (10, vi x), (11, vi y), (12, vi kd), (13, vi dv), (14, vi ac), (15, vi nd), (16, vi was)] [] := by
    intro was hwas
    refine x_aload_n C dL_law_349 rfl rfl ?_
    refine x_iconst C dL_law_350 ?_
    refine x_iload C dL_law_351 rfl ?_
    refine x_iadd C dL_law_353 ?_
    refine x_iload C dL_law_354 rfl ?_
    refine x_iconst C dL_law_356 ?_
    refine x_callS C hR cb_L_low u3_11 u3_10 (k_L_low hst (by first | omega | exact bOp_in _ _ _) (by decide)) rfl (Nat.le_of_ble_eq_true rfl) rfl dL_law_357 (by decide) (by show _ ≤ 600074 ∧ _ ≤ 7301550; omega) (fun E x9 h9 => absurd h9.1 (by intro h; cases h)) (fun r9 x9 h9 => ?_)
    obtain ⟨e9, rfl⟩ := h9
    cases e9
    obtain ⟨l2, hl2⟩ : ∃ z, z = lwF y 2 := ⟨_, rfl⟩
    rw [← hl2]
    have gl2 := lwF_in (v := y) (n := 2) (by decide)
    rw [← hl2] at gl2
    refine a_iast (f := 1) (N := 15) C rfl (by decide) (by first | omega | exact bi_rng _) (wsA_st1 _ _ _ (by first | omega | exact bi_rng _) _) dL_law_360 ?_
    have K379 : ∀ is : Int, (is = 1 ∧ l2 = 1) ∨ (is = 0 ∧ ¬ l2 = 1) → X φ (LA cy ba (h, mset V 1 (3 + dv) l2)) (k + 0 + 0) (n + 0 + 0) 379 [(0, vr (some bs)), (1, vr (some ob)), (2, vr (some (ba 0))), (3, vr (some (ba 1))), (4, vr (some (ba 2))), (5, vr (some (ba 3))), (6, vr (some (ba 4))), (7, vi (M 2 0)), (8, vi (M 1 0)), (9, vi t), (10, vi x), (11, vi y), (12, vi kd), (13, vi dv), (14, vi ac), (15, vi nd), (16, vi was)] [vi is, vi dv, vr (some ob)] := by
      intro is his
      have e2 : is = l2 := by omega
      subst e2
      refine x_callV C hR cb_X6_share cv_X6_share u8_14 (q_share hst R (by omega) (by omega)) (a_recvH R.k (by decide)) ⟨_, _, rfl⟩ rfl (Nat.le_of_ble_eq_true rfl) rfl dL_law_379 (by decide) (by show _ ≤ 600074 ∧ _ ≤ 7301550; omega) (fun E x9 h9 => absurd h9.1 (by intro h; cases h)) (fun r9 x9 h9 => ?_)
      obtain ⟨e9, h9x, rfl, R⟩ := h9
      cases e9
      refine x_iload C dL_law_382 rfl ?_
      refine x_icmp_eq (tgt := 389) C dL_law_384 (by decide) (by first | omega | exact bi_rng _) (by first | omega | exact bi_rng _) (fun h384 => ?_) (fun h384 => ?_)
      ·
        refine x_goto (tgt := 810) C dL_law_389 (by decide) ?_
        exact X.mono (by omega) (by omega) (X.to (K _ _ _ ⟨R, hL.sh hdv, hX.sm (Sm.set M 12 dv _), by rw [mset_ne (by decide)]; exact hN⟩ (by rw [mset_ne (by decide)]; omega)) (lsc (rfl) (lsc (rfl) (lsc (rfl) (lsc (rfl) (lsc (rfl) (lsc (rfl) (lsc (rfl) (lsc (lkv (by rw [mset_ne (by decide)])) (lsc (lkv (by rw [mset_ne (by decide)])) (lsc (rfl) (lsc (rfl) (lsn)))))))))))))
      ·
        exfalso; omega
    refine x_aload_n C dL_law_361 rfl rfl ?_
    refine x_iload C dL_law_362 rfl ?_
    refine x_iload C dL_law_364 rfl ?_
    refine x_iconst C dL_law_366 ?_
    refine x_callS C hR cb_L_low u3_11 u3_10 (k_L_low hst (by first | omega | exact bOp_in _ _ _) (by decide)) rfl (Nat.le_of_ble_eq_true rfl) rfl dL_law_367 (by decide) (by show _ ≤ 600074 ∧ _ ≤ 7301550; omega) (fun E x9 h9 => absurd h9.1 (by intro h; cases h)) (fun r9 x9 h9 => ?_)
    obtain ⟨e9, rfl⟩ := h9
    cases e9
    rw [← hl2]
    refine x_iconst C dL_law_370 ?_
    refine x_icmp_ne (tgt := 378) C dL_law_371 (by decide) (by first | omega | exact bi_rng _) (by first | omega | exact bi_rng _) (fun h371 => ?_) (fun h371 => ?_)
    ·
      refine x_iconst C dL_law_378 ?_
      exact X.to (K379 _ (Or.inr ⟨rfl, by omega⟩)) (lsc (rfl) (lsc (rfl) (lsc (rfl) (lsc (rfl) (lsc (rfl) (lsc (rfl) (lsc (rfl) (lsc (rfl) (lsc (rfl) (lsc (rfl) (lsc (rfl) (lsc (rfl) (lsc (rfl) (lsc (rfl) (lsc (rfl) (lsc (rfl) (lsc (rfl) (lsn))))))))))))))))))
    ·
      refine x_iconst C dL_law_374 ?_
      refine x_goto (tgt := 379) C dL_law_375 (by decide) ?_
      exact X.to (K379 _ (Or.inl ⟨rfl, by omega⟩)) (lsc (rfl) (lsc (rfl) (lsc (rfl) (lsc (rfl) (lsc (rfl) (lsc (rfl) (lsc (rfl) (lsc (rfl) (lsc (rfl) (lsc (rfl) (lsc (rfl) (lsc (rfl) (lsc (rfl) (lsc (rfl) (lsc (rfl) (lsc (rfl) (lsc (rfl) (lsn))))))))))))))))))
  refine x_aload_n C dL_law_332 rfl rfl ?_
  refine x_iconst C dL_law_333 ?_
  refine x_iload C dL_law_334 rfl ?_
  refine x_iadd C dL_law_336 ?_
  refine a_iald (f := 1) (N := 15) C rfl (by decide) (by first | omega | exact bi_rng _) dL_law_337 ?_
  refine x_iconst C dL_law_338 ?_
  refine x_icmp_ne (tgt := 346) C dL_law_339 (by decide) (by first | omega | exact bi_rng _) (by first | omega | exact bi_rng _) (fun h339 => ?_) (fun h339 => ?_)
  ·
    refine x_iconst C dL_law_346 ?_
    refine x_istore C dL_law_347 (by rw [hn]; exact Nat.le_of_ble_eq_true rfl) ?_
    exact X.to (K349 _ (by omega)) (lsc (rfl) (lsc (rfl) (lsc (rfl) (lsc (rfl) (lsc (rfl) (lsc (rfl) (lsc (rfl) (lsc (rfl) (lsc (rfl) (lsc (rfl) (lsc (rfl) (lsc (rfl) (lsc (rfl) (lsc (rfl) (lsc (rfl) (lsc (rfl) (lsc (rfl) (lsn))))))))))))))))))
  ·
    refine x_iconst C dL_law_342 ?_
    refine x_goto (tgt := 347) C dL_law_343 (by decide) ?_
    refine x_istore C dL_law_347 (by rw [hn]; exact Nat.le_of_ble_eq_true rfl) ?_
    exact X.to (K349 _ (by omega)) (lsc (rfl) (lsc (rfl) (lsc (rfl) (lsc (rfl) (lsc (rfl) (lsc (rfl) (lsc (rfl) (lsc (rfl) (lsc (rfl) (lsc (rfl) (lsc (rfl) (lsc (rfl) (lsc (rfl) (lsc (rfl) (lsc (rfl) (lsc (rfl) (lsc (rfl) (lsn))))))))))))))))))

/-! The law's act: link -/
set_option maxRecDepth 100000 in
set_option maxHeartbeats 400000 in
theorem act_link {φ : Fx} {cy : CY} {bs : Nat} {ba : Nat → Nat} {ob : Nat} {h : HS} {V M : MS} {k n : Nat} {x y t kd dv ac nd : Int} (C : Cx φ cL_law RL ret cy) (hR : ROf φ = RLaw) (hn : nLof φ = 19) (hk : k + 100 ≤ 600074 ∧ n + 1000 ≤ 7301550) (G : GF ob h V M) (hnw : M 1 0 ≤ 84000) (hx : -2147483648 ≤ x ∧ x ≤ 2147483647) (hy : -2147483648 ≤ y ∧ y ≤ 2147483647) (hdv : 0 ≤ dv ∧ dv < 3) (hac : -1 ≤ ac ∧ ac < 3) (hnd : 0 ≤ nd ∧ nd < 6) (h0 : 0 ≤ ac) (K : ∀ (h' : HS) (V' M' : MS), GI ob h' V' M' → M' 1 0 ≤ M 1 0 + 1500 → X φ (LA cy ba (h', V')) (k + 100) (n + 1000) 810 (LL bs ob ba (M' 2 0) (M' 1 0) t y) []) : X φ (LA cy ba (h, V)) k n 404 (LF bs ob ba (M 2 0) (M 1 0) t x y kd dv ac nd) [] := by
  have hst := C.st
  obtain ⟨⟨R, hL, hX, hN⟩, hlow, hP⟩ := G
  have hM := R.mi
  have hn0 := hM.n
  have hnow := hM.now
  have hw := (hL.2.1 dv hdv.1 hdv.2).2.2 ac h0 hac.2
  have h13 := hM.b13 (10 * dv + ac)
  have K426 : ∀ was : Int, was = 1 - M 13 (10 * dv + ac) → X φ (LA cy ba (h, V)) k n 426 [(0, vr (some bs)), (1, vr (some ob)), (2, vr (some (ba 0))), (3, vr (some (ba 1))), (4, vr (some (ba 2))), (5, vr (some (ba 3))), (6, vr (some (ba 4))), (7, vi (M 2 0)), (8, vi (M 1 0)), (9, vi t), (10, vi x), (11, vi y), (12, vi kd), (13, vi dv), (14, vi ac), (15, vi nd), (16, vi was)] [] := by
    intro was hwas
    refine x_aload_n C dL_law_426 rfl rfl ?_
    refine x_bipush C dL_law_427 (by decide) ?_
    refine x_iconst C dL_law_429 ?_
    refine x_iload C dL_law_430 rfl ?_
    refine x_imul C dL_law_432 ?_
    refine x_iadd C dL_law_433 ?_
    refine x_iload C dL_law_434 rfl ?_
    refine x_iadd C dL_law_436 ?_
    refine x_iload C dL_law_437 rfl ?_
    refine x_iconst C dL_law_439 ?_
    refine x_callS C hR cb_L_low u3_11 u3_10 (k_L_low hst (by first | omega | exact bOp_in _ _ _) (by decide)) rfl (Nat.le_of_ble_eq_true rfl) rfl dL_law_440 (by decide) (by show _ ≤ 600074 ∧ _ ≤ 7301550; omega) (fun E x9 h9 => absurd h9.1 (by intro h; cases h)) (fun r9 x9 h9 => ?_)
    obtain ⟨e9, rfl⟩ := h9
    cases e9
    obtain ⟨l2, hl2⟩ : ∃ z, z = lwF y 2 := ⟨_, rfl⟩
    rw [← hl2]
    have gl2 := lwF_in (v := y) (n := 2) (by decide)
    rw [← hl2] at gl2
    refine a_iast (f := 1) (N := 15) C rfl (by decide) (by first | omega | exact bi_rng _) (wsA_st1 _ _ _ (by first | omega | exact bi_rng _) _) dL_law_443 ?_
    have K463 : ∀ is : Int, (is = 1 ∧ l2 = 0) ∨ (is = 0 ∧ ¬ l2 = 0) → X φ (LA cy ba (h, mset V 1 (6 + 3 * dv + ac) l2)) (k + 0 + 0) (n + 0 + 0) 463 [(0, vr (some bs)), (1, vr (some ob)), (2, vr (some (ba 0))), (3, vr (some (ba 1))), (4, vr (some (ba 2))), (5, vr (some (ba 3))), (6, vr (some (ba 4))), (7, vi (M 2 0)), (8, vi (M 1 0)), (9, vi t), (10, vi x), (11, vi y), (12, vi kd), (13, vi dv), (14, vi ac), (15, vi nd), (16, vi was)] [vi is, vi ac, vi dv, vr (some ob)] := by
      intro is his
      obtain ⟨l3, hl3⟩ : ∃ z, z = 1 - is := ⟨_, rfl⟩
      have e2 : l2 = l3 := by omega
      subst e2
      refine x_callV C hR cb_X6_link cv_X6_link u9_3 (q_link hst R (by omega) (by omega) (by omega)) (a_recvH R.k (by decide)) ⟨_, _, rfl⟩ rfl (Nat.le_of_ble_eq_true rfl) rfl dL_law_463 (by decide) (by show _ ≤ 600074 ∧ _ ≤ 7301550; omega) (fun E x9 h9 => absurd h9.1 (by intro h; cases h)) (fun r9 x9 h9 => ?_)
      obtain ⟨e9, h9x, rfl, R⟩ := h9
      cases e9
      refine x_iload C dL_law_466 rfl ?_
      refine x_icmp_eq (tgt := 473) C dL_law_468 (by decide) (by first | omega | exact bi_rng _) (by first | omega | exact bi_rng _) (fun h468 => ?_) (fun h468 => ?_)
      ·
        refine x_goto (tgt := 810) C dL_law_473 (by decide) ?_
        exact X.mono (by omega) (by omega) (X.to (K _ _ _ ⟨R, by rw [← hl3]; exact hL.li hdv ⟨h0, hac.2⟩, hX.sm (Sm.set M 13 _ _), by rw [mset_ne (by decide)]; exact hN⟩ (by rw [mset_ne (by decide)]; omega)) (lsc (rfl) (lsc (rfl) (lsc (rfl) (lsc (rfl) (lsc (rfl) (lsc (rfl) (lsc (rfl) (lsc (lkv (by rw [mset_ne (by decide)])) (lsc (lkv (by rw [mset_ne (by decide)])) (lsc (rfl) (lsc (rfl) (lsn)))))))))))))
      ·
        exfalso; omega
    refine x_aload_n C dL_law_444 rfl rfl ?_
    refine x_iload C dL_law_445 rfl ?_
    refine x_iload C dL_law_447 rfl ?_
    refine x_iload C dL_law_449 rfl ?_
    refine x_iconst C dL_law_451 ?_
    refine x_callS C hR cb_L_low u3_11 u3_10 (k_L_low hst (by first | omega | exact bOp_in _ _ _) (by decide)) rfl (Nat.le_of_ble_eq_true rfl) rfl dL_law_452 (by decide) (by show _ ≤ 600074 ∧ _ ≤ 7301550; omega) (fun E x9 h9 => absurd h9.1 (by intro h; cases h)) (fun r9 x9 h9 => ?_)
    obtain ⟨e9, rfl⟩ := h9
    cases e9
    rw [← hl2]
    refine x_if_ne (tgt := 462) C dL_law_455 (by decide) (by first | omega | exact bi_rng _) (fun h455 => ?_) (fun h455 => ?_)
    ·
      refine x_iconst C dL_law_462 ?_
      exact X.to (K463 _ (Or.inr ⟨rfl, by omega⟩)) (lsc (rfl) (lsc (rfl) (lsc (rfl) (lsc (rfl) (lsc (rfl) (lsc (rfl) (lsc (rfl) (lsc (rfl) (lsc (rfl) (lsc (rfl) (lsc (rfl) (lsc (rfl) (lsc (rfl) (lsc (rfl) (lsc (rfl) (lsc (rfl) (lsc (rfl) (lsn))))))))))))))))))
    ·
      refine x_iconst C dL_law_458 ?_
      refine x_goto (tgt := 463) C dL_law_459 (by decide) ?_
      exact X.to (K463 _ (Or.inl ⟨rfl, by omega⟩)) (lsc (rfl) (lsc (rfl) (lsc (rfl) (lsc (rfl) (lsc (rfl) (lsc (rfl) (lsc (rfl) (lsc (rfl) (lsc (rfl) (lsc (rfl) (lsc (rfl) (lsc (rfl) (lsc (rfl) (lsc (rfl) (lsc (rfl) (lsc (rfl) (lsc (rfl) (lsn))))))))))))))))))
  refine x_aload_n C dL_law_404 rfl rfl ?_
  refine x_bipush C dL_law_405 (by decide) ?_
  refine x_iconst C dL_law_407 ?_
  refine x_iload C dL_law_408 rfl ?_
  refine x_imul C dL_law_410 ?_
  refine x_iadd C dL_law_411 ?_
  refine x_iload C dL_law_412 rfl ?_
  refine x_iadd C dL_law_414 ?_
  refine a_iald (f := 1) (N := 15) C rfl (by decide) (by first | omega | exact bi_rng _) dL_law_415 ?_
  refine x_if_ne (tgt := 423) C dL_law_416 (by decide) (by first | omega | exact bi_rng _) (fun h416 => ?_) (fun h416 => ?_)
  ·
    refine x_iconst C dL_law_423 ?_
    refine x_istore C dL_law_424 (by rw [hn]; exact Nat.le_of_ble_eq_true rfl) ?_
    exact X.to (K426 _ (by omega)) (lsc (rfl) (lsc (rfl) (lsc (rfl) (lsc (rfl) (lsc (rfl) (lsc (rfl) (lsc (rfl) (lsc (rfl) (lsc (rfl) (lsc (rfl) (lsc (rfl) (lsc (rfl) (lsc (rfl) (lsc (rfl) (lsc (rfl) (lsc (rfl) (lsc (rfl) (lsn))))))))))))))))))
  ·
    refine x_iconst C dL_law_419 ?_
    refine x_goto (tgt := 424) C dL_law_420 (by decide) ?_
    refine x_istore C dL_law_424 (by rw [hn]; exact Nat.le_of_ble_eq_true rfl) ?_
    exact X.to (K426 _ (by omega)) (lsc (rfl) (lsc (rfl) (lsc (rfl) (lsc (rfl) (lsc (rfl) (lsc (rfl) (lsc (rfl) (lsc (rfl) (lsc (rfl) (lsc (rfl) (lsc (rfl) (lsc (rfl) (lsc (rfl) (lsc (rfl) (lsc (rfl) (lsc (rfl) (lsc (rfl) (lsn))))))))))))))))))

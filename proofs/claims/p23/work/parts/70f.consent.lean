/-! The law's act: consent -/
set_option maxRecDepth 100000 in
set_option maxHeartbeats 400000 in
theorem act_consent {φ : Fx} {cy : CY} {bs : Nat} {ba : Nat → Nat} {ob : Nat} {h : HS} {V M : MS} {k n : Nat} {x y t kd dv ac nd : Int} (C : Cx φ cL_law RL ret cy) (hR : ROf φ = RLaw) (hn : nLof φ = 19) (hk : k + 100 ≤ 600074 ∧ n + 1000 ≤ 7301550) (G : GF ob h V M) (hnw : M 1 0 ≤ 84000) (hx : -2147483648 ≤ x ∧ x ≤ 2147483647) (hy : -2147483648 ≤ y ∧ y ≤ 2147483647) (hdv : 0 ≤ dv ∧ dv < 3) (hac : -1 ≤ ac ∧ ac < 3) (hnd : 0 ≤ nd ∧ nd < 6) (h4 : V 4 nd < 6) (K : ∀ (h' : HS) (V' M' : MS), GI ob h' V' M' → M' 1 0 ≤ M 1 0 + 1500 → X φ (LA cy ba (h', V')) (k + 100) (n + 1000) 810 (LL bs ob ba (M' 2 0) (M' 1 0) t y) []) : X φ (LA cy ba (h, V)) k n 493 (LF bs ob ba (M 2 0) (M 1 0) t x y kd dv ac nd) [] := by
  have hst := C.st
  obtain ⟨⟨R, hL, hX, hN⟩, hlow, hP⟩ := G
  have hM := R.mi
  have hn0 := hM.n
  have hnow := hM.now
  have q2 := hL.2.2 nd hnd.1 hnd.2
  have hnn := nn_in hnd
  have h14 := hM.ch (4 * nn nd) (by omega) (by omega)
  have h40 : 0 ≤ V 4 nd := by omega
  have K527 : ∀ fr : Int, (0 ≤ fr ∧ fr ≤ M 1 0) → X φ (LA cy ba (h, V)) (k + 0 + 0) (n + 0 + 0) 527 [(0, vr (some bs)), (1, vr (some ob)), (2, vr (some (ba 0))), (3, vr (some (ba 1))), (4, vr (some (ba 2))), (5, vr (some (ba 3))), (6, vr (some (ba 4))), (7, vi (M 2 0)), (8, vi (M 1 0)), (9, vi t), (10, vi x), (11, vi y), (12, vi kd), (13, vi dv), (14, vi ac), (15, vi nd)] [vi fr] := by
    intro fr hfr
    have K546 : ∀ gi : Int, (gi = 0 ∨ gi = 1) → X φ (LA cy ba (h, V)) (k + 0 + 0 + 0) (n + 0 + 0 + 0) 546 [(0, vr (some bs)), (1, vr (some ob)), (2, vr (some (ba 0))), (3, vr (some (ba 1))), (4, vr (some (ba 2))), (5, vr (some (ba 3))), (6, vr (some (ba 4))), (7, vi (M 2 0)), (8, vi (M 1 0)), (9, vi t), (10, vi x), (11, vi y), (12, vi kd), (13, vi dv), (14, vi ac), (15, vi nd), (16, vi fr)] [vi gi] := by
      intro gi hgi
      have K609 : ∀ is : Int, is = gi → X φ (LA cy ba (h, (mset (mset V 3 (6 * nd + V 4 nd) (2 * fr + gi)) 4 nd (V 4 nd + 1)))) k n 609 [(0, vr (some bs)), (1, vr (some ob)), (2, vr (some (ba 0))), (3, vr (some (ba 1))), (4, vr (some (ba 2))), (5, vr (some (ba 3))), (6, vr (some (ba 4))), (7, vi (M 2 0)), (8, vi (M 1 0)), (9, vi t), (10, vi x), (11, vi y), (12, vi kd), (13, vi dv), (14, vi ac), (15, vi nd), (16, vi fr), (17, vi gi)] [vi is, vi fr, vi 0, vi (nn nd), vr (some ob)] := by
        intro is his
        rw [his]
        refine x_callV C hR cb_X6_consent cv_X6_consent u9_12 (q_consent hst R (by omega) (by omega) hgi (by omega)) (a_recvH R.k (by decide)) ⟨_, _, rfl⟩ rfl (Nat.le_of_ble_eq_true rfl) rfl dL_law_609 (by decide) (by show _ ≤ 600074 ∧ _ ≤ 7301550; omega) (fun E x9 h9 => absurd h9.1 (by intro h; cases h)) (fun r9 x9 h9 => ?_)
        obtain ⟨e9, h9x, rfl, R⟩ := h9
        cases e9
        refine x_aload C dL_law_612 rfl ?_
        refine x_iload C dL_law_614 rfl ?_
        refine a_iald (f := 4) (N := 6) C rfl (by decide) (by first | omega | exact bi_rng _) dL_law_616 ?_
        have e4 : (mset (mset V 3 (6 * nd + V 4 nd) (2 * fr + gi)) 4 nd (V 4 nd + 1)) 4 nd = V 4 nd + 1 := mset_eq _ _ _ _
        rw [e4]
        refine x_icmp_eq (tgt := 622) C dL_law_617 (by decide) (by first | omega | exact bi_rng _) (by first | omega | exact bi_rng _) (fun h617 => ?_) (fun h617 => ?_)
        ·
          refine x_goto (tgt := 810) C dL_law_622 (by decide) ?_
          exact X.mono (by omega) (by omega) (X.to (K _ _ _ ⟨R, hL.co hnd h4 h40, hX.sm (conM_sm M _ _ _), by rw [co_o2]; exact hN⟩ (by rw [co_o1]; omega)) (lsc (rfl) (lsc (rfl) (lsc (rfl) (lsc (rfl) (lsc (rfl) (lsc (rfl) (lsc (rfl) (lsc (lkv (by rw [co_o2])) (lsc (lkv (by rw [co_o1])) (lsc (rfl) (lsc (rfl) (lsn)))))))))))))
        ·
          exfalso; omega
      have K595 : ∀ its : Int, its = nn nd → X φ (LA cy ba (h, (mset (mset V 3 (6 * nd + V 4 nd) (2 * fr + gi)) 4 nd (V 4 nd + 1)))) k n 595 [(0, vr (some bs)), (1, vr (some ob)), (2, vr (some (ba 0))), (3, vr (some (ba 1))), (4, vr (some (ba 2))), (5, vr (some (ba 3))), (6, vr (some (ba 4))), (7, vi (M 2 0)), (8, vi (M 1 0)), (9, vi t), (10, vi x), (11, vi y), (12, vi kd), (13, vi dv), (14, vi ac), (15, vi nd), (16, vi fr), (17, vi gi)] [vi its, vr (some ob)] := by
        intro its hits
        subst hits
        refine x_iconst C dL_law_595 ?_
        refine x_iload C dL_law_596 rfl ?_
        refine x_iload C dL_law_598 rfl ?_
        refine x_iconst C dL_law_600 ?_
        refine x_icmp_ne (tgt := 608) C dL_law_601 (by decide) (by first | omega | exact bi_rng _) (by first | omega | exact bi_rng _) (fun h601 => ?_) (fun h601 => ?_)
        ·
          refine x_iconst C dL_law_608 ?_
          exact X.mono (by omega) (by omega) (X.to (K609 0 (by omega)) (lsc (rfl) (lsc (rfl) (lsc (rfl) (lsc (rfl) (lsc (rfl) (lsc (rfl) (lsc (rfl) (lsc (rfl) (lsc (rfl) (lsc (rfl) (lsc (rfl) (lsc (rfl) (lsc (rfl) (lsc (rfl) (lsc (rfl) (lsc (rfl) (lsc (rfl) (lsc (rfl) (lsn))))))))))))))))))))
        ·
          refine x_iconst C dL_law_604 ?_
          refine x_goto (tgt := 609) C dL_law_605 (by decide) ?_
          exact X.mono (by omega) (by omega) (X.to (K609 1 (by omega)) (lsc (rfl) (lsc (rfl) (lsc (rfl) (lsc (rfl) (lsc (rfl) (lsc (rfl) (lsc (rfl) (lsc (rfl) (lsc (rfl) (lsc (rfl) (lsc (rfl) (lsc (rfl) (lsc (rfl) (lsc (rfl) (lsc (rfl) (lsc (rfl) (lsc (rfl) (lsc (rfl) (lsn))))))))))))))))))))
      refine x_istore C dL_law_546 (by rw [hn]; exact Nat.le_of_ble_eq_true rfl) ?_
      refine x_aload C dL_law_548 rfl ?_
      refine x_bipush C dL_law_550 (by decide) ?_
      refine x_iload C dL_law_552 rfl ?_
      refine x_imul C dL_law_554 ?_
      refine x_aload C dL_law_555 rfl ?_
      refine x_iload C dL_law_557 rfl ?_
      refine a_iald (f := 4) (N := 6) C rfl (by decide) (by first | omega | exact bi_rng _) dL_law_559 ?_
      refine x_iadd C dL_law_560 ?_
      refine x_iconst C dL_law_561 ?_
      refine x_iload C dL_law_562 rfl ?_
      refine x_imul C dL_law_564 ?_
      refine x_iload C dL_law_565 rfl ?_
      refine x_iadd C dL_law_567 ?_
      refine a_iast (f := 3) (N := 36) C rfl (by decide) (by first | omega | exact bi_rng _) (wsA_st3 _ _ _ (by first | omega | exact bi_rng _) _) dL_law_568 ?_
      refine x_aload C dL_law_569 rfl ?_
      refine x_iload C dL_law_571 rfl ?_
      refine x_dup2 C dL_law_573 (by first | rfl | exact vr_cat _ | exact vi_cat _) (by first | rfl | exact vr_cat _ | exact vi_cat _) ?_
      refine a_iald (f := 4) (N := 6) C rfl (by decide) (by first | omega | exact bi_rng _) dL_law_574 ?_
      rw [show mset V 3 (6 * nd + V 4 nd) (2 * fr + gi) 4 nd = V 4 nd from mset_ne (by decide) _ _ _ _]
      refine x_iconst C dL_law_575 ?_
      refine x_iadd C dL_law_576 ?_
      refine a_iast (f := 4) (N := 6) C rfl (by decide) (by first | omega | exact bi_rng _) (wsA_st4 _ _ _ (by first | omega | exact bi_rng _) _) dL_law_577 ?_
      refine x_aload_n C dL_law_578 rfl rfl ?_
      refine x_iload C dL_law_579 rfl ?_
      refine x_iconst C dL_law_581 ?_
      refine x_icmp_ge (tgt := 590) C dL_law_582 (by decide) (by first | omega | exact bi_rng _) (by first | omega | exact bi_rng _) (fun h582 => ?_) (fun h582 => ?_)
      ·
        refine x_bipush C dL_law_590 (by decide) ?_
        refine x_iload C dL_law_592 rfl ?_
        refine x_iadd C dL_law_594 ?_
        exact X.mono (by omega) (by omega) (X.to (K595 _ (by first | rw [nn_hi (by omega)] | rw [nn_lo (by omega)])) (lsc (rfl) (lsc (rfl) (lsc (rfl) (lsc (rfl) (lsc (rfl) (lsc (rfl) (lsc (rfl) (lsc (rfl) (lsc (rfl) (lsc (rfl) (lsc (rfl) (lsc (rfl) (lsc (rfl) (lsc (rfl) (lsc (rfl) (lsc (rfl) (lsc (rfl) (lsc (rfl) (lsn))))))))))))))))))))
      ·
        refine x_iload C dL_law_585 rfl ?_
        refine x_goto (tgt := 595) C dL_law_587 (by decide) ?_
        exact X.mono (by omega) (by omega) (X.to (K595 _ (by first | rw [nn_hi (by omega)] | rw [nn_lo (by omega)])) (lsc (rfl) (lsc (rfl) (lsc (rfl) (lsc (rfl) (lsc (rfl) (lsc (rfl) (lsc (rfl) (lsc (rfl) (lsc (rfl) (lsc (rfl) (lsc (rfl) (lsc (rfl) (lsc (rfl) (lsc (rfl) (lsc (rfl) (lsc (rfl) (lsc (rfl) (lsc (rfl) (lsn))))))))))))))))))))
    refine x_istore C dL_law_527 (by rw [hn]; exact Nat.le_of_ble_eq_true rfl) ?_
    refine x_iload C dL_law_529 rfl ?_
    refine x_bipush C dL_law_531 (by decide) ?_
    refine x_ishr C dL_law_533 ?_
    refine x_iconst C dL_law_534 ?_
    refine x_callS C hR cb_L_low u3_11 u3_10 (k_L_low hst (by first | omega | exact bOp_in _ _ _) (by decide)) rfl (Nat.le_of_ble_eq_true rfl) rfl dL_law_535 (by decide) (by show _ ≤ 600074 ∧ _ ≤ 7301550; omega) (fun E x9 h9 => absurd h9.1 (by intro h; cases h)) (fun r9 x9 h9 => ?_)
    obtain ⟨e9, rfl⟩ := h9
    cases e9
    obtain ⟨gg, hgg⟩ : ∃ z, z = lwF (bOp (fun x y => x >>> (y &&& 31)) y 16) 4 := ⟨_, rfl⟩
    rw [← hgg]
    have ggg := lwF_in (v := (bOp (fun x y => x >>> (y &&& 31)) y 16)) (n := 4) (by decide)
    rw [← hgg] at ggg
    refine x_if_ne (tgt := 545) C dL_law_538 (by decide) (by first | omega | exact bi_rng _) (fun h538 => ?_) (fun h538 => ?_)
    ·
      refine x_iconst C dL_law_545 ?_
      exact X.mono (by omega) (by omega) (X.to (K546 1 (by decide)) (lsc (rfl) (lsc (rfl) (lsc (rfl) (lsc (rfl) (lsc (rfl) (lsc (rfl) (lsc (rfl) (lsc (rfl) (lsc (rfl) (lsc (rfl) (lsc (rfl) (lsc (rfl) (lsc (rfl) (lsc (rfl) (lsc (rfl) (lsc (rfl) (lsc (rfl) (lsn)))))))))))))))))))
    ·
      refine x_iconst C dL_law_541 ?_
      refine x_goto (tgt := 546) C dL_law_542 (by decide) ?_
      exact X.mono (by omega) (by omega) (X.to (K546 0 (by decide)) (lsc (rfl) (lsc (rfl) (lsc (rfl) (lsc (rfl) (lsc (rfl) (lsc (rfl) (lsc (rfl) (lsc (rfl) (lsc (rfl) (lsc (rfl) (lsc (rfl) (lsc (rfl) (lsc (rfl) (lsc (rfl) (lsc (rfl) (lsc (rfl) (lsc (rfl) (lsn)))))))))))))))))))
  refine x_iload C dL_law_493 rfl ?_
  refine x_iconst C dL_law_495 ?_
  refine x_ishr C dL_law_496 ?_
  refine x_iconst C dL_law_497 ?_
  refine x_callS C hR cb_L_low u3_11 u3_10 (k_L_low hst (by first | omega | exact bOp_in _ _ _) (by decide)) rfl (Nat.le_of_ble_eq_true rfl) rfl dL_law_498 (by decide) (by show _ ≤ 600074 ∧ _ ≤ 7301550; omega) (fun E x9 h9 => absurd h9.1 (by intro h; cases h)) (fun r9 x9 h9 => ?_)
  obtain ⟨e9, rfl⟩ := h9
  cases e9
  obtain ⟨c3, hc3⟩ : ∃ z, z = lwF (bOp (fun x y => x >>> (y &&& 31)) y 3) 3 := ⟨_, rfl⟩
  rw [← hc3]
  have gc3 := lwF_in (v := (bOp (fun x y => x >>> (y &&& 31)) y 3)) (n := 3) (by decide)
  rw [← hc3] at gc3
  refine x_if_ne (tgt := 509) C dL_law_501 (by decide) (by first | omega | exact bi_rng _) (fun h501 => ?_) (fun h501 => ?_)
  ·
    refine x_iload C dL_law_509 rfl ?_
    refine x_iload C dL_law_511 rfl ?_
    refine x_iconst C dL_law_513 ?_
    refine x_ishr C dL_law_514 ?_
    refine x_sipush C dL_law_515 (by decide) ?_
    refine x_callS C hR cb_L_low u3_11 u3_10 (k_L_low hst (by first | omega | exact bOp_in _ _ _) (by decide)) rfl (Nat.le_of_ble_eq_true rfl) rfl dL_law_518 (by decide) (by show _ ≤ 600074 ∧ _ ≤ 7301550; omega) (fun E x9 h9 => absurd h9.1 (by intro h; cases h)) (fun r9 x9 h9 => ?_)
    obtain ⟨e9, rfl⟩ := h9
    cases e9
    obtain ⟨c4, hc4⟩ : ∃ z, z = lwF (bOp (fun x y => x >>> (y &&& 31)) y 5) 400 := ⟨_, rfl⟩
    rw [← hc4]
    have gc4 := lwF_in (v := (bOp (fun x y => x >>> (y &&& 31)) y 5)) (n := 400) (by decide)
    rw [← hc4] at gc4
    refine x_iload C dL_law_521 rfl ?_
    refine x_iconst C dL_law_523 ?_
    refine x_iadd C dL_law_524 ?_
    refine x_irem C dL_law_525 (by first | omega | exact bi_rng _) (by first | omega | exact bi_rng _) ?_
    have gm := Int.emod_nonneg c4 (show M 1 0 + 1 ≠ 0 by omega)
    have gm2 := Int.emod_lt_of_pos c4 (show 0 < M 1 0 + 1 by omega)
    refine x_isub C dL_law_526 ?_
    exact X.mono (by omega) (by omega) (X.to (K527 _ (by omega)) (lsc (rfl) (lsc (rfl) (lsc (rfl) (lsc (rfl) (lsc (rfl) (lsc (rfl) (lsc (rfl) (lsc (rfl) (lsc (rfl) (lsc (rfl) (lsc (rfl) (lsc (rfl) (lsc (rfl) (lsc (rfl) (lsc (rfl) (lsc (rfl) (lsn))))))))))))))))))
  ·
    refine x_iload C dL_law_504 rfl ?_
    refine x_goto (tgt := 527) C dL_law_506 (by decide) ?_
    exact X.mono (by omega) (by omega) (X.to (K527 _ (by omega)) (lsc (rfl) (lsc (rfl) (lsc (rfl) (lsc (rfl) (lsc (rfl) (lsc (rfl) (lsc (rfl) (lsc (rfl) (lsc (rfl) (lsc (rfl) (lsc (rfl) (lsc (rfl) (lsc (rfl) (lsc (rfl) (lsc (rfl) (lsc (rfl) (lsn))))))))))))))))))

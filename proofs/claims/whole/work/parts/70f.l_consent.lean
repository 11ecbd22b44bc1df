set_option maxRecDepth 100000 in
set_option maxHeartbeats 1000000 in
theorem law_consent {φ : Fx} {cy : CY} {rt : Option FieldType} {bs Ls : Nat} {xs : Nat → Int32} {b : Nat → Nat} {ao ob k n : Nat} {i : Int} {h : HS} {M : MS} {t0 : Int} {o : Int64} (C : Cx φ cL_law RL rt cy) (hR : ROf φ = RLaw) (hn : nLof φ = 7) (hX : SX φ bs Ls xs) (hL : Ls ≤ 3584) (hi : 0 ≤ i ∧ i + 7 ≤ Ls) (hk : k + 2 ≤ 601024 ∧ n + 12 ≤ 7293034) (R : RC ob h M) (kk : ∀ (h1 : HS) (q1 : Int × MS) (o1 : Int64), RC ob h1 q1.2 → X φ (LW3 cy b ao (h1, q1, o1)) (k + 2) (n + 12) 1486 (LL bs ob (b 0) ao i) []) : X φ (LW3 cy b ao (h, (t0, M), o)) k n 523 (LL bs ob (b 0) ao i) [] := by
  obtain ⟨A, lz, f, ow, rfl, c⟩ := R
  have hst := C.st
  have v0 := c.2.1.1
  refine x_aload_n C dL_law_523 rfl rfl ?_
  refine x_aload_n C dL_law_524 rfl rfl ?_
  refine x_iload C dL_law_525 rfl ?_
  refine x_iconst C dL_law_527 ?_
  refine x_iadd C dL_law_528 ?_
  refine x_sld C hX hL (by omega) dL_law_529 ?_
  refine x_aload_n C dL_law_530 rfl rfl ?_
  refine x_iload C dL_law_531 rfl ?_
  refine x_iconst C dL_law_533 ?_
  refine x_iadd C dL_law_534 ?_
  refine x_sld C hX hL (by omega) dL_law_535 ?_
  refine x_aload_n C dL_law_536 rfl rfl ?_
  refine x_iload C dL_law_537 rfl ?_
  refine x_iconst C dL_law_539 ?_
  refine x_iadd C dL_law_540 ?_
  refine x_sld C hX hL (by omega) dL_law_541 ?_
  refine x_aload_n C dL_law_542 rfl rfl ?_
  refine x_iload C dL_law_543 rfl ?_
  refine x_iconst C dL_law_545 ?_
  refine x_iadd C dL_law_546 ?_
  refine x_sld C hX hL (by omega) dL_law_547 ?_
  refine x_if_eq (tgt := 555) C dL_law_548 (by decide) (sc_rng xs _) (fun hb548 => ?_) (fun hb548 => ?_)
  ·
    refine x_iconst C dL_law_555 ?_
    refine x_aload_n C dL_law_556 rfl rfl ?_
    refine x_callSW C hR cbw_consent u10_7 u10_6 (w_consent hst c (sc_rng xs (i + 1)) (sc_rng xs (i + 2)) (sc_rng xs (i + 3)) (Or.inl rfl)) rfl (Nat.le_of_ble_eq_true rfl) rfl dL_law_557 (by decide) ⟨(by omega : k + 1 ≤ 601024), (by omega : n + 6 ≤ 7293034)⟩ (fun E x9 h9 => ?_) (fun r9 x9 h9 => ?_)
    · obtain ⟨_, _, _, hc⟩ := h9
      rcases hc with ⟨_, _, _, g, _⟩ | ⟨_, _, _, _, g, _⟩ <;> cases g
    obtain ⟨r8, h8, hP, hc⟩ := h9
    rcases hc with ⟨v8, e8, hB, e9, rfl⟩ | ⟨E8, k8, e8, hm8, e9, rfl⟩
    · cases e9
      refine x_istore C dL_law_560 (by rw [hn]; exact Nat.le_of_ble_eq_true rfl) ?_
      refine x_aload_n C dL_law_562 rfl rfl ?_
      refine x_aload_n C dL_law_563 rfl rfl ?_
      refine x_iload C dL_law_564 rfl ?_
      refine x_iconst C dL_law_566 ?_
      refine x_iadd C dL_law_567 ?_
      refine x_sld C hX hL (by omega) dL_law_568 ?_
      refine x_aload_n C dL_law_569 rfl rfl ?_
      refine x_iload C dL_law_570 rfl ?_
      refine x_iconst C dL_law_572 ?_
      refine x_iadd C dL_law_573 ?_
      refine x_sld C hX hL (by omega) dL_law_574 ?_
      refine x_aload_n C dL_law_575 rfl rfl ?_
      refine x_iload C dL_law_576 rfl ?_
      refine x_iconst C dL_law_578 ?_
      refine x_iadd C dL_law_579 ?_
      refine x_sld C hX hL (by omega) dL_law_580 ?_
      refine x_aload_n C dL_law_581 rfl rfl ?_
      refine x_iload C dL_law_582 rfl ?_
      refine x_iconst C dL_law_584 ?_
      refine x_iadd C dL_law_585 ?_
      refine x_sld C hX hL (by omega) dL_law_586 ?_
      refine x_if_eq (tgt := 594) C dL_law_587 (by decide) (sc_rng xs _) (fun _ => ?_) (fun hh => absurd hb548 hh)
      refine x_iconst C dL_law_594 ?_
      refine x_callV C hR cb_X7_consent cv_X7_consent u11_15 (Ct.inM (k_X7_consent hst c.1.mi (sc_rng xs (i + 1)) (sc_rng xs (i + 2)) (sc_rng xs (i + 3)) (Or.inl rfl))) l3_recvM ⟨_, _, rfl⟩ rfl (Nat.le_of_ble_eq_true rfl) rfl dL_law_595 (by decide) ⟨(by omega : k + 1 + 0 ≤ 601024), (by omega : n + 6 + 0 ≤ 7293034)⟩ (fun E x9 h9 => ?_) (fun r9 x9 h9 => ?_)
      · obtain ⟨⟨t9, M9⟩, rfl, hm⟩ := h9
        obtain ⟨_, hz⟩ := hP.2 (.error E) t9 M9 hm
        rcases hz with ⟨_, _, g, _⟩ | ⟨_, _, _, _, g⟩ <;> cases g
      obtain ⟨⟨t9, M9⟩, rfl, hm⟩ := h9
      obtain ⟨R9, hz⟩ := hP.2 (.ok r9) t9 M9 hm
      rcases hz with ⟨w9, e1, e2, rfl⟩ | ⟨E, e1, _⟩
      rotate_left
      · rw [e8] at e1; cases e1
      have e5 : (Except.ok r9 : Except String (Option Value)) = .ok (some (vi v8)) := e2.trans (e1.symm.trans e8)
      cases e5
      refine x_istore C dL_law_598 (by rw [hn]; exact Nat.le_of_ble_eq_true rfl) ?_
      refine x_aload_n C dL_law_600 rfl rfl ?_
      refine x_callV C hR cb_X7_thrown cv_X7_thrown u7_13 (Ct.inM (k_X7_thrown hst)) l3_recvM ⟨_, _, rfl⟩ rfl (Nat.le_of_ble_eq_true rfl) rfl dL_law_601 (by decide) ⟨(by omega : k + 1 + 0 + 0 ≤ 601024), (by omega : n + 6 + 0 + 0 ≤ 7293034)⟩ (fun E x9 h9 => by obtain ⟨_, _, g, _⟩ := h9; cases g) (fun r9 x9 h9 => ?_)
      obtain ⟨q9, rfl, e9, rfl⟩ := h9
      cases e9
      refine x_iload C dL_law_604 rfl ?_
      refine x_eqS (tgt := 611) C dL_law_606 (by decide) ?_
      refine x_iload C dL_law_611 rfl ?_
      refine x_if_ne (tgt := 628) C dL_law_613 (by decide) (by decide) (fun hh => absurd rfl hh) (fun _ => ?_)
      refine x_aload_n C dL_law_616 rfl rfl ?_
      refine x_iconst C dL_law_617 ?_
      refine x_lald C dL_law_618 ?_
      refine x_iload C dL_law_619 rfl ?_
      refine x_i2l C dL_law_621 ?_
      refine x_lcmp C dL_law_622 ?_
      refine x_if_eq (tgt := 628) C dL_law_623 (by decide) (by decide) (fun _ => ?_) (fun hh => absurd rfl hh)
      refine x_goto (tgt := 1486) C dL_law_628 (by decide) ?_
      exact ((kk _ _ _ R9).mono (by omega) (by omega)).loc (lsc rfl (lsc rfl (lsc rfl (lsc rfl (lsc rfl lsn)))))
    · cases e9
      refine x_istore C dL_law_560 (by rw [hn]; exact Nat.le_of_ble_eq_true rfl) ?_
      refine x_aload_n C dL_law_562 rfl rfl ?_
      refine x_aload_n C dL_law_563 rfl rfl ?_
      refine x_iload C dL_law_564 rfl ?_
      refine x_iconst C dL_law_566 ?_
      refine x_iadd C dL_law_567 ?_
      refine x_sld C hX hL (by omega) dL_law_568 ?_
      refine x_aload_n C dL_law_569 rfl rfl ?_
      refine x_iload C dL_law_570 rfl ?_
      refine x_iconst C dL_law_572 ?_
      refine x_iadd C dL_law_573 ?_
      refine x_sld C hX hL (by omega) dL_law_574 ?_
      refine x_aload_n C dL_law_575 rfl rfl ?_
      refine x_iload C dL_law_576 rfl ?_
      refine x_iconst C dL_law_578 ?_
      refine x_iadd C dL_law_579 ?_
      refine x_sld C hX hL (by omega) dL_law_580 ?_
      refine x_aload_n C dL_law_581 rfl rfl ?_
      refine x_iload C dL_law_582 rfl ?_
      refine x_iconst C dL_law_584 ?_
      refine x_iadd C dL_law_585 ?_
      refine x_sld C hX hL (by omega) dL_law_586 ?_
      refine x_if_eq (tgt := 594) C dL_law_587 (by decide) (sc_rng xs _) (fun _ => ?_) (fun hh => absurd hb548 hh)
      refine x_iconst C dL_law_594 ?_
      refine x_callV C hR cb_X7_consent cv_X7_consent u11_15 (Ct.inM (k_X7_consent hst c.1.mi (sc_rng xs (i + 1)) (sc_rng xs (i + 2)) (sc_rng xs (i + 3)) (Or.inl rfl))) l3_recvM ⟨_, _, rfl⟩ rfl (Nat.le_of_ble_eq_true rfl) rfl dL_law_595 (by decide) ⟨(by omega : k + 1 + 0 ≤ 601024), (by omega : n + 6 + 0 ≤ 7293034)⟩ (fun E x9 h9 => ?_) (fun r9 x9 h9 => ?_)
      · obtain ⟨⟨t9, M9⟩, rfl, hm⟩ := h9
        obtain ⟨_, hz⟩ := hP.2 (.error E) t9 M9 hm
        rcases hz with ⟨_, _, g, _⟩ | ⟨_, _, _, _, g⟩ <;> cases g
      obtain ⟨⟨t9, M9⟩, rfl, hm⟩ := h9
      obtain ⟨R9, hz⟩ := hP.2 (.ok r9) t9 M9 hm
      rcases hz with ⟨w9, e1, _, _⟩ | ⟨E, e1, hm9, v9, e2⟩
      · rw [e8] at e1; cases e1
      have e5 : (Except.error E : Except String (Option Value)) = .error E8 := e1.symm.trans e8
      cases e5
      cases e2
      have e6 := uqIS hm8 hm9
      subst e6
      have hk8 := rgIS hm8
      refine x_istore C dL_law_598 (by rw [hn]; exact Nat.le_of_ble_eq_true rfl) ?_
      refine x_aload_n C dL_law_600 rfl rfl ?_
      refine x_callV C hR cb_X7_thrown cv_X7_thrown u7_13 (Ct.inM (k_X7_thrown hst)) l3_recvM ⟨_, _, rfl⟩ rfl (Nat.le_of_ble_eq_true rfl) rfl dL_law_601 (by decide) ⟨(by omega : k + 1 + 0 + 0 ≤ 601024), (by omega : n + 6 + 0 + 0 ≤ 7293034)⟩ (fun E x9 h9 => by obtain ⟨_, _, g, _⟩ := h9; cases g) (fun r9 x9 h9 => ?_)
      obtain ⟨q9, rfl, e9, rfl⟩ := h9
      cases e9
      refine x_iload C dL_law_604 rfl ?_
      refine x_eqS (tgt := 611) C dL_law_606 (by decide) ?_
      refine x_iload C dL_law_611 rfl ?_
      refine x_if_ne (tgt := 628) C dL_law_613 (by decide) (by omega) (fun _ => ?_) (fun hh => absurd hh (by omega))
      refine x_goto (tgt := 1486) C dL_law_628 (by decide) ?_
      exact ((kk _ _ _ R9).mono (by omega) (by omega)).loc (lsc rfl (lsc rfl (lsc rfl (lsc rfl (lsc rfl lsn)))))
  ·
    refine x_iconst C dL_law_551 ?_
    refine x_goto (tgt := 556) C dL_law_552 (by decide) ?_
    refine x_aload_n C dL_law_556 rfl rfl ?_
    refine x_callSW C hR cbw_consent u10_7 u10_6 (w_consent hst c (sc_rng xs (i + 1)) (sc_rng xs (i + 2)) (sc_rng xs (i + 3)) (Or.inr rfl)) rfl (Nat.le_of_ble_eq_true rfl) rfl dL_law_557 (by decide) ⟨(by omega : k + 1 ≤ 601024), (by omega : n + 6 ≤ 7293034)⟩ (fun E x9 h9 => ?_) (fun r9 x9 h9 => ?_)
    · obtain ⟨_, _, _, hc⟩ := h9
      rcases hc with ⟨_, _, _, g, _⟩ | ⟨_, _, _, _, g, _⟩ <;> cases g
    obtain ⟨r8, h8, hP, hc⟩ := h9
    rcases hc with ⟨v8, e8, hB, e9, rfl⟩ | ⟨E8, k8, e8, hm8, e9, rfl⟩
    · cases e9
      refine x_istore C dL_law_560 (by rw [hn]; exact Nat.le_of_ble_eq_true rfl) ?_
      refine x_aload_n C dL_law_562 rfl rfl ?_
      refine x_aload_n C dL_law_563 rfl rfl ?_
      refine x_iload C dL_law_564 rfl ?_
      refine x_iconst C dL_law_566 ?_
      refine x_iadd C dL_law_567 ?_
      refine x_sld C hX hL (by omega) dL_law_568 ?_
      refine x_aload_n C dL_law_569 rfl rfl ?_
      refine x_iload C dL_law_570 rfl ?_
      refine x_iconst C dL_law_572 ?_
      refine x_iadd C dL_law_573 ?_
      refine x_sld C hX hL (by omega) dL_law_574 ?_
      refine x_aload_n C dL_law_575 rfl rfl ?_
      refine x_iload C dL_law_576 rfl ?_
      refine x_iconst C dL_law_578 ?_
      refine x_iadd C dL_law_579 ?_
      refine x_sld C hX hL (by omega) dL_law_580 ?_
      refine x_aload_n C dL_law_581 rfl rfl ?_
      refine x_iload C dL_law_582 rfl ?_
      refine x_iconst C dL_law_584 ?_
      refine x_iadd C dL_law_585 ?_
      refine x_sld C hX hL (by omega) dL_law_586 ?_
      refine x_if_eq (tgt := 594) C dL_law_587 (by decide) (sc_rng xs _) (fun hh => absurd hh hb548) (fun _ => ?_)
      refine x_iconst C dL_law_590 ?_
      refine x_goto (tgt := 595) C dL_law_591 (by decide) ?_
      refine x_callV C hR cb_X7_consent cv_X7_consent u11_15 (Ct.inM (k_X7_consent hst c.1.mi (sc_rng xs (i + 1)) (sc_rng xs (i + 2)) (sc_rng xs (i + 3)) (Or.inr rfl))) l3_recvM ⟨_, _, rfl⟩ rfl (Nat.le_of_ble_eq_true rfl) rfl dL_law_595 (by decide) ⟨(by omega : k + 1 + 0 ≤ 601024), (by omega : n + 6 + 0 ≤ 7293034)⟩ (fun E x9 h9 => ?_) (fun r9 x9 h9 => ?_)
      · obtain ⟨⟨t9, M9⟩, rfl, hm⟩ := h9
        obtain ⟨_, hz⟩ := hP.2 (.error E) t9 M9 hm
        rcases hz with ⟨_, _, g, _⟩ | ⟨_, _, _, _, g⟩ <;> cases g
      obtain ⟨⟨t9, M9⟩, rfl, hm⟩ := h9
      obtain ⟨R9, hz⟩ := hP.2 (.ok r9) t9 M9 hm
      rcases hz with ⟨w9, e1, e2, rfl⟩ | ⟨E, e1, _⟩
      rotate_left
      · rw [e8] at e1; cases e1
      have e5 : (Except.ok r9 : Except String (Option Value)) = .ok (some (vi v8)) := e2.trans (e1.symm.trans e8)
      cases e5
      refine x_istore C dL_law_598 (by rw [hn]; exact Nat.le_of_ble_eq_true rfl) ?_
      refine x_aload_n C dL_law_600 rfl rfl ?_
      refine x_callV C hR cb_X7_thrown cv_X7_thrown u7_13 (Ct.inM (k_X7_thrown hst)) l3_recvM ⟨_, _, rfl⟩ rfl (Nat.le_of_ble_eq_true rfl) rfl dL_law_601 (by decide) ⟨(by omega : k + 1 + 0 + 0 ≤ 601024), (by omega : n + 6 + 0 + 0 ≤ 7293034)⟩ (fun E x9 h9 => by obtain ⟨_, _, g, _⟩ := h9; cases g) (fun r9 x9 h9 => ?_)
      obtain ⟨q9, rfl, e9, rfl⟩ := h9
      cases e9
      refine x_iload C dL_law_604 rfl ?_
      refine x_eqS (tgt := 611) C dL_law_606 (by decide) ?_
      refine x_iload C dL_law_611 rfl ?_
      refine x_if_ne (tgt := 628) C dL_law_613 (by decide) (by decide) (fun hh => absurd rfl hh) (fun _ => ?_)
      refine x_aload_n C dL_law_616 rfl rfl ?_
      refine x_iconst C dL_law_617 ?_
      refine x_lald C dL_law_618 ?_
      refine x_iload C dL_law_619 rfl ?_
      refine x_i2l C dL_law_621 ?_
      refine x_lcmp C dL_law_622 ?_
      refine x_if_eq (tgt := 628) C dL_law_623 (by decide) (by decide) (fun _ => ?_) (fun hh => absurd rfl hh)
      refine x_goto (tgt := 1486) C dL_law_628 (by decide) ?_
      exact ((kk _ _ _ R9).mono (by omega) (by omega)).loc (lsc rfl (lsc rfl (lsc rfl (lsc rfl (lsc rfl lsn)))))
    · cases e9
      refine x_istore C dL_law_560 (by rw [hn]; exact Nat.le_of_ble_eq_true rfl) ?_
      refine x_aload_n C dL_law_562 rfl rfl ?_
      refine x_aload_n C dL_law_563 rfl rfl ?_
      refine x_iload C dL_law_564 rfl ?_
      refine x_iconst C dL_law_566 ?_
      refine x_iadd C dL_law_567 ?_
      refine x_sld C hX hL (by omega) dL_law_568 ?_
      refine x_aload_n C dL_law_569 rfl rfl ?_
      refine x_iload C dL_law_570 rfl ?_
      refine x_iconst C dL_law_572 ?_
      refine x_iadd C dL_law_573 ?_
      refine x_sld C hX hL (by omega) dL_law_574 ?_
      refine x_aload_n C dL_law_575 rfl rfl ?_
      refine x_iload C dL_law_576 rfl ?_
      refine x_iconst C dL_law_578 ?_
      refine x_iadd C dL_law_579 ?_
      refine x_sld C hX hL (by omega) dL_law_580 ?_
      refine x_aload_n C dL_law_581 rfl rfl ?_
      refine x_iload C dL_law_582 rfl ?_
      refine x_iconst C dL_law_584 ?_
      refine x_iadd C dL_law_585 ?_
      refine x_sld C hX hL (by omega) dL_law_586 ?_
      refine x_if_eq (tgt := 594) C dL_law_587 (by decide) (sc_rng xs _) (fun hh => absurd hh hb548) (fun _ => ?_)
      refine x_iconst C dL_law_590 ?_
      refine x_goto (tgt := 595) C dL_law_591 (by decide) ?_
      refine x_callV C hR cb_X7_consent cv_X7_consent u11_15 (Ct.inM (k_X7_consent hst c.1.mi (sc_rng xs (i + 1)) (sc_rng xs (i + 2)) (sc_rng xs (i + 3)) (Or.inr rfl))) l3_recvM ⟨_, _, rfl⟩ rfl (Nat.le_of_ble_eq_true rfl) rfl dL_law_595 (by decide) ⟨(by omega : k + 1 + 0 ≤ 601024), (by omega : n + 6 + 0 ≤ 7293034)⟩ (fun E x9 h9 => ?_) (fun r9 x9 h9 => ?_)
      · obtain ⟨⟨t9, M9⟩, rfl, hm⟩ := h9
        obtain ⟨_, hz⟩ := hP.2 (.error E) t9 M9 hm
        rcases hz with ⟨_, _, g, _⟩ | ⟨_, _, _, _, g⟩ <;> cases g
      obtain ⟨⟨t9, M9⟩, rfl, hm⟩ := h9
      obtain ⟨R9, hz⟩ := hP.2 (.ok r9) t9 M9 hm
      rcases hz with ⟨w9, e1, _, _⟩ | ⟨E, e1, hm9, v9, e2⟩
      · rw [e8] at e1; cases e1
      have e5 : (Except.error E : Except String (Option Value)) = .error E8 := e1.symm.trans e8
      cases e5
      cases e2
      have e6 := uqIS hm8 hm9
      subst e6
      have hk8 := rgIS hm8
      refine x_istore C dL_law_598 (by rw [hn]; exact Nat.le_of_ble_eq_true rfl) ?_
      refine x_aload_n C dL_law_600 rfl rfl ?_
      refine x_callV C hR cb_X7_thrown cv_X7_thrown u7_13 (Ct.inM (k_X7_thrown hst)) l3_recvM ⟨_, _, rfl⟩ rfl (Nat.le_of_ble_eq_true rfl) rfl dL_law_601 (by decide) ⟨(by omega : k + 1 + 0 + 0 ≤ 601024), (by omega : n + 6 + 0 + 0 ≤ 7293034)⟩ (fun E x9 h9 => by obtain ⟨_, _, g, _⟩ := h9; cases g) (fun r9 x9 h9 => ?_)
      obtain ⟨q9, rfl, e9, rfl⟩ := h9
      cases e9
      refine x_iload C dL_law_604 rfl ?_
      refine x_eqS (tgt := 611) C dL_law_606 (by decide) ?_
      refine x_iload C dL_law_611 rfl ?_
      refine x_if_ne (tgt := 628) C dL_law_613 (by decide) (by omega) (fun _ => ?_) (fun hh => absurd hh (by omega))
      refine x_goto (tgt := 1486) C dL_law_628 (by decide) ?_
      exact ((kk _ _ _ R9).mono (by omega) (by omega)).loc (lsc rfl (lsc rfl (lsc rfl (lsc rfl (lsc rfl lsn)))))

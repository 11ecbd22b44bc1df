set_option maxRecDepth 100000 in
set_option maxHeartbeats 1000000 in
theorem law_link {φ : Fx} {cy : CY} {rt : Option FieldType} {bs Ls : Nat} {xs : Nat → Int32} {b : Nat → Nat} {ao ob k n : Nat} {i : Int} {h : HS} {M : MS} {t0 : Int} {o : Int64} (C : Cx φ cL_law RL rt cy) (hR : ROf φ = RLaw) (hn : nLof φ = 7) (hX : SX φ bs Ls xs) (hL : Ls ≤ 3584) (hi : 0 ≤ i ∧ i + 7 ≤ Ls) (hk : k + 2 ≤ 601024 ∧ n + 12 ≤ 7293034) (R : RC ob h M) (kk : ∀ (h1 : HS) (q1 : Int × MS) (o1 : Int64), RC ob h1 q1.2 → X φ (LW3 cy b ao (h1, q1, o1)) (k + 2) (n + 12) 1486 (LL bs ob (b 0) ao i) []) : X φ (LW3 cy b ao (h, (t0, M), o)) k n 420 (LL bs ob (b 0) ao i) [] := by
  obtain ⟨A, lz, f, ow, rfl, c⟩ := R
  have hst := C.st
  have v0 := c.2.1.1
  refine x_aload_n C dL_law_420 rfl rfl ?_
  refine x_aload_n C dL_law_421 rfl rfl ?_
  refine x_iload C dL_law_422 rfl ?_
  refine x_iconst C dL_law_424 ?_
  refine x_iadd C dL_law_425 ?_
  refine x_sld C hX hL (by omega) dL_law_426 ?_
  refine x_aload_n C dL_law_427 rfl rfl ?_
  refine x_iload C dL_law_428 rfl ?_
  refine x_iconst C dL_law_430 ?_
  refine x_iadd C dL_law_431 ?_
  refine x_sld C hX hL (by omega) dL_law_432 ?_
  refine x_aload_n C dL_law_433 rfl rfl ?_
  refine x_iload C dL_law_434 rfl ?_
  refine x_iconst C dL_law_436 ?_
  refine x_iadd C dL_law_437 ?_
  refine x_sld C hX hL (by omega) dL_law_438 ?_
  refine x_if_eq (tgt := 446) C dL_law_439 (by decide) (sc_rng xs _) (fun hb439 => ?_) (fun hb439 => ?_)
  ·
    refine x_iconst C dL_law_446 ?_
    refine x_aload_n C dL_law_447 rfl rfl ?_
    refine x_callSW C hR cbw_link u9_15 u9_14 (w_link hst c (sc_rng xs (i + 1)) (sc_rng xs (i + 2)) (Or.inl rfl)) rfl (Nat.le_of_ble_eq_true rfl) rfl dL_law_448 (by decide) ⟨(by omega : k + 1 ≤ 601024), (by omega : n + 6 ≤ 7293034)⟩ (fun E x9 h9 => ?_) (fun r9 x9 h9 => ?_)
    · obtain ⟨_, _, _, hc⟩ := h9
      rcases hc with ⟨_, _, _, g, _⟩ | ⟨_, _, _, _, g, _⟩ <;> cases g
    obtain ⟨r8, h8, hP, hc⟩ := h9
    rcases hc with ⟨v8, e8, hB, e9, rfl⟩ | ⟨E8, k8, e8, hm8, e9, rfl⟩
    · cases e9
      refine x_istore C dL_law_451 (by rw [hn]; exact Nat.le_of_ble_eq_true rfl) ?_
      refine x_aload_n C dL_law_453 rfl rfl ?_
      refine x_aload_n C dL_law_454 rfl rfl ?_
      refine x_iload C dL_law_455 rfl ?_
      refine x_iconst C dL_law_457 ?_
      refine x_iadd C dL_law_458 ?_
      refine x_sld C hX hL (by omega) dL_law_459 ?_
      refine x_aload_n C dL_law_460 rfl rfl ?_
      refine x_iload C dL_law_461 rfl ?_
      refine x_iconst C dL_law_463 ?_
      refine x_iadd C dL_law_464 ?_
      refine x_sld C hX hL (by omega) dL_law_465 ?_
      refine x_aload_n C dL_law_466 rfl rfl ?_
      refine x_iload C dL_law_467 rfl ?_
      refine x_iconst C dL_law_469 ?_
      refine x_iadd C dL_law_470 ?_
      refine x_sld C hX hL (by omega) dL_law_471 ?_
      refine x_if_eq (tgt := 479) C dL_law_472 (by decide) (sc_rng xs _) (fun _ => ?_) (fun hh => absurd hb439 hh)
      refine x_iconst C dL_law_479 ?_
      refine x_callV C hR cb_X7_link cv_X7_link u10_2 (Ct.inM (k_X7_link hst c.1.mi (sc_rng xs (i + 1)) (sc_rng xs (i + 2)) (Or.inl rfl))) l3_recvM ⟨_, _, rfl⟩ rfl (Nat.le_of_ble_eq_true rfl) rfl dL_law_480 (by decide) ⟨(by omega : k + 1 + 0 ≤ 601024), (by omega : n + 6 + 0 ≤ 7293034)⟩ (fun E x9 h9 => ?_) (fun r9 x9 h9 => ?_)
      · obtain ⟨⟨t9, M9⟩, rfl, hm⟩ := h9
        obtain ⟨_, hz⟩ := hP.2 (.error E) t9 M9 hm
        rcases hz with ⟨_, _, g, _⟩ | ⟨_, _, _, _, g⟩ <;> cases g
      obtain ⟨⟨t9, M9⟩, rfl, hm⟩ := h9
      obtain ⟨R9, hz⟩ := hP.2 (.ok r9) t9 M9 hm
      rcases hz with ⟨w9, e1, e2, rfl⟩ | ⟨E, e1, _⟩
      rotate_left
      · rw [e8] at e1; cases e1
      have e5 : (Except.ok r9 : Except String (Option Value)) = .ok (some (vi v8)) := e2.trans (e1.symm.trans e8)
      cases e5
      refine x_istore C dL_law_483 (by rw [hn]; exact Nat.le_of_ble_eq_true rfl) ?_
      refine x_aload_n C dL_law_485 rfl rfl ?_
      refine x_callV C hR cb_X7_thrown cv_X7_thrown u7_13 (Ct.inM (k_X7_thrown hst)) l3_recvM ⟨_, _, rfl⟩ rfl (Nat.le_of_ble_eq_true rfl) rfl dL_law_486 (by decide) ⟨(by omega : k + 1 + 0 + 0 ≤ 601024), (by omega : n + 6 + 0 + 0 ≤ 7293034)⟩ (fun E x9 h9 => by obtain ⟨_, _, g, _⟩ := h9; cases g) (fun r9 x9 h9 => ?_)
      obtain ⟨q9, rfl, e9, rfl⟩ := h9
      cases e9
      refine x_iload C dL_law_489 rfl ?_
      refine x_eqS (tgt := 496) C dL_law_491 (by decide) ?_
      refine x_iload C dL_law_496 rfl ?_
      refine x_if_ne (tgt := 520) C dL_law_498 (by decide) (by decide) (fun hh => absurd rfl hh) (fun _ => ?_)
      refine x_aload_n C dL_law_501 rfl rfl ?_
      refine x_iconst C dL_law_502 ?_
      refine x_lald C dL_law_503 ?_
      refine x_iload C dL_law_504 rfl ?_
      have hB : v8 = 0 ∨ v8 = 1 := hB
      refine x_if_eq (tgt := 513) C dL_law_506 (by decide) (by omega) (fun hv => ?_) (fun hv => ?_)
      · rw [outB_0 hv]
        refine x_lconst (v := 0) C dL_law_513 rfl ?_
        refine x_lcmp C dL_law_514 ?_
        refine x_if_eq (tgt := 520) C dL_law_515 (by decide) (by decide) (fun _ => ?_) (fun hh => absurd rfl hh)
        refine x_goto (tgt := 1486) C dL_law_520 (by decide) ?_
        exact ((kk _ _ _ R9).mono (by omega) (by omega)).loc (lsc rfl (lsc rfl (lsc rfl (lsc rfl (lsc rfl lsn)))))
      · rw [outB_1 hv]
        refine x_lconst (v := 1) C dL_law_509 rfl ?_
        refine x_goto (tgt := 514) C dL_law_510 (by decide) ?_
        refine x_lcmp C dL_law_514 ?_
        refine x_if_eq (tgt := 520) C dL_law_515 (by decide) (by decide) (fun _ => ?_) (fun hh => absurd rfl hh)
        refine x_goto (tgt := 1486) C dL_law_520 (by decide) ?_
        exact ((kk _ _ _ R9).mono (by omega) (by omega)).loc (lsc rfl (lsc rfl (lsc rfl (lsc rfl (lsc rfl lsn)))))
    · cases e9
      refine x_istore C dL_law_451 (by rw [hn]; exact Nat.le_of_ble_eq_true rfl) ?_
      refine x_aload_n C dL_law_453 rfl rfl ?_
      refine x_aload_n C dL_law_454 rfl rfl ?_
      refine x_iload C dL_law_455 rfl ?_
      refine x_iconst C dL_law_457 ?_
      refine x_iadd C dL_law_458 ?_
      refine x_sld C hX hL (by omega) dL_law_459 ?_
      refine x_aload_n C dL_law_460 rfl rfl ?_
      refine x_iload C dL_law_461 rfl ?_
      refine x_iconst C dL_law_463 ?_
      refine x_iadd C dL_law_464 ?_
      refine x_sld C hX hL (by omega) dL_law_465 ?_
      refine x_aload_n C dL_law_466 rfl rfl ?_
      refine x_iload C dL_law_467 rfl ?_
      refine x_iconst C dL_law_469 ?_
      refine x_iadd C dL_law_470 ?_
      refine x_sld C hX hL (by omega) dL_law_471 ?_
      refine x_if_eq (tgt := 479) C dL_law_472 (by decide) (sc_rng xs _) (fun _ => ?_) (fun hh => absurd hb439 hh)
      refine x_iconst C dL_law_479 ?_
      refine x_callV C hR cb_X7_link cv_X7_link u10_2 (Ct.inM (k_X7_link hst c.1.mi (sc_rng xs (i + 1)) (sc_rng xs (i + 2)) (Or.inl rfl))) l3_recvM ⟨_, _, rfl⟩ rfl (Nat.le_of_ble_eq_true rfl) rfl dL_law_480 (by decide) ⟨(by omega : k + 1 + 0 ≤ 601024), (by omega : n + 6 + 0 ≤ 7293034)⟩ (fun E x9 h9 => ?_) (fun r9 x9 h9 => ?_)
      · obtain ⟨⟨t9, M9⟩, rfl, hm⟩ := h9
        obtain ⟨_, hz⟩ := hP.2 (.error E) t9 M9 hm
        rcases hz with ⟨_, _, g, _⟩ | ⟨_, _, _, _, g⟩ <;> cases g
      obtain ⟨⟨t9, M9⟩, rfl, hm⟩ := h9
      obtain ⟨R9, hz⟩ := hP.2 (.ok r9) t9 M9 hm
      rcases hz with ⟨w9, e1, _, _⟩ | ⟨E, e1, hm9, v9, e2⟩
      · rw [e8] at e1; cases e1
      have e5 : (Except.error E : Except String (Option Value)) = .error E8 := e1.symm.trans e8
      cases e5
      cases e2
      have e6 := uqIAE hm8 hm9
      subst e6
      have hk8 := rgIAE hm8
      refine x_istore C dL_law_483 (by rw [hn]; exact Nat.le_of_ble_eq_true rfl) ?_
      refine x_aload_n C dL_law_485 rfl rfl ?_
      refine x_callV C hR cb_X7_thrown cv_X7_thrown u7_13 (Ct.inM (k_X7_thrown hst)) l3_recvM ⟨_, _, rfl⟩ rfl (Nat.le_of_ble_eq_true rfl) rfl dL_law_486 (by decide) ⟨(by omega : k + 1 + 0 + 0 ≤ 601024), (by omega : n + 6 + 0 + 0 ≤ 7293034)⟩ (fun E x9 h9 => by obtain ⟨_, _, g, _⟩ := h9; cases g) (fun r9 x9 h9 => ?_)
      obtain ⟨q9, rfl, e9, rfl⟩ := h9
      cases e9
      refine x_iload C dL_law_489 rfl ?_
      refine x_eqS (tgt := 496) C dL_law_491 (by decide) ?_
      refine x_iload C dL_law_496 rfl ?_
      refine x_if_ne (tgt := 520) C dL_law_498 (by decide) (by omega) (fun _ => ?_) (fun hh => absurd hh (by omega))
      refine x_goto (tgt := 1486) C dL_law_520 (by decide) ?_
      exact ((kk _ _ _ R9).mono (by omega) (by omega)).loc (lsc rfl (lsc rfl (lsc rfl (lsc rfl (lsc rfl lsn)))))
  ·
    refine x_iconst C dL_law_442 ?_
    refine x_goto (tgt := 447) C dL_law_443 (by decide) ?_
    refine x_aload_n C dL_law_447 rfl rfl ?_
    refine x_callSW C hR cbw_link u9_15 u9_14 (w_link hst c (sc_rng xs (i + 1)) (sc_rng xs (i + 2)) (Or.inr rfl)) rfl (Nat.le_of_ble_eq_true rfl) rfl dL_law_448 (by decide) ⟨(by omega : k + 1 ≤ 601024), (by omega : n + 6 ≤ 7293034)⟩ (fun E x9 h9 => ?_) (fun r9 x9 h9 => ?_)
    · obtain ⟨_, _, _, hc⟩ := h9
      rcases hc with ⟨_, _, _, g, _⟩ | ⟨_, _, _, _, g, _⟩ <;> cases g
    obtain ⟨r8, h8, hP, hc⟩ := h9
    rcases hc with ⟨v8, e8, hB, e9, rfl⟩ | ⟨E8, k8, e8, hm8, e9, rfl⟩
    · cases e9
      refine x_istore C dL_law_451 (by rw [hn]; exact Nat.le_of_ble_eq_true rfl) ?_
      refine x_aload_n C dL_law_453 rfl rfl ?_
      refine x_aload_n C dL_law_454 rfl rfl ?_
      refine x_iload C dL_law_455 rfl ?_
      refine x_iconst C dL_law_457 ?_
      refine x_iadd C dL_law_458 ?_
      refine x_sld C hX hL (by omega) dL_law_459 ?_
      refine x_aload_n C dL_law_460 rfl rfl ?_
      refine x_iload C dL_law_461 rfl ?_
      refine x_iconst C dL_law_463 ?_
      refine x_iadd C dL_law_464 ?_
      refine x_sld C hX hL (by omega) dL_law_465 ?_
      refine x_aload_n C dL_law_466 rfl rfl ?_
      refine x_iload C dL_law_467 rfl ?_
      refine x_iconst C dL_law_469 ?_
      refine x_iadd C dL_law_470 ?_
      refine x_sld C hX hL (by omega) dL_law_471 ?_
      refine x_if_eq (tgt := 479) C dL_law_472 (by decide) (sc_rng xs _) (fun hh => absurd hh hb439) (fun _ => ?_)
      refine x_iconst C dL_law_475 ?_
      refine x_goto (tgt := 480) C dL_law_476 (by decide) ?_
      refine x_callV C hR cb_X7_link cv_X7_link u10_2 (Ct.inM (k_X7_link hst c.1.mi (sc_rng xs (i + 1)) (sc_rng xs (i + 2)) (Or.inr rfl))) l3_recvM ⟨_, _, rfl⟩ rfl (Nat.le_of_ble_eq_true rfl) rfl dL_law_480 (by decide) ⟨(by omega : k + 1 + 0 ≤ 601024), (by omega : n + 6 + 0 ≤ 7293034)⟩ (fun E x9 h9 => ?_) (fun r9 x9 h9 => ?_)
      · obtain ⟨⟨t9, M9⟩, rfl, hm⟩ := h9
        obtain ⟨_, hz⟩ := hP.2 (.error E) t9 M9 hm
        rcases hz with ⟨_, _, g, _⟩ | ⟨_, _, _, _, g⟩ <;> cases g
      obtain ⟨⟨t9, M9⟩, rfl, hm⟩ := h9
      obtain ⟨R9, hz⟩ := hP.2 (.ok r9) t9 M9 hm
      rcases hz with ⟨w9, e1, e2, rfl⟩ | ⟨E, e1, _⟩
      rotate_left
      · rw [e8] at e1; cases e1
      have e5 : (Except.ok r9 : Except String (Option Value)) = .ok (some (vi v8)) := e2.trans (e1.symm.trans e8)
      cases e5
      refine x_istore C dL_law_483 (by rw [hn]; exact Nat.le_of_ble_eq_true rfl) ?_
      refine x_aload_n C dL_law_485 rfl rfl ?_
      refine x_callV C hR cb_X7_thrown cv_X7_thrown u7_13 (Ct.inM (k_X7_thrown hst)) l3_recvM ⟨_, _, rfl⟩ rfl (Nat.le_of_ble_eq_true rfl) rfl dL_law_486 (by decide) ⟨(by omega : k + 1 + 0 + 0 ≤ 601024), (by omega : n + 6 + 0 + 0 ≤ 7293034)⟩ (fun E x9 h9 => by obtain ⟨_, _, g, _⟩ := h9; cases g) (fun r9 x9 h9 => ?_)
      obtain ⟨q9, rfl, e9, rfl⟩ := h9
      cases e9
      refine x_iload C dL_law_489 rfl ?_
      refine x_eqS (tgt := 496) C dL_law_491 (by decide) ?_
      refine x_iload C dL_law_496 rfl ?_
      refine x_if_ne (tgt := 520) C dL_law_498 (by decide) (by decide) (fun hh => absurd rfl hh) (fun _ => ?_)
      refine x_aload_n C dL_law_501 rfl rfl ?_
      refine x_iconst C dL_law_502 ?_
      refine x_lald C dL_law_503 ?_
      refine x_iload C dL_law_504 rfl ?_
      have hB : v8 = 0 ∨ v8 = 1 := hB
      refine x_if_eq (tgt := 513) C dL_law_506 (by decide) (by omega) (fun hv => ?_) (fun hv => ?_)
      · rw [outB_0 hv]
        refine x_lconst (v := 0) C dL_law_513 rfl ?_
        refine x_lcmp C dL_law_514 ?_
        refine x_if_eq (tgt := 520) C dL_law_515 (by decide) (by decide) (fun _ => ?_) (fun hh => absurd rfl hh)
        refine x_goto (tgt := 1486) C dL_law_520 (by decide) ?_
        exact ((kk _ _ _ R9).mono (by omega) (by omega)).loc (lsc rfl (lsc rfl (lsc rfl (lsc rfl (lsc rfl lsn)))))
      · rw [outB_1 hv]
        refine x_lconst (v := 1) C dL_law_509 rfl ?_
        refine x_goto (tgt := 514) C dL_law_510 (by decide) ?_
        refine x_lcmp C dL_law_514 ?_
        refine x_if_eq (tgt := 520) C dL_law_515 (by decide) (by decide) (fun _ => ?_) (fun hh => absurd rfl hh)
        refine x_goto (tgt := 1486) C dL_law_520 (by decide) ?_
        exact ((kk _ _ _ R9).mono (by omega) (by omega)).loc (lsc rfl (lsc rfl (lsc rfl (lsc rfl (lsc rfl lsn)))))
    · cases e9
      refine x_istore C dL_law_451 (by rw [hn]; exact Nat.le_of_ble_eq_true rfl) ?_
      refine x_aload_n C dL_law_453 rfl rfl ?_
      refine x_aload_n C dL_law_454 rfl rfl ?_
      refine x_iload C dL_law_455 rfl ?_
      refine x_iconst C dL_law_457 ?_
      refine x_iadd C dL_law_458 ?_
      refine x_sld C hX hL (by omega) dL_law_459 ?_
      refine x_aload_n C dL_law_460 rfl rfl ?_
      refine x_iload C dL_law_461 rfl ?_
      refine x_iconst C dL_law_463 ?_
      refine x_iadd C dL_law_464 ?_
      refine x_sld C hX hL (by omega) dL_law_465 ?_
      refine x_aload_n C dL_law_466 rfl rfl ?_
      refine x_iload C dL_law_467 rfl ?_
      refine x_iconst C dL_law_469 ?_
      refine x_iadd C dL_law_470 ?_
      refine x_sld C hX hL (by omega) dL_law_471 ?_
      refine x_if_eq (tgt := 479) C dL_law_472 (by decide) (sc_rng xs _) (fun hh => absurd hh hb439) (fun _ => ?_)
      refine x_iconst C dL_law_475 ?_
      refine x_goto (tgt := 480) C dL_law_476 (by decide) ?_
      refine x_callV C hR cb_X7_link cv_X7_link u10_2 (Ct.inM (k_X7_link hst c.1.mi (sc_rng xs (i + 1)) (sc_rng xs (i + 2)) (Or.inr rfl))) l3_recvM ⟨_, _, rfl⟩ rfl (Nat.le_of_ble_eq_true rfl) rfl dL_law_480 (by decide) ⟨(by omega : k + 1 + 0 ≤ 601024), (by omega : n + 6 + 0 ≤ 7293034)⟩ (fun E x9 h9 => ?_) (fun r9 x9 h9 => ?_)
      · obtain ⟨⟨t9, M9⟩, rfl, hm⟩ := h9
        obtain ⟨_, hz⟩ := hP.2 (.error E) t9 M9 hm
        rcases hz with ⟨_, _, g, _⟩ | ⟨_, _, _, _, g⟩ <;> cases g
      obtain ⟨⟨t9, M9⟩, rfl, hm⟩ := h9
      obtain ⟨R9, hz⟩ := hP.2 (.ok r9) t9 M9 hm
      rcases hz with ⟨w9, e1, _, _⟩ | ⟨E, e1, hm9, v9, e2⟩
      · rw [e8] at e1; cases e1
      have e5 : (Except.error E : Except String (Option Value)) = .error E8 := e1.symm.trans e8
      cases e5
      cases e2
      have e6 := uqIAE hm8 hm9
      subst e6
      have hk8 := rgIAE hm8
      refine x_istore C dL_law_483 (by rw [hn]; exact Nat.le_of_ble_eq_true rfl) ?_
      refine x_aload_n C dL_law_485 rfl rfl ?_
      refine x_callV C hR cb_X7_thrown cv_X7_thrown u7_13 (Ct.inM (k_X7_thrown hst)) l3_recvM ⟨_, _, rfl⟩ rfl (Nat.le_of_ble_eq_true rfl) rfl dL_law_486 (by decide) ⟨(by omega : k + 1 + 0 + 0 ≤ 601024), (by omega : n + 6 + 0 + 0 ≤ 7293034)⟩ (fun E x9 h9 => by obtain ⟨_, _, g, _⟩ := h9; cases g) (fun r9 x9 h9 => ?_)
      obtain ⟨q9, rfl, e9, rfl⟩ := h9
      cases e9
      refine x_iload C dL_law_489 rfl ?_
      refine x_eqS (tgt := 496) C dL_law_491 (by decide) ?_
      refine x_iload C dL_law_496 rfl ?_
      refine x_if_ne (tgt := 520) C dL_law_498 (by decide) (by omega) (fun _ => ?_) (fun hh => absurd hh (by omega))
      refine x_goto (tgt := 1486) C dL_law_520 (by decide) ?_
      exact ((kk _ _ _ R9).mono (by omega) (by omega)).loc (lsc rfl (lsc rfl (lsc rfl (lsc rfl (lsc rfl lsn)))))

set_option maxRecDepth 100000 in
set_option maxHeartbeats 1000000 in
theorem law_share {φ : Fx} {cy : CY} {rt : Option FieldType} {bs Ls : Nat} {xs : Nat → Int32} {b : Nat → Nat} {ao ob k n : Nat} {i : Int} {h : HS} {M : MS} {t0 : Int} {o : Int64} (C : Cx φ cL_law RL rt cy) (hR : ROf φ = RLaw) (hn : nLof φ = 7) (hX : SX φ bs Ls xs) (hL : Ls ≤ 3584) (hi : 0 ≤ i ∧ i + 7 ≤ Ls) (hk : k + 2 ≤ 601024 ∧ n + 12 ≤ 7293034) (R : RC ob h M) (kk : ∀ (h1 : HS) (q1 : Int × MS) (o1 : Int64), RC ob h1 q1.2 → X φ (LW3 cy b ao (h1, q1, o1)) (k + 2) (n + 12) 1486 (LL bs ob (b 0) ao i) []) : X φ (LW3 cy b ao (h, (t0, M), o)) k n 329 (LL bs ob (b 0) ao i) [] := by
  obtain ⟨A, lz, f, ow, rfl, c⟩ := R
  have hst := C.st
  have v0 := c.2.1.1
  refine x_aload_n C dL_law_329 rfl rfl ?_
  refine x_aload_n C dL_law_330 rfl rfl ?_
  refine x_iload C dL_law_331 rfl ?_
  refine x_iconst C dL_law_333 ?_
  refine x_iadd C dL_law_334 ?_
  refine x_sld C hX hL (by omega) dL_law_335 ?_
  refine x_aload_n C dL_law_336 rfl rfl ?_
  refine x_iload C dL_law_337 rfl ?_
  refine x_iconst C dL_law_339 ?_
  refine x_iadd C dL_law_340 ?_
  refine x_sld C hX hL (by omega) dL_law_341 ?_
  refine x_if_eq (tgt := 349) C dL_law_342 (by decide) (sc_rng xs _) (fun hb342 => ?_) (fun hb342 => ?_)
  ·
    refine x_iconst C dL_law_349 ?_
    refine x_aload_n C dL_law_350 rfl rfl ?_
    refine x_callSW C hR cbw_share u8_19 u8_18 (w_share hst c (sc_rng xs (i + 1)) (Or.inl rfl)) rfl (Nat.le_of_ble_eq_true rfl) rfl dL_law_351 (by decide) ⟨(by omega : k + 1 ≤ 601024), (by omega : n + 6 ≤ 7293034)⟩ (fun E x9 h9 => ?_) (fun r9 x9 h9 => ?_)
    · obtain ⟨_, _, _, hc⟩ := h9
      rcases hc with ⟨_, _, _, g, _⟩ | ⟨_, _, _, _, g, _⟩ <;> cases g
    obtain ⟨r8, h8, hP, hc⟩ := h9
    rcases hc with ⟨v8, e8, hB, e9, rfl⟩ | ⟨E8, k8, e8, hm8, e9, rfl⟩
    · cases e9
      refine x_istore C dL_law_354 (by rw [hn]; exact Nat.le_of_ble_eq_true rfl) ?_
      refine x_aload_n C dL_law_356 rfl rfl ?_
      refine x_aload_n C dL_law_357 rfl rfl ?_
      refine x_iload C dL_law_358 rfl ?_
      refine x_iconst C dL_law_360 ?_
      refine x_iadd C dL_law_361 ?_
      refine x_sld C hX hL (by omega) dL_law_362 ?_
      refine x_aload_n C dL_law_363 rfl rfl ?_
      refine x_iload C dL_law_364 rfl ?_
      refine x_iconst C dL_law_366 ?_
      refine x_iadd C dL_law_367 ?_
      refine x_sld C hX hL (by omega) dL_law_368 ?_
      refine x_if_eq (tgt := 376) C dL_law_369 (by decide) (sc_rng xs _) (fun _ => ?_) (fun hh => absurd hb342 hh)
      refine x_iconst C dL_law_376 ?_
      refine x_callV C hR cb_X7_share cv_X7_share u9_10 (Ct.inM (k_X7_share hst c.1.mi (sc_rng xs (i + 1)) (Or.inl rfl))) l3_recvM ⟨_, _, rfl⟩ rfl (Nat.le_of_ble_eq_true rfl) rfl dL_law_377 (by decide) ⟨(by omega : k + 1 + 0 ≤ 601024), (by omega : n + 6 + 0 ≤ 7293034)⟩ (fun E x9 h9 => ?_) (fun r9 x9 h9 => ?_)
      · obtain ⟨⟨t9, M9⟩, rfl, hm⟩ := h9
        obtain ⟨_, hz⟩ := hP.2 (.error E) t9 M9 hm
        rcases hz with ⟨_, _, g, _⟩ | ⟨_, _, _, _, g⟩ <;> cases g
      obtain ⟨⟨t9, M9⟩, rfl, hm⟩ := h9
      obtain ⟨R9, hz⟩ := hP.2 (.ok r9) t9 M9 hm
      rcases hz with ⟨w9, e1, e2, rfl⟩ | ⟨E, e1, _⟩
      rotate_left
      · rw [e8] at e1; cases e1
      have e5 : (Except.ok r9 : Except String (Option Value)) = .ok (some (vi v8)) := e2.trans (e1.symm.trans e8)
      cases e5
      refine x_istore C dL_law_380 (by rw [hn]; exact Nat.le_of_ble_eq_true rfl) ?_
      refine x_aload_n C dL_law_382 rfl rfl ?_
      refine x_callV C hR cb_X7_thrown cv_X7_thrown u7_13 (Ct.inM (k_X7_thrown hst)) l3_recvM ⟨_, _, rfl⟩ rfl (Nat.le_of_ble_eq_true rfl) rfl dL_law_383 (by decide) ⟨(by omega : k + 1 + 0 + 0 ≤ 601024), (by omega : n + 6 + 0 + 0 ≤ 7293034)⟩ (fun E x9 h9 => by obtain ⟨_, _, g, _⟩ := h9; cases g) (fun r9 x9 h9 => ?_)
      obtain ⟨q9, rfl, e9, rfl⟩ := h9
      cases e9
      refine x_iload C dL_law_386 rfl ?_
      refine x_eqS (tgt := 393) C dL_law_388 (by decide) ?_
      refine x_iload C dL_law_393 rfl ?_
      refine x_if_ne (tgt := 417) C dL_law_395 (by decide) (by decide) (fun hh => absurd rfl hh) (fun _ => ?_)
      refine x_aload_n C dL_law_398 rfl rfl ?_
      refine x_iconst C dL_law_399 ?_
      refine x_lald C dL_law_400 ?_
      refine x_iload C dL_law_401 rfl ?_
      have hB : v8 = 0 ∨ v8 = 1 := hB
      refine x_if_eq (tgt := 410) C dL_law_403 (by decide) (by omega) (fun hv => ?_) (fun hv => ?_)
      · rw [outB_0 hv]
        refine x_lconst (v := 0) C dL_law_410 rfl ?_
        refine x_lcmp C dL_law_411 ?_
        refine x_if_eq (tgt := 417) C dL_law_412 (by decide) (by decide) (fun _ => ?_) (fun hh => absurd rfl hh)
        refine x_goto (tgt := 1486) C dL_law_417 (by decide) ?_
        exact ((kk _ _ _ R9).mono (by omega) (by omega)).loc (lsc rfl (lsc rfl (lsc rfl (lsc rfl (lsc rfl lsn)))))
      · rw [outB_1 hv]
        refine x_lconst (v := 1) C dL_law_406 rfl ?_
        refine x_goto (tgt := 411) C dL_law_407 (by decide) ?_
        refine x_lcmp C dL_law_411 ?_
        refine x_if_eq (tgt := 417) C dL_law_412 (by decide) (by decide) (fun _ => ?_) (fun hh => absurd rfl hh)
        refine x_goto (tgt := 1486) C dL_law_417 (by decide) ?_
        exact ((kk _ _ _ R9).mono (by omega) (by omega)).loc (lsc rfl (lsc rfl (lsc rfl (lsc rfl (lsc rfl lsn)))))
    · cases e9
      refine x_istore C dL_law_354 (by rw [hn]; exact Nat.le_of_ble_eq_true rfl) ?_
      refine x_aload_n C dL_law_356 rfl rfl ?_
      refine x_aload_n C dL_law_357 rfl rfl ?_
      refine x_iload C dL_law_358 rfl ?_
      refine x_iconst C dL_law_360 ?_
      refine x_iadd C dL_law_361 ?_
      refine x_sld C hX hL (by omega) dL_law_362 ?_
      refine x_aload_n C dL_law_363 rfl rfl ?_
      refine x_iload C dL_law_364 rfl ?_
      refine x_iconst C dL_law_366 ?_
      refine x_iadd C dL_law_367 ?_
      refine x_sld C hX hL (by omega) dL_law_368 ?_
      refine x_if_eq (tgt := 376) C dL_law_369 (by decide) (sc_rng xs _) (fun _ => ?_) (fun hh => absurd hb342 hh)
      refine x_iconst C dL_law_376 ?_
      refine x_callV C hR cb_X7_share cv_X7_share u9_10 (Ct.inM (k_X7_share hst c.1.mi (sc_rng xs (i + 1)) (Or.inl rfl))) l3_recvM ⟨_, _, rfl⟩ rfl (Nat.le_of_ble_eq_true rfl) rfl dL_law_377 (by decide) ⟨(by omega : k + 1 + 0 ≤ 601024), (by omega : n + 6 + 0 ≤ 7293034)⟩ (fun E x9 h9 => ?_) (fun r9 x9 h9 => ?_)
      · obtain ⟨⟨t9, M9⟩, rfl, hm⟩ := h9
        obtain ⟨_, hz⟩ := hP.2 (.error E) t9 M9 hm
        rcases hz with ⟨_, _, g, _⟩ | ⟨_, _, _, _, g⟩ <;> cases g
      obtain ⟨⟨t9, M9⟩, rfl, hm⟩ := h9
      obtain ⟨R9, hz⟩ := hP.2 (.ok r9) t9 M9 hm
      rcases hz with ⟨w9, e1, _, _⟩ | ⟨E, e1, hm9, v9, e2⟩
      · rw [e8] at e1; cases e1
      have e5 : (Except.error E : Except String (Option Value)) = .error E8 := e1.symm.trans e8
      cases e5
      cases e2
      have e6 := uqIAE hm8 hm9
      subst e6
      have hk8 := rgIAE hm8
      refine x_istore C dL_law_380 (by rw [hn]; exact Nat.le_of_ble_eq_true rfl) ?_
      refine x_aload_n C dL_law_382 rfl rfl ?_
      refine x_callV C hR cb_X7_thrown cv_X7_thrown u7_13 (Ct.inM (k_X7_thrown hst)) l3_recvM ⟨_, _, rfl⟩ rfl (Nat.le_of_ble_eq_true rfl) rfl dL_law_383 (by decide) ⟨(by omega : k + 1 + 0 + 0 ≤ 601024), (by omega : n + 6 + 0 + 0 ≤ 7293034)⟩ (fun E x9 h9 => by obtain ⟨_, _, g, _⟩ := h9; cases g) (fun r9 x9 h9 => ?_)
      obtain ⟨q9, rfl, e9, rfl⟩ := h9
      cases e9
      refine x_iload C dL_law_386 rfl ?_
      refine x_eqS (tgt := 393) C dL_law_388 (by decide) ?_
      refine x_iload C dL_law_393 rfl ?_
      refine x_if_ne (tgt := 417) C dL_law_395 (by decide) (by omega) (fun _ => ?_) (fun hh => absurd hh (by omega))
      refine x_goto (tgt := 1486) C dL_law_417 (by decide) ?_
      exact ((kk _ _ _ R9).mono (by omega) (by omega)).loc (lsc rfl (lsc rfl (lsc rfl (lsc rfl (lsc rfl lsn)))))
  ·
    refine x_iconst C dL_law_345 ?_
    refine x_goto (tgt := 350) C dL_law_346 (by decide) ?_
    refine x_aload_n C dL_law_350 rfl rfl ?_
    refine x_callSW C hR cbw_share u8_19 u8_18 (w_share hst c (sc_rng xs (i + 1)) (Or.inr rfl)) rfl (Nat.le_of_ble_eq_true rfl) rfl dL_law_351 (by decide) ⟨(by omega : k + 1 ≤ 601024), (by omega : n + 6 ≤ 7293034)⟩ (fun E x9 h9 => ?_) (fun r9 x9 h9 => ?_)
    · obtain ⟨_, _, _, hc⟩ := h9
      rcases hc with ⟨_, _, _, g, _⟩ | ⟨_, _, _, _, g, _⟩ <;> cases g
    obtain ⟨r8, h8, hP, hc⟩ := h9
    rcases hc with ⟨v8, e8, hB, e9, rfl⟩ | ⟨E8, k8, e8, hm8, e9, rfl⟩
    · cases e9
      refine x_istore C dL_law_354 (by rw [hn]; exact Nat.le_of_ble_eq_true rfl) ?_
      refine x_aload_n C dL_law_356 rfl rfl ?_
      refine x_aload_n C dL_law_357 rfl rfl ?_
      refine x_iload C dL_law_358 rfl ?_
      refine x_iconst C dL_law_360 ?_
      refine x_iadd C dL_law_361 ?_
      refine x_sld C hX hL (by omega) dL_law_362 ?_
      refine x_aload_n C dL_law_363 rfl rfl ?_
      refine x_iload C dL_law_364 rfl ?_
      refine x_iconst C dL_law_366 ?_
      refine x_iadd C dL_law_367 ?_
      refine x_sld C hX hL (by omega) dL_law_368 ?_
      refine x_if_eq (tgt := 376) C dL_law_369 (by decide) (sc_rng xs _) (fun hh => absurd hh hb342) (fun _ => ?_)
      refine x_iconst C dL_law_372 ?_
      refine x_goto (tgt := 377) C dL_law_373 (by decide) ?_
      refine x_callV C hR cb_X7_share cv_X7_share u9_10 (Ct.inM (k_X7_share hst c.1.mi (sc_rng xs (i + 1)) (Or.inr rfl))) l3_recvM ⟨_, _, rfl⟩ rfl (Nat.le_of_ble_eq_true rfl) rfl dL_law_377 (by decide) ⟨(by omega : k + 1 + 0 ≤ 601024), (by omega : n + 6 + 0 ≤ 7293034)⟩ (fun E x9 h9 => ?_) (fun r9 x9 h9 => ?_)
      · obtain ⟨⟨t9, M9⟩, rfl, hm⟩ := h9
        obtain ⟨_, hz⟩ := hP.2 (.error E) t9 M9 hm
        rcases hz with ⟨_, _, g, _⟩ | ⟨_, _, _, _, g⟩ <;> cases g
      obtain ⟨⟨t9, M9⟩, rfl, hm⟩ := h9
      obtain ⟨R9, hz⟩ := hP.2 (.ok r9) t9 M9 hm
      rcases hz with ⟨w9, e1, e2, rfl⟩ | ⟨E, e1, _⟩
      rotate_left
      · rw [e8] at e1; cases e1
      have e5 : (Except.ok r9 : Except String (Option Value)) = .ok (some (vi v8)) := e2.trans (e1.symm.trans e8)
      cases e5
      refine x_istore C dL_law_380 (by rw [hn]; exact Nat.le_of_ble_eq_true rfl) ?_
      refine x_aload_n C dL_law_382 rfl rfl ?_
      refine x_callV C hR cb_X7_thrown cv_X7_thrown u7_13 (Ct.inM (k_X7_thrown hst)) l3_recvM ⟨_, _, rfl⟩ rfl (Nat.le_of_ble_eq_true rfl) rfl dL_law_383 (by decide) ⟨(by omega : k + 1 + 0 + 0 ≤ 601024), (by omega : n + 6 + 0 + 0 ≤ 7293034)⟩ (fun E x9 h9 => by obtain ⟨_, _, g, _⟩ := h9; cases g) (fun r9 x9 h9 => ?_)
      obtain ⟨q9, rfl, e9, rfl⟩ := h9
      cases e9
      refine x_iload C dL_law_386 rfl ?_
      refine x_eqS (tgt := 393) C dL_law_388 (by decide) ?_
      refine x_iload C dL_law_393 rfl ?_
      refine x_if_ne (tgt := 417) C dL_law_395 (by decide) (by decide) (fun hh => absurd rfl hh) (fun _ => ?_)
      refine x_aload_n C dL_law_398 rfl rfl ?_
      refine x_iconst C dL_law_399 ?_
      refine x_lald C dL_law_400 ?_
      refine x_iload C dL_law_401 rfl ?_
      have hB : v8 = 0 ∨ v8 = 1 := hB
      refine x_if_eq (tgt := 410) C dL_law_403 (by decide) (by omega) (fun hv => ?_) (fun hv => ?_)
      · rw [outB_0 hv]
        refine x_lconst (v := 0) C dL_law_410 rfl ?_
        refine x_lcmp C dL_law_411 ?_
        refine x_if_eq (tgt := 417) C dL_law_412 (by decide) (by decide) (fun _ => ?_) (fun hh => absurd rfl hh)
        refine x_goto (tgt := 1486) C dL_law_417 (by decide) ?_
        exact ((kk _ _ _ R9).mono (by omega) (by omega)).loc (lsc rfl (lsc rfl (lsc rfl (lsc rfl (lsc rfl lsn)))))
      · rw [outB_1 hv]
        refine x_lconst (v := 1) C dL_law_406 rfl ?_
        refine x_goto (tgt := 411) C dL_law_407 (by decide) ?_
        refine x_lcmp C dL_law_411 ?_
        refine x_if_eq (tgt := 417) C dL_law_412 (by decide) (by decide) (fun _ => ?_) (fun hh => absurd rfl hh)
        refine x_goto (tgt := 1486) C dL_law_417 (by decide) ?_
        exact ((kk _ _ _ R9).mono (by omega) (by omega)).loc (lsc rfl (lsc rfl (lsc rfl (lsc rfl (lsc rfl lsn)))))
    · cases e9
      refine x_istore C dL_law_354 (by rw [hn]; exact Nat.le_of_ble_eq_true rfl) ?_
      refine x_aload_n C dL_law_356 rfl rfl ?_
      refine x_aload_n C dL_law_357 rfl rfl ?_
      refine x_iload C dL_law_358 rfl ?_
      refine x_iconst C dL_law_360 ?_
      refine x_iadd C dL_law_361 ?_
      refine x_sld C hX hL (by omega) dL_law_362 ?_
      refine x_aload_n C dL_law_363 rfl rfl ?_
      refine x_iload C dL_law_364 rfl ?_
      refine x_iconst C dL_law_366 ?_
      refine x_iadd C dL_law_367 ?_
      refine x_sld C hX hL (by omega) dL_law_368 ?_
      refine x_if_eq (tgt := 376) C dL_law_369 (by decide) (sc_rng xs _) (fun hh => absurd hh hb342) (fun _ => ?_)
      refine x_iconst C dL_law_372 ?_
      refine x_goto (tgt := 377) C dL_law_373 (by decide) ?_
      refine x_callV C hR cb_X7_share cv_X7_share u9_10 (Ct.inM (k_X7_share hst c.1.mi (sc_rng xs (i + 1)) (Or.inr rfl))) l3_recvM ⟨_, _, rfl⟩ rfl (Nat.le_of_ble_eq_true rfl) rfl dL_law_377 (by decide) ⟨(by omega : k + 1 + 0 ≤ 601024), (by omega : n + 6 + 0 ≤ 7293034)⟩ (fun E x9 h9 => ?_) (fun r9 x9 h9 => ?_)
      · obtain ⟨⟨t9, M9⟩, rfl, hm⟩ := h9
        obtain ⟨_, hz⟩ := hP.2 (.error E) t9 M9 hm
        rcases hz with ⟨_, _, g, _⟩ | ⟨_, _, _, _, g⟩ <;> cases g
      obtain ⟨⟨t9, M9⟩, rfl, hm⟩ := h9
      obtain ⟨R9, hz⟩ := hP.2 (.ok r9) t9 M9 hm
      rcases hz with ⟨w9, e1, _, _⟩ | ⟨E, e1, hm9, v9, e2⟩
      · rw [e8] at e1; cases e1
      have e5 : (Except.error E : Except String (Option Value)) = .error E8 := e1.symm.trans e8
      cases e5
      cases e2
      have e6 := uqIAE hm8 hm9
      subst e6
      have hk8 := rgIAE hm8
      refine x_istore C dL_law_380 (by rw [hn]; exact Nat.le_of_ble_eq_true rfl) ?_
      refine x_aload_n C dL_law_382 rfl rfl ?_
      refine x_callV C hR cb_X7_thrown cv_X7_thrown u7_13 (Ct.inM (k_X7_thrown hst)) l3_recvM ⟨_, _, rfl⟩ rfl (Nat.le_of_ble_eq_true rfl) rfl dL_law_383 (by decide) ⟨(by omega : k + 1 + 0 + 0 ≤ 601024), (by omega : n + 6 + 0 + 0 ≤ 7293034)⟩ (fun E x9 h9 => by obtain ⟨_, _, g, _⟩ := h9; cases g) (fun r9 x9 h9 => ?_)
      obtain ⟨q9, rfl, e9, rfl⟩ := h9
      cases e9
      refine x_iload C dL_law_386 rfl ?_
      refine x_eqS (tgt := 393) C dL_law_388 (by decide) ?_
      refine x_iload C dL_law_393 rfl ?_
      refine x_if_ne (tgt := 417) C dL_law_395 (by decide) (by omega) (fun _ => ?_) (fun hh => absurd hh (by omega))
      refine x_goto (tgt := 1486) C dL_law_417 (by decide) ?_
      exact ((kk _ _ _ R9).mono (by omega) (by omega)).loc (lsc rfl (lsc rfl (lsc rfl (lsc rfl (lsc rfl lsn)))))

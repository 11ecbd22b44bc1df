set_option maxRecDepth 100000 in
set_option maxHeartbeats 1000000 in
theorem law_eventAt {φ : Fx} {cy : CY} {rt : Option FieldType} {bs Ls : Nat} {xs : Nat → Int32} {b : Nat → Nat} {ao ob k n : Nat} {i : Int} {h : HS} {M : MS} {t0 : Int} {o : Int64} (C : Cx φ cL_law RL rt cy) (hR : ROf φ = RLaw) (hn : nLof φ = 7) (hX : SX φ bs Ls xs) (hL : Ls ≤ 3584) (hi : 0 ≤ i ∧ i + 7 ≤ Ls) (hk : k + 2 ≤ 601024 ∧ n + 12 ≤ 7293034) (R : RC ob h M) (kk : ∀ (h1 : HS) (q1 : Int × MS) (o1 : Int64), RC ob h1 q1.2 → X φ (LW3 cy b ao (h1, q1, o1)) (k + 2) (n + 12) 1486 (LL bs ob (b 0) ao i) []) : X φ (LW3 cy b ao (h, (t0, M), o)) k n 1015 (LL bs ob (b 0) ao i) [] := by
  obtain ⟨A, lz, f, ow, rfl, c⟩ := R
  have hst := C.st
  have v0 := c.2.1.1
  refine x_aload_n C dL_law_1015 rfl rfl ?_
  refine x_aload_n C dL_law_1016 rfl rfl ?_
  refine x_iload C dL_law_1017 rfl ?_
  refine x_iconst C dL_law_1019 ?_
  refine x_iadd C dL_law_1020 ?_
  refine x_sld C hX hL (by omega) dL_law_1021 ?_
  refine x_aload_n C dL_law_1022 rfl rfl ?_
  refine x_iload C dL_law_1023 rfl ?_
  refine x_iconst C dL_law_1025 ?_
  refine x_iadd C dL_law_1026 ?_
  refine x_sld C hX hL (by omega) dL_law_1027 ?_
  refine x_aload_n C dL_law_1028 rfl rfl ?_
  refine x_callSW C hR cbw_eventAt u17_2 u17_1 (w_eventAt hst c (sc_rng xs (i + 1)) (sc_rng xs (i + 2))) rfl (Nat.le_of_ble_eq_true rfl) rfl dL_law_1029 (by decide) ⟨(by omega : k + 2 ≤ 601024), (by omega : n + 12 ≤ 7293034)⟩ (fun E x9 h9 => ?_) (fun r9 x9 h9 => ?_)
  · obtain ⟨_, _, _, hc⟩ := h9
    rcases hc with ⟨_, _, _, g, _⟩ | ⟨_, _, _, _, g, _⟩ <;> cases g
  obtain ⟨r8, h8, hP, hc⟩ := h9
  rcases hc with ⟨v8, e8, hB, e9, rfl⟩ | ⟨E8, k8, e8, hm8, e9, rfl⟩
  · cases e9
    refine x_istore C dL_law_1032 (by rw [hn]; exact Nat.le_of_ble_eq_true rfl) ?_
    refine x_aload_n C dL_law_1034 rfl rfl ?_
    refine x_aload_n C dL_law_1035 rfl rfl ?_
    refine x_iload C dL_law_1036 rfl ?_
    refine x_iconst C dL_law_1038 ?_
    refine x_iadd C dL_law_1039 ?_
    refine x_sld C hX hL (by omega) dL_law_1040 ?_
    refine x_aload_n C dL_law_1041 rfl rfl ?_
    refine x_iload C dL_law_1042 rfl ?_
    refine x_iconst C dL_law_1044 ?_
    refine x_iadd C dL_law_1045 ?_
    refine x_sld C hX hL (by omega) dL_law_1046 ?_
    refine x_callV C hR cb_X7_eventAt cv_X7_eventAt u17_12 (Ct.inM (k_X7_eventAt (ch := lz) hst c.1.mi c.2.2.2.1.2 (sc_rng xs (i + 1)) (sc_rng xs (i + 2)))) l3_recvM ⟨_, _, rfl⟩ rfl (Nat.le_of_ble_eq_true rfl) rfl dL_law_1047 (by decide) ⟨(by omega : k + 2 + 0 ≤ 601024), (by omega : n + 12 + 0 ≤ 7293034)⟩ (fun E x9 h9 => ?_) (fun r9 x9 h9 => ?_)
    · obtain ⟨⟨t9, M9⟩, rfl, hm⟩ := h9
      obtain ⟨_, hz⟩ := hP.2 (.error E) t9 M9 hm
      rcases hz with ⟨_, _, g, _⟩ | ⟨_, _, _, _, g⟩ <;> cases g
    obtain ⟨⟨t9, M9⟩, rfl, hm⟩ := h9
    obtain ⟨R9, hz⟩ := hP.2 (.ok r9) t9 M9 hm
    rcases hz with ⟨w9, e1, e2, rfl⟩ | ⟨E, e1, _⟩
    rotate_left
    · rw [e8] at e1; cases e1
    have e5 : (Except.ok r9 : Except String (Option Value)) = .ok (some (vi v8)) := e2.trans (e1.symm.trans e8)
    cases e5
    refine x_istore C dL_law_1050 (by rw [hn]; exact Nat.le_of_ble_eq_true rfl) ?_
    refine x_aload_n C dL_law_1052 rfl rfl ?_
    refine x_callV C hR cb_X7_thrown cv_X7_thrown u7_13 (Ct.inM (k_X7_thrown hst)) l3_recvM ⟨_, _, rfl⟩ rfl (Nat.le_of_ble_eq_true rfl) rfl dL_law_1053 (by decide) ⟨(by omega : k + 2 + 0 + 0 ≤ 601024), (by omega : n + 12 + 0 + 0 ≤ 7293034)⟩ (fun E x9 h9 => by obtain ⟨_, _, g, _⟩ := h9; cases g) (fun r9 x9 h9 => ?_)
    obtain ⟨q9, rfl, e9, rfl⟩ := h9
    cases e9
    refine x_iload C dL_law_1056 rfl ?_
    refine x_eqS (tgt := 1063) C dL_law_1058 (by decide) ?_
    refine x_iload C dL_law_1063 rfl ?_
    refine x_if_ne (tgt := 1080) C dL_law_1065 (by decide) (by decide) (fun hh => absurd rfl hh) (fun _ => ?_)
    refine x_aload_n C dL_law_1068 rfl rfl ?_
    refine x_iconst C dL_law_1069 ?_
    refine x_lald C dL_law_1070 ?_
    refine x_iload C dL_law_1071 rfl ?_
    refine x_i2l C dL_law_1073 ?_
    refine x_lcmp C dL_law_1074 ?_
    refine x_if_eq (tgt := 1080) C dL_law_1075 (by decide) (by decide) (fun _ => ?_) (fun hh => absurd rfl hh)
    refine x_goto (tgt := 1486) C dL_law_1080 (by decide) ?_
    exact ((kk _ _ _ R9).mono (by omega) (by omega)).loc (lsc rfl (lsc rfl (lsc rfl (lsc rfl (lsc rfl lsn)))))
  · cases e9
    refine x_istore C dL_law_1032 (by rw [hn]; exact Nat.le_of_ble_eq_true rfl) ?_
    refine x_aload_n C dL_law_1034 rfl rfl ?_
    refine x_aload_n C dL_law_1035 rfl rfl ?_
    refine x_iload C dL_law_1036 rfl ?_
    refine x_iconst C dL_law_1038 ?_
    refine x_iadd C dL_law_1039 ?_
    refine x_sld C hX hL (by omega) dL_law_1040 ?_
    refine x_aload_n C dL_law_1041 rfl rfl ?_
    refine x_iload C dL_law_1042 rfl ?_
    refine x_iconst C dL_law_1044 ?_
    refine x_iadd C dL_law_1045 ?_
    refine x_sld C hX hL (by omega) dL_law_1046 ?_
    refine x_callV C hR cb_X7_eventAt cv_X7_eventAt u17_12 (Ct.inM (k_X7_eventAt (ch := lz) hst c.1.mi c.2.2.2.1.2 (sc_rng xs (i + 1)) (sc_rng xs (i + 2)))) l3_recvM ⟨_, _, rfl⟩ rfl (Nat.le_of_ble_eq_true rfl) rfl dL_law_1047 (by decide) ⟨(by omega : k + 2 + 0 ≤ 601024), (by omega : n + 12 + 0 ≤ 7293034)⟩ (fun E x9 h9 => ?_) (fun r9 x9 h9 => ?_)
    · obtain ⟨⟨t9, M9⟩, rfl, hm⟩ := h9
      obtain ⟨_, hz⟩ := hP.2 (.error E) t9 M9 hm
      rcases hz with ⟨_, _, g, _⟩ | ⟨_, _, _, _, g⟩ <;> cases g
    obtain ⟨⟨t9, M9⟩, rfl, hm⟩ := h9
    obtain ⟨R9, hz⟩ := hP.2 (.ok r9) t9 M9 hm
    rcases hz with ⟨w9, e1, _, _⟩ | ⟨E, e1, hm9, v9, e2⟩
    · rw [e8] at e1; cases e1
    have e5 : (Except.error E : Except String (Option Value)) = .error E8 := e1.symm.trans e8
    cases e5
    cases e2
    have e6 := uqOI hm8 hm9
    subst e6
    have hk8 := rgOI hm8
    refine x_istore C dL_law_1050 (by rw [hn]; exact Nat.le_of_ble_eq_true rfl) ?_
    refine x_aload_n C dL_law_1052 rfl rfl ?_
    refine x_callV C hR cb_X7_thrown cv_X7_thrown u7_13 (Ct.inM (k_X7_thrown hst)) l3_recvM ⟨_, _, rfl⟩ rfl (Nat.le_of_ble_eq_true rfl) rfl dL_law_1053 (by decide) ⟨(by omega : k + 2 + 0 + 0 ≤ 601024), (by omega : n + 12 + 0 + 0 ≤ 7293034)⟩ (fun E x9 h9 => by obtain ⟨_, _, g, _⟩ := h9; cases g) (fun r9 x9 h9 => ?_)
    obtain ⟨q9, rfl, e9, rfl⟩ := h9
    cases e9
    refine x_iload C dL_law_1056 rfl ?_
    refine x_eqS (tgt := 1063) C dL_law_1058 (by decide) ?_
    refine x_iload C dL_law_1063 rfl ?_
    refine x_if_ne (tgt := 1080) C dL_law_1065 (by decide) (by omega) (fun _ => ?_) (fun hh => absurd hh (by omega))
    refine x_goto (tgt := 1486) C dL_law_1080 (by decide) ?_
    exact ((kk _ _ _ R9).mono (by omega) (by omega)).loc (lsc rfl (lsc rfl (lsc rfl (lsc rfl (lsc rfl lsn)))))

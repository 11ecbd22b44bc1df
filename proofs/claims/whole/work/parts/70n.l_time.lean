set_option maxRecDepth 100000 in
set_option maxHeartbeats 1000000 in
theorem law_time {φ : Fx} {cy : CY} {rt : Option FieldType} {bs Ls : Nat} {xs : Nat → Int32} {b : Nat → Nat} {ao ob k n : Nat} {i : Int} {h : HS} {M : MS} {t0 : Int} {o : Int64} (C : Cx φ cL_law RL rt cy) (hR : ROf φ = RLaw) (hn : nLof φ = 7) (hX : SX φ bs Ls xs) (hL : Ls ≤ 3584) (hi : 0 ≤ i ∧ i + 7 ≤ Ls) (hk : k + 2 ≤ 601024 ∧ n + 12 ≤ 7293034) (R : RC ob h M) (kk : ∀ (h1 : HS) (q1 : Int × MS) (o1 : Int64), RC ob h1 q1.2 → X φ (LW3 cy b ao (h1, q1, o1)) (k + 2) (n + 12) 1486 (LL bs ob (b 0) ao i) []) : X φ (LW3 cy b ao (h, (t0, M), o)) k n 1083 (LL bs ob (b 0) ao i) [] := by
  obtain ⟨A, lz, f, ow, rfl, c⟩ := R
  have hst := C.st
  have v0 := c.2.1.1
  refine x_aload_n C dL_law_1083 rfl rfl ?_
  refine x_aload_n C dL_law_1084 rfl rfl ?_
  refine x_iload C dL_law_1085 rfl ?_
  refine x_iconst C dL_law_1087 ?_
  refine x_iadd C dL_law_1088 ?_
  refine x_sld C hX hL (by omega) dL_law_1089 ?_
  refine x_callV C hR cb_X6_time cv_X6_time u18_4 (Ct.inH (cp_time hst c (sc_rng xs (i + 1)))) (l3_recvH v0 (by decide)) ⟨_, _, rfl⟩ rfl (Nat.le_of_ble_eq_true rfl) rfl dL_law_1090 (by decide) ⟨(by omega : k + 0 ≤ 601024), (by omega : n + 0 ≤ 7293034)⟩ (fun E x9 h9 => ?_) (fun r9 x9 h9 => ?_)
  · obtain ⟨h8, rfl, hP⟩ := h9
    rcases hP.1 with ⟨_, g, _⟩ | ⟨_, _, _, g⟩ <;> cases g
  obtain ⟨h8, rfl, hP⟩ := h9
  obtain ⟨v8, e8, hB⟩ := hP.1.resolve_right (fun ⟨_, _, _, g⟩ => by cases g)
  cases e8
  refine x_aload_n C dL_law_1093 rfl rfl ?_
  refine x_aload_n C dL_law_1094 rfl rfl ?_
  refine x_iload C dL_law_1095 rfl ?_
  refine x_iconst C dL_law_1097 ?_
  refine x_iadd C dL_law_1098 ?_
  refine x_sld C hX hL (by omega) dL_law_1099 ?_
  refine x_callV C hR cb_X7_time cv_X7_time u18_9 (Ct.inM (k_X7_time hst c.1.mi (sc_rng xs (i + 1)))) l3_recvM ⟨_, _, rfl⟩ rfl (Nat.le_of_ble_eq_true rfl) rfl dL_law_1100 (by decide) ⟨(by omega : k + 0 + 0 ≤ 601024), (by omega : n + 0 + 0 ≤ 7293034)⟩ (fun E x9 h9 => ?_) (fun r9 x9 h9 => ?_)
  · obtain ⟨⟨t9, M9⟩, rfl, hm⟩ := h9
    obtain ⟨_, hz⟩ := hP.2 (.error E) t9 M9 hm
    rcases hz with ⟨_, _, g, _⟩ | ⟨_, _, _, _, g⟩ <;> cases g
  obtain ⟨⟨t9, M9⟩, rfl, hm⟩ := h9
  obtain ⟨R9, hz⟩ := hP.2 (.ok r9) t9 M9 hm
  rcases hz with ⟨w9, e1, e2, rfl⟩ | ⟨_, g, _⟩
  rotate_left
  · cases g
  have e5 : (Except.ok r9 : Except String (Option Value)) = .ok (some (vi v8)) := e2.trans e1.symm
  cases e5
  refine x_eqS (tgt := 1486) C dL_law_1103 (by decide) ?_
  exact ((kk _ _ _ R9).mono (by omega) (by omega)).loc (lsc rfl (lsc rfl (lsc rfl (lsc rfl (lsc rfl lsn)))))

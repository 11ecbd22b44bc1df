set_option maxRecDepth 100000 in
set_option maxHeartbeats 1000000 in
theorem law_session {φ : Fx} {cy : CY} {rt : Option FieldType} {bs Ls : Nat} {xs : Nat → Int32} {b : Nat → Nat} {ao ob k n : Nat} {i : Int} {h : HS} {M : MS} {t0 : Int} {o : Int64} (C : Cx φ cL_law RL rt cy) (hR : ROf φ = RLaw) (hn : nLof φ = 7) (hX : SX φ bs Ls xs) (hL : Ls ≤ 3584) (hi : 0 ≤ i ∧ i + 7 ≤ Ls) (hk : k + 2 ≤ 601024 ∧ n + 12 ≤ 7293034) (R : RC ob h M) (kk : ∀ (h1 : HS) (q1 : Int × MS) (o1 : Int64), RC ob h1 q1.2 → X φ (LW3 cy b ao (h1, q1, o1)) (k + 2) (n + 12) 1486 (LL bs ob (b 0) ao i) []) : X φ (LW3 cy b ao (h, (t0, M), o)) k n 1164 (LL bs ob (b 0) ao i) [] := by
  obtain ⟨A, lz, f, ow, rfl, c⟩ := R
  have hst := C.st
  have v0 := c.2.1.1
  refine x_aload_n C dL_law_1164 rfl rfl ?_
  refine x_aload_n C dL_law_1165 rfl rfl ?_
  refine x_iload C dL_law_1166 rfl ?_
  refine x_iconst C dL_law_1168 ?_
  refine x_iadd C dL_law_1169 ?_
  refine x_sld C hX hL (by omega) dL_law_1170 ?_
  refine x_aload_n C dL_law_1171 rfl rfl ?_
  refine x_iload C dL_law_1172 rfl ?_
  refine x_iconst C dL_law_1174 ?_
  refine x_iadd C dL_law_1175 ?_
  refine x_sld C hX hL (by omega) dL_law_1176 ?_
  refine x_aload_n C dL_law_1177 rfl rfl ?_
  refine x_iload C dL_law_1178 rfl ?_
  refine x_iconst C dL_law_1180 ?_
  refine x_iadd C dL_law_1181 ?_
  refine x_sld C hX hL (by omega) dL_law_1182 ?_
  refine x_aload_n C dL_law_1183 rfl rfl ?_
  refine x_callSW C hR cbw_session u20_13 u20_12 (w_session hst c (sc_rng xs (i + 1)) (sc_rng xs (i + 2)) (sc_rng xs (i + 3))) rfl (Nat.le_of_ble_eq_true rfl) rfl dL_law_1184 (by decide) ⟨(by omega : k + 1 ≤ 601024), (by omega : n + 6 ≤ 7293034)⟩ (fun E x9 h9 => ?_) (fun r9 x9 h9 => ?_)
  · obtain ⟨_, _, _, hc⟩ := h9
    rcases hc with ⟨_, _, _, g, _⟩ | ⟨_, _, _, _, g, _⟩ <;> cases g
  obtain ⟨r8, h8, hP, hc⟩ := h9
  rcases hc with ⟨v8, e8, hB, e9, rfl⟩ | ⟨E8, k8, e8, hm8, e9, rfl⟩
  · cases e9
    refine x_istore C dL_law_1187 (by rw [hn]; exact Nat.le_of_ble_eq_true rfl) ?_
    refine x_aload_n C dL_law_1189 rfl rfl ?_
    refine x_aload_n C dL_law_1190 rfl rfl ?_
    refine x_iload C dL_law_1191 rfl ?_
    refine x_iconst C dL_law_1193 ?_
    refine x_iadd C dL_law_1194 ?_
    refine x_sld C hX hL (by omega) dL_law_1195 ?_
    refine x_aload_n C dL_law_1196 rfl rfl ?_
    refine x_iload C dL_law_1197 rfl ?_
    refine x_iconst C dL_law_1199 ?_
    refine x_iadd C dL_law_1200 ?_
    refine x_sld C hX hL (by omega) dL_law_1201 ?_
    refine x_aload_n C dL_law_1202 rfl rfl ?_
    refine x_iload C dL_law_1203 rfl ?_
    refine x_iconst C dL_law_1205 ?_
    refine x_iadd C dL_law_1206 ?_
    refine x_sld C hX hL (by omega) dL_law_1207 ?_
    refine x_callV C hR cb_X7_session cv_X7_session u20_23 (Ct.inM (k_X7_session (ch := lz) hst c.1.mi c.2.2.2.1.2 (sc_rng xs (i + 1)) (sc_rng xs (i + 2)) (sc_rng xs (i + 3)))) l3_recvM ⟨_, _, rfl⟩ rfl (Nat.le_of_ble_eq_true rfl) rfl dL_law_1208 (by decide) ⟨(by omega : k + 1 + 0 ≤ 601024), (by omega : n + 6 + 0 ≤ 7293034)⟩ (fun E x9 h9 => ?_) (fun r9 x9 h9 => ?_)
    · obtain ⟨⟨t9, M9⟩, rfl, hm⟩ := h9
      obtain ⟨_, hz⟩ := hP.2 (.error E) t9 M9 hm
      rcases hz with ⟨_, _, g, _⟩ | ⟨_, _, _, _, g⟩ <;> cases g
    obtain ⟨⟨t9, M9⟩, rfl, hm⟩ := h9
    obtain ⟨R9, hz⟩ := hP.2 (.ok r9) t9 M9 hm
    rcases hz with ⟨w9, e1, e2, rfl⟩ | ⟨E, e1, _⟩
    rotate_left
    · rw [e8] at e1; cases e1
    have e5 : (Except.ok r9 : Except String (Option Value)) = .ok (some (vi v8)) := e2.trans (e1.symm.trans e8)
    cases e5
    refine x_istore C dL_law_1211 (by rw [hn]; exact Nat.le_of_ble_eq_true rfl) ?_
    refine x_aload_n C dL_law_1213 rfl rfl ?_
    refine x_callV C hR cb_X7_thrown cv_X7_thrown u7_13 (Ct.inM (k_X7_thrown hst)) l3_recvM ⟨_, _, rfl⟩ rfl (Nat.le_of_ble_eq_true rfl) rfl dL_law_1214 (by decide) ⟨(by omega : k + 1 + 0 + 0 ≤ 601024), (by omega : n + 6 + 0 + 0 ≤ 7293034)⟩ (fun E x9 h9 => by obtain ⟨_, _, g, _⟩ := h9; cases g) (fun r9 x9 h9 => ?_)
    obtain ⟨q9, rfl, e9, rfl⟩ := h9
    cases e9
    refine x_iload C dL_law_1217 rfl ?_
    refine x_eqS (tgt := 1224) C dL_law_1219 (by decide) ?_
    refine x_iload C dL_law_1224 rfl ?_
    refine x_if_ne (tgt := 1241) C dL_law_1226 (by decide) (by decide) (fun hh => absurd rfl hh) (fun _ => ?_)
    refine x_aload_n C dL_law_1229 rfl rfl ?_
    refine x_iconst C dL_law_1230 ?_
    refine x_lald C dL_law_1231 ?_
    refine x_iload C dL_law_1232 rfl ?_
    refine x_i2l C dL_law_1234 ?_
    refine x_lcmp C dL_law_1235 ?_
    refine x_if_eq (tgt := 1241) C dL_law_1236 (by decide) (by decide) (fun _ => ?_) (fun hh => absurd rfl hh)
    refine x_goto (tgt := 1486) C dL_law_1241 (by decide) ?_
    exact ((kk _ _ _ R9).mono (by omega) (by omega)).loc (lsc rfl (lsc rfl (lsc rfl (lsc rfl (lsc rfl lsn)))))
  · cases e9
    refine x_istore C dL_law_1187 (by rw [hn]; exact Nat.le_of_ble_eq_true rfl) ?_
    refine x_aload_n C dL_law_1189 rfl rfl ?_
    refine x_aload_n C dL_law_1190 rfl rfl ?_
    refine x_iload C dL_law_1191 rfl ?_
    refine x_iconst C dL_law_1193 ?_
    refine x_iadd C dL_law_1194 ?_
    refine x_sld C hX hL (by omega) dL_law_1195 ?_
    refine x_aload_n C dL_law_1196 rfl rfl ?_
    refine x_iload C dL_law_1197 rfl ?_
    refine x_iconst C dL_law_1199 ?_
    refine x_iadd C dL_law_1200 ?_
    refine x_sld C hX hL (by omega) dL_law_1201 ?_
    refine x_aload_n C dL_law_1202 rfl rfl ?_
    refine x_iload C dL_law_1203 rfl ?_
    refine x_iconst C dL_law_1205 ?_
    refine x_iadd C dL_law_1206 ?_
    refine x_sld C hX hL (by omega) dL_law_1207 ?_
    refine x_callV C hR cb_X7_session cv_X7_session u20_23 (Ct.inM (k_X7_session (ch := lz) hst c.1.mi c.2.2.2.1.2 (sc_rng xs (i + 1)) (sc_rng xs (i + 2)) (sc_rng xs (i + 3)))) l3_recvM ⟨_, _, rfl⟩ rfl (Nat.le_of_ble_eq_true rfl) rfl dL_law_1208 (by decide) ⟨(by omega : k + 1 + 0 ≤ 601024), (by omega : n + 6 + 0 ≤ 7293034)⟩ (fun E x9 h9 => ?_) (fun r9 x9 h9 => ?_)
    · obtain ⟨⟨t9, M9⟩, rfl, hm⟩ := h9
      obtain ⟨_, hz⟩ := hP.2 (.error E) t9 M9 hm
      rcases hz with ⟨_, _, g, _⟩ | ⟨_, _, _, _, g⟩ <;> cases g
    obtain ⟨⟨t9, M9⟩, rfl, hm⟩ := h9
    obtain ⟨R9, hz⟩ := hP.2 (.ok r9) t9 M9 hm
    rcases hz with ⟨w9, e1, _, _⟩ | ⟨E, e1, hm9, v9, e2⟩
    · rw [e8] at e1; cases e1
    have e5 : (Except.error E : Except String (Option Value)) = .error E8 := e1.symm.trans e8
    cases e5
    cases e2
    have e6 := uqOI hm8 hm9
    subst e6
    have hk8 := rgOI hm8
    refine x_istore C dL_law_1211 (by rw [hn]; exact Nat.le_of_ble_eq_true rfl) ?_
    refine x_aload_n C dL_law_1213 rfl rfl ?_
    refine x_callV C hR cb_X7_thrown cv_X7_thrown u7_13 (Ct.inM (k_X7_thrown hst)) l3_recvM ⟨_, _, rfl⟩ rfl (Nat.le_of_ble_eq_true rfl) rfl dL_law_1214 (by decide) ⟨(by omega : k + 1 + 0 + 0 ≤ 601024), (by omega : n + 6 + 0 + 0 ≤ 7293034)⟩ (fun E x9 h9 => by obtain ⟨_, _, g, _⟩ := h9; cases g) (fun r9 x9 h9 => ?_)
    obtain ⟨q9, rfl, e9, rfl⟩ := h9
    cases e9
    refine x_iload C dL_law_1217 rfl ?_
    refine x_eqS (tgt := 1224) C dL_law_1219 (by decide) ?_
    refine x_iload C dL_law_1224 rfl ?_
    refine x_if_ne (tgt := 1241) C dL_law_1226 (by decide) (by omega) (fun _ => ?_) (fun hh => absurd hh (by omega))
    refine x_goto (tgt := 1486) C dL_law_1241 (by decide) ?_
    exact ((kk _ _ _ R9).mono (by omega) (by omega)).loc (lsc rfl (lsc rfl (lsc rfl (lsc rfl (lsc rfl lsn)))))

set_option maxRecDepth 100000 in
set_option maxHeartbeats 1000000 in
theorem law_counted {φ : Fx} {cy : CY} {rt : Option FieldType} {bs Ls : Nat} {xs : Nat → Int32} {b : Nat → Nat} {ao ob k n : Nat} {i : Int} {h : HS} {M : MS} {t0 : Int} {o : Int64} (C : Cx φ cL_law RL rt cy) (hR : ROf φ = RLaw) (hn : nLof φ = 7) (hX : SX φ bs Ls xs) (hL : Ls ≤ 3584) (hi : 0 ≤ i ∧ i + 7 ≤ Ls) (hk : k + 2 ≤ 601024 ∧ n + 12 ≤ 7293034) (R : RC ob h M) (kk : ∀ (h1 : HS) (q1 : Int × MS) (o1 : Int64), RC ob h1 q1.2 → X φ (LW3 cy b ao (h1, q1, o1)) (k + 2) (n + 12) 1486 (LL bs ob (b 0) ao i) []) : X φ (LW3 cy b ao (h, (t0, M), o)) k n 1244 (LL bs ob (b 0) ao i) [] := by
  obtain ⟨A, lz, f, ow, rfl, c⟩ := R
  have hst := C.st
  have v0 := c.2.1.1
  refine x_aload_n C dL_law_1244 rfl rfl ?_
  refine x_aload_n C dL_law_1245 rfl rfl ?_
  refine x_iload C dL_law_1246 rfl ?_
  refine x_iconst C dL_law_1248 ?_
  refine x_iadd C dL_law_1249 ?_
  refine x_sld C hX hL (by omega) dL_law_1250 ?_
  refine x_aload_n C dL_law_1251 rfl rfl ?_
  refine x_iload C dL_law_1252 rfl ?_
  refine x_iconst C dL_law_1254 ?_
  refine x_iadd C dL_law_1255 ?_
  refine x_sld C hX hL (by omega) dL_law_1256 ?_
  refine x_aload_n C dL_law_1257 rfl rfl ?_
  refine x_iload C dL_law_1258 rfl ?_
  refine x_iconst C dL_law_1260 ?_
  refine x_iadd C dL_law_1261 ?_
  refine x_sld C hX hL (by omega) dL_law_1262 ?_
  refine x_aload_n C dL_law_1263 rfl rfl ?_
  refine x_iload C dL_law_1264 rfl ?_
  refine x_iconst C dL_law_1266 ?_
  refine x_iadd C dL_law_1267 ?_
  refine x_sld C hX hL (by omega) dL_law_1268 ?_
  refine x_aload_n C dL_law_1269 rfl rfl ?_
  refine x_iload C dL_law_1270 rfl ?_
  refine x_iconst C dL_law_1272 ?_
  refine x_iadd C dL_law_1273 ?_
  refine x_sld C hX hL (by omega) dL_law_1274 ?_
  refine x_aload_n C dL_law_1275 rfl rfl ?_
  refine x_callSW C hR cbw_counted u21_4 u21_3 (w_counted hst c (sc_rng xs (i + 1)) (sc_rng xs (i + 2)) (sc_rng xs (i + 3)) (sc_rng xs (i + 4)) (sc_rng xs (i + 5))) rfl (Nat.le_of_ble_eq_true rfl) rfl dL_law_1276 (by decide) ⟨(by omega : k + 1 ≤ 601024), (by omega : n + 6 ≤ 7293034)⟩ (fun E x9 h9 => ?_) (fun r9 x9 h9 => ?_)
  · obtain ⟨_, _, _, hc⟩ := h9
    rcases hc with ⟨_, _, _, g, _⟩ | ⟨_, _, _, _, g, _⟩ <;> cases g
  obtain ⟨r8, h8, hP, hc⟩ := h9
  rcases hc with ⟨v8, e8, hB, e9, rfl⟩ | ⟨E8, k8, e8, hm8, e9, rfl⟩
  · cases e9
    refine x_istore C dL_law_1279 (by rw [hn]; exact Nat.le_of_ble_eq_true rfl) ?_
    refine x_aload_n C dL_law_1281 rfl rfl ?_
    refine x_aload_n C dL_law_1282 rfl rfl ?_
    refine x_iload C dL_law_1283 rfl ?_
    refine x_iconst C dL_law_1285 ?_
    refine x_iadd C dL_law_1286 ?_
    refine x_sld C hX hL (by omega) dL_law_1287 ?_
    refine x_aload_n C dL_law_1288 rfl rfl ?_
    refine x_iload C dL_law_1289 rfl ?_
    refine x_iconst C dL_law_1291 ?_
    refine x_iadd C dL_law_1292 ?_
    refine x_sld C hX hL (by omega) dL_law_1293 ?_
    refine x_aload_n C dL_law_1294 rfl rfl ?_
    refine x_iload C dL_law_1295 rfl ?_
    refine x_iconst C dL_law_1297 ?_
    refine x_iadd C dL_law_1298 ?_
    refine x_sld C hX hL (by omega) dL_law_1299 ?_
    refine x_aload_n C dL_law_1300 rfl rfl ?_
    refine x_iload C dL_law_1301 rfl ?_
    refine x_iconst C dL_law_1303 ?_
    refine x_iadd C dL_law_1304 ?_
    refine x_sld C hX hL (by omega) dL_law_1305 ?_
    refine x_aload_n C dL_law_1306 rfl rfl ?_
    refine x_iload C dL_law_1307 rfl ?_
    refine x_iconst C dL_law_1309 ?_
    refine x_iadd C dL_law_1310 ?_
    refine x_sld C hX hL (by omega) dL_law_1311 ?_
    refine x_callV C hR cb_X7_counted cv_X7_counted u21_23 (Ct.inM (k_X7_counted hst c.1.mi (sc_rng xs (i + 1)) (sc_rng xs (i + 2)) (sc_rng xs (i + 3)) (sc_rng xs (i + 4)) (sc_rng xs (i + 5)))) l3_recvM ⟨_, _, rfl⟩ rfl (Nat.le_of_ble_eq_true rfl) rfl dL_law_1312 (by decide) ⟨(by omega : k + 1 + 0 ≤ 601024), (by omega : n + 6 + 0 ≤ 7293034)⟩ (fun E x9 h9 => ?_) (fun r9 x9 h9 => ?_)
    · obtain ⟨⟨t9, M9⟩, rfl, hm⟩ := h9
      obtain ⟨_, hz⟩ := hP.2 (.error E) t9 M9 hm
      rcases hz with ⟨_, _, g, _⟩ | ⟨_, _, _, _, g⟩ <;> cases g
    obtain ⟨⟨t9, M9⟩, rfl, hm⟩ := h9
    obtain ⟨R9, hz⟩ := hP.2 (.ok r9) t9 M9 hm
    rcases hz with ⟨w9, e1, e2, rfl⟩ | ⟨E, e1, _⟩
    rotate_left
    · rw [e8] at e1; cases e1
    have e5 : (Except.ok r9 : Except String (Option Value)) = .ok (some (vi v8)) := e2.trans (e1.symm.trans e8)
    cases e5
    refine x_istore C dL_law_1315 (by rw [hn]; exact Nat.le_of_ble_eq_true rfl) ?_
    refine x_aload_n C dL_law_1317 rfl rfl ?_
    refine x_callV C hR cb_X7_thrown cv_X7_thrown u7_13 (Ct.inM (k_X7_thrown hst)) l3_recvM ⟨_, _, rfl⟩ rfl (Nat.le_of_ble_eq_true rfl) rfl dL_law_1318 (by decide) ⟨(by omega : k + 1 + 0 + 0 ≤ 601024), (by omega : n + 6 + 0 + 0 ≤ 7293034)⟩ (fun E x9 h9 => by obtain ⟨_, _, g, _⟩ := h9; cases g) (fun r9 x9 h9 => ?_)
    obtain ⟨q9, rfl, e9, rfl⟩ := h9
    cases e9
    refine x_iload C dL_law_1321 rfl ?_
    refine x_eqS (tgt := 1328) C dL_law_1323 (by decide) ?_
    refine x_iload C dL_law_1328 rfl ?_
    refine x_if_ne (tgt := 1345) C dL_law_1330 (by decide) (by decide) (fun hh => absurd rfl hh) (fun _ => ?_)
    refine x_aload_n C dL_law_1333 rfl rfl ?_
    refine x_iconst C dL_law_1334 ?_
    refine x_lald C dL_law_1335 ?_
    refine x_iload C dL_law_1336 rfl ?_
    refine x_i2l C dL_law_1338 ?_
    refine x_lcmp C dL_law_1339 ?_
    refine x_if_eq (tgt := 1345) C dL_law_1340 (by decide) (by decide) (fun _ => ?_) (fun hh => absurd rfl hh)
    refine x_goto (tgt := 1486) C dL_law_1345 (by decide) ?_
    exact ((kk _ _ _ R9).mono (by omega) (by omega)).loc (lsc rfl (lsc rfl (lsc rfl (lsc rfl (lsc rfl lsn)))))
  · cases e9
    refine x_istore C dL_law_1279 (by rw [hn]; exact Nat.le_of_ble_eq_true rfl) ?_
    refine x_aload_n C dL_law_1281 rfl rfl ?_
    refine x_aload_n C dL_law_1282 rfl rfl ?_
    refine x_iload C dL_law_1283 rfl ?_
    refine x_iconst C dL_law_1285 ?_
    refine x_iadd C dL_law_1286 ?_
    refine x_sld C hX hL (by omega) dL_law_1287 ?_
    refine x_aload_n C dL_law_1288 rfl rfl ?_
    refine x_iload C dL_law_1289 rfl ?_
    refine x_iconst C dL_law_1291 ?_
    refine x_iadd C dL_law_1292 ?_
    refine x_sld C hX hL (by omega) dL_law_1293 ?_
    refine x_aload_n C dL_law_1294 rfl rfl ?_
    refine x_iload C dL_law_1295 rfl ?_
    refine x_iconst C dL_law_1297 ?_
    refine x_iadd C dL_law_1298 ?_
    refine x_sld C hX hL (by omega) dL_law_1299 ?_
    refine x_aload_n C dL_law_1300 rfl rfl ?_
    refine x_iload C dL_law_1301 rfl ?_
    refine x_iconst C dL_law_1303 ?_
    refine x_iadd C dL_law_1304 ?_
    refine x_sld C hX hL (by omega) dL_law_1305 ?_
    refine x_aload_n C dL_law_1306 rfl rfl ?_
    refine x_iload C dL_law_1307 rfl ?_
    refine x_iconst C dL_law_1309 ?_
    refine x_iadd C dL_law_1310 ?_
    refine x_sld C hX hL (by omega) dL_law_1311 ?_
    refine x_callV C hR cb_X7_counted cv_X7_counted u21_23 (Ct.inM (k_X7_counted hst c.1.mi (sc_rng xs (i + 1)) (sc_rng xs (i + 2)) (sc_rng xs (i + 3)) (sc_rng xs (i + 4)) (sc_rng xs (i + 5)))) l3_recvM ⟨_, _, rfl⟩ rfl (Nat.le_of_ble_eq_true rfl) rfl dL_law_1312 (by decide) ⟨(by omega : k + 1 + 0 ≤ 601024), (by omega : n + 6 + 0 ≤ 7293034)⟩ (fun E x9 h9 => ?_) (fun r9 x9 h9 => ?_)
    · obtain ⟨⟨t9, M9⟩, rfl, hm⟩ := h9
      obtain ⟨_, hz⟩ := hP.2 (.error E) t9 M9 hm
      rcases hz with ⟨_, _, g, _⟩ | ⟨_, _, _, _, g⟩ <;> cases g
    obtain ⟨⟨t9, M9⟩, rfl, hm⟩ := h9
    obtain ⟨R9, hz⟩ := hP.2 (.ok r9) t9 M9 hm
    rcases hz with ⟨w9, e1, _, _⟩ | ⟨E, e1, hm9, v9, e2⟩
    · rw [e8] at e1; cases e1
    have e5 : (Except.error E : Except String (Option Value)) = .error E8 := e1.symm.trans e8
    cases e5
    cases e2
    have e6 := uqIAE hm8 hm9
    subst e6
    have hk8 := rgIAE hm8
    refine x_istore C dL_law_1315 (by rw [hn]; exact Nat.le_of_ble_eq_true rfl) ?_
    refine x_aload_n C dL_law_1317 rfl rfl ?_
    refine x_callV C hR cb_X7_thrown cv_X7_thrown u7_13 (Ct.inM (k_X7_thrown hst)) l3_recvM ⟨_, _, rfl⟩ rfl (Nat.le_of_ble_eq_true rfl) rfl dL_law_1318 (by decide) ⟨(by omega : k + 1 + 0 + 0 ≤ 601024), (by omega : n + 6 + 0 + 0 ≤ 7293034)⟩ (fun E x9 h9 => by obtain ⟨_, _, g, _⟩ := h9; cases g) (fun r9 x9 h9 => ?_)
    obtain ⟨q9, rfl, e9, rfl⟩ := h9
    cases e9
    refine x_iload C dL_law_1321 rfl ?_
    refine x_eqS (tgt := 1328) C dL_law_1323 (by decide) ?_
    refine x_iload C dL_law_1328 rfl ?_
    refine x_if_ne (tgt := 1345) C dL_law_1330 (by decide) (by omega) (fun _ => ?_) (fun hh => absurd hh (by omega))
    refine x_goto (tgt := 1486) C dL_law_1345 (by decide) ?_
    exact ((kk _ _ _ R9).mono (by omega) (by omega)).loc (lsc rfl (lsc rfl (lsc rfl (lsc rfl (lsc rfl lsn)))))

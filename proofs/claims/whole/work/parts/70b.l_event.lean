set_option maxRecDepth 100000 in
set_option maxHeartbeats 1000000 in
theorem law_event {φ : Fx} {cy : CY} {rt : Option FieldType} {bs Ls : Nat} {xs : Nat → Int32} {b : Nat → Nat} {ao ob k n : Nat} {i : Int} {h : HS} {M : MS} {t0 : Int} {o : Int64} (C : Cx φ cL_law RL rt cy) (hR : ROf φ = RLaw) (hn : nLof φ = 7) (hX : SX φ bs Ls xs) (hL : Ls ≤ 3584) (hi : 0 ≤ i ∧ i + 7 ≤ Ls) (hk : k + 2 ≤ 601024 ∧ n + 12 ≤ 7293034) (R : RC ob h M) (kk : ∀ (h1 : HS) (q1 : Int × MS) (o1 : Int64), RC ob h1 q1.2 → X φ (LW3 cy b ao (h1, q1, o1)) (k + 2) (n + 12) 1486 (LL bs ob (b 0) ao i) []) : X φ (LW3 cy b ao (h, (t0, M), o)) k n 136 (LL bs ob (b 0) ao i) [] := by
  obtain ⟨A, lz, f, ow, rfl, c⟩ := R
  have hst := C.st
  have v0 := c.2.1.1
  refine x_aload_n C dL_law_136 rfl rfl ?_
  refine x_aload_n C dL_law_137 rfl rfl ?_
  refine x_iload C dL_law_138 rfl ?_
  refine x_iconst C dL_law_140 ?_
  refine x_iadd C dL_law_141 ?_
  refine x_sld C hX hL (by omega) dL_law_142 ?_
  refine x_aload_n C dL_law_143 rfl rfl ?_
  refine x_iload C dL_law_144 rfl ?_
  refine x_iconst C dL_law_146 ?_
  refine x_iadd C dL_law_147 ?_
  refine x_sld C hX hL (by omega) dL_law_148 ?_
  refine x_aload_n C dL_law_149 rfl rfl ?_
  refine x_iload C dL_law_150 rfl ?_
  refine x_iconst C dL_law_152 ?_
  refine x_iadd C dL_law_153 ?_
  refine x_sld C hX hL (by omega) dL_law_154 ?_
  refine x_aload_n C dL_law_155 rfl rfl ?_
  refine x_iload C dL_law_156 rfl ?_
  refine x_iconst C dL_law_158 ?_
  refine x_iadd C dL_law_159 ?_
  refine x_sld C hX hL (by omega) dL_law_160 ?_
  refine x_aload_n C dL_law_161 rfl rfl ?_
  refine x_iload C dL_law_162 rfl ?_
  refine x_iconst C dL_law_164 ?_
  refine x_iadd C dL_law_165 ?_
  refine x_sld C hX hL (by omega) dL_law_166 ?_
  refine x_aload_n C dL_law_167 rfl rfl ?_
  refine x_iload C dL_law_168 rfl ?_
  refine x_bipush C dL_law_170 (by decide) ?_
  refine x_iadd C dL_law_172 ?_
  refine x_sld C hX hL (by omega) dL_law_173 ?_
  refine x_aload_n C dL_law_174 rfl rfl ?_
  refine x_callSW C hR cbw_event u2_23 u2_22 (w_event hst c (sc_rng xs (i + 1)) (sc_rng xs (i + 2)) (sc_rng xs (i + 3)) (sc_rng xs (i + 4)) (sc_rng xs (i + 5)) (sc_rng xs (i + 6))) rfl (Nat.le_of_ble_eq_true rfl) rfl dL_law_175 (by decide) ⟨(by omega : k + 1 ≤ 601024), (by omega : n + 9 ≤ 7293034)⟩ (fun E x9 h9 => ?_) (fun r9 x9 h9 => ?_)
  · obtain ⟨_, _, _, hc⟩ := h9
    rcases hc with ⟨_, _, _, g, _⟩ | ⟨_, _, _, _, g, _⟩ <;> cases g
  obtain ⟨r8, h8, hP, hc⟩ := h9
  rcases hc with ⟨v8, e8, hB, e9, rfl⟩ | ⟨E8, k8, e8, hm8, e9, rfl⟩
  · cases e9
    refine x_istore C dL_law_178 (by rw [hn]; exact Nat.le_of_ble_eq_true rfl) ?_
    refine x_aload_n C dL_law_180 rfl rfl ?_
    refine x_aload_n C dL_law_181 rfl rfl ?_
    refine x_iload C dL_law_182 rfl ?_
    refine x_iconst C dL_law_184 ?_
    refine x_iadd C dL_law_185 ?_
    refine x_sld C hX hL (by omega) dL_law_186 ?_
    refine x_aload_n C dL_law_187 rfl rfl ?_
    refine x_iload C dL_law_188 rfl ?_
    refine x_iconst C dL_law_190 ?_
    refine x_iadd C dL_law_191 ?_
    refine x_sld C hX hL (by omega) dL_law_192 ?_
    refine x_aload_n C dL_law_193 rfl rfl ?_
    refine x_iload C dL_law_194 rfl ?_
    refine x_iconst C dL_law_196 ?_
    refine x_iadd C dL_law_197 ?_
    refine x_sld C hX hL (by omega) dL_law_198 ?_
    refine x_aload_n C dL_law_199 rfl rfl ?_
    refine x_iload C dL_law_200 rfl ?_
    refine x_iconst C dL_law_202 ?_
    refine x_iadd C dL_law_203 ?_
    refine x_sld C hX hL (by omega) dL_law_204 ?_
    refine x_aload_n C dL_law_205 rfl rfl ?_
    refine x_iload C dL_law_206 rfl ?_
    refine x_iconst C dL_law_208 ?_
    refine x_iadd C dL_law_209 ?_
    refine x_sld C hX hL (by omega) dL_law_210 ?_
    refine x_aload_n C dL_law_211 rfl rfl ?_
    refine x_iload C dL_law_212 rfl ?_
    refine x_bipush C dL_law_214 (by decide) ?_
    refine x_iadd C dL_law_216 ?_
    refine x_sld C hX hL (by omega) dL_law_217 ?_
    refine x_callV C hR cb_X7_event cv_X7_event u7_3 (Ct.inM (k_X7_event hst c.1.mi (sc_rng xs (i + 1)) (sc_rng xs (i + 2)) (sc_rng xs (i + 3)) (sc_rng xs (i + 4)) (sc_rng xs (i + 5)) (sc_rng xs (i + 6)))) l3_recvM ⟨_, _, rfl⟩ rfl (Nat.le_of_ble_eq_true rfl) rfl dL_law_218 (by decide) ⟨(by omega : k + 1 + 0 ≤ 601024), (by omega : n + 9 + 0 ≤ 7293034)⟩ (fun E x9 h9 => ?_) (fun r9 x9 h9 => ?_)
    · obtain ⟨⟨t9, M9⟩, rfl, hm⟩ := h9
      obtain ⟨_, hz⟩ := hP.2 (.error E) t9 M9 hm
      rcases hz with ⟨_, _, g, _⟩ | ⟨_, _, _, _, g⟩ <;> cases g
    obtain ⟨⟨t9, M9⟩, rfl, hm⟩ := h9
    obtain ⟨R9, hz⟩ := hP.2 (.ok r9) t9 M9 hm
    rcases hz with ⟨w9, e1, e2, rfl⟩ | ⟨E, e1, _⟩
    rotate_left
    · rw [e8] at e1; cases e1
    have e5 : (Except.ok r9 : Except String (Option Value)) = .ok (some (vi v8)) := e2.trans (e1.symm.trans e8)
    cases e5
    refine x_istore C dL_law_221 (by rw [hn]; exact Nat.le_of_ble_eq_true rfl) ?_
    refine x_aload_n C dL_law_223 rfl rfl ?_
    refine x_callV C hR cb_X7_thrown cv_X7_thrown u7_13 (Ct.inM (k_X7_thrown hst)) l3_recvM ⟨_, _, rfl⟩ rfl (Nat.le_of_ble_eq_true rfl) rfl dL_law_224 (by decide) ⟨(by omega : k + 1 + 0 + 0 ≤ 601024), (by omega : n + 9 + 0 + 0 ≤ 7293034)⟩ (fun E x9 h9 => by obtain ⟨_, _, g, _⟩ := h9; cases g) (fun r9 x9 h9 => ?_)
    obtain ⟨q9, rfl, e9, rfl⟩ := h9
    cases e9
    refine x_iload C dL_law_227 rfl ?_
    refine x_eqS (tgt := 234) C dL_law_229 (by decide) ?_
    refine x_iload C dL_law_234 rfl ?_
    refine x_if_ne (tgt := 258) C dL_law_236 (by decide) (by decide) (fun hh => absurd rfl hh) (fun _ => ?_)
    refine x_aload_n C dL_law_239 rfl rfl ?_
    refine x_iconst C dL_law_240 ?_
    refine x_lald C dL_law_241 ?_
    refine x_iload C dL_law_242 rfl ?_
    have hB : v8 = 0 ∨ v8 = 1 := hB
    refine x_if_eq (tgt := 251) C dL_law_244 (by decide) (by omega) (fun hv => ?_) (fun hv => ?_)
    · rw [outB_0 hv]
      refine x_lconst (v := 0) C dL_law_251 rfl ?_
      refine x_lcmp C dL_law_252 ?_
      refine x_if_eq (tgt := 258) C dL_law_253 (by decide) (by decide) (fun _ => ?_) (fun hh => absurd rfl hh)
      refine x_goto (tgt := 1486) C dL_law_258 (by decide) ?_
      exact ((kk _ _ _ R9).mono (by omega) (by omega)).loc (lsc rfl (lsc rfl (lsc rfl (lsc rfl (lsc rfl lsn)))))
    · rw [outB_1 hv]
      refine x_lconst (v := 1) C dL_law_247 rfl ?_
      refine x_goto (tgt := 252) C dL_law_248 (by decide) ?_
      refine x_lcmp C dL_law_252 ?_
      refine x_if_eq (tgt := 258) C dL_law_253 (by decide) (by decide) (fun _ => ?_) (fun hh => absurd rfl hh)
      refine x_goto (tgt := 1486) C dL_law_258 (by decide) ?_
      exact ((kk _ _ _ R9).mono (by omega) (by omega)).loc (lsc rfl (lsc rfl (lsc rfl (lsc rfl (lsc rfl lsn)))))
  · cases e9
    refine x_istore C dL_law_178 (by rw [hn]; exact Nat.le_of_ble_eq_true rfl) ?_
    refine x_aload_n C dL_law_180 rfl rfl ?_
    refine x_aload_n C dL_law_181 rfl rfl ?_
    refine x_iload C dL_law_182 rfl ?_
    refine x_iconst C dL_law_184 ?_
    refine x_iadd C dL_law_185 ?_
    refine x_sld C hX hL (by omega) dL_law_186 ?_
    refine x_aload_n C dL_law_187 rfl rfl ?_
    refine x_iload C dL_law_188 rfl ?_
    refine x_iconst C dL_law_190 ?_
    refine x_iadd C dL_law_191 ?_
    refine x_sld C hX hL (by omega) dL_law_192 ?_
    refine x_aload_n C dL_law_193 rfl rfl ?_
    refine x_iload C dL_law_194 rfl ?_
    refine x_iconst C dL_law_196 ?_
    refine x_iadd C dL_law_197 ?_
    refine x_sld C hX hL (by omega) dL_law_198 ?_
    refine x_aload_n C dL_law_199 rfl rfl ?_
    refine x_iload C dL_law_200 rfl ?_
    refine x_iconst C dL_law_202 ?_
    refine x_iadd C dL_law_203 ?_
    refine x_sld C hX hL (by omega) dL_law_204 ?_
    refine x_aload_n C dL_law_205 rfl rfl ?_
    refine x_iload C dL_law_206 rfl ?_
    refine x_iconst C dL_law_208 ?_
    refine x_iadd C dL_law_209 ?_
    refine x_sld C hX hL (by omega) dL_law_210 ?_
    refine x_aload_n C dL_law_211 rfl rfl ?_
    refine x_iload C dL_law_212 rfl ?_
    refine x_bipush C dL_law_214 (by decide) ?_
    refine x_iadd C dL_law_216 ?_
    refine x_sld C hX hL (by omega) dL_law_217 ?_
    refine x_callV C hR cb_X7_event cv_X7_event u7_3 (Ct.inM (k_X7_event hst c.1.mi (sc_rng xs (i + 1)) (sc_rng xs (i + 2)) (sc_rng xs (i + 3)) (sc_rng xs (i + 4)) (sc_rng xs (i + 5)) (sc_rng xs (i + 6)))) l3_recvM ⟨_, _, rfl⟩ rfl (Nat.le_of_ble_eq_true rfl) rfl dL_law_218 (by decide) ⟨(by omega : k + 1 + 0 ≤ 601024), (by omega : n + 9 + 0 ≤ 7293034)⟩ (fun E x9 h9 => ?_) (fun r9 x9 h9 => ?_)
    · obtain ⟨⟨t9, M9⟩, rfl, hm⟩ := h9
      obtain ⟨_, hz⟩ := hP.2 (.error E) t9 M9 hm
      rcases hz with ⟨_, _, g, _⟩ | ⟨_, _, _, _, g⟩ <;> cases g
    obtain ⟨⟨t9, M9⟩, rfl, hm⟩ := h9
    obtain ⟨R9, hz⟩ := hP.2 (.ok r9) t9 M9 hm
    rcases hz with ⟨w9, e1, _, _⟩ | ⟨E, e1, hm9, v9, e2⟩
    · rw [e8] at e1; cases e1
    have e5 : (Except.error E : Except String (Option Value)) = .error E8 := e1.symm.trans e8
    cases e5
    cases e2
    have e6 := uqIS hm8 hm9
    subst e6
    have hk8 := rgIS hm8
    refine x_istore C dL_law_221 (by rw [hn]; exact Nat.le_of_ble_eq_true rfl) ?_
    refine x_aload_n C dL_law_223 rfl rfl ?_
    refine x_callV C hR cb_X7_thrown cv_X7_thrown u7_13 (Ct.inM (k_X7_thrown hst)) l3_recvM ⟨_, _, rfl⟩ rfl (Nat.le_of_ble_eq_true rfl) rfl dL_law_224 (by decide) ⟨(by omega : k + 1 + 0 + 0 ≤ 601024), (by omega : n + 9 + 0 + 0 ≤ 7293034)⟩ (fun E x9 h9 => by obtain ⟨_, _, g, _⟩ := h9; cases g) (fun r9 x9 h9 => ?_)
    obtain ⟨q9, rfl, e9, rfl⟩ := h9
    cases e9
    refine x_iload C dL_law_227 rfl ?_
    refine x_eqS (tgt := 234) C dL_law_229 (by decide) ?_
    refine x_iload C dL_law_234 rfl ?_
    refine x_if_ne (tgt := 258) C dL_law_236 (by decide) (by omega) (fun _ => ?_) (fun hh => absurd hh (by omega))
    refine x_goto (tgt := 1486) C dL_law_258 (by decide) ?_
    exact ((kk _ _ _ R9).mono (by omega) (by omega)).loc (lsc rfl (lsc rfl (lsc rfl (lsc rfl (lsc rfl lsn)))))

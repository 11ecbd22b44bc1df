/-! The law's act: event -/
set_option maxRecDepth 100000 in
set_option maxHeartbeats 400000 in
theorem act_event {φ : Fx} {cy : CY} {bs : Nat} {ba : Nat → Nat} {ob : Nat} {h : HS} {V M : MS} {k n : Nat} {x y t kd dv ac nd : Int} (C : Cx φ cL_law RL ret cy) (hR : ROf φ = RLaw) (hn : nLof φ = 19) (hk : k + 100 ≤ 600074 ∧ n + 1000 ≤ 7301550) (G : GF ob h V M) (hnw : M 1 0 ≤ 84000) (hx : -2147483648 ≤ x ∧ x ≤ 2147483647) (hy : -2147483648 ≤ y ∧ y ≤ 2147483647) (hdv : 0 ≤ dv ∧ dv < 3) (hac : -1 ≤ ac ∧ ac < 3) (hnd : 0 ≤ nd ∧ nd < 6) (h50 : M 2 0 < 50) (K : ∀ (h' : HS) (V' M' : MS), GI ob h' V' M' → M' 1 0 ≤ M 1 0 + 1500 → X φ (LA cy ba (h', V')) (k + 100) (n + 1000) 810 (LL bs ob ba (M' 2 0) (M' 1 0) t y) []) : X φ (LA cy ba (h, V)) k n 153 (LF bs ob ba (M 2 0) (M 1 0) t x y kd dv ac nd) [] := by
  have hst := C.st
  obtain ⟨⟨R, hL, hX, hN⟩, hlow, hP⟩ := G
  have hM := R.mi
  have hn0 := hM.n
  have hnow := hM.now
  have h9n := R.n9 (M 2 0) (Int.le_refl _)
  refine x_iload C dL_law_153 rfl ?_
  refine x_iconst C dL_law_155 ?_
  refine x_callS C hR cb_L_low u3_11 u3_10 (k_L_low hst (by first | omega | exact bOp_in _ _ _) (by decide)) rfl (Nat.le_of_ble_eq_true rfl) rfl dL_law_156 (by decide) (by show _ ≤ 600074 ∧ _ ≤ 7301550; omega) (fun E x9 h9 => absurd h9.1 (by intro h; cases h)) (fun r9 x9 h9 => ?_)
  obtain ⟨e9, rfl⟩ := h9
  cases e9
  obtain ⟨wh, hwh⟩ : ∃ z, z = lwF y 3 := ⟨_, rfl⟩
  rw [← hwh]
  have gwh := lwF_in (v := y) (n := 3) (by decide)
  rw [← hwh] at gwh
  refine x_istore C dL_law_159 (by rw [hn]; exact Nat.le_of_ble_eq_true rfl) ?_
  refine x_iload C dL_law_161 rfl ?_
  refine x_iconst C dL_law_163 ?_
  refine x_ishr C dL_law_164 ?_
  refine x_iconst C dL_law_165 ?_
  refine x_callS C hR cb_L_low u3_11 u3_10 (k_L_low hst (by first | omega | exact bOp_in _ _ _) (by decide)) rfl (Nat.le_of_ble_eq_true rfl) rfl dL_law_166 (by decide) (by show _ ≤ 600074 ∧ _ ≤ 7301550; omega) (fun E x9 h9 => absurd h9.1 (by intro h; cases h)) (fun r9 x9 h9 => ?_)
  obtain ⟨e9, rfl⟩ := h9
  cases e9
  obtain ⟨ca, hca⟩ : ∃ z, z = lwF (bOp (fun x y => x >>> (y &&& 31)) y 2) 3 := ⟨_, rfl⟩
  rw [← hca]
  have gca := lwF_in (v := (bOp (fun x y => x >>> (y &&& 31)) y 2)) (n := 3) (by decide)
  rw [← hca] at gca
  refine x_iconst C dL_law_169 ?_
  refine x_isub C dL_law_170 ?_
  refine x_istore C dL_law_171 (by rw [hn]; exact Nat.le_of_ble_eq_true rfl) ?_
  refine x_iload C dL_law_173 rfl ?_
  refine x_sipush C dL_law_175 (by decide) ?_
  refine x_isub C dL_law_178 ?_
  refine x_iload C dL_law_179 rfl ?_
  refine x_iconst C dL_law_181 ?_
  refine x_ishr C dL_law_182 ?_
  refine x_sipush C dL_law_183 (by decide) ?_
  refine x_callS C hR cb_L_low u3_11 u3_10 (k_L_low hst (by first | omega | exact bOp_in _ _ _) (by decide)) rfl (Nat.le_of_ble_eq_true rfl) rfl dL_law_186 (by decide) (by show _ ≤ 600074 ∧ _ ≤ 7301550; omega) (fun E x9 h9 => absurd h9.1 (by intro h; cases h)) (fun r9 x9 h9 => ?_)
  obtain ⟨e9, rfl⟩ := h9
  cases e9
  obtain ⟨ti, hti⟩ : ∃ z, z = lwF (bOp (fun x y => x >>> (y &&& 31)) y 5) 260 := ⟨_, rfl⟩
  rw [← hti]
  have gti := lwF_in (v := (bOp (fun x y => x >>> (y &&& 31)) y 5)) (n := 260) (by decide)
  rw [← hti] at gti
  refine x_iadd C dL_law_189 ?_
  refine x_istore C dL_law_190 (by rw [hn]; exact Nat.le_of_ble_eq_true rfl) ?_
  refine x_aload_n C dL_law_192 rfl rfl ?_
  refine x_iload C dL_law_193 rfl ?_
  refine x_iload C dL_law_195 rfl ?_
  refine x_iconst C dL_law_197 ?_
  refine x_iload C dL_law_198 rfl ?_
  refine x_iconst C dL_law_200 ?_
  refine x_iadd C dL_law_201 ?_
  refine x_imul C dL_law_202 ?_
  refine x_iadd C dL_law_203 ?_
  refine x_bipush C dL_law_204 (by decide) ?_
  refine x_iload C dL_law_206 rfl ?_
  refine x_imul C dL_law_208 ?_
  refine x_iadd C dL_law_209 ?_
  refine x_sipush C dL_law_210 (by decide) ?_
  refine x_iload C dL_law_213 rfl ?_
  refine x_iconst C dL_law_215 ?_
  refine x_iadd C dL_law_216 ?_
  refine x_imul C dL_law_217 ?_
  refine x_iadd C dL_law_218 ?_
  refine x_i2l C (by first | omega | exact bi_rng _) dL_law_219 ?_
  refine x_ldc2 (z := 2048) C u0_5 (by decide) dL_law_220 ?_
  refine x_iload C dL_law_223 rfl ?_
  refine x_i2l C (by first | omega | exact bi_rng _) dL_law_225 ?_
  refine x_lmul C dL_law_226 ?_
  refine x_ladd C dL_law_227 ?_
  refine a_last C (by first | omega | exact bi_rng _) dL_law_228 ?_
  refine x_aload_n C dL_law_229 rfl rfl ?_
  refine x_iload C dL_law_230 rfl ?_
  refine x_iconst C dL_law_232 ?_
  refine x_iadd C dL_law_233 ?_
  refine x_iload C dL_law_234 rfl ?_
  refine x_iload C dL_law_236 rfl ?_
  refine x_iload C dL_law_238 rfl ?_
  refine x_iload C dL_law_240 rfl ?_
  refine x_iload C dL_law_242 rfl ?_
  refine x_callV C hR cb_X6_event cv_X6_event u4_4 (q_event hst R (by omega) (by omega) (by omega) (by omega) (by omega) (by omega) (hX.2.1 _ (by omega)) (by omega)) (a_recvH R.k (by decide)) ⟨_, _, rfl⟩ rfl (Nat.le_of_ble_eq_true rfl) rfl dL_law_244 (by decide) (by show _ ≤ 600074 ∧ _ ≤ 7301550; omega) (fun E x9 h9 => absurd h9.1 (by intro h; cases h)) (fun r9 x9 h9 => ?_)
  obtain ⟨e9, h9x, rfl, R⟩ := h9
  cases e9
  refine x_if_eq (tgt := 266) C dL_law_247 (by decide) (by decide) (fun h => absurd h (by decide)) (fun _ => ?_)
  refine x_aload_n C dL_law_250 rfl rfl ?_
  refine x_iload C dL_law_251 rfl ?_
  refine x_iconst C dL_law_253 ?_
  refine x_iadd C dL_law_254 ?_
  refine x_iconst C dL_law_255 ?_
  refine x_iconst C dL_law_256 ?_
  refine x_iconst C dL_law_257 ?_
  refine x_iconst C dL_law_258 ?_
  refine x_iconst C dL_law_259 ?_
  refine x_callV C hR cb_X6_event cv_X6_event u4_4 (q_event2 hst R (by omega) (by decide) (by decide) (by decide) (by decide) (by decide) (by rw [ev_10, if_pos rfl])) (a_recvH R.k (by decide)) ⟨_, _, rfl⟩ rfl (Nat.le_of_ble_eq_true rfl) rfl dL_law_260 (by decide) (by show _ ≤ 600074 ∧ _ ≤ 7301550; omega) (fun E x9 h9 => absurd h9.1 (by intro h; cases h)) (fun r9 x9 h9 => ?_)
  obtain ⟨e9, h9x, rfl, R⟩ := h9
  cases e9
  refine x_if_eq (tgt := 268) C dL_law_263 (by decide) (by decide) (fun _ => ?_) (fun h => absurd h (by decide))
  refine x_iinc C dL_law_268 (by rw [hn]; exact Nat.le_of_ble_eq_true rfl) rfl ?_
  refine x_goto (tgt := 810) C dL_law_271 (by decide) ?_
  exact X.mono (by omega) (by omega) (X.to (K _ _ _ ⟨R, hL.ev hn0.1 h9n (by omega) (by omega) (by omega) (by omega) (by omega), hX.ev hn0.1, by rw [ev_2]; omega⟩ (by rw [ev_o1]; omega)) (lsc (rfl) (lsc (rfl) (lsc (rfl) (lsc (rfl) (lsc (rfl) (lsc (rfl) (lsc (rfl) (lsc (lkv (by rw [ev_2])) (lsc (lkv (by rw [ev_o1])) (lsc (rfl) (lsc (rfl) (lsn)))))))))))))

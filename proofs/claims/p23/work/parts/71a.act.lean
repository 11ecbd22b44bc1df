/-! Which act -/
set_option maxRecDepth 100000 in
set_option maxHeartbeats 400000 in
theorem law_act {φ : Fx} {cy : CY} {bs : Nat} {ba : Nat → Nat} {ob : Nat} {h : HS} {V M : MS} {k n : Nat} {x y t kd dv ac nd : Int} (C : Cx φ cL_law RL ret cy) (hR : ROf φ = RLaw) (hn : nLof φ = 19) (hk : k + 100 ≤ 600074 ∧ n + 1000 ≤ 7301550) (G : GF ob h V M) (hnw : M 1 0 ≤ 84000) (hx : -2147483648 ≤ x ∧ x ≤ 2147483647) (hy : -2147483648 ≤ y ∧ y ≤ 2147483647) (hdv : 0 ≤ dv ∧ dv < 3) (hac : -1 ≤ ac ∧ ac < 3) (hnd : 0 ≤ nd ∧ nd < 6) (hkd : 0 ≤ kd ∧ kd < 12) (K : ∀ (h' : HS) (V' M' : MS), GI ob h' V' M' → M' 1 0 ≤ M 1 0 + 1500 → X φ (LA cy ba (h', V')) (k + 100) (n + 1000) 810 (LL bs ob ba (M' 2 0) (M' 1 0) t y) []) : X φ (LA cy ba (h, V)) k n 139 (LF bs ob ba (M 2 0) (M 1 0) t x y kd dv ac nd) [] := by
  have hst := C.st
  have hG := G
  obtain ⟨⟨R, hL, hX, hN⟩, hlow, hP⟩ := hG
  have hM := R.mi
  have hn0 := hM.n
  have hnow := hM.now
  have q4 := hL.2.2 nd hnd.1 hnd.2
  have hnn := nn_in hnd
  have h14 := hM.ch (4 * nn nd) (by omega) (by omega)
  have K761 : X φ (LA cy ba (h, V)) k n 761 (LF bs ob ba (M 2 0) (M 1 0) t x y kd dv ac nd) [] := by
    exact X.mono (by omega) (by omega) (act_pass C hR hn hk G hnw hx hy hdv hac hnd K)
  have K625 : X φ (LA cy ba (h, V)) k n 625 (LF bs ob ba (M 2 0) (M 1 0) t x y kd dv ac nd) [] := by
    refine x_iload C dL_law_625 rfl ?_
    refine x_bipush C dL_law_627 (by decide) ?_
    refine x_icmp_ne (tgt := 761) C dL_law_629 (by decide) (by first | omega | exact bi_rng _) (by first | omega | exact bi_rng _) (fun h629 => ?_) (fun h629 => ?_)
    ·
      exact X.mono (by omega) (by omega) (X.to K761 (lsc (rfl) (lsc (rfl) (lsc (rfl) (lsc (rfl) (lsc (rfl) (lsc (rfl) (lsc (rfl) (lsc (rfl) (lsc (rfl) (lsc (rfl) (lsc (rfl) (lsc (rfl) (lsc (rfl) (lsc (rfl) (lsc (rfl) (lsc (rfl) (lsn))))))))))))))))))
    ·
      refine x_iload C dL_law_632 rfl ?_
      refine x_bipush C dL_law_634 (by decide) ?_
      refine x_callS C hR cb_L_low u3_11 u3_10 (k_L_low hst (by first | omega | exact bOp_in _ _ _) (by decide)) rfl (Nat.le_of_ble_eq_true rfl) rfl dL_law_636 (by decide) (by show _ ≤ 600074 ∧ _ ≤ 7301550; omega) (fun E x9 h9 => absurd h9.1 (by intro h; cases h)) (fun r9 x9 h9 => ?_)
      obtain ⟨e9, rfl⟩ := h9
      cases e9
      obtain ⟨l6, hl6⟩ : ∃ z, z = lwF y 6 := ⟨_, rfl⟩
      rw [← hl6]
      have gl6 := lwF_in (v := y) (n := 6) (by decide)
      rw [← hl6] at gl6
      refine x_if_ne (tgt := 761) C dL_law_639 (by decide) (by first | omega | exact bi_rng _) (fun h639 => ?_) (fun h639 => ?_)
      ·
        exact X.mono (by omega) (by omega) (X.to K761 (lsc (rfl) (lsc (rfl) (lsc (rfl) (lsc (rfl) (lsc (rfl) (lsc (rfl) (lsc (rfl) (lsc (rfl) (lsc (rfl) (lsc (rfl) (lsc (rfl) (lsc (rfl) (lsc (rfl) (lsc (rfl) (lsc (rfl) (lsc (rfl) (lsn))))))))))))))))))
      ·
        exact X.mono (by omega) (by omega) (act_forget C hR hn hk G hnw hx hy hdv hac hnd K)
  have K476 : X φ (LA cy ba (h, V)) k n 476 (LF bs ob ba (M 2 0) (M 1 0) t x y kd dv ac nd) [] := by
    refine x_iload C dL_law_476 rfl ?_
    refine x_bipush C dL_law_478 (by decide) ?_
    refine x_icmp_ne (tgt := 625) C dL_law_480 (by decide) (by first | omega | exact bi_rng _) (by first | omega | exact bi_rng _) (fun h480 => ?_) (fun h480 => ?_)
    ·
      exact X.mono (by omega) (by omega) (X.to K625 (lsc (rfl) (lsc (rfl) (lsc (rfl) (lsc (rfl) (lsc (rfl) (lsc (rfl) (lsc (rfl) (lsc (rfl) (lsc (rfl) (lsc (rfl) (lsc (rfl) (lsc (rfl) (lsc (rfl) (lsc (rfl) (lsc (rfl) (lsc (rfl) (lsn))))))))))))))))))
    ·
      refine x_aload C dL_law_483 rfl ?_
      refine x_iload C dL_law_485 rfl ?_
      refine a_iald (f := 4) (N := 6) C rfl (by decide) (by first | omega | exact bi_rng _) dL_law_487 ?_
      refine x_bipush C dL_law_488 (by decide) ?_
      refine x_icmp_ge (tgt := 625) C dL_law_490 (by decide) (by first | omega | exact bi_rng _) (by first | omega | exact bi_rng _) (fun h490 => ?_) (fun h490 => ?_)
      ·
        exact X.mono (by omega) (by omega) (X.to K625 (lsc (rfl) (lsc (rfl) (lsc (rfl) (lsc (rfl) (lsc (rfl) (lsc (rfl) (lsc (rfl) (lsc (rfl) (lsc (rfl) (lsc (rfl) (lsc (rfl) (lsc (rfl) (lsc (rfl) (lsc (rfl) (lsc (rfl) (lsc (rfl) (lsn))))))))))))))))))
      ·
        exact X.mono (by omega) (by omega) (act_consent C hR hn hk G hnw hx hy hdv hac hnd (by omega) K)
  have K274 : X φ (LA cy ba (h, V)) k n 274 (LF bs ob ba (M 2 0) (M 1 0) t x y kd dv ac nd) [] := by
    refine x_iload C dL_law_274 rfl ?_
    refine x_bipush C dL_law_276 (by decide) ?_
    refine x_icmp_ne (tgt := 325) C dL_law_278 (by decide) (by first | omega | exact bi_rng _) (by first | omega | exact bi_rng _) (fun h278 => ?_) (fun h278 => ?_)
    ·
      refine x_iload C dL_law_325 rfl ?_
      refine x_bipush C dL_law_327 (by decide) ?_
      refine x_icmp_ne (tgt := 392) C dL_law_329 (by decide) (by first | omega | exact bi_rng _) (by first | omega | exact bi_rng _) (fun h329 => ?_) (fun h329 => ?_)
      ·
        refine x_iload C dL_law_392 rfl ?_
        refine x_bipush C dL_law_394 (by decide) ?_
        refine x_icmp_ne (tgt := 476) C dL_law_396 (by decide) (by first | omega | exact bi_rng _) (by first | omega | exact bi_rng _) (fun h396 => ?_) (fun h396 => ?_)
        ·
          exact X.mono (by omega) (by omega) (X.to K476 (lsc (rfl) (lsc (rfl) (lsc (rfl) (lsc (rfl) (lsc (rfl) (lsc (rfl) (lsc (rfl) (lsc (rfl) (lsc (rfl) (lsc (rfl) (lsc (rfl) (lsc (rfl) (lsc (rfl) (lsc (rfl) (lsc (rfl) (lsc (rfl) (lsn))))))))))))))))))
        ·
          refine x_iload C dL_law_399 rfl ?_
          refine x_if_lt (tgt := 476) C dL_law_401 (by decide) (by first | omega | exact bi_rng _) (fun h401 => ?_) (fun h401 => ?_)
          ·
            exact X.mono (by omega) (by omega) (X.to K476 (lsc (rfl) (lsc (rfl) (lsc (rfl) (lsc (rfl) (lsc (rfl) (lsc (rfl) (lsc (rfl) (lsc (rfl) (lsc (rfl) (lsc (rfl) (lsc (rfl) (lsc (rfl) (lsc (rfl) (lsc (rfl) (lsc (rfl) (lsc (rfl) (lsn))))))))))))))))))
          ·
            exact X.mono (by omega) (by omega) (act_link C hR hn hk G hnw hx hy hdv hac hnd (by omega) K)
      ·
        exact X.mono (by omega) (by omega) (act_share C hR hn hk G hnw hx hy hdv hac hnd K)
    ·
      exact X.mono (by omega) (by omega) (act_skew C hR hn hk G hnw hx hy hdv hac hnd K)
  refine x_iload C dL_law_139 rfl ?_
  refine x_bipush C dL_law_141 (by decide) ?_
  refine x_icmp_ge (tgt := 274) C dL_law_143 (by decide) (by first | omega | exact bi_rng _) (by first | omega | exact bi_rng _) (fun h143 => ?_) (fun h143 => ?_)
  ·
    exact X.mono (by omega) (by omega) (X.to K274 (lsc (rfl) (lsc (rfl) (lsc (rfl) (lsc (rfl) (lsc (rfl) (lsc (rfl) (lsc (rfl) (lsc (rfl) (lsc (rfl) (lsc (rfl) (lsc (rfl) (lsc (rfl) (lsc (rfl) (lsc (rfl) (lsc (rfl) (lsc (rfl) (lsn))))))))))))))))))
  ·
    refine x_iload C dL_law_146 rfl ?_
    refine x_bipush C dL_law_148 (by decide) ?_
    refine x_icmp_ge (tgt := 274) C dL_law_150 (by decide) (by first | omega | exact bi_rng _) (by first | omega | exact bi_rng _) (fun h150 => ?_) (fun h150 => ?_)
    ·
      exact X.mono (by omega) (by omega) (X.to K274 (lsc (rfl) (lsc (rfl) (lsc (rfl) (lsc (rfl) (lsc (rfl) (lsc (rfl) (lsc (rfl) (lsc (rfl) (lsc (rfl) (lsc (rfl) (lsc (rfl) (lsc (rfl) (lsc (rfl) (lsc (rfl) (lsc (rfl) (lsc (rfl) (lsn))))))))))))))))))
    ·
      exact X.mono (by omega) (by omega) (act_event C hR hn hk G hnw hx hy hdv hac hnd (by omega) K)

set_option maxRecDepth 100000 in
set_option maxHeartbeats 400000 in
theorem k_X1_countsFor {l : Launch} {D : va_G} {cy : CY} (hst : l.stackTraces = false) {h : HS} {A : AD} {M : MS} {e p kind upTo days : Int} {ow : Nat → Int} {row : Int} {cl : List (Int × Int)} {k : Int} (s : SP h A M) (he : 0 ≤ e ∧ e < M 2 0) (hkk : k = if M 5 e = -1 then 10 + M 4 e else M 5 e) (hp : 0 ≤ p ∧ p < 4) (hC : CLs h ow row (aR h (lc A k) p) cl) (hcl : ∀ y ∈ cl, (0 ≤ y.1 ∧ y.1 ≤ 100000) ∧ (y.2 = 0 ∨ y.2 = 1)) (hki : 0 ≤ kind ∧ kind ≤ 4) (hup : 0 ≤ upTo ∧ upTo ≤ 100000) (hda : 1 ≤ days ∧ days ≤ 30) : Ct l D cy yX1_countsFor (Cond.code yX1_countsFor cX1_countsFor 6 (some .boolean)) 2 44 0 0 (RepH cy) [vr (some (ev A e)), vi p, vi kind, vi upTo, vi days] h (fun r h' => r = .ok (some (vi (bi (M 6 e = kind ∧ tmOf M e ≤ upTo ∧ upTo - days * 1440 < tmOf M e ∧ hcF (tmOf M e) cl = 1)))) ∧ h' = h) := by
  refine Ct.of1 (own := RX1) hst (by decide) rfl (Nat.le_of_ble_eq_true rfl) (cat1 (vr_cat _) (cat1 (vi_cat _) (cat1 (vi_cat _) (cat1 (vi_cat _) (cat1 (vi_cat _) (cat0)))))) ?_
  intro φ C hQ hn hR hl hD
  subst hl hD
  obtain ⟨e0, e10, e11, e12, e13, e14, e15, e16⟩ := s.ve e he.1 he.2
  obtain ⟨⟨m3a, m3b⟩, ⟨m4a, m4b⟩, ⟨m5a, m5b⟩, ⟨m6a, m6b⟩, ⟨m7a, m7b⟩, ⟨m8a, m8b⟩⟩ := s.mi.ev e he.1 he.2
  obtain ⟨d0, d40, d41, d42, d43⟩ := s.no (10 + M 4 e) (by omega) (by omega)
  obtain ⟨v44, v45, v43⟩ := s.dv (M 4 e) (by omega) (by omega)
  have hsk := s.mi.sk _ m4a m4b
  have g12 := s.mi.b12 (M 4 e)
  have hN := s.mi.n
  have htm := tmOf_in s.mi he.1 he.2
  refine x_aload_n C dX1_countsFor_0 rfl rfl ?_
  refine x_callV C hR cb_X1_minute cv_X1_minute u6_2 (k_X1_minute hst s (by omega)) (h_recv (by assumption) (by decide)) ⟨_, _, rfl⟩ rfl (Nat.le_of_ble_eq_true rfl) rfl dX1_countsFor_1 (by decide) (by decide) (fun E x9 h9 => absurd h9.1 (by intro h; cases h)) (fun r9 x9 h9 => ?_)
  obtain ⟨e9, q9⟩ := h9
  cases e9
  subst x9
  refine x_istore C dX1_countsFor_4 (by rw [hn]; exact Nat.le_of_ble_eq_true rfl) ?_
  refine x_aload_n C dX1_countsFor_6 rfl rfl ?_
  refine h_get1 (f := 3) C (by assumption) (by decide) u5_11 rfl rfl dX1_countsFor_7 ?_
  try simp only [e10, e11, e12, e13, e14, e15, e16, v44, v45]
  refine x_iload_n C dX1_countsFor_10 rfl rfl ?_
  refine x_icmp_ne (tgt := 64) C dX1_countsFor_11 (by decide) (by first | omega | exact bi_rng _) (by first | omega | exact bi_rng _) (fun h11 => ?_) (fun h11 => ?_)
  ·
    refine x_iconst C dX1_countsFor_64 ?_
    refine x_iret (ty := .boolean) C hQ dX1_countsFor_65 rfl (by decide) (by decide) (by decide) ?_
    exact ⟨rv (by simp only [bi]; split <;> omega), rfl⟩
  ·
    refine x_iload C dX1_countsFor_14 rfl ?_
    refine x_iload_n C dX1_countsFor_16 rfl rfl ?_
    refine x_icmp_gt (tgt := 64) C dX1_countsFor_17 (by decide) (by first | omega | exact bi_rng _) (by first | omega | exact bi_rng _) (fun h17 => ?_) (fun h17 => ?_)
    ·
      refine x_iconst C dX1_countsFor_64 ?_
      refine x_iret (ty := .boolean) C hQ dX1_countsFor_65 rfl (by decide) (by decide) (by decide) ?_
      exact ⟨rv (by simp only [bi]; split <;> omega), rfl⟩
    ·
      refine x_iload C dX1_countsFor_20 rfl ?_
      refine x_iload_n C dX1_countsFor_22 rfl rfl ?_
      refine x_iload C dX1_countsFor_23 rfl ?_
      refine x_sipush C dX1_countsFor_25 (by decide) ?_
      refine x_imul C dX1_countsFor_28 ?_
      refine x_isub C dX1_countsFor_29 ?_
      refine x_icmp_le (tgt := 64) C dX1_countsFor_30 (by decide) (by first | omega | exact bi_rng _) (by first | omega | exact bi_rng _) (fun h30 => ?_) (fun h30 => ?_)
      ·
        refine x_iconst C dX1_countsFor_64 ?_
        refine x_iret (ty := .boolean) C hQ dX1_countsFor_65 rfl (by decide) (by decide) (by decide) ?_
        exact ⟨rv (by simp only [bi]; split <;> omega), rfl⟩
      ·
        refine x_aload_n C dX1_countsFor_33 rfl rfl ?_
        refine h_get1 (f := 2) C (by assumption) (by decide) u5_10 rfl rfl dX1_countsFor_34 ?_
        try simp only [e10, e11, e12, e13, e14, e15, e16, v44, v45]
        refine x_ifnonnull (tgt := 47) C dX1_countsFor_37 (by decide) (fun a37 h37 => ?_) (fun h37 => ?_)
        ·
          have q5 : ¬ M 5 e = -1 := fun q => by (rw [if_pos q] at h37; cases h37)
          rw [if_neg q5] at hkk e12
          subst hkk
          obtain ⟨q0, -⟩ := s.no (M 5 e) (by omega) (by omega)
          refine x_aload_n C dX1_countsFor_47 rfl rfl ?_
          refine h_get1 (f := 2) C (by assumption) (by decide) u5_10 rfl rfl dX1_countsFor_48 ?_
          try simp only [e10, e11, e12, e13, e14, e15, e16, v44, v45]
          refine x_iload_n C dX1_countsFor_51 rfl rfl ?_
          refine x_iload C dX1_countsFor_52 rfl ?_
          refine x_callV C hR cb_X4_hasConsent cv_X4_hasConsent u15_12 (k_X4_hasConsent hst s (by omega) hp hC hcl (by omega)) (h_recv (by assumption) (by decide)) ⟨_, _, rfl⟩ rfl (Nat.le_of_ble_eq_true rfl) rfl dX1_countsFor_54 (by decide) (by decide) (fun E x9 h9 => absurd h9.1 (by intro h; cases h)) (fun r9 x9 h9 => ?_)
          obtain ⟨e9, q9⟩ := h9
          cases e9
          subst x9
          refine x_if_eq (tgt := 64) C dX1_countsFor_57 (by decide) (by first | omega | exact bi_rng _) (fun h57 => ?_) (fun h57 => ?_)
          ·
            replace h57 := bi_eq0.mp h57
            refine x_iconst C dX1_countsFor_64 ?_
            refine x_iret (ty := .boolean) C hQ dX1_countsFor_65 rfl (by decide) (by decide) (by decide) ?_
            exact ⟨rv (by simp only [bi]; split <;> omega), rfl⟩
          ·
            replace h57 := bi_ne0.mp h57
            refine x_iconst C dX1_countsFor_60 ?_
            refine x_goto (tgt := 65) C dX1_countsFor_61 (by decide) ?_
            refine x_iret (ty := .boolean) C hQ dX1_countsFor_65 rfl (by decide) (by decide) (by decide) ?_
            exact ⟨rv (by simp only [bi]; split <;> omega), rfl⟩
        ·
          have q5 : M 5 e = -1 := by (by_cases q : M 5 e = -1; exact q; (rw [if_neg q] at h37; cases h37))
          rw [if_pos q5] at hkk
          subst hkk
          refine x_aload_n C dX1_countsFor_40 rfl rfl ?_
          refine h_get1 (f := 1) C (by assumption) (by decide) u5_9 rfl rfl dX1_countsFor_41 ?_
          try simp only [e10, e11, e12, e13, e14, e15, e16, v44, v45]
          refine x_goto (tgt := 51) C dX1_countsFor_44 (by decide) ?_
          refine x_iload_n C dX1_countsFor_51 rfl rfl ?_
          refine x_iload C dX1_countsFor_52 rfl ?_
          refine x_callV C hR cb_X4_hasConsent cv_X4_hasConsent u15_12 (k_X4_hasConsent hst s (by omega) hp hC hcl (by omega)) (h_recv (by assumption) (by decide)) ⟨_, _, rfl⟩ rfl (Nat.le_of_ble_eq_true rfl) rfl dX1_countsFor_54 (by decide) (by decide) (fun E x9 h9 => absurd h9.1 (by intro h; cases h)) (fun r9 x9 h9 => ?_)
          obtain ⟨e9, q9⟩ := h9
          cases e9
          subst x9
          refine x_if_eq (tgt := 64) C dX1_countsFor_57 (by decide) (by first | omega | exact bi_rng _) (fun h57 => ?_) (fun h57 => ?_)
          ·
            replace h57 := bi_eq0.mp h57
            refine x_iconst C dX1_countsFor_64 ?_
            refine x_iret (ty := .boolean) C hQ dX1_countsFor_65 rfl (by decide) (by decide) (by decide) ?_
            exact ⟨rv (by simp only [bi]; split <;> omega), rfl⟩
          ·
            replace h57 := bi_ne0.mp h57
            refine x_iconst C dX1_countsFor_60 ?_
            refine x_goto (tgt := 65) C dX1_countsFor_61 (by decide) ?_
            refine x_iret (ty := .boolean) C hQ dX1_countsFor_65 rfl (by decide) (by decide) (by decide) ?_
            exact ⟨rv (by simp only [bi]; split <;> omega), rfl⟩

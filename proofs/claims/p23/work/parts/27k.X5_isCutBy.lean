set_option maxRecDepth 100000 in
set_option maxHeartbeats 400000 in
theorem k_X5_isCutBy {l : Launch} {D : va_G} {cy : CY} (hst : l.stackTraces = false) {h : HS} {A : AD} {M : MS} {T : Nat} {e be la c : Int} (s : SP h A M) (he : 0 ≤ e ∧ e < M 2 0) (hT : kD h T = 6) (t50 : fI h 50 T = be) (t52 : be = 0 ∨ fI h 52 T = la) (t54 : be = 0 ∨ fI h 54 T = c) (hbe : 0 ≤ be ∧ be ≤ 200) (hla : 0 ≤ la ∧ la ≤ 100600) (hc : -1 ≤ c ∧ c ≤ 9) : Ct l D cy yX5_isCutBy (Cond.code yX5_isCutBy cX5_isCutBy 3 (some .boolean)) 2 41 0 0 (RepH cy) [vr (some T), vr (some (ev A e))] h (fun r h' => r = .ok (some (vi (bi (be = 0 ∨ 30 < tmOf M e - la ∨ ¬ (tmOf M e).tdiv 1440 = la.tdiv 1440 ∨ (¬ c = -1 ∧ ¬ M 7 e = -1 ∧ ¬ M 7 e = c))))) ∧ h' = h) := by
  refine Ct.of1 (own := RX5) hst (by decide) rfl (Nat.le_of_ble_eq_true rfl) (cat1 (vr_cat _) (cat1 (vr_cat _) (cat0))) ?_
  intro φ C hQ hn hR hl hD
  subst hl hD
  obtain ⟨e0, e10, e11, e12, e13, e14, e15, e16⟩ := s.ve e he.1 he.2
  obtain ⟨⟨m3a, m3b⟩, ⟨m4a, m4b⟩, ⟨m5a, m5b⟩, ⟨m6a, m6b⟩, ⟨m7a, m7b⟩, ⟨m8a, m8b⟩⟩ := s.mi.ev e he.1 he.2
  obtain ⟨d0, d40, d41, d42, d43⟩ := s.no (10 + M 4 e) (by omega) (by omega)
  obtain ⟨v44, v45, v43⟩ := s.dv (M 4 e) (by omega) (by omega)
  have hsk := s.mi.sk _ m4a m4b
  have g12 := s.mi.b12 (M 4 e)
  have hN := s.mi.n
  have htm := tmOf_in s.mi he.1 he.2
  have htd := tdiv_in htm.1 (by omega)
  have hld := tdiv_in hla.1 (by omega)
  refine x_aload_n C dX5_isCutBy_0 rfl rfl ?_
  refine x_callV C hR cb_X1_minute cv_X1_minute u13_15 (k_X1_minute hst s (by omega)) (h_recv (by assumption) (by decide)) ⟨_, _, rfl⟩ rfl (Nat.le_of_ble_eq_true rfl) rfl dX5_isCutBy_1 (by decide) (by decide) (fun E x9 h9 => absurd h9.1 (by intro h; cases h)) (fun r9 x9 h9 => ?_)
  obtain ⟨e9, q9⟩ := h9
  cases e9
  subst x9
  refine x_istore_n C dX5_isCutBy_4 rfl (by rw [hn]; exact Nat.le_of_ble_eq_true rfl) ?_
  refine x_aload_n C dX5_isCutBy_5 rfl rfl ?_
  refine h_get5 (f := 0) C (by assumption) (by decide) u13_7 rfl rfl dX5_isCutBy_6 ?_
  try simp only [e10, e11, e12, e13, e14, e15, e16, v44, v45, t50, t52, t54]
  refine x_if_eq (tgt := 66) C dX5_isCutBy_9 (by decide) (by first | omega | exact bi_rng _) (fun h9 => ?_) (fun h9 => ?_)
  ·
    refine x_iconst C dX5_isCutBy_66 ?_
    refine x_goto (tgt := 71) C dX5_isCutBy_67 (by decide) ?_
    refine x_iret (ty := .boolean) C hQ dX5_isCutBy_71 rfl (by decide) (by decide) (by decide) ?_
    exact ⟨rv (by simp only [bi]; split <;> omega), rfl⟩
  ·
    replace t52 : fI h 52 T = la := by omega
    replace t54 : fI h 54 T = c := by omega
    refine x_iload_n C dX5_isCutBy_12 rfl rfl ?_
    refine x_aload_n C dX5_isCutBy_13 rfl rfl ?_
    refine h_get5 (f := 2) C (by assumption) (by decide) u13_12 rfl rfl dX5_isCutBy_14 ?_
    try simp only [e10, e11, e12, e13, e14, e15, e16, v44, v45, t50, t52, t54]
    refine x_isub C dX5_isCutBy_17 ?_
    refine x_bipush C dX5_isCutBy_18 (by decide) ?_
    refine x_icmp_gt (tgt := 66) C dX5_isCutBy_20 (by decide) (by first | omega | exact bi_rng _) (by first | omega | exact bi_rng _) (fun h20 => ?_) (fun h20 => ?_)
    ·
      refine x_iconst C dX5_isCutBy_66 ?_
      refine x_goto (tgt := 71) C dX5_isCutBy_67 (by decide) ?_
      refine x_iret (ty := .boolean) C hQ dX5_isCutBy_71 rfl (by decide) (by decide) (by decide) ?_
      exact ⟨rv (by simp only [bi]; split <;> omega), rfl⟩
    ·
      refine x_iload_n C dX5_isCutBy_23 rfl rfl ?_
      refine x_sipush C dX5_isCutBy_24 (by decide) ?_
      refine x_idiv C dX5_isCutBy_27 (by first | omega | exact bi_rng _) (by first | omega | exact bi_rng _) ?_
      refine x_aload_n C dX5_isCutBy_28 rfl rfl ?_
      refine h_get5 (f := 2) C (by assumption) (by decide) u13_12 rfl rfl dX5_isCutBy_29 ?_
      try simp only [e10, e11, e12, e13, e14, e15, e16, v44, v45, t50, t52, t54]
      refine x_sipush C dX5_isCutBy_32 (by decide) ?_
      refine x_idiv C dX5_isCutBy_35 (by first | omega | exact bi_rng _) (by first | omega | exact bi_rng _) ?_
      refine x_icmp_ne (tgt := 66) C dX5_isCutBy_36 (by decide) (by first | omega | exact bi_rng _) (by first | omega | exact bi_rng _) (fun h36 => ?_) (fun h36 => ?_)
      ·
        refine x_iconst C dX5_isCutBy_66 ?_
        refine x_goto (tgt := 71) C dX5_isCutBy_67 (by decide) ?_
        refine x_iret (ty := .boolean) C hQ dX5_isCutBy_71 rfl (by decide) (by decide) (by decide) ?_
        exact ⟨rv (by simp only [bi]; split <;> omega), rfl⟩
      ·
        refine x_aload_n C dX5_isCutBy_39 rfl rfl ?_
        refine h_get5 (f := 4) C (by assumption) (by decide) u13_13 rfl rfl dX5_isCutBy_40 ?_
        try simp only [e10, e11, e12, e13, e14, e15, e16, v44, v45, t50, t52, t54]
        refine x_iconst C dX5_isCutBy_43 ?_
        refine x_icmp_eq (tgt := 70) C dX5_isCutBy_44 (by decide) (by first | omega | exact bi_rng _) (by first | omega | exact bi_rng _) (fun h44 => ?_) (fun h44 => ?_)
        ·
          refine x_iconst C dX5_isCutBy_70 ?_
          refine x_iret (ty := .boolean) C hQ dX5_isCutBy_71 rfl (by decide) (by decide) (by decide) ?_
          exact ⟨rv (by simp only [bi]; split <;> omega), rfl⟩
        ·
          refine x_aload_n C dX5_isCutBy_47 rfl rfl ?_
          refine h_get1 (f := 4) C (by assumption) (by decide) u13_14 rfl rfl dX5_isCutBy_48 ?_
          try simp only [e10, e11, e12, e13, e14, e15, e16, v44, v45, t50, t52, t54]
          refine x_iconst C dX5_isCutBy_51 ?_
          refine x_icmp_eq (tgt := 70) C dX5_isCutBy_52 (by decide) (by first | omega | exact bi_rng _) (by first | omega | exact bi_rng _) (fun h52 => ?_) (fun h52 => ?_)
          ·
            refine x_iconst C dX5_isCutBy_70 ?_
            refine x_iret (ty := .boolean) C hQ dX5_isCutBy_71 rfl (by decide) (by decide) (by decide) ?_
            exact ⟨rv (by simp only [bi]; split <;> omega), rfl⟩
          ·
            refine x_aload_n C dX5_isCutBy_55 rfl rfl ?_
            refine h_get1 (f := 4) C (by assumption) (by decide) u13_14 rfl rfl dX5_isCutBy_56 ?_
            try simp only [e10, e11, e12, e13, e14, e15, e16, v44, v45, t50, t52, t54]
            refine x_aload_n C dX5_isCutBy_59 rfl rfl ?_
            refine h_get5 (f := 4) C (by assumption) (by decide) u13_13 rfl rfl dX5_isCutBy_60 ?_
            try simp only [e10, e11, e12, e13, e14, e15, e16, v44, v45, t50, t52, t54]
            refine x_icmp_eq (tgt := 70) C dX5_isCutBy_63 (by decide) (by first | omega | exact bi_rng _) (by first | omega | exact bi_rng _) (fun h63 => ?_) (fun h63 => ?_)
            ·
              refine x_iconst C dX5_isCutBy_70 ?_
              refine x_iret (ty := .boolean) C hQ dX5_isCutBy_71 rfl (by decide) (by decide) (by decide) ?_
              exact ⟨rv (by simp only [bi]; split <;> omega), rfl⟩
            ·
              refine x_iconst C dX5_isCutBy_66 ?_
              refine x_goto (tgt := 71) C dX5_isCutBy_67 (by decide) ?_
              refine x_iret (ty := .boolean) C hQ dX5_isCutBy_71 rfl (by decide) (by decide) (by decide) ?_
              exact ⟨rv (by simp only [bi]; split <;> omega), rfl⟩

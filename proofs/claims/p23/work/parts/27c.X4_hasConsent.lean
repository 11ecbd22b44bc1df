set_option maxRecDepth 100000 in
set_option maxHeartbeats 400000 in
theorem k_X4_hasConsent {l : Launch} {D : va_G} {cy : CY} (hst : l.stackTraces = false) {h : HS} {A : AD} {M : MS} {k p : Int} {ow : Nat → Int} {row : Int} {cl : List (Int × Int)} {mi : Int} (s : SP h A M) (hk : 0 ≤ k ∧ k < 20) (hp : 0 ≤ p ∧ p < 4) (hC : CLs h ow row (aR h (lc A k) p) cl) (hcl : ∀ y ∈ cl, (0 ≤ y.1 ∧ y.1 ≤ 100000) ∧ (y.2 = 0 ∨ y.2 = 1)) (hmi : 0 ≤ mi ∧ mi ≤ 2000000) : Ct l D cy yX4_hasConsent (Cond.code yX4_hasConsent cX4_hasConsent 4 (some .boolean)) 1 21 0 0 (RepH cy) [vr (some (nd A k)), vi p, vi mi] h (fun r h' => r = .ok (some (vi (bi (hcF mi cl = 1)))) ∧ h' = h) := by
  refine Ct.of1 (own := RX4) hst (by decide) rfl (Nat.le_of_ble_eq_true rfl) (cat1 (vr_cat _) (cat1 (vi_cat _) (cat1 (vi_cat _) (cat0)))) ?_
  intro φ C hQ hn hR hl hD
  subst hl hD
  obtain ⟨n0, n40, n41, n42, n43⟩ := s.no k hk.1 hk.2
  have loop : ∀ (t : List (Int × Int)) (u : Option Nat), CLs h ow row u t → (∀ y ∈ t, (0 ≤ y.1 ∧ y.1 ≤ 100000) ∧ (y.2 = 0 ∨ y.2 = 1)) → hcF mi t = hcF mi cl → X φ (RepH cy h) 0 0 6 [(0, vr (some (nd A k))), (1, vi p), (2, vi mi), (3, vr u)] [] := by
    intro t
    induction t with
    | nil =>
      intro u hu hr he
      have hu : u = none := hu
      subst hu
      refine x_aload_n C dX4_hasConsent_6 rfl rfl ?_
      refine x_ifnull (tgt := 26) C dX4_hasConsent_7 (by decide) (fun h7 => ?_) (fun a7 h7 => ?_)
      ·
        refine x_aload_n C dX4_hasConsent_26 rfl rfl ?_
        refine x_ifnull (tgt := 41) C dX4_hasConsent_27 (by decide) (fun h27 => ?_) (fun a27 h27 => ?_)
        ·
          refine x_iconst C dX4_hasConsent_41 ?_
          refine x_iret (ty := .boolean) C hQ dX4_hasConsent_42 rfl (by decide) (by decide) (by decide) ?_
          exact ⟨rv (bi_f (by rw [← he]; simp only [hcF]; omega)).symm, rfl⟩
        ·
          cases h27
      ·
        cases h7
    | cons v t ih =>
      intro u hu hr he
      obtain ⟨a, rfl, a0, a1, a2, a3, a4⟩ := hu
      have hv := hr v List.mem_cons_self
      have hr2 : ∀ y ∈ t, (0 ≤ y.1 ∧ y.1 ≤ 100000) ∧ (y.2 = 0 ∨ y.2 = 1) := fun y hy => hr y (List.mem_cons_of_mem _ hy)
      refine x_aload_n C dX4_hasConsent_6 rfl rfl ?_
      refine x_ifnull (tgt := 26) C dX4_hasConsent_7 (by decide) (fun h7 => ?_) (fun a7 h7 => ?_)
      ·
        refine x_aload_n C dX4_hasConsent_26 rfl rfl ?_
        refine x_ifnull (tgt := 41) C dX4_hasConsent_27 (by decide) (fun h27 => ?_) (fun a27 h27 => ?_)
        ·
          skip
          refine x_iconst C dX4_hasConsent_41 ?_
          refine x_iret (ty := .boolean) C hQ dX4_hasConsent_42 rfl (by decide) (by decide) (by decide) ?_
          first
          | (cases h7; done)
          | (cases h27; done)
          | exact ⟨rv (bi_f (by rw [← he, hcF_p t (by omega)]; omega)).symm, rfl⟩
          | exact ⟨rv (bi_t (by rw [← he, hcF_p t (by omega)]; omega)).symm, rfl⟩
        ·
          refine x_aload_n C dX4_hasConsent_30 rfl rfl ?_
          refine h_get0 (f := 1) C a0 (by decide) u15_16 rfl rfl dX4_hasConsent_31 ?_
          try simp only [a1, a2]
          refine x_if_eq (tgt := 41) C dX4_hasConsent_34 (by decide) (by first | omega | exact bi_rng _) (fun h34 => ?_) (fun h34 => ?_)
          ·
            skip
            refine x_iconst C dX4_hasConsent_41 ?_
            refine x_iret (ty := .boolean) C hQ dX4_hasConsent_42 rfl (by decide) (by decide) (by decide) ?_
            first
            | (cases h7; done)
            | (cases h27; done)
            | exact ⟨rv (bi_f (by rw [← he, hcF_p t (by omega)]; omega)).symm, rfl⟩
            | exact ⟨rv (bi_t (by rw [← he, hcF_p t (by omega)]; omega)).symm, rfl⟩
          ·
            refine x_iconst C dX4_hasConsent_37 ?_
            refine x_goto (tgt := 42) C dX4_hasConsent_38 (by decide) ?_
            refine x_iret (ty := .boolean) C hQ dX4_hasConsent_42 rfl (by decide) (by decide) (by decide) ?_
            first
            | (cases h7; done)
            | (cases h27; done)
            | exact ⟨rv (bi_f (by rw [← he, hcF_p t (by omega)]; omega)).symm, rfl⟩
            | exact ⟨rv (bi_t (by rw [← he, hcF_p t (by omega)]; omega)).symm, rfl⟩
      ·
        skip
        refine x_aload_n C dX4_hasConsent_10 rfl rfl ?_
        refine h_get0 (f := 0) C a0 (by decide) u10_5 rfl rfl dX4_hasConsent_11 ?_
        try simp only [a1, a2]
        refine x_iload_n C dX4_hasConsent_14 rfl rfl ?_
        refine x_icmp_le (tgt := 26) C dX4_hasConsent_15 (by decide) (by first | omega | exact bi_rng _) (by first | omega | exact bi_rng _) (fun h15 => ?_) (fun h15 => ?_)
        ·
          refine x_aload_n C dX4_hasConsent_26 rfl rfl ?_
          refine x_ifnull (tgt := 41) C dX4_hasConsent_27 (by decide) (fun h27 => ?_) (fun a27 h27 => ?_)
          ·
            skip
            refine x_iconst C dX4_hasConsent_41 ?_
            refine x_iret (ty := .boolean) C hQ dX4_hasConsent_42 rfl (by decide) (by decide) (by decide) ?_
            first
            | (cases h7; done)
            | (cases h27; done)
            | exact ⟨rv (bi_f (by rw [← he, hcF_p t (by omega)]; omega)).symm, rfl⟩
            | exact ⟨rv (bi_t (by rw [← he, hcF_p t (by omega)]; omega)).symm, rfl⟩
          ·
            refine x_aload_n C dX4_hasConsent_30 rfl rfl ?_
            refine h_get0 (f := 1) C a0 (by decide) u15_16 rfl rfl dX4_hasConsent_31 ?_
            try simp only [a1, a2]
            refine x_if_eq (tgt := 41) C dX4_hasConsent_34 (by decide) (by first | omega | exact bi_rng _) (fun h34 => ?_) (fun h34 => ?_)
            ·
              skip
              refine x_iconst C dX4_hasConsent_41 ?_
              refine x_iret (ty := .boolean) C hQ dX4_hasConsent_42 rfl (by decide) (by decide) (by decide) ?_
              first
              | (cases h7; done)
              | (cases h27; done)
              | exact ⟨rv (bi_f (by rw [← he, hcF_p t (by omega)]; omega)).symm, rfl⟩
              | exact ⟨rv (bi_t (by rw [← he, hcF_p t (by omega)]; omega)).symm, rfl⟩
            ·
              refine x_iconst C dX4_hasConsent_37 ?_
              refine x_goto (tgt := 42) C dX4_hasConsent_38 (by decide) ?_
              refine x_iret (ty := .boolean) C hQ dX4_hasConsent_42 rfl (by decide) (by decide) (by decide) ?_
              first
              | (cases h7; done)
              | (cases h27; done)
              | exact ⟨rv (bi_f (by rw [← he, hcF_p t (by omega)]; omega)).symm, rfl⟩
              | exact ⟨rv (bi_t (by rw [← he, hcF_p t (by omega)]; omega)).symm, rfl⟩
        ·
          refine x_aload_n C dX4_hasConsent_18 rfl rfl ?_
          refine h_get0 (f := 2) C a0 (by decide) u9_20 rfl rfl dX4_hasConsent_19 ?_
          try simp only [a1, a2]
          refine x_astore_n C dX4_hasConsent_22 rfl (by rw [hn]; exact Nat.le_of_ble_eq_true rfl) ?_
          refine x_goto (tgt := 6) C dX4_hasConsent_23 (by decide) ?_
          exact X.to (ih _ a4 hr2 (by rw [← he, hcF_n t (by omega)])) (lsc rfl (lsc rfl (lsc rfl (lsc rfl lsn))))
  refine x_aload_n C dX4_hasConsent_0 rfl rfl ?_
  refine x_iload_n C dX4_hasConsent_1 rfl rfl ?_
  refine x_callV C hR cb_X4_latestChange cv_X4_latestChange u9_21 (k_X4_latestChange hst s hk (by omega)) (h_recv (by assumption) (by decide)) ⟨_, _, rfl⟩ rfl (Nat.le_of_ble_eq_true rfl) rfl dX4_hasConsent_2 (by decide) (by decide) (fun E x9 h9 => absurd h9.1 (by intro h; cases h)) (fun r9 x9 h9 => ?_)
  obtain ⟨e9, q9⟩ := h9
  cases e9
  subst x9
  rw [if_pos hp]
  refine x_astore_n C dX4_hasConsent_5 rfl (by rw [hn]; exact Nat.le_of_ble_eq_true rfl) ?_
  exact X.to (loop cl _ hC hcl rfl) (lsc rfl (lsc rfl (lsc rfl (lsc rfl lsn))))

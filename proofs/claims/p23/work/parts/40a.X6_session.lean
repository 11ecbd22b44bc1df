/-! The face: a session -/
set_option maxRecDepth 100000 in
set_option maxHeartbeats 400000 in
theorem k_X6_session {l : Launch} {D : va_G} {cy : CY} (hst : l.stackTraces = false) {h : HS} {A : AD} {M : MS} {x se wh : Int} {lz : List Int} {f : Int → Int} (s : SP h A M) (v : VO h A) (hf : LW h A f) (hC : ChL h A lz) (hl : ∀ e ∈ lz, 0 ≤ e ∧ e < M 2 0) (hll : (lz.length : Int) ≤ 200) (hx : -2147483648 ≤ x ∧ x ≤ 2147483647) (hse : -2147483648 ≤ se ∧ se ≤ 2147483647) (hwh : -2147483648 ≤ wh ∧ wh ≤ 2147483647) : Ct l D cy yX6_session (Cond.code yX6_session cX6_session 5 (some .int)) 6 87 1 6 (RepH cy) [vr (some (cO A)), vi x, vi se, vi wh] h (fun r h' => (((0 ≤ x ∧ x < 20) ∧ (0 ≤ wh ∧ wh ≤ 3)) ∧ OnlyT h h' ∧ (0 ≤ se ∧ se < ((sgs M (lz.filter (fun e => decide (f (ndOf M e) = f x)))).length : Int)) ∧ ∃ sg, (sgs M (lz.filter (fun e => decide (f (ndOf M e) = f x))))[se.toNat]? = some sg ∧ r = .ok (some (vi (sgV M sg wh)))) ∨ (((0 ≤ x ∧ x < 20) ∧ (0 ≤ wh ∧ wh ≤ 3)) ∧ OnlyT h h' ∧ ¬ (0 ≤ se ∧ se < ((sgs M (lz.filter (fun e => decide (f (ndOf M e) = f x)))).length : Int)) ∧ r = .error "java/lang/IndexOutOfBoundsException") ∨ (¬ ((0 ≤ x ∧ x < 20) ∧ (0 ≤ wh ∧ wh ≤ 3)) ∧ h' = h ∧ r = .error "java/lang/IllegalArgumentException")) := by
  refine Ct.of1 (own := RX6) hst (by decide) rfl (Nat.le_of_ble_eq_true rfl) (cat1 (vr_cat _) (cat1 (vi_cat _) (cat1 (vi_cat _) (cat1 (vi_cat _) (cat0))))) ?_
  intro φ C hQ hn hR hl hD
  subst hl hD
  obtain ⟨v0, v60, v61, v62, v63, v64, vn, vnl, vnr, vm, vml, vh, vt, vw, vwl⟩ := id v
  by_cases hx2 : 0 ≤ x ∧ x < 20
  ·
    have hfx := (hf x hx2.1 hx2.2).2
    obtain ⟨m0, -⟩ := s.no x hx2.1 hx2.2
    refine x_aload_n C dX6_session_0 rfl rfl ?_
    refine x_iload_n C dX6_session_1 rfl rfl ?_
    refine x_callV C hR cb_X6_nodeAt cv_X6_nodeAt u4_16 (k_X6_nodeAt (M := M) hst v (by omega)) (h_recv v0 (by decide)) ⟨_, _, rfl⟩ rfl (Nat.le_of_ble_eq_true rfl) rfl dX6_session_2 (by decide) (by decide) (fun E x9 h9 => absurd h9.1 (by intro h; cases h)) (fun r9 x9 h9 => ?_)
    obtain ⟨e9, q9⟩ := h9
    cases e9
    subst x9
    rw [if_pos hx2]
    refine x_astore C dX6_session_5 (by rw [hn]; exact Nat.le_of_ble_eq_true rfl) ?_
    refine x_aload C dX6_session_7 rfl ?_
    refine x_ifnull (tgt := 21) C dX6_session_9 (by decide) (fun h9 => ?_) (fun a9 h9 => ?_)
    ·
      refine x_throwS C hQ hR th_IAE (List.mem_of_getElem? (i := 14) rfl) dX6_session_21 dX6_session_24 dX6_session_25 dX6_session_27 dX6_session_30 (by decide) (by decide) (by decide) (by decide) ?_
      first
      | (exfalso; cases h9; done)
      | exact Or.inr (Or.inr ⟨by omega, rfl, rfl⟩)
    ·
      refine x_iload_n C dX6_session_12 rfl rfl ?_
      refine x_if_lt (tgt := 21) C dX6_session_13 (by decide) (by omega) (fun h13 => ?_) (fun h13 => ?_)
      ·
        refine x_throwS C hQ hR th_IAE (List.mem_of_getElem? (i := 14) rfl) dX6_session_21 dX6_session_24 dX6_session_25 dX6_session_27 dX6_session_30 (by decide) (by decide) (by decide) (by decide) ?_
        first
        | (exfalso; cases h9; done)
        | exact Or.inr (Or.inr ⟨by omega, rfl, rfl⟩)
      ·
        refine x_iload_n C dX6_session_16 rfl rfl ?_
        refine x_iconst C dX6_session_17 ?_
        refine x_icmp_le (tgt := 31) C dX6_session_18 (by decide) (by omega) (by first | omega | exact bi_rng _) (fun h18 => ?_) (fun h18 => ?_)
        ·
          refine x_aload_n C dX6_session_31 rfl rfl ?_
          refine x_aload C dX6_session_32 rfl ?_
          refine x_callV C hR cb_X4_lowest cv_X4_lowest u7_6 (k_X4_lowest hst s hf hx2) (h_recv m0 (by decide)) ⟨_, _, rfl⟩ rfl (Nat.le_of_ble_eq_true rfl) rfl dX6_session_34 (by decide) (by decide) (fun E x9 h9 => absurd h9.1 (by intro h; cases h)) (fun r9 x9 h9 => ?_)
          obtain ⟨e9, q9⟩ := h9
          cases e9
          subst x9
          refine x_iload_n C dX6_session_37 rfl rfl ?_
          refine x_callV C hR cb_X6_cutUpTo cv_X6_cutUpTo u12_23 (k_X6_cutUpTo hst s v hf hC hl hll (hf x hx2.1 hx2.2).2 (by omega)) (h_recv v0 (by decide)) ⟨_, _, rfl⟩ rfl (Nat.le_of_ble_eq_true rfl) rfl dX6_session_38 (by decide) (by decide) (fun E x9 h9 => absurd h9.1 (by intro h; cases h)) (fun r9 x9 h9 => ?_)
          obtain ⟨e9, hQ9⟩ := h9
          cases e9
          obtain ⟨hO9, be, c50, c51, c52, c53, c54⟩ := hQ9
          obtain ⟨b0, -, -, b62, b63, -, -, -, -, -, -, bh, bT, -⟩ := hO9.vo v
          have hle := sgs_le M (lz.filter (fun e => decide (f (ndOf M e) = f x)))
          have hle2 := List.length_filter_le (fun e => decide (f (ndOf M e) = f x)) lz
          refine x_iload_n C dX6_session_41 rfl rfl ?_
          refine x_if_lt (tgt := 56) C dX6_session_42 (by decide) (by omega) (fun h42 => ?_) (fun h42 => ?_)
          ·
            refine x_throwS C hQ hR th_IOB (List.mem_of_getElem? (i := 15) rfl) dX6_session_56 dX6_session_59 dX6_session_60 dX6_session_62 dX6_session_65 (by decide) (by decide) (by decide) (by decide) ?_
            exact Or.inr (Or.inl ⟨⟨hx2, by omega⟩, hO9, by omega, rfl⟩)
          ·
            refine x_iload_n C dX6_session_45 rfl rfl ?_
            refine x_aload_n C dX6_session_46 rfl rfl ?_
            refine h_get6 (f := 3) C b0 (by decide) u1_2 rfl rfl dX6_session_47 ?_
            simp only [b63]
            refine h_get5 (f := 0) C bT (by decide) u12_18 rfl rfl dX6_session_50 ?_
            simp only [c50]
            refine x_icmp_lt (tgt := 66) C dX6_session_53 (by decide) (by omega) (by omega) (fun h53 => ?_) (fun h53 => ?_)
            ·
              obtain ⟨sg, hsg⟩ : ∃ sg, (sgs M (lz.filter (fun e => decide (f (ndOf M e) = f x))))[se.toNat]? = some sg := ⟨_, List.getElem?_eq_getElem (by omega)⟩
              obtain ⟨g51, g52, g53, g54⟩ := c54 sg (by omega) (by rw [show be - 1 = se.toNat by omega]; exact hsg)
              refine x_iload_n C dX6_session_66 rfl rfl ?_
              refine x_tsw3 (t0 := 92) (t1 := 100) (t2 := 116) (td := 124) C dX6_session_67 (by decide) (by decide) (by decide) (by decide) (by omega) (fun h67 => ?_) (fun h67 => ?_) (fun h67 => ?_) (fun h67 => ?_)
              ·
                refine x_aload_n C dX6_session_92 rfl rfl ?_
                refine h_get6 (f := 3) C b0 (by decide) u1_2 rfl rfl dX6_session_93 ?_
                simp only [b63]
                refine h_get5 (f := 1) C bT (by decide) u12_19 rfl rfl dX6_session_96 ?_
                simp only [g51]
                refine x_iret (ty := .int) C hQ dX6_session_99 rfl rfl (by decide) (by decide) ?_
                exact Or.inl ⟨⟨hx2, by omega⟩, hO9, by omega, sg, hsg, by rw [h67]; rfl⟩
              ·
                refine x_aload_n C dX6_session_100 rfl rfl ?_
                refine h_get6 (f := 3) C b0 (by decide) u1_2 rfl rfl dX6_session_101 ?_
                simp only [b63]
                refine h_get5 (f := 2) C bT (by decide) u12_20 rfl rfl dX6_session_104 ?_
                simp only [g52]
                refine x_aload_n C dX6_session_107 rfl rfl ?_
                refine h_get6 (f := 3) C b0 (by decide) u1_2 rfl rfl dX6_session_108 ?_
                simp only [b63]
                refine h_get5 (f := 1) C bT (by decide) u12_19 rfl rfl dX6_session_111 ?_
                simp only [g51]
                refine x_isub C dX6_session_114 ?_
                refine x_iret (ty := .int) C hQ dX6_session_115 rfl rfl (by decide) (by decide) ?_
                exact Or.inl ⟨⟨hx2, by omega⟩, hO9, by omega, sg, hsg, by rw [h67]; rfl⟩
              ·
                refine x_aload_n C dX6_session_116 rfl rfl ?_
                refine h_get6 (f := 3) C b0 (by decide) u1_2 rfl rfl dX6_session_117 ?_
                simp only [b63]
                refine h_get5 (f := 3) C bT (by decide) u12_21 rfl rfl dX6_session_120 ?_
                simp only [g53]
                refine x_iret (ty := .int) C hQ dX6_session_123 rfl rfl (by decide) (by decide) ?_
                exact Or.inl ⟨⟨hx2, by omega⟩, hO9, by omega, sg, hsg, by rw [h67]; rfl⟩
              ·
                refine x_aload_n C dX6_session_124 rfl rfl ?_
                refine h_get6 (f := 3) C b0 (by decide) u1_2 rfl rfl dX6_session_125 ?_
                simp only [b63]
                refine h_get5 (f := 4) C bT (by decide) u12_22 rfl rfl dX6_session_128 ?_
                simp only [g54]
                refine x_iret (ty := .int) C hQ dX6_session_131 rfl rfl (by decide) (by decide) ?_
                exact Or.inl ⟨⟨hx2, by omega⟩, hO9, by omega, sg, hsg, by rw [h67]; rfl⟩
            ·
              refine x_throwS C hQ hR th_IOB (List.mem_of_getElem? (i := 15) rfl) dX6_session_56 dX6_session_59 dX6_session_60 dX6_session_62 dX6_session_65 (by decide) (by decide) (by decide) (by decide) ?_
              exact Or.inr (Or.inl ⟨⟨hx2, by omega⟩, hO9, by omega, rfl⟩)
        ·
          refine x_throwS C hQ hR th_IAE (List.mem_of_getElem? (i := 14) rfl) dX6_session_21 dX6_session_24 dX6_session_25 dX6_session_27 dX6_session_30 (by decide) (by decide) (by decide) (by decide) ?_
          first
          | (exfalso; cases h9; done)
          | exact Or.inr (Or.inr ⟨by omega, rfl, rfl⟩)
  ·
    refine x_aload_n C dX6_session_0 rfl rfl ?_
    refine x_iload_n C dX6_session_1 rfl rfl ?_
    refine x_callV C hR cb_X6_nodeAt cv_X6_nodeAt u4_16 (k_X6_nodeAt (M := M) hst v (by omega)) (h_recv v0 (by decide)) ⟨_, _, rfl⟩ rfl (Nat.le_of_ble_eq_true rfl) rfl dX6_session_2 (by decide) (by decide) (fun E x9 h9 => absurd h9.1 (by intro h; cases h)) (fun r9 x9 h9 => ?_)
    obtain ⟨e9, q9⟩ := h9
    cases e9
    subst x9
    rw [if_neg hx2]
    refine x_astore C dX6_session_5 (by rw [hn]; exact Nat.le_of_ble_eq_true rfl) ?_
    refine x_aload C dX6_session_7 rfl ?_
    refine x_ifnull (tgt := 21) C dX6_session_9 (by decide) (fun h9 => ?_) (fun a9 h9 => ?_)
    ·
      refine x_throwS C hQ hR th_IAE (List.mem_of_getElem? (i := 14) rfl) dX6_session_21 dX6_session_24 dX6_session_25 dX6_session_27 dX6_session_30 (by decide) (by decide) (by decide) (by decide) ?_
      first
      | (exfalso; cases h9; done)
      | exact Or.inr (Or.inr ⟨by omega, rfl, rfl⟩)
    ·
      cases h9

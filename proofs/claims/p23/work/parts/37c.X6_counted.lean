set_option maxRecDepth 100000 in
set_option maxHeartbeats 400000 in
theorem k_X6_counted {l : Launch} {D : va_G} {cy : CY} (hst : l.stackTraces = false) {h : HS} {A : AD} {M : MS} {x p kind mi days : Int} {lz : List Int} {f : Int → Int} {ow : Nat → Int} (s : SP h A M) (v : VO h A) (hf : LW h A f) (hC : ChL h A lz) (hl : ∀ e ∈ lz, 0 ≤ e ∧ e < M 2 0) (hCN : CNs h A M ow) (hx : -2147483648 ≤ x ∧ x ≤ 2147483647) (hp : -2147483648 ≤ p ∧ p ≤ 2147483647) (hkind : -2147483648 ≤ kind ∧ kind ≤ 2147483647) (hmi : -2147483648 ≤ mi ∧ mi ≤ 2147483647) (hdays : -2147483648 ≤ days ∧ days ≤ 2147483647) : Ct l D cy yX6_counted (Cond.code yX6_counted cX6_counted 7 (some .int)) 6 96 1 6 (RepH cy) [vr (some (cO A)), vi x, vi p, vi kind, vi mi, vi days] h (fun r h' => h' = h ∧ ((((0 ≤ x ∧ x < 20) ∧ (0 ≤ p ∧ p ≤ 3) ∧ (0 ≤ kind ∧ kind ≤ 4) ∧ (0 ≤ mi ∧ mi ≤ 100000) ∧ (1 ≤ days ∧ days ≤ 30)) ∧ r = .ok (some (vi (cfN M f (f x) p kind mi days lz)))) ∨ (¬ ((0 ≤ x ∧ x < 20) ∧ (0 ≤ p ∧ p ≤ 3) ∧ (0 ≤ kind ∧ kind ≤ 4) ∧ (0 ≤ mi ∧ mi ≤ 100000) ∧ (1 ≤ days ∧ days ≤ 30)) ∧ r = .error "java/lang/IllegalArgumentException"))) := by
  refine Ct.of1 (own := RX6) hst (by decide) rfl (Nat.le_of_ble_eq_true rfl) (cat1 (vr_cat _) (cat1 (vi_cat _) (cat1 (vi_cat _) (cat1 (vi_cat _) (cat1 (vi_cat _) (cat1 (vi_cat _) (cat0))))))) ?_
  intro φ C hQ hn hR hl hD
  subst hl hD
  obtain ⟨v0, v60, v61, v62, v63, v64, vn, vnl, vnr, vm, vml, vh, vt, vw, vwl⟩ := id v
  by_cases hx2 : 0 ≤ x ∧ x < 20
  ·
    have hfx := (hf x hx2.1 hx2.2).2
    obtain ⟨m0, -⟩ := s.no x hx2.1 hx2.2
    refine x_aload_n C dX6_counted_0 rfl rfl ?_
    refine x_iload_n C dX6_counted_1 rfl rfl ?_
    refine x_callV C hR cb_X6_nodeAt cv_X6_nodeAt u4_16 (k_X6_nodeAt (M := M) hst v (by omega)) (h_recv v0 (by decide)) ⟨_, _, rfl⟩ rfl (Nat.le_of_ble_eq_true rfl) rfl dX6_counted_2 (by decide) (by decide) (fun E x9 h9 => absurd h9.1 (by intro h; cases h)) (fun r9 x9 h9 => ?_)
    obtain ⟨e9, q9⟩ := h9
    cases e9
    subst x9
    rw [if_pos hx2]
    refine x_astore C dX6_counted_5 (by rw [hn]; exact Nat.le_of_ble_eq_true rfl) ?_
    refine x_aload C dX6_counted_7 rfl ?_
    refine x_ifnull (tgt := 42) C dX6_counted_9 (by decide) (fun h9 => ?_) (fun a9 h9 => ?_)
    ·
      refine x_throwS C hQ hR th_IAE (List.mem_of_getElem? (i := 0) rfl) dX6_counted_42 dX6_counted_45 dX6_counted_46 dX6_counted_48 dX6_counted_51 (by decide) (by decide) (by decide) (by decide) ?_
      first
      | (exfalso; cases h9; done)
      | exact ⟨rfl, Or.inr ⟨by omega, rfl⟩⟩
    ·
      refine x_iload_n C dX6_counted_12 rfl rfl ?_
      refine x_callS C hR cb_X6_isPurpose u2_11 u2_10 (k_X6_isPurpose (M := M) (A := A) hst (by omega)) rfl (Nat.le_of_ble_eq_true rfl) rfl dX6_counted_13 (by decide) (by decide) (fun E x9 h9 => absurd h9.1 (by intro h; cases h)) (fun r9 x9 h9 => ?_)
      obtain ⟨e9, q9⟩ := h9
      cases e9
      subst x9
      refine x_if_eq (tgt := 42) C dX6_counted_16 (by decide) (by first | omega | exact bi_rng _) (fun h16 => ?_) (fun h16 => ?_)
      ·
        replace h16 := bi_eq0.mp h16
        refine x_throwS C hQ hR th_IAE (List.mem_of_getElem? (i := 0) rfl) dX6_counted_42 dX6_counted_45 dX6_counted_46 dX6_counted_48 dX6_counted_51 (by decide) (by decide) (by decide) (by decide) ?_
        first
        | (exfalso; cases h9; done)
        | exact ⟨rfl, Or.inr ⟨by omega, rfl⟩⟩
      ·
        replace h16 := bi_ne0.mp h16
        refine x_iload_n C dX6_counted_19 rfl rfl ?_
        refine x_callS C hR cb_X6_isKind u2_14 u2_13 (k_X6_isKind (M := M) (A := A) hst (by omega)) rfl (Nat.le_of_ble_eq_true rfl) rfl dX6_counted_20 (by decide) (by decide) (fun E x9 h9 => absurd h9.1 (by intro h; cases h)) (fun r9 x9 h9 => ?_)
        obtain ⟨e9, q9⟩ := h9
        cases e9
        subst x9
        refine x_if_eq (tgt := 42) C dX6_counted_23 (by decide) (by first | omega | exact bi_rng _) (fun h23 => ?_) (fun h23 => ?_)
        ·
          replace h23 := bi_eq0.mp h23
          refine x_throwS C hQ hR th_IAE (List.mem_of_getElem? (i := 0) rfl) dX6_counted_42 dX6_counted_45 dX6_counted_46 dX6_counted_48 dX6_counted_51 (by decide) (by decide) (by decide) (by decide) ?_
          first
          | (exfalso; cases h9; done)
          | exact ⟨rfl, Or.inr ⟨by omega, rfl⟩⟩
        ·
          replace h23 := bi_ne0.mp h23
          refine x_iload C dX6_counted_26 rfl ?_
          refine x_callS C hR cb_X6_isMinute u5_1 u5_0 (k_X6_isMinute (M := M) (A := A) hst (by omega)) rfl (Nat.le_of_ble_eq_true rfl) rfl dX6_counted_28 (by decide) (by decide) (fun E x9 h9 => absurd h9.1 (by intro h; cases h)) (fun r9 x9 h9 => ?_)
          obtain ⟨e9, q9⟩ := h9
          cases e9
          subst x9
          refine x_if_eq (tgt := 42) C dX6_counted_31 (by decide) (by first | omega | exact bi_rng _) (fun h31 => ?_) (fun h31 => ?_)
          ·
            replace h31 := bi_eq0.mp h31
            refine x_throwS C hQ hR th_IAE (List.mem_of_getElem? (i := 0) rfl) dX6_counted_42 dX6_counted_45 dX6_counted_46 dX6_counted_48 dX6_counted_51 (by decide) (by decide) (by decide) (by decide) ?_
            first
            | (exfalso; cases h9; done)
            | exact ⟨rfl, Or.inr ⟨by omega, rfl⟩⟩
          ·
            replace h31 := bi_ne0.mp h31
            refine x_iload C dX6_counted_34 rfl ?_
            refine x_callS C hR cb_X6_areDays u2_17 u2_16 (k_X6_areDays (M := M) (A := A) hst (by omega)) rfl (Nat.le_of_ble_eq_true rfl) rfl dX6_counted_36 (by decide) (by decide) (fun E x9 h9 => absurd h9.1 (by intro h; cases h)) (fun r9 x9 h9 => ?_)
            obtain ⟨e9, q9⟩ := h9
            cases e9
            subst x9
            refine x_if_ne (tgt := 52) C dX6_counted_39 (by decide) (by first | omega | exact bi_rng _) (fun h39 => ?_) (fun h39 => ?_)
            ·
              replace h39 := bi_ne0.mp h39
              refine x_aload_n C dX6_counted_52 rfl rfl ?_
              refine x_aload C dX6_counted_53 rfl ?_
              refine x_callV C hR cb_X4_lowest cv_X4_lowest u7_6 (k_X4_lowest hst s hf hx2) (h_recv m0 (by decide)) ⟨_, _, rfl⟩ rfl (Nat.le_of_ble_eq_true rfl) rfl dX6_counted_55 (by decide) (by decide) (fun E x9 h9 => absurd h9.1 (by intro h; cases h)) (fun r9 x9 h9 => ?_)
              obtain ⟨e9, q9⟩ := h9
              cases e9
              subst x9
              refine x_iload_n C dX6_counted_58 rfl rfl ?_
              refine x_iload_n C dX6_counted_59 rfl rfl ?_
              refine x_iload C dX6_counted_60 rfl ?_
              refine x_iload C dX6_counted_62 rfl ?_
              refine x_callV C hR cb_X6_countFor cv_X6_countFor u15_4 (k_X6_countFor hst s v hf hC hl hCN (hf x hx2.1 hx2.2).2 (by omega) (by omega) (by omega) (by omega)) (h_recv v0 (by decide)) ⟨_, _, rfl⟩ rfl (Nat.le_of_ble_eq_true rfl) rfl dX6_counted_64 (by decide) (by decide) (fun E x9 h9 => absurd h9.1 (by intro h; cases h)) (fun r9 x9 h9 => ?_)
              obtain ⟨e9, q9⟩ := h9
              cases e9
              subst x9
              refine x_iret (ty := .int) C hQ dX6_counted_67 rfl rfl (by decide) (by decide) ?_
              exact ⟨rfl, Or.inl ⟨by omega, rfl⟩⟩
            ·
              replace h39 := bi_eq0.mp h39
              refine x_throwS C hQ hR th_IAE (List.mem_of_getElem? (i := 0) rfl) dX6_counted_42 dX6_counted_45 dX6_counted_46 dX6_counted_48 dX6_counted_51 (by decide) (by decide) (by decide) (by decide) ?_
              first
              | (exfalso; cases h9; done)
              | exact ⟨rfl, Or.inr ⟨by omega, rfl⟩⟩
  ·
    refine x_aload_n C dX6_counted_0 rfl rfl ?_
    refine x_iload_n C dX6_counted_1 rfl rfl ?_
    refine x_callV C hR cb_X6_nodeAt cv_X6_nodeAt u4_16 (k_X6_nodeAt (M := M) hst v (by omega)) (h_recv v0 (by decide)) ⟨_, _, rfl⟩ rfl (Nat.le_of_ble_eq_true rfl) rfl dX6_counted_2 (by decide) (by decide) (fun E x9 h9 => absurd h9.1 (by intro h; cases h)) (fun r9 x9 h9 => ?_)
    obtain ⟨e9, q9⟩ := h9
    cases e9
    subst x9
    rw [if_neg hx2]
    refine x_astore C dX6_counted_5 (by rw [hn]; exact Nat.le_of_ble_eq_true rfl) ?_
    refine x_aload C dX6_counted_7 rfl ?_
    refine x_ifnull (tgt := 42) C dX6_counted_9 (by decide) (fun h9 => ?_) (fun a9 h9 => ?_)
    ·
      refine x_throwS C hQ hR th_IAE (List.mem_of_getElem? (i := 0) rfl) dX6_counted_42 dX6_counted_45 dX6_counted_46 dX6_counted_48 dX6_counted_51 (by decide) (by decide) (by decide) (by decide) ?_
      first
      | (exfalso; cases h9; done)
      | exact ⟨rfl, Or.inr ⟨by omega, rfl⟩⟩
    ·
      cases h9

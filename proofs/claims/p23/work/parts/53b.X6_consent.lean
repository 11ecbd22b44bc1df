set_option maxRecDepth 100000 in
set_option maxHeartbeats 400000 in
theorem k_X6_consent {l : Launch} {D : va_G} {cy : CY} (hst : l.stackTraces = false) {h : HS} {A : AD} {M : MS} {x p fr is : Int} {ow : Nat → Int} (s : SP h A M) (v : VO h A) (hCN : CNs h A M ow) (h71 : fI h 71 (cO A) = M 1 0) (his : is = 0 ∨ is = 1) (hx : -2147483648 ≤ x ∧ x ≤ 2147483647) (hp : -2147483648 ≤ p ∧ p ≤ 2147483647) (hfr : -2147483648 ≤ fr ∧ fr ≤ 2147483647) : Ct l D cy yX6_consent (Cond.code yX6_consent cX6_consent 7 (some .int)) 6 82 1 6 (RepH cy) [vr (some (cO A)), vi x, vi p, vi fr, vi is] h (fun r h' => (((0 ≤ x ∧ x < 20) ∧ (0 ≤ p ∧ p < 4) ∧ (0 ≤ fr ∧ fr ≤ M 1 0)) ∧ M 14 (4 * x + p) < 20 ∧ AdQ h h' A ow x p fr is (slC M (4 * x + p) (M 14 (4 * x + p)).toNat) ∧ r = .ok (some (vi (M 14 (4 * x + p) + 1)))) ∨ (((0 ≤ x ∧ x < 20) ∧ (0 ≤ p ∧ p < 4) ∧ (0 ≤ fr ∧ fr ≤ M 1 0)) ∧ M 14 (4 * x + p) = 20 ∧ h' = h ∧ r = .error "java/lang/IllegalStateException") ∨ (¬ ((0 ≤ x ∧ x < 20) ∧ (0 ≤ p ∧ p < 4) ∧ (0 ≤ fr ∧ fr ≤ M 1 0)) ∧ h' = h ∧ r = .error "java/lang/IllegalArgumentException")) := by
  refine Ct.of1 (own := RX6) hst (by decide) rfl (Nat.le_of_ble_eq_true rfl) (cat1 (vr_cat _) (cat1 (vi_cat _) (cat1 (vi_cat _) (cat1 (vi_cat _) (cat1 (vi_cat _) (cat0)))))) ?_
  intro φ C hQ hn hR hl hD
  subst hl hD
  obtain ⟨v0, v60, v61, v62, v63, v64, vn, vnl, vnr, vm, vml, vh, vt, vw, vwl⟩ := id v
  have hNow := s.mi.now
  by_cases hx2 : 0 ≤ x ∧ x < 20
  ·
    obtain ⟨m0, -⟩ := s.no x hx2.1 hx2.2
    have hNow := s.mi.now
    refine x_aload_n C dX6_consent_0 rfl rfl ?_
    refine x_iload_n C dX6_consent_1 rfl rfl ?_
    refine x_callV C hR cb_X6_nodeAt cv_X6_nodeAt u4_16 (k_X6_nodeAt (M := M) hst v (by omega)) (h_recv v0 (by decide)) ⟨_, _, rfl⟩ rfl (Nat.le_of_ble_eq_true rfl) rfl dX6_consent_2 (by decide) (by decide) (fun E x9 h9 => absurd h9.1 (by intro h; cases h)) (fun r9 x9 h9 => ?_)
    obtain ⟨e9, q9⟩ := h9
    cases e9
    subst x9
    rw [if_pos hx2]
    refine x_astore C dX6_consent_5 (by rw [hn]; exact Nat.le_of_ble_eq_true rfl) ?_
    refine x_aload C dX6_consent_7 rfl ?_
    refine x_ifnull (tgt := 31) C dX6_consent_9 (by decide) (fun h9 => ?_) (fun a9 h9 => ?_)
    ·
      refine x_throwS C hQ hR th_IAE (List.mem_of_getElem? (i := 5) rfl) dX6_consent_31 dX6_consent_34 dX6_consent_35 dX6_consent_37 dX6_consent_40 (by decide) (by decide) (by decide) (by decide) ?_
      first
      | (exfalso; cases h9; done)
      | exact Or.inr (Or.inr ⟨by omega, rfl, rfl⟩)
    ·
      refine x_iload_n C dX6_consent_12 rfl rfl ?_
      refine x_callS C hR cb_X6_isPurpose u2_11 u2_10 (k_X6_isPurpose (M := M) (A := A) hst (by omega)) rfl (Nat.le_of_ble_eq_true rfl) rfl dX6_consent_13 (by decide) (by decide) (fun E x9 h9 => absurd h9.1 (by intro h; cases h)) (fun r9 x9 h9 => ?_)
      obtain ⟨e9, q9⟩ := h9
      cases e9
      subst x9
      refine x_if_eq (tgt := 31) C dX6_consent_16 (by decide) (by first | omega | exact bi_rng _) (fun h16 => ?_) (fun h16 => ?_)
      ·
        replace h16 := bi_eq0.mp h16
        refine x_throwS C hQ hR th_IAE (List.mem_of_getElem? (i := 5) rfl) dX6_consent_31 dX6_consent_34 dX6_consent_35 dX6_consent_37 dX6_consent_40 (by decide) (by decide) (by decide) (by decide) ?_
        first
        | (exfalso; cases h9; done)
        | exact Or.inr (Or.inr ⟨by omega, rfl, rfl⟩)
      ·
        replace h16 := bi_ne0.mp h16
        refine x_iload_n C dX6_consent_19 rfl rfl ?_
        refine x_if_lt (tgt := 31) C dX6_consent_20 (by decide) (by first | omega | exact bi_rng _) (fun h20 => ?_) (fun h20 => ?_)
        ·
          refine x_throwS C hQ hR th_IAE (List.mem_of_getElem? (i := 5) rfl) dX6_consent_31 dX6_consent_34 dX6_consent_35 dX6_consent_37 dX6_consent_40 (by decide) (by decide) (by decide) (by decide) ?_
          first
          | (exfalso; cases h9; done)
          | exact Or.inr (Or.inr ⟨by omega, rfl, rfl⟩)
        ·
          refine x_iload_n C dX6_consent_23 rfl rfl ?_
          refine x_aload_n C dX6_consent_24 rfl rfl ?_
          refine h_get6 (f := 11) C v0 (by decide) u1_4 rfl rfl dX6_consent_25 ?_
          simp only [h71]
          refine x_icmp_le (tgt := 41) C dX6_consent_28 (by decide) (by first | omega | exact bi_rng _) (by first | omega | exact bi_rng _) (fun h28 => ?_) (fun h28 => ?_)
          ·
            refine x_aload C dX6_consent_41 rfl ?_
            refine x_iload_n C dX6_consent_43 rfl rfl ?_
            refine x_callV C hR cb_X4_changesFor cv_X4_changesFor u9_16 (k_X4_changesFor hst s hx2 (by omega) (hCN x p hx2.1 hx2.2 (by omega) (by omega))) (h_recv m0 (by decide)) ⟨_, _, rfl⟩ rfl (Nat.le_of_ble_eq_true rfl) rfl dX6_consent_44 (by decide) (by decide) (fun E x9 h9 => absurd h9.1 (by intro h; cases h)) (fun r9 x9 h9 => ?_)
            obtain ⟨e9, q9⟩ := h9
            cases e9
            subst x9
            have hch := s.mi.ch (4 * x + p) (by omega) (by omega)
            rw [slC_len, Int.toNat_of_nonneg hch.1]
            refine x_istore C dX6_consent_47 (by rw [hn]; exact Nat.le_of_ble_eq_true rfl) ?_
            refine x_iload C dX6_consent_49 rfl ?_
            refine x_bipush C dX6_consent_51 (by decide) ?_
            refine x_icmp_lt (tgt := 66) C dX6_consent_53 (by decide) (by omega) (by omega) (fun h53 => ?_) (fun h53 => ?_)
            ·
              refine x_aload C dX6_consent_66 rfl ?_
              refine x_iload_n C dX6_consent_68 rfl rfl ?_
              refine x_iload_n C dX6_consent_69 rfl rfl ?_
              refine x_iload C dX6_consent_70 rfl ?_
              refine x_callV C hR cb_X4_addChange cv_X4_addChange u10_1 (k_X4_addChange hst s hx2 (by omega) his (hCN x p hx2.1 hx2.2 (by omega) (by omega)) (fun y hy => (slC_nn s.mi (4 * x + p) (by omega) (by omega) _ (by omega) y hy).1) (by omega)) (h_recv m0 (by decide)) ⟨_, _, rfl⟩ rfl (Nat.le_of_ble_eq_true rfl) rfl dX6_consent_72 (by decide) (by decide) (fun E x9 h9 => absurd h9.1 (by intro h; cases h)) (fun r9 x9 h9 => ?_)
              obtain ⟨e9, hA9⟩ := h9
              cases e9
              refine x_iload C dX6_consent_75 rfl ?_
              refine x_iconst C dX6_consent_77 ?_
              refine x_iadd C dX6_consent_78 ?_
              refine x_iret (ty := .int) C hQ dX6_consent_79 rfl rfl (by decide) (by decide) ?_
              exact Or.inl ⟨by omega, by omega, hA9, rfl⟩
            ·
              refine x_throwS C hQ hR th_ISE (List.mem_of_getElem? (i := 6) rfl) dX6_consent_56 dX6_consent_59 dX6_consent_60 dX6_consent_62 dX6_consent_65 (by decide) (by decide) (by decide) (by decide) ?_
              exact Or.inr (Or.inl ⟨by omega, by omega, rfl, rfl⟩)
          ·
            refine x_throwS C hQ hR th_IAE (List.mem_of_getElem? (i := 5) rfl) dX6_consent_31 dX6_consent_34 dX6_consent_35 dX6_consent_37 dX6_consent_40 (by decide) (by decide) (by decide) (by decide) ?_
            first
            | (exfalso; cases h9; done)
            | exact Or.inr (Or.inr ⟨by omega, rfl, rfl⟩)
  ·
    refine x_aload_n C dX6_consent_0 rfl rfl ?_
    refine x_iload_n C dX6_consent_1 rfl rfl ?_
    refine x_callV C hR cb_X6_nodeAt cv_X6_nodeAt u4_16 (k_X6_nodeAt (M := M) hst v (by omega)) (h_recv v0 (by decide)) ⟨_, _, rfl⟩ rfl (Nat.le_of_ble_eq_true rfl) rfl dX6_consent_2 (by decide) (by decide) (fun E x9 h9 => absurd h9.1 (by intro h; cases h)) (fun r9 x9 h9 => ?_)
    obtain ⟨e9, q9⟩ := h9
    cases e9
    subst x9
    rw [if_neg hx2]
    refine x_astore C dX6_consent_5 (by rw [hn]; exact Nat.le_of_ble_eq_true rfl) ?_
    refine x_aload C dX6_consent_7 rfl ?_
    refine x_ifnull (tgt := 31) C dX6_consent_9 (by decide) (fun h9 => ?_) (fun a9 h9 => ?_)
    ·
      refine x_throwS C hQ hR th_IAE (List.mem_of_getElem? (i := 5) rfl) dX6_consent_31 dX6_consent_34 dX6_consent_35 dX6_consent_37 dX6_consent_40 (by decide) (by decide) (by decide) (by decide) ?_
      first
      | (exfalso; cases h9; done)
      | exact Or.inr (Or.inr ⟨by omega, rfl, rfl⟩)
    ·
      cases h9

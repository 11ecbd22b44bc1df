/-! share: whose world after it is given by the caller -/
set_option maxRecDepth 100000 in
set_option maxHeartbeats 400000 in
theorem k_X6_share {l : Launch} {D : va_G} {cy : CY} (hst : l.stackTraces = false) {h : HS} {A : AD} {M : MS} {x w : Int} {lz : List Int} {M' : MS} (s : SP h A M) (v : VO h A) (hw : w = 0 ∨ w = 1) (sS : (0 ≤ x ∧ x < 10) → SP (setI h 44 (nd A (10 + x)) w) A M') (hC2 : (0 ≤ x ∧ x < 10) → ChL (setI h 44 (nd A (10 + x)) w) A lz) (hl2 : ∀ e ∈ lz, 0 ≤ e ∧ e < M' 2 0) (hx : -2147483648 ≤ x ∧ x ≤ 2147483647) : Ct l D cy yX6_share (Cond.code yX6_share cX6_share 5 (some .boolean)) 6 107 1 6 (RepH cy) [vr (some (cO A)), vi x, vi w] h (fun r h' => ((0 ≤ x ∧ x < 10) ∧ OnlyL (setI h 44 (nd A (10 + x)) w) h' ∧ LW h' A (lz.foldl (jbF M') (fun k => k)) ∧ r = .ok (some (vi (M 12 x)))) ∨ (¬ (0 ≤ x ∧ x < 10) ∧ h' = h ∧ r = .error "java/lang/IllegalArgumentException")) := by
  refine Ct.of1 (own := RX6) hst (by decide) rfl (Nat.le_of_ble_eq_true rfl) (cat1 (vr_cat _) (cat1 (vi_cat _) (cat1 (vi_cat _) (cat0)))) ?_
  intro φ C hQ hn hR hl hD
  subst hl hD
  obtain ⟨v0, v60, v61, v62, v63, v64, vn, vnl, vnr, vm, vml, vh, vt, vw, vwl⟩ := id v
  by_cases hx2 : 0 ≤ x ∧ x < 10
  ·
    obtain ⟨d0, -⟩ := s.no (10 + x) (by omega) (by omega)
    obtain ⟨d44, -⟩ := s.dv x hx2.1 hx2.2
    have hb := s.mi.b12 x
    refine x_aload_n C dX6_share_0 rfl rfl ?_
    refine x_iload_n C dX6_share_1 rfl rfl ?_
    refine x_callV C hR cb_X6_deviceAt cv_X6_deviceAt u4_12 (k_X6_deviceAt (M := M) hst v (by omega)) (h_recv v0 (by decide)) ⟨_, _, rfl⟩ rfl (Nat.le_of_ble_eq_true rfl) rfl dX6_share_2 (by decide) (by decide) (fun E x9 h9 => absurd h9.1 (by intro h; cases h)) (fun r9 x9 h9 => ?_)
    obtain ⟨e9, q9⟩ := h9
    cases e9
    subst x9
    rw [if_pos hx2]
    refine x_astore_n C dX6_share_5 rfl (by rw [hn]; exact Nat.le_of_ble_eq_true rfl) ?_
    refine x_aload_n C dX6_share_6 rfl rfl ?_
    refine x_ifnonnull (tgt := 20) C dX6_share_7 (by decide) (fun a7 h7 => ?_) (fun h7 => ?_)
    ·
      refine x_aload_n C dX6_share_20 rfl rfl ?_
      refine h_get4 (f := 4) C d0 (by decide) u8_18 rfl rfl dX6_share_21 ?_
      simp only [d44]
      refine x_istore C dX6_share_24 (by rw [hn]; exact Nat.le_of_ble_eq_true rfl) ?_
      refine x_aload_n C dX6_share_26 rfl rfl ?_
      refine x_iload_n C dX6_share_27 rfl rfl ?_
      refine h_put4 (f := 4) (h' := setI _ 44 _ _) C (by assumption) (by decide) u8_18 rfl rfl (tyX4_ok 4 (by decide)) (fit_vz (by omega)) (cs4_4 (by assumption)) (fun _ => rfl) (fun _ hx => cell_setI_ne hx) dX6_share_28 ?_
      refine x_aload_n C dX6_share_31 rfl rfl ?_
      refine x_callV C hR cb_X6_findProfiles cv_X6_findProfiles u8_19 (k_X6_findProfiles hst (sS hx2) (v.cg (h' := setI h 44 (nd A (10 + x)) w)) (hC2 hx2) hl2) (h_recv (by assumption) (by decide)) ⟨_, _, rfl⟩ rfl (Nat.le_of_ble_eq_true rfl) rfl dX6_share_32 (by decide) (by decide) (fun E x9 h9 => absurd h9.1 (by intro h; cases h)) (fun r9 x9 h9 => ?_)
      obtain ⟨e9, hO9, hf9⟩ := h9
      cases e9
      refine x_iload C dX6_share_35 rfl ?_
      refine x_iret (ty := .boolean) C hQ dX6_share_37 rfl (by rcases hb with q | q <;> rw [q] <;> decide) (by decide) (by decide) ?_
      exact Or.inl ⟨hx2, hO9, hf9, rfl⟩
    ·
      refine x_throwS C hQ hR th_IAE (List.mem_of_getElem? (i := 3) rfl) dX6_share_10 dX6_share_13 dX6_share_14 dX6_share_16 dX6_share_19 (by decide) (by decide) (by decide) (by decide) ?_
      first
      | (exfalso; cases h7; done)
      | exact Or.inr ⟨hx2, rfl, rfl⟩
  ·
    refine x_aload_n C dX6_share_0 rfl rfl ?_
    refine x_iload_n C dX6_share_1 rfl rfl ?_
    refine x_callV C hR cb_X6_deviceAt cv_X6_deviceAt u4_12 (k_X6_deviceAt (M := M) hst v (by omega)) (h_recv v0 (by decide)) ⟨_, _, rfl⟩ rfl (Nat.le_of_ble_eq_true rfl) rfl dX6_share_2 (by decide) (by decide) (fun E x9 h9 => absurd h9.1 (by intro h; cases h)) (fun r9 x9 h9 => ?_)
    obtain ⟨e9, q9⟩ := h9
    cases e9
    subst x9
    rw [if_neg hx2]
    refine x_astore_n C dX6_share_5 rfl (by rw [hn]; exact Nat.le_of_ble_eq_true rfl) ?_
    refine x_aload_n C dX6_share_6 rfl rfl ?_
    refine x_ifnonnull (tgt := 20) C dX6_share_7 (by decide) (fun a7 h7 => ?_) (fun h7 => ?_)
    ·
      cases h7
    ·
      refine x_throwS C hQ hR th_IAE (List.mem_of_getElem? (i := 3) rfl) dX6_share_10 dX6_share_13 dX6_share_14 dX6_share_16 dX6_share_19 (by decide) (by decide) (by decide) (by decide) ?_
      first
      | (exfalso; cases h7; done)
      | exact Or.inr ⟨hx2, rfl, rfl⟩

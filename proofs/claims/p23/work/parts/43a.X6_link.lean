/-! link: whose world after it is given by the caller -/
abbrev mlV (h : HS) (A : AD) (x a w : Int) : Int := if w = 0 then bOp (· ||| ·) (fI h 43 (nd A (10 + x))) (bitI a) else bOp (· &&& ·) (fI h 43 (nd A (10 + x))) (bOp (· ^^^ ·) (bitI a) (-1))

set_option maxRecDepth 100000 in
set_option maxHeartbeats 400000 in
theorem k_X6_link {l : Launch} {D : va_G} {cy : CY} (hst : l.stackTraces = false) {h : HS} {A : AD} {M : MS} {x a w : Int} {lz : List Int} {M' : MS} (s : SP h A M) (v : VO h A) (hw : w = 0 ∨ w = 1) (sS : ((0 ≤ x ∧ x < 10) ∧ (0 ≤ a ∧ a < 10)) → SP (setI h 43 (nd A (10 + x)) (mlV h A x a w)) A M') (hC2 : ((0 ≤ x ∧ x < 10) ∧ (0 ≤ a ∧ a < 10)) → ChL (setI h 43 (nd A (10 + x)) (mlV h A x a w)) A lz) (hl2 : ∀ e ∈ lz, 0 ≤ e ∧ e < M' 2 0) (hx : -2147483648 ≤ x ∧ x ≤ 2147483647) (ha : -2147483648 ≤ a ∧ a ≤ 2147483647) : Ct l D cy yX6_link (Cond.code yX6_link cX6_link 7 (some .boolean)) 6 107 1 6 (RepH cy) [vr (some (cO A)), vi x, vi a, vi w] h (fun r h' => (((0 ≤ x ∧ x < 10) ∧ (0 ≤ a ∧ a < 10)) ∧ OnlyL (setI h 43 (nd A (10 + x)) (mlV h A x a w)) h' ∧ LW h' A (lz.foldl (jbF M') (fun k => k)) ∧ r = .ok (some (vi (bi (M 13 (10 * x + a) = 0))))) ∨ (¬ ((0 ≤ x ∧ x < 10) ∧ (0 ≤ a ∧ a < 10)) ∧ h' = h ∧ r = .error "java/lang/IllegalArgumentException")) := by
  refine Ct.of1 (own := RX6) hst (by decide) rfl (Nat.le_of_ble_eq_true rfl) (cat1 (vr_cat _) (cat1 (vi_cat _) (cat1 (vi_cat _) (cat1 (vi_cat _) (cat0))))) ?_
  intro φ C hQ hn hR hl hD
  subst hl hD
  obtain ⟨v0, v60, v61, v62, v63, v64, vn, vnl, vnr, vm, vml, vh, vt, vw, vwl⟩ := id v
  by_cases hx2 : 0 ≤ x ∧ x < 10
  · obtain ⟨d0, -⟩ := s.no (10 + x) (by omega) (by omega)
    by_cases ha2 : 0 ≤ a ∧ a < 10
    ·
      refine x_aload_n C dX6_link_0 rfl rfl ?_
      refine x_iload_n C dX6_link_1 rfl rfl ?_
      refine x_callV C hR cb_X6_deviceAt cv_X6_deviceAt u4_12 (k_X6_deviceAt (M := M) hst v (by omega)) (h_recv v0 (by decide)) ⟨_, _, rfl⟩ rfl (Nat.le_of_ble_eq_true rfl) rfl dX6_link_2 (by decide) (by decide) (fun E x9 h9 => absurd h9.1 (by intro h; cases h)) (fun r9 x9 h9 => ?_)
      obtain ⟨e9, q9⟩ := h9
      cases e9
      subst x9
      rw [if_pos hx2]
      refine x_astore C dX6_link_5 (by rw [hn]; exact Nat.le_of_ble_eq_true rfl) ?_
      refine x_aload_n C dX6_link_7 rfl rfl ?_
      refine x_iload_n C dX6_link_8 rfl rfl ?_
      refine x_callV C hR cb_X6_accountAt cv_X6_accountAt u4_20 (k_X6_accountAt (M := M) hst v (by omega)) (h_recv v0 (by decide)) ⟨_, _, rfl⟩ rfl (Nat.le_of_ble_eq_true rfl) rfl dX6_link_9 (by decide) (by decide) (fun E x9 h9 => absurd h9.1 (by intro h; cases h)) (fun r9 x9 h9 => ?_)
      obtain ⟨e9, q9⟩ := h9
      cases e9
      subst x9
      rw [if_pos ha2]
      refine x_astore C dX6_link_12 (by rw [hn]; exact Nat.le_of_ble_eq_true rfl) ?_
      refine x_aload C dX6_link_14 rfl ?_
      refine x_ifnull (tgt := 24) C dX6_link_16 (by decide) (fun h16 => ?_) (fun a16 h16 => ?_)
      ·
        refine x_throwS C hQ hR th_IAE (List.mem_of_getElem? (i := 4) rfl) dX6_link_24 dX6_link_27 dX6_link_28 dX6_link_30 dX6_link_33 (by decide) (by decide) (by decide) (by decide) ?_
        first
        | (exfalso; cases h16; done)
        | (exfalso; cases h21; done)
        | exact Or.inr ⟨by omega, rfl, rfl⟩
      ·
        refine x_aload C dX6_link_19 rfl ?_
        refine x_ifnonnull (tgt := 34) C dX6_link_21 (by decide) (fun a21 h21 => ?_) (fun h21 => ?_)
        ·
          refine x_aload C dX6_link_34 rfl ?_
          refine x_aload C dX6_link_36 rfl ?_
          refine x_callV C hR cb_X4_mayLink cv_X4_mayLink u9_7 (k_X4_mayLink hst s hx2 ha2) (h_recv d0 (by decide)) ⟨_, _, rfl⟩ rfl (Nat.le_of_ble_eq_true rfl) rfl dX6_link_38 (by decide) (by decide) (fun E x9 h9 => absurd h9.1 (by intro h; cases h)) (fun r9 x9 h9 => ?_)
          obtain ⟨e9, q9⟩ := h9
          cases e9
          subst x9
          refine x_istore C dX6_link_41 (by rw [hn]; exact Nat.le_of_ble_eq_true rfl) ?_
          refine x_aload C dX6_link_43 rfl ?_
          refine x_aload C dX6_link_45 rfl ?_
          refine x_iload_n C dX6_link_47 rfl rfl ?_
          refine x_callV C hR cb_X4_setMayLink cv_X4_setMayLink u9_8 (k_X4_setMayLink hst s hx2 ha2 hw) (h_recv d0 (by decide)) ⟨_, _, rfl⟩ rfl (Nat.le_of_ble_eq_true rfl) rfl dX6_link_48 (by decide) (by decide) (fun E x9 h9 => absurd h9.1 (by intro h; cases h)) (fun r9 x9 h9 => ?_)
          obtain ⟨e9, q9⟩ := h9
          cases e9
          subst x9
          refine x_aload_n C dX6_link_51 rfl rfl ?_
          refine x_callV C hR cb_X6_findProfiles cv_X6_findProfiles u8_19 (k_X6_findProfiles hst (sS ⟨hx2, ha2⟩) (v.cg (h' := (setI h 43 (nd A (10 + x)) (mlV h A x a w)))) (hC2 ⟨hx2, ha2⟩) hl2) (h_recv v0 (by decide)) ⟨_, _, rfl⟩ rfl (Nat.le_of_ble_eq_true rfl) rfl dX6_link_52 (by decide) (by decide) (fun E x9 h9 => absurd h9.1 (by intro h; cases h)) (fun r9 x9 h9 => ?_)
          obtain ⟨e9, hO9, hf9⟩ := h9
          cases e9
          refine x_iload C dX6_link_55 rfl ?_
          refine x_iret (ty := .boolean) C hQ dX6_link_57 rfl (nar_bi (bi_01 _)) (by decide) (by decide) ?_
          exact Or.inl ⟨⟨hx2, ha2⟩, hO9, hf9, rfl⟩
        ·
          refine x_throwS C hQ hR th_IAE (List.mem_of_getElem? (i := 4) rfl) dX6_link_24 dX6_link_27 dX6_link_28 dX6_link_30 dX6_link_33 (by decide) (by decide) (by decide) (by decide) ?_
          first
          | (exfalso; cases h16; done)
          | (exfalso; cases h21; done)
          | exact Or.inr ⟨by omega, rfl, rfl⟩
    ·
      refine x_aload_n C dX6_link_0 rfl rfl ?_
      refine x_iload_n C dX6_link_1 rfl rfl ?_
      refine x_callV C hR cb_X6_deviceAt cv_X6_deviceAt u4_12 (k_X6_deviceAt (M := M) hst v (by omega)) (h_recv v0 (by decide)) ⟨_, _, rfl⟩ rfl (Nat.le_of_ble_eq_true rfl) rfl dX6_link_2 (by decide) (by decide) (fun E x9 h9 => absurd h9.1 (by intro h; cases h)) (fun r9 x9 h9 => ?_)
      obtain ⟨e9, q9⟩ := h9
      cases e9
      subst x9
      rw [if_pos hx2]
      refine x_astore C dX6_link_5 (by rw [hn]; exact Nat.le_of_ble_eq_true rfl) ?_
      refine x_aload_n C dX6_link_7 rfl rfl ?_
      refine x_iload_n C dX6_link_8 rfl rfl ?_
      refine x_callV C hR cb_X6_accountAt cv_X6_accountAt u4_20 (k_X6_accountAt (M := M) hst v (by omega)) (h_recv v0 (by decide)) ⟨_, _, rfl⟩ rfl (Nat.le_of_ble_eq_true rfl) rfl dX6_link_9 (by decide) (by decide) (fun E x9 h9 => absurd h9.1 (by intro h; cases h)) (fun r9 x9 h9 => ?_)
      obtain ⟨e9, q9⟩ := h9
      cases e9
      subst x9
      rw [if_neg ha2]
      refine x_astore C dX6_link_12 (by rw [hn]; exact Nat.le_of_ble_eq_true rfl) ?_
      refine x_aload C dX6_link_14 rfl ?_
      refine x_ifnull (tgt := 24) C dX6_link_16 (by decide) (fun h16 => ?_) (fun a16 h16 => ?_)
      ·
        refine x_throwS C hQ hR th_IAE (List.mem_of_getElem? (i := 4) rfl) dX6_link_24 dX6_link_27 dX6_link_28 dX6_link_30 dX6_link_33 (by decide) (by decide) (by decide) (by decide) ?_
        first
        | (exfalso; cases h16; done)
        | (exfalso; cases h21; done)
        | exact Or.inr ⟨by omega, rfl, rfl⟩
      ·
        refine x_aload C dX6_link_19 rfl ?_
        refine x_ifnonnull (tgt := 34) C dX6_link_21 (by decide) (fun a21 h21 => ?_) (fun h21 => ?_)
        ·
          cases h21
        ·
          refine x_throwS C hQ hR th_IAE (List.mem_of_getElem? (i := 4) rfl) dX6_link_24 dX6_link_27 dX6_link_28 dX6_link_30 dX6_link_33 (by decide) (by decide) (by decide) (by decide) ?_
          first
          | (exfalso; cases h16; done)
          | (exfalso; cases h21; done)
          | exact Or.inr ⟨by omega, rfl, rfl⟩
  · by_cases ha2 : 0 ≤ a ∧ a < 10
    ·
      refine x_aload_n C dX6_link_0 rfl rfl ?_
      refine x_iload_n C dX6_link_1 rfl rfl ?_
      refine x_callV C hR cb_X6_deviceAt cv_X6_deviceAt u4_12 (k_X6_deviceAt (M := M) hst v (by omega)) (h_recv v0 (by decide)) ⟨_, _, rfl⟩ rfl (Nat.le_of_ble_eq_true rfl) rfl dX6_link_2 (by decide) (by decide) (fun E x9 h9 => absurd h9.1 (by intro h; cases h)) (fun r9 x9 h9 => ?_)
      obtain ⟨e9, q9⟩ := h9
      cases e9
      subst x9
      rw [if_neg hx2]
      refine x_astore C dX6_link_5 (by rw [hn]; exact Nat.le_of_ble_eq_true rfl) ?_
      refine x_aload_n C dX6_link_7 rfl rfl ?_
      refine x_iload_n C dX6_link_8 rfl rfl ?_
      refine x_callV C hR cb_X6_accountAt cv_X6_accountAt u4_20 (k_X6_accountAt (M := M) hst v (by omega)) (h_recv v0 (by decide)) ⟨_, _, rfl⟩ rfl (Nat.le_of_ble_eq_true rfl) rfl dX6_link_9 (by decide) (by decide) (fun E x9 h9 => absurd h9.1 (by intro h; cases h)) (fun r9 x9 h9 => ?_)
      obtain ⟨e9, q9⟩ := h9
      cases e9
      subst x9
      rw [if_pos ha2]
      refine x_astore C dX6_link_12 (by rw [hn]; exact Nat.le_of_ble_eq_true rfl) ?_
      refine x_aload C dX6_link_14 rfl ?_
      refine x_ifnull (tgt := 24) C dX6_link_16 (by decide) (fun h16 => ?_) (fun a16 h16 => ?_)
      ·
        refine x_throwS C hQ hR th_IAE (List.mem_of_getElem? (i := 4) rfl) dX6_link_24 dX6_link_27 dX6_link_28 dX6_link_30 dX6_link_33 (by decide) (by decide) (by decide) (by decide) ?_
        first
        | (exfalso; cases h16; done)
        | (exfalso; cases h21; done)
        | exact Or.inr ⟨by omega, rfl, rfl⟩
      ·
        cases h16
    ·
      refine x_aload_n C dX6_link_0 rfl rfl ?_
      refine x_iload_n C dX6_link_1 rfl rfl ?_
      refine x_callV C hR cb_X6_deviceAt cv_X6_deviceAt u4_12 (k_X6_deviceAt (M := M) hst v (by omega)) (h_recv v0 (by decide)) ⟨_, _, rfl⟩ rfl (Nat.le_of_ble_eq_true rfl) rfl dX6_link_2 (by decide) (by decide) (fun E x9 h9 => absurd h9.1 (by intro h; cases h)) (fun r9 x9 h9 => ?_)
      obtain ⟨e9, q9⟩ := h9
      cases e9
      subst x9
      rw [if_neg hx2]
      refine x_astore C dX6_link_5 (by rw [hn]; exact Nat.le_of_ble_eq_true rfl) ?_
      refine x_aload_n C dX6_link_7 rfl rfl ?_
      refine x_iload_n C dX6_link_8 rfl rfl ?_
      refine x_callV C hR cb_X6_accountAt cv_X6_accountAt u4_20 (k_X6_accountAt (M := M) hst v (by omega)) (h_recv v0 (by decide)) ⟨_, _, rfl⟩ rfl (Nat.le_of_ble_eq_true rfl) rfl dX6_link_9 (by decide) (by decide) (fun E x9 h9 => absurd h9.1 (by intro h; cases h)) (fun r9 x9 h9 => ?_)
      obtain ⟨e9, q9⟩ := h9
      cases e9
      subst x9
      rw [if_neg ha2]
      refine x_astore C dX6_link_12 (by rw [hn]; exact Nat.le_of_ble_eq_true rfl) ?_
      refine x_aload C dX6_link_14 rfl ?_
      refine x_ifnull (tgt := 24) C dX6_link_16 (by decide) (fun h16 => ?_) (fun a16 h16 => ?_)
      ·
        refine x_throwS C hQ hR th_IAE (List.mem_of_getElem? (i := 4) rfl) dX6_link_24 dX6_link_27 dX6_link_28 dX6_link_30 dX6_link_33 (by decide) (by decide) (by decide) (by decide) ?_
        first
        | (exfalso; cases h16; done)
        | (exfalso; cases h21; done)
        | exact Or.inr ⟨by omega, rfl, rfl⟩
      ·
        cases h16

set_option maxRecDepth 100000 in
set_option maxHeartbeats 400000 in
theorem k_X4_clearChanges {l : Launch} {D : va_G} {cy : CY} (hst : l.stackTraces = false) {h : HS} {A : AD} {M : MS} {k : Int} (s : SP h A M) (hk : 0 ≤ k ∧ k < 20) : Ct l D cy yX4_clearChanges (Cond.code yX4_clearChanges cX4_clearChanges 2 none) 0 0 0 0 (RepH cy) [vr (some (nd A k))] h (fun r h' => r = .ok none ∧ Fr [] [] nA (fun a => a = lc A k) h h' ∧ ∀ p, 0 ≤ p → p < 4 → aR h' (lc A k) p = none) := by
  refine Ct.of1 (own := RX4) hst (by decide) rfl (Nat.le_of_ble_eq_true rfl) (cat1 (vr_cat _) (cat0)) ?_
  intro φ C hQ hn hR hl hD
  subst hl hD
  have loop : ∀ (n : Nat) (i : Int) (h1 : HS), i + n = 4 → 0 ≤ i → Fr [] [] nA (fun a => a = lc A k) h h1 → (∀ p, 0 ≤ p → p < i → aR h1 (lc A k) p = none) → X φ (RepH cy h1) 0 0 2 [(0, vr (some (nd A k))), (1, vi i)] [] := by
    intro n
    induction n with
    | zero =>
      intro i h1 hi hi0 hO1 hz
      obtain ⟨n0, n40, n41, nk, nl⟩ := (hO1.sp s).no k hk.1 hk.2
      refine x_iload_n C dX4_clearChanges_2 rfl rfl ?_
      refine x_aload_n C dX4_clearChanges_3 rfl rfl ?_
      refine h_get4 (f := 1) C n0 (by decide) u1_11 rfl rfl dX4_clearChanges_4 ?_
      simp only [n41]
      refine h_alen C (by omega) dX4_clearChanges_7 ?_
      simp only [nl]
      refine x_icmp_ge (tgt := 24) C dX4_clearChanges_8 (by decide) (by omega) (by omega) (fun h8 => ?_) (fun h8 => ?_)
      ·
        refine x_vret C hQ dX4_clearChanges_24 rfl (by decide) (by decide) ?_
        exact ⟨rfl, hO1, fun p h0 h1 => hz p h0 (by omega)⟩
      ·
        omega
    | succ n ih =>
      intro i h1 hi hi0 hO1 hz
      obtain ⟨n0, n40, n41, nk, nl⟩ := (hO1.sp s).no k hk.1 hk.2
      refine x_iload_n C dX4_clearChanges_2 rfl rfl ?_
      refine x_aload_n C dX4_clearChanges_3 rfl rfl ?_
      refine h_get4 (f := 1) C n0 (by decide) u1_11 rfl rfl dX4_clearChanges_4 ?_
      simp only [n41]
      refine h_alen C (by omega) dX4_clearChanges_7 ?_
      simp only [nl]
      refine x_icmp_ge (tgt := 24) C dX4_clearChanges_8 (by decide) (by omega) (by omega) (fun h8 => ?_) (fun h8 => ?_)
      ·
        omega
      ·
        refine x_aload_n C dX4_clearChanges_11 rfl rfl ?_
        refine h_get4 (f := 1) C n0 (by decide) u1_11 rfl rfl dX4_clearChanges_12 ?_
        simp only [n41]
        refine x_iload_n C dX4_clearChanges_15 rfl rfl ?_
        refine x_null C dX4_clearChanges_16 ?_
        refine h_aastC C nk (by rw [nl]; omega) (by rw [nl]; omega) (fun v hv => by cases hv) dX4_clearChanges_17 ?_
        refine x_iinc C dX4_clearChanges_18 (by rw [hn]; exact Nat.le_of_ble_eq_true rfl) rfl ?_
        refine x_goto (tgt := 2) C dX4_clearChanges_21 (by decide) ?_
        exact X.to (ih (i + 1) _ (by omega) (by omega) (hO1.tr (Fr.sR rfl)) (fun p h0 h1 => by
          rw [aR_setR]
          split
          · rfl
          · exact hz p h0 (by omega))) (lsc rfl (lsc rfl (lsn)))
  refine x_iconst C dX4_clearChanges_0 ?_
  refine x_istore_n C dX4_clearChanges_1 rfl (by rw [hn]; exact Nat.le_of_ble_eq_true rfl) ?_
  exact X.to (loop 4 0 h (by omega) (by omega) (Fr.rf h) (fun p h0 h1 => by omega)) (lsc rfl (lsc rfl (lsn)))

set_option maxRecDepth 100000 in
set_option maxHeartbeats 400000 in
theorem k_X6_tell {l : Launch} {D : va_G} {cy : CY} (hst : l.stackTraces = false) {h : HS} {A : AD} {M : MS} {lz : List Int} {f : Int → Int} {ow : Nat → Int} (s : SP h A M) (v : VO h A) (hf : LW h A f) (hC : ChL h A lz) (hO : Ord M lz) (hCN : CNs h A M ow) (h71 : fI h 71 (cO A) = M 1 0) (hG : GL h A M (M 17 0).toNat 0 (fP h 65 (cO A))) (hgi : ∀ u g, 0 ≤ u → u < M 17 0 → 0 ≤ g → g < M 17 0 → gp A u = gp A g → u = g) (hB : ∀ g, 0 ≤ g → g < M 17 0 → BW (fI h 35 (gp A g)) (fun j => 0 ≤ j ∧ j < 20 ∧ M 22 (20 * g + j) = 1)) : Ct l D cy yX6_tell (Cond.code yX6_tell cX6_tell 2 (some .int)) 4 95 0 0 (RepH cy) [vr (some (cO A))] h (fun r h' => r = .ok (some (vi ((cgL M f lz (20 * (M 17 0).toNat)).length : Int))) ∧ ∃ h1, Fr [46, 35, 69] [] (fun a => a = cW A) nA h h1 ∧ h' = setI h1 70 (cO A) (fI h 70 (cO A) + ((cgL M f lz (20 * (M 17 0).toNat)).length : Int)) ∧ TCs h1 A M f lz (20 * (M 17 0).toNat)) := by
  refine Ct.of1 (own := RX6) hst (by decide) rfl (Nat.le_of_ble_eq_true rfl) (cat1 (vr_cat _) (cat0)) ?_
  intro φ C hQ hn hR hl hD
  subst hl hD
  obtain ⟨v0, v60, v61, v62, v63, v64, vn, vnl, vnr, vm, vml, vh, vt, vw, vwl⟩ := id v
  have loop : ∀ (n : Nat) (g : Int) (u : Option Nat) (h1 : HS), (n : Int) + g = M 17 0 → 0 ≤ g → Fr [46, 35, 69] [] (fun a => a = cW A) nA h h1 → GL h1 A M n g u → TCs h1 A M f lz (20 * g.toNat) → X φ (RepH cy h1) 0 0 10 [(0, vr (some (cO A))), (1, vr u)] [] := by
    intro n
    induction n with
    | zero =>
      intro g u h1 hn9 hg0 hO1 hu hT
      have hu : u = none := hu
      subst hu
      have v1 := hO1.vo v (by unfold nA; exact id)
      obtain ⟨w0, -⟩ := id v1
      have hgz : g = M 17 0 := by omega
      have e70 := hO1.i (f := 70) (by decide) (cO A)
      refine x_aload_n C dX6_tell_10 rfl rfl ?_
      refine x_ifnull (tgt := 27) C dX6_tell_11 (by decide) (fun h11 => ?_) (fun a11 h11 => ?_)
      ·
        refine x_aload_n C dX6_tell_27 rfl rfl ?_
        refine x_dup C dX6_tell_28 (by first | rfl | exact vr_cat _ | exact vi_cat _) ?_
        refine h_get6 (f := 10) C w0 (by decide) u23_11 rfl rfl dX6_tell_29 ?_
        simp only [e70]
        refine x_aload_n C dX6_tell_32 rfl rfl ?_
        refine h_get6 (f := 9) C w0 (by decide) u23_10 rfl rfl dX6_tell_33 ?_
        simp only [hT.1]
        refine x_iadd C dX6_tell_36 ?_
        refine h_put6 (f := 10) (h' := setI _ 70 _ _) C w0 (by decide) u23_11 rfl rfl (tyX6_ok 10 (by decide)) (fit_vi _) (cs6_10 w0) (fun _ => rfl) (fun _ hx => cell_setI_ne hx) dX6_tell_37 ?_
        refine x_aload_n C dX6_tell_40 rfl rfl ?_
        refine h_get6 (f := 9) C w0 (by decide) u23_10 rfl rfl dX6_tell_41 ?_
        simp only [fI_set_ne (show (69 : Nat) ≠ 70 by decide), hT.1]
        refine x_iret (ty := .int) C hQ dX6_tell_44 rfl rfl (by decide) (by decide) ?_
        exact ⟨by rw [hgz], h1, hO1, by rw [hgz], by rw [← hgz]; exact hT⟩
      ·
        cases h11
    | succ n ih =>
      intro g u h1 hn9 hg0 hO1 hu hT
      obtain ⟨rfl, hgr, hu2⟩ := hu
      have s1 := hO1.sp s
      have v1 := hO1.vo v (by unfold nA; exact id)
      obtain ⟨w0, -⟩ := id v1
      obtain ⟨g0, -⟩ := id hgr
      refine x_aload_n C dX6_tell_10 rfl rfl ?_
      refine x_ifnull (tgt := 27) C dX6_tell_11 (by decide) (fun h11 => ?_) (fun a11 h11 => ?_)
      ·
        cases h11
      ·
        refine x_aload_n C dX6_tell_14 rfl rfl ?_
        refine x_aload_n C dX6_tell_15 rfl rfl ?_
        refine x_callV C hR cb_X6_tellOf cv_X6_tellOf u23_12 (k_X6_tellOf hst s1 v1 (hO1.lw hf) (hO1.ch hC) hO (hO1.cns hCN (fun _ _ _ => id)) ((hO1.i (by decide) _).trans h71) (by omega) hgr (fun u u0 u1 q => hgi u g u0 u1 hg0 (by omega) q) hT) (h_recv w0 (by decide)) ⟨_, _, rfl⟩ rfl (Nat.le_of_ble_eq_true rfl) rfl dX6_tell_16 (by decide) (by decide) (fun E x9 h9 => absurd h9.1 (by intro h; cases h)) (fun r9 x9 h9 => ?_)
        obtain ⟨e9, hF9, hT9⟩ := h9
        cases e9
        obtain ⟨x9g, -⟩ := hF9.grp hgr
        refine x_aload_n C dX6_tell_19 rfl rfl ?_
        refine h_get3 (f := 6) C x9g (by decide) u12_12 rfl rfl dX6_tell_20 ?_
        refine x_astore_n C dX6_tell_23 rfl (by rw [hn]; exact Nat.le_of_ble_eq_true rfl) ?_
        refine x_goto (tgt := 10) C dX6_tell_24 (by decide) ?_
        exact X.to (ih (g + 1) _ x9 (by omega) (by omega) (hO1.tr hF9) (by rw [hF9.p (by decide)]; exact hF9.gl hu2) (by rw [show (g + 1).toNat = g.toNat + 1 by omega]; exact hT9)) (lsc rfl (lsc rfl (lsn)))
  refine x_aload_n C dX6_tell_0 rfl rfl ?_
  refine x_iconst C dX6_tell_1 ?_
  refine h_put6 (f := 9) (h' := setI _ 69 _ _) C v0 (by decide) u23_10 rfl rfl (tyX6_ok 9 (by decide)) (fit_vi _) (cs6_9 v0) (fun _ => rfl) (fun _ hx => cell_setI_ne hx) dX6_tell_2 ?_
  refine x_aload_n C dX6_tell_5 rfl rfl ?_
  refine h_get6 (f := 5) C v0 (by decide) u12_11 rfl rfl dX6_tell_6 ?_
  refine x_astore_n C dX6_tell_9 rfl (by rw [hn]; exact Nat.le_of_ble_eq_true rfl) ?_
  have hF0 : Fr [46, 35, 69] [] (fun a => a = cW A) nA h (setI h 69 (cO A) 0) := Fr.sI (by decide)
  exact X.to (loop (M 17 0).toNat 0 _ _ (by have := s.mi.gn; omega) (by omega) hF0 (hF0.gl hG) ⟨by rw [fI_set_eq]; rfl, fun j hj => absurd hj (Nat.not_lt_zero _), fun g h0 h1 => by
    rw [fI_set_ne (by decide)]
    refine (hB g h0 h1).cong (fun j hj => ?_)
    have e : tdV M f lz (20 * Int.toNat 0) (20 * g + j) = M 22 (20 * g + j) := tdV_n (by omega)
    rw [e]
    constructor <;> (intro q; omega)⟩) (lsc rfl (lsc rfl (lsn)))

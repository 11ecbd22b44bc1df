/-! forget -/
abbrev LcF (A : AD) (f : Int → Int) (z : Int) (i : Int) : Nat → Prop := fun a => ∃ k, (0 ≤ k ∧ k < i) ∧ f k = z ∧ a = lc A k
theorem evN_p {M : MS} {f : Int → Int} {k e : Int} {l : List Int} (h : f (ndOf M e) = k) : evN M f k (-1) (e :: l) = 1 + evN M f k (-1) l := by
  simp only [evN]
  rw [if_pos ⟨h, Or.inl rfl⟩]
theorem evN_n {M : MS} {f : Int → Int} {k e : Int} {l : List Int} (h : ¬ f (ndOf M e) = k) : evN M f k (-1) (e :: l) = evN M f k (-1) l := by
  simp only [evN]
  rw [if_neg (fun q => h q.1), Int.zero_add]

set_option maxRecDepth 100000 in
set_option maxHeartbeats 400000 in
theorem k_X6_forget {l : Launch} {D : va_G} {cy : CY} (hst : l.stackTraces = false) {h : HS} {A : AD} {M : MS} {x : Int} {lz : List Int} {f : Int → Int} (s : SP h A M) (v : VO h A) (hLc : LcI A) (hf : LW h A f) (hC : ChL h A lz) (hO : Ord M lz) (hm0 : ∀ e, 0 ≤ e → e < M 2 0 → fI h 17 (ev A e) = 0 ∨ fI h 17 (ev A e) = 1) (hx : -2147483648 ≤ x ∧ x ≤ 2147483647) : Ct l D cy yX6_forget (Cond.code yX6_forget cX6_forget 8 (some .int)) 7 107 1 6 (RepH cy) [vr (some (cO A)), vi x] h (fun r h' => ((0 ≤ x ∧ x < 20) ∧ Fr [17] [18, 20, 21, 42] nA (LcF A f (f x) 20) h h' ∧ (∀ e, 0 ≤ e → e < M 2 0 → fI h' 17 (ev A e) = 0 ∨ fI h' 17 (ev A e) = 1) ∧ ChL h' A (lz.filter (fun e => !decide (f (ndOf M e) = f x))) ∧ LW h' A ((lz.filter (fun e => !decide (f (ndOf M e) = f x))).foldl (jbF M) (fun k => k)) ∧ (∀ k p, 0 ≤ k → k < 20 → 0 ≤ p → p < 4 → f k = f x → aR h' (lc A k) p = none) ∧ r = .ok (some (vi (evN M f (f x) (-1) lz)))) ∨ (¬ (0 ≤ x ∧ x < 20) ∧ h' = h ∧ r = .error "java/lang/IllegalArgumentException")) := by
  refine Ct.of1 (own := RX6) hst (by decide) rfl (Nat.le_of_ble_eq_true rfl) (cat1 (vr_cat _) (cat1 (vi_cat _) (cat0))) ?_
  intro φ C hQ hn hR hl hD
  subst hl hD
  obtain ⟨v0, v60, v61, v62, v63, v64, vn, vnl, vnr, vm, vml, vh, vt, vw, vwl⟩ := id v
  have hl : ∀ e ∈ lz, 0 ≤ e ∧ e < M 2 0 := fun e he => ((hO.2 e).mp he).1
  have LOOP : (0 ≤ x ∧ x < 20) → X φ (RepH cy h) 1 6 20 [(0, vr (some (cO A))), (2, vr (some (nd A (f x)))), (3, vi 0), (4, vr (fP h 20 (cH A)))] [] := by
    intro hx2
    have hfx := (hf x hx2.1 hx2.2).2
    have loop : ∀ (t : List Int) (h1 : HS) (u : Option Nat) (c : Int), Fr [17] [] nA nA h h1 → LG h1 A u t none → (∀ e ∈ t, 0 ≤ e ∧ e < M 2 0) → (∀ e, 0 ≤ e → e < M 2 0 → fI h1 17 (ev A e) = 0 ∨ fI h1 17 (ev A e) = 1) → (∀ e ∈ lz, e ∉ t → fI h1 17 (ev A e) = bi (f (ndOf M e) = f x)) → c + evN M f (f x) (-1) t = evN M f (f x) (-1) lz → X φ (RepH cy h1) 1 6 20 [(0, vr (some (cO A))), (2, vr (some (nd A (f x)))), (3, vi c), (4, vr u)] [] := by
      intro t
      induction t with
      | nil =>
        intro h1 u c hO1 hu ht hm hd hcc
        have hu : u = none := hu
        subst hu
        have s1 := hO1.sp s
        obtain ⟨b0, b60, b61, b62, b63, b64, bn, bnl, bnr, bm, bml, bh, -⟩ := hO1.vo v (by unfold nA; exact id)
        have hcn : c = evN M f (f x) (-1) lz := (Int.add_zero c).symm.trans hcc
        have loop2 : ∀ (n : Nat) (i : Int) (h2 : HS), i + n = 20 → 0 ≤ i → Fr [17] [18, 20, 21] nA (LcF A f (f x) i) h h2 → (∀ e, 0 ≤ e → e < M 2 0 → fI h2 17 (ev A e) = 0 ∨ fI h2 17 (ev A e) = 1) → ChL h2 A (lz.filter (fun e => !decide (f (ndOf M e) = f x))) → (∀ k p, 0 ≤ k → k < i → 0 ≤ p → p < 4 → f k = f x → aR h2 (lc A k) p = none) → X φ (RepH cy h2) 1 6 84 [(0, vr (some (cO A))), (2, vr (some (nd A (f x)))), (3, vi c), (4, vr (some (cN A))), (5, vi 20), (6, vi i)] [] := by
          intro n
          induction n with
          | zero =>
            intro i h2 hi hi0 hO2 hm2 hC2 hz
            have s2 := hO2.sp s
            have v2 := hO2.vo v (fun ⟨k, h1, h2, h3⟩ => by have := (s.no k h1.1 (by omega)).2.2.2.1; rw [← h3, vn] at this; omega)
            obtain ⟨w0, w60, w61, w62, w63, w64, wn, wnl, wnr, wm, wml, wh, -⟩ := id v2
            refine x_iload C dX6_forget_84 rfl ?_
            refine x_iload C dX6_forget_86 rfl ?_
            refine x_icmp_ge (tgt := 118) C dX6_forget_88 (by decide) (by omega) (by omega) (fun h88 => ?_) (fun h88 => ?_)
            ·
              refine x_aload_n C dX6_forget_118 rfl rfl ?_
              refine x_callV C hR cb_X6_findProfiles cv_X6_findProfiles u8_19 (k_X6_findProfiles hst s2 v2 hC2 (fun e he => hl e (List.mem_filter.mp he).1)) (h_recv w0 (by decide)) ⟨_, _, rfl⟩ rfl (Nat.le_of_ble_eq_true rfl) rfl dX6_forget_119 (by decide) (by decide) (fun E x9 h9 => absurd h9.1 (by intro h; cases h)) (fun r9 x9 h9 => ?_)
              obtain ⟨e9, hO9, hf9⟩ := h9
              cases e9
              refine x_iload_n C dX6_forget_122 rfl rfl ?_
              refine x_iret (ty := .int) C hQ dX6_forget_123 rfl rfl (by decide) (by decide) ?_
              exact Or.inl ⟨hx2, (hO2.up (by decide) (by decide) (fun _ q => q) (fun a ⟨k, h1, h2⟩ => ⟨k, by omega, h2⟩)).tr (hO9.fr (by decide)), fun e h0 h1 => by rw [hO9.2.1]; exact hm2 e h0 h1, ⟨by rw [hO9.2.2.2.2.2 20 (by decide)]; exact hO9.lg hC2.1, by rw [hO9.2.2.2.2.2 21 (by decide)]; exact hC2.2⟩, hf9, fun k p h0 h1 h2 h3 h4 => by rw [hO9.2.2.2.2.1]; exact hz k p h0 (by omega) h2 h3 h4, by rw [hcn]⟩
            ·
              omega
          | succ n ih =>
            intro i h2 hi hi0 hO2 hm2 hC2 hz
            have s2 := hO2.sp s
            have v2 := hO2.vo v (fun ⟨k, h1, h2, h3⟩ => by have := (s.no k h1.1 (by omega)).2.2.2.1; rw [← h3, vn] at this; omega)
            obtain ⟨w0, w60, w61, w62, w63, w64, wn, wnl, wnr, wm, wml, wh, -⟩ := id v2
            have hi9 : 0 ≤ i ∧ i < 20 := by omega
            obtain ⟨hnk, -⟩ := s2.no i hi9.1 hi9.2
            have hfi := (hf i hi9.1 hi9.2).2
            by_cases hx : f i = f x
            ·
              refine x_iload C dX6_forget_84 rfl ?_
              refine x_iload C dX6_forget_86 rfl ?_
              refine x_icmp_ge (tgt := 118) C dX6_forget_88 (by decide) (by omega) (by omega) (fun h88 => ?_) (fun h88 => ?_)
              ·
                omega
              ·
                refine x_aload C dX6_forget_91 rfl ?_
                refine x_iload C dX6_forget_93 rfl ?_
                refine h_aaldN C wn (by rw [wnl]; omega) (by rw [wnl]; omega) dX6_forget_95 ?_
                simp only [wnr i hi9.1 hi9.2]
                refine x_astore C dX6_forget_96 (by rw [hn]; exact Nat.le_of_ble_eq_true rfl) ?_
                refine x_aload C dX6_forget_98 rfl ?_
                refine x_callV C hR cb_X4_lowest cv_X4_lowest u7_6 (k_X4_lowest hst s2 (hO2.lw hf) hi9) (h_recv hnk (by decide)) ⟨_, _, rfl⟩ rfl (Nat.le_of_ble_eq_true rfl) rfl dX6_forget_100 (by decide) (by decide) (fun E x9 h9 => absurd h9.1 (by intro h; cases h)) (fun r9 x9 h9 => ?_)
                obtain ⟨e9, q9⟩ := h9
                cases e9
                subst x9
                refine x_aload_n C dX6_forget_103 rfl rfl ?_
                refine x_acmp_ne (tgt := 112) C dX6_forget_104 (by decide) (fun h104 => ?_) (fun h104 => ?_)
                ·
                  first
                  | (exfalso; exact h104 (by rw [hx]))
                  | (refine x_iinc C dX6_forget_112 (by rw [hn]; exact Nat.le_of_ble_eq_true rfl) rfl ?_
                     refine x_goto (tgt := 84) C dX6_forget_115 (by decide) ?_
                     exact X.to (ih (i + 1) x9 (by omega) (by omega) ((hO2.up (by decide) (by decide) (fun _ q => q) (fun a ⟨k, h1, h2⟩ => ⟨k, by omega, h2⟩)).tr (hF3.up (by decide) (by decide) (fun _ q => q) (fun a q => ⟨i, by omega, hx, q⟩))) (fun e h0 h1 => by rw [hF3.i (by decide)]; exact hm2 e h0 h1) (hF3.ch hC2) (fun k p h0 h1 h2 h3 h4 => by
                      by_cases hki : k = i
                      · subst hki
                        exact hz3 p h2 h3
                      · rw [hF3.2.2.2.2.2 _ (fun q => hki (hLc k i h0 (by omega) hi9.1 hi9.2 q))]
                        exact hz k p h0 (by omega) h2 h3 h4)) (lsc rfl (lsc rfl (lsc rfl (lsc rfl (lsc rfl (lsc rfl (lsn))))))))
                ·
                  refine x_aload C dX6_forget_107 rfl ?_
                  refine x_callV C hR cb_X4_clearChanges cv_X4_clearChanges u11_11 (k_X4_clearChanges hst s2 hi9) (h_recv hnk (by decide)) ⟨_, _, rfl⟩ rfl (Nat.le_of_ble_eq_true rfl) rfl dX6_forget_109 (by decide) (by decide) (fun E x9 h9 => absurd h9.1 (by intro h; cases h)) (fun r9 x9 h9 => ?_)
                  obtain ⟨e9, hF3, hz3⟩ := h9
                  cases e9
                  first
                  | (exfalso; exact h104 (by rw [hx]))
                  | (refine x_iinc C dX6_forget_112 (by rw [hn]; exact Nat.le_of_ble_eq_true rfl) rfl ?_
                     refine x_goto (tgt := 84) C dX6_forget_115 (by decide) ?_
                     exact X.to (ih (i + 1) x9 (by omega) (by omega) ((hO2.up (by decide) (by decide) (fun _ q => q) (fun a ⟨k, h1, h2⟩ => ⟨k, by omega, h2⟩)).tr (hF3.up (by decide) (by decide) (fun _ q => q) (fun a q => ⟨i, by omega, hx, q⟩))) (fun e h0 h1 => by rw [hF3.i (by decide)]; exact hm2 e h0 h1) (hF3.ch hC2) (fun k p h0 h1 h2 h3 h4 => by
                      by_cases hki : k = i
                      · subst hki
                        exact hz3 p h2 h3
                      · rw [hF3.2.2.2.2.2 _ (fun q => hki (hLc k i h0 (by omega) hi9.1 hi9.2 q))]
                        exact hz k p h0 (by omega) h2 h3 h4)) (lsc rfl (lsc rfl (lsc rfl (lsc rfl (lsc rfl (lsc rfl (lsn))))))))
            ·
              refine x_iload C dX6_forget_84 rfl ?_
              refine x_iload C dX6_forget_86 rfl ?_
              refine x_icmp_ge (tgt := 118) C dX6_forget_88 (by decide) (by omega) (by omega) (fun h88 => ?_) (fun h88 => ?_)
              ·
                omega
              ·
                refine x_aload C dX6_forget_91 rfl ?_
                refine x_iload C dX6_forget_93 rfl ?_
                refine h_aaldN C wn (by rw [wnl]; omega) (by rw [wnl]; omega) dX6_forget_95 ?_
                simp only [wnr i hi9.1 hi9.2]
                refine x_astore C dX6_forget_96 (by rw [hn]; exact Nat.le_of_ble_eq_true rfl) ?_
                refine x_aload C dX6_forget_98 rfl ?_
                refine x_callV C hR cb_X4_lowest cv_X4_lowest u7_6 (k_X4_lowest hst s2 (hO2.lw hf) hi9) (h_recv hnk (by decide)) ⟨_, _, rfl⟩ rfl (Nat.le_of_ble_eq_true rfl) rfl dX6_forget_100 (by decide) (by decide) (fun E x9 h9 => absurd h9.1 (by intro h; cases h)) (fun r9 x9 h9 => ?_)
                obtain ⟨e9, q9⟩ := h9
                cases e9
                subst x9
                refine x_aload_n C dX6_forget_103 rfl rfl ?_
                refine x_acmp_ne (tgt := 112) C dX6_forget_104 (by decide) (fun h104 => ?_) (fun h104 => ?_)
                ·
                  refine x_iinc C dX6_forget_112 (by rw [hn]; exact Nat.le_of_ble_eq_true rfl) rfl ?_
                  refine x_goto (tgt := 84) C dX6_forget_115 (by decide) ?_
                  exact X.to (ih (i + 1) h2 (by omega) (by omega) (hO2.up (by decide) (by decide) (fun _ q => q) (fun a ⟨k, h1, h2⟩ => ⟨k, by omega, h2⟩)) hm2 hC2 (fun k p h0 h1 h2 h3 h4 => by
                    by_cases hki : k = i
                    · subst hki
                      exact absurd h4 hx
                    · exact hz k p h0 (by omega) h2 h3 h4)) (lsc rfl (lsc rfl (lsc rfl (lsc rfl (lsc rfl (lsc rfl (lsn)))))))
                ·
                  exfalso
                  exact hx ((nd_inj s (by omega) (by omega) (by omega) (by omega)).mp (Option.some.inj h104))
        have LOOP2 : ∀ h3 : HS, Fr [17] [18, 20, 21] nA nA h h3 → (∀ e, 0 ≤ e → e < M 2 0 → fI h3 17 (ev A e) = 0 ∨ fI h3 17 (ev A e) = 1) → ChL h3 A (lz.filter (fun e => !decide (f (ndOf M e) = f x))) → X φ (RepH cy h3) 1 6 84 [(0, vr (some (cO A))), (2, vr (some (nd A (f x)))), (3, vi c), (4, vr (some (cN A))), (5, vi 20), (6, vi 0)] [] := fun h3 a1 a2 a3 => X.to (loop2 20 0 h3 (by omega) (by omega) (a1.up (by decide) (by decide) (fun _ q => q) (fun _ q => q.elim)) a2 a3 (fun k p h0 h1 => by omega)) (lsc rfl (lsc rfl (lsc rfl (lsc rfl (lsc rfl (lsc rfl (lsn)))))))
        refine x_aload C dX6_forget_20 rfl ?_
        refine x_ifnull (tgt := 62) C dX6_forget_22 (by decide) (fun h22 => ?_) (fun a22 h22 => ?_)
        ·
          refine x_aload_n C dX6_forget_62 rfl rfl ?_
          refine h_get6 (f := 2) C b0 (by decide) u0_22 rfl rfl dX6_forget_63 ?_
          simp only [b62]
          refine x_callV C hR cb_X2_takeMarked cv_X2_takeMarked u8_4 (k_X2_takeMarked hst s1 bh (hO1.ch hC) hl hO.1 hm) (h_recv bh (by decide)) ⟨_, _, rfl⟩ rfl (Nat.le_of_ble_eq_true rfl) rfl dX6_forget_66 (by decide) (by decide) (fun E x9 h9 => by (rcases h9 with ⟨_, g, _⟩; cases g)) (fun r9 x9 h9 => ?_)
          obtain ⟨u2, e9, hN9, hC9, hT9⟩ := h9
          cases e9
          rw [List.filter_congr (q := fun e => !decide (f (ndOf M e) = f x)) (fun e he => bi_dec0 (hd e he (by simp)))] at hC9
          have hF9 : Fr [17] [18, 20, 21] nA nA h x9 := (hO1.up (by decide) (by decide) (fun _ q => q) (fun _ q => q)).tr (hN9.fr (by decide) (by decide) (by decide))
          obtain ⟨w0, w60, w61, w62, w63, w64, wn, wnl, wnr, wm, wml, wh, -⟩ := hF9.vo v (by unfold nA; exact id)
          have hm9 : ∀ e, 0 ≤ e → e < M 2 0 → fI x9 17 (ev A e) = 0 ∨ fI x9 17 (ev A e) = 1 := fun e h0 h1 => by rw [hN9.i]; exact hm e h0 h1
          refine x_pop C dX6_forget_69 (by first | rfl | exact vr_cat _ | exact vi_cat _) ?_
          refine x_aload_n C dX6_forget_70 rfl rfl ?_
          refine h_get6 (f := 0) C w0 (by decide) u0_14 rfl rfl dX6_forget_71 ?_
          simp only [w60]
          refine x_astore C dX6_forget_74 (by rw [hn]; exact Nat.le_of_ble_eq_true rfl) ?_
          refine x_aload C dX6_forget_76 rfl ?_
          refine h_alen C (by omega) dX6_forget_78 ?_
          simp only [wnl]
          refine x_istore C dX6_forget_79 (by rw [hn]; exact Nat.le_of_ble_eq_true rfl) ?_
          refine x_iconst C dX6_forget_81 ?_
          refine x_istore C dX6_forget_82 (by rw [hn]; exact Nat.le_of_ble_eq_true rfl) ?_
          exact X.to (LOOP2 x9 hF9 hm9 hC9) (lsc rfl (lsc rfl (lsc rfl (lsc rfl (lsc rfl (lsc rfl (lsn)))))))
        ·
          cases h22
      | cons y t ih =>
        intro h1 u c hO1 hu ht hm hd hcc
        obtain ⟨rfl, hu2⟩ := hu
        have hxl := ht y List.mem_cons_self
        have s1 := hO1.sp s
        have hf1 := hO1.lw hf
        obtain ⟨exk, e10, e11, e12, e13, e14, e15, e16⟩ := s1.ve y hxl.1 hxl.2
        by_cases hx : f (ndOf M y) = f x
        ·
          refine x_aload C dX6_forget_20 rfl ?_
          refine x_ifnull (tgt := 62) C dX6_forget_22 (by decide) (fun h22 => ?_) (fun a22 h22 => ?_)
          ·
            cases h22
          ·
            refine x_aload C dX6_forget_25 rfl ?_
            refine x_aload C dX6_forget_27 rfl ?_
            refine x_aload_n C dX6_forget_29 rfl rfl ?_
            refine x_callV C hR cb_X1_isOf cv_X1_isOf u11_2 (k_X1_isOf hst s1 hf1 hxl hfx) (h_recv exk (by decide)) ⟨_, _, rfl⟩ rfl (Nat.le_of_ble_eq_true rfl) rfl dX6_forget_30 (by decide) (by decide) (fun E x9 h9 => absurd h9.1 (by intro h; cases h)) (fun r9 x9 h9 => ?_)
            obtain ⟨e9, q9⟩ := h9
            cases e9
            subst x9
            rw [bi_t hx]
            refine h_put1 (f := 7) (h' := setI _ 17 _ _) C exk (by decide) u8_2 rfl rfl (tyX1_ok 7 (by decide)) (fit_vz (by decide)) (cs1_7 exk) (fun _ => rfl) (fun _ hx => cell_setI_ne hx) dX6_forget_33 ?_
            refine x_iload_n C dX6_forget_36 rfl rfl ?_
            refine x_aload C dX6_forget_37 rfl ?_
            refine h_get1 (f := 7) C exk (by decide) u8_2 rfl rfl dX6_forget_39 ?_
            simp only [fI_set_eq]
            refine x_if_eq (tgt := 49) C dX6_forget_42 (by decide) (by first | omega | exact bi_rng _) (fun h42 => ?_) (fun h42 => ?_)
            ·
              omega
            ·
              refine x_iconst C dX6_forget_45 ?_
              refine x_goto (tgt := 50) C dX6_forget_46 (by decide) ?_
              refine x_iadd C dX6_forget_50 ?_
              refine x_istore_n C dX6_forget_51 rfl (by rw [hn]; exact Nat.le_of_ble_eq_true rfl) ?_
              refine x_aload C dX6_forget_52 rfl ?_
              refine h_get1 (f := 8) C exk (by decide) u8_3 rfl rfl dX6_forget_54 ?_
              refine x_astore C dX6_forget_57 (by rw [hn]; exact Nat.le_of_ble_eq_true rfl) ?_
              refine x_goto (tgt := 20) C dX6_forget_59 (by decide) ?_
              exact X.to (ih (setI h1 17 (ev A y) 1) _ (c + 1) (hO1.tr (Fr.sI (by decide))) ((Fr.sI (fi := [17]) (fp := []) (ai := nA) (ar := nA) (by decide)).lg hu2) (fun e he => ht e (List.mem_cons_of_mem _ he)) (fun e h0 h1 => by
                rw [fI_setI]
                split
                · first | exact Or.inl rfl | exact Or.inr rfl
                · exact hm e h0 h1) (fun e he hn => by
                rw [fI_setI]
                by_cases hey : e = y
                · subst hey
                  rw [if_pos ⟨rfl, rfl⟩, bi_t hx]
                · rw [if_neg (fun q => hey ((ev_inj s1 (hl e he).1 (hl e he).2 hxl.1 hxl.2).mp q.2))]
                  exact hd e he (fun q => by
                    rcases List.mem_cons.mp q with q | q
                    · exact hey q
                    · exact hn q)) (by rw [evN_p hx] at hcc; omega)) (lsc rfl (lsc rfl (lsc rfl (lsc rfl (lsn)))))
        ·
          refine x_aload C dX6_forget_20 rfl ?_
          refine x_ifnull (tgt := 62) C dX6_forget_22 (by decide) (fun h22 => ?_) (fun a22 h22 => ?_)
          ·
            cases h22
          ·
            refine x_aload C dX6_forget_25 rfl ?_
            refine x_aload C dX6_forget_27 rfl ?_
            refine x_aload_n C dX6_forget_29 rfl rfl ?_
            refine x_callV C hR cb_X1_isOf cv_X1_isOf u11_2 (k_X1_isOf hst s1 hf1 hxl hfx) (h_recv exk (by decide)) ⟨_, _, rfl⟩ rfl (Nat.le_of_ble_eq_true rfl) rfl dX6_forget_30 (by decide) (by decide) (fun E x9 h9 => absurd h9.1 (by intro h; cases h)) (fun r9 x9 h9 => ?_)
            obtain ⟨e9, q9⟩ := h9
            cases e9
            subst x9
            rw [bi_f hx]
            refine h_put1 (f := 7) (h' := setI _ 17 _ _) C exk (by decide) u8_2 rfl rfl (tyX1_ok 7 (by decide)) (fit_vz (by decide)) (cs1_7 exk) (fun _ => rfl) (fun _ hx => cell_setI_ne hx) dX6_forget_33 ?_
            refine x_iload_n C dX6_forget_36 rfl rfl ?_
            refine x_aload C dX6_forget_37 rfl ?_
            refine h_get1 (f := 7) C exk (by decide) u8_2 rfl rfl dX6_forget_39 ?_
            simp only [fI_set_eq]
            refine x_if_eq (tgt := 49) C dX6_forget_42 (by decide) (by first | omega | exact bi_rng _) (fun h42 => ?_) (fun h42 => ?_)
            ·
              refine x_iconst C dX6_forget_49 ?_
              refine x_iadd C dX6_forget_50 ?_
              refine x_istore_n C dX6_forget_51 rfl (by rw [hn]; exact Nat.le_of_ble_eq_true rfl) ?_
              refine x_aload C dX6_forget_52 rfl ?_
              refine h_get1 (f := 8) C exk (by decide) u8_3 rfl rfl dX6_forget_54 ?_
              refine x_astore C dX6_forget_57 (by rw [hn]; exact Nat.le_of_ble_eq_true rfl) ?_
              refine x_goto (tgt := 20) C dX6_forget_59 (by decide) ?_
              exact X.to (ih (setI h1 17 (ev A y) 0) _ (c + 0) (hO1.tr (Fr.sI (by decide))) ((Fr.sI (fi := [17]) (fp := []) (ai := nA) (ar := nA) (by decide)).lg hu2) (fun e he => ht e (List.mem_cons_of_mem _ he)) (fun e h0 h1 => by
                rw [fI_setI]
                split
                · first | exact Or.inl rfl | exact Or.inr rfl
                · exact hm e h0 h1) (fun e he hn => by
                rw [fI_setI]
                by_cases hey : e = y
                · subst hey
                  rw [if_pos ⟨rfl, rfl⟩, bi_f hx]
                · rw [if_neg (fun q => hey ((ev_inj s1 (hl e he).1 (hl e he).2 hxl.1 hxl.2).mp q.2))]
                  exact hd e he (fun q => by
                    rcases List.mem_cons.mp q with q | q
                    · exact hey q
                    · exact hn q)) (by rw [evN_n hx] at hcc; omega)) (lsc rfl (lsc rfl (lsc rfl (lsc rfl (lsn)))))
            ·
              omega
    exact X.to (loop lz h _ 0 (Fr.rf h) hC.1 hl hm0 (fun e he hn => absurd he hn) (Int.zero_add _)) (lsc rfl (lsc rfl (lsc rfl (lsc rfl (lsn)))))
  refine x_aload_n C dX6_forget_0 rfl rfl ?_
  refine x_iload_n C dX6_forget_1 rfl rfl ?_
  refine x_callV C hR cb_X6_neededNode cv_X6_neededNode u10_22 (k_X6_neededNode (M := M) hst v (by omega)) (h_recv v0 (by decide)) ⟨_, _, rfl⟩ rfl (Nat.le_of_ble_eq_true rfl) rfl dX6_forget_2 (by decide) (by decide) (fun E x9 h9 => by (obtain ⟨q9, g9⟩ := h9; subst x9; rcases g9 with ⟨-, g⟩ | ⟨g1, g⟩; (cases g); (cases g; exact xt_out C hQ (by decide) (by decide) (Or.inr ⟨g1, rfl, rfl⟩)))) (fun r9 x9 h9 => ?_)
  obtain ⟨q9, g9⟩ := h9
  subst x9
  obtain ⟨hx2, e9⟩ := g9.resolve_right (fun g => by cases g.2)
  cases e9
  have hfx := (hf x hx2.1 hx2.2).2
  obtain ⟨m0, -⟩ := s.no x hx2.1 hx2.2
  refine x_callV C hR cb_X4_lowest cv_X4_lowest u7_6 (k_X4_lowest hst s hf hx2) (h_recv m0 (by decide)) ⟨_, _, rfl⟩ rfl (Nat.le_of_ble_eq_true rfl) rfl dX6_forget_5 (by decide) (by decide) (fun E x9 h9 => absurd h9.1 (by intro h; cases h)) (fun r9 x9 h9 => ?_)
  obtain ⟨e9, q9⟩ := h9
  cases e9
  subst x9
  refine x_astore_n C dX6_forget_8 rfl (by rw [hn]; exact Nat.le_of_ble_eq_true rfl) ?_
  refine x_iconst C dX6_forget_9 ?_
  refine x_istore_n C dX6_forget_10 rfl (by rw [hn]; exact Nat.le_of_ble_eq_true rfl) ?_
  refine x_aload_n C dX6_forget_11 rfl rfl ?_
  refine h_get6 (f := 2) C v0 (by decide) u0_22 rfl rfl dX6_forget_12 ?_
  simp only [v62]
  refine h_get2 (f := 0) C vh (by decide) u8_1 rfl rfl dX6_forget_15 ?_
  refine x_astore C dX6_forget_18 (by rw [hn]; exact Nat.le_of_ble_eq_true rfl) ?_
  exact X.to (LOOP hx2) (lsc rfl (lsc rfl (lsc rfl (lsc rfl (lsn)))))

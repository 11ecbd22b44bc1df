/-! skew -/
theorem bi_dec0 {p : Prop} [Decidable p] {z : Int} (h : z = bi p) : decide (z = 0) = !decide p := by
  rw [h]
  unfold bi
  by_cases hp : p <;> simp [hp]
theorem sk_tm {M : MS} {x w e : Int} (h : ¬ M 4 e = x) : tmOf (mset M 11 x w) e = tmOf M e := by
  unfold tmOf
  rw [mset_at, mset_ne (by decide), mset_ne (by decide), if_neg h]
theorem sk_ord {M : MS} {x w : Int} {l : List Int} (hO : Ord M l) : Ord (mset M 11 x w) (insAll (mset M 11 x w) (l.filter (fun e => decide (M 4 e = x))) (l.filter (fun e => !decide (M 4 e = x)))) := by
  have hnd := hO.nodup
  refine ⟨insAll_sort ?_ (hnd.filter _) (fun e he hq => ?_), fun e => ?_⟩
  · refine (hO.1.filter _).imp_of_mem (fun {a b} ha hb hab => ?_)
    have h1 : ¬ M 4 a = x := by have := (List.mem_filter.mp ha).2; simpa using this
    have h2 : ¬ M 4 b = x := by have := (List.mem_filter.mp hb).2; simpa using this
    unfold ahd at hab ⊢
    rw [sk_tm h1, sk_tm h2]
    exact hab
  · have h1 := (List.mem_filter.mp he).2
    have h2 := (List.mem_filter.mp hq).2
    simp_all
  · rw [insAll_mem]
    have h1 := hO.2 e
    simp only [List.mem_filter, h1]
    show _ ↔ ((0 ≤ e ∧ e < M 2 0) ∧ M 9 e = 0)
    by_cases hx : M 4 e = x <;> simp [hx]
theorem sk_rest {M : MS} {x w : Int} {l : List Int} (hO : Ord M l) : (l.filter (fun e => !decide (M 4 e = x))).Pairwise (ahd (mset M 11 x w)) := by
  refine (hO.1.filter _).imp_of_mem (fun {a b} ha hb hab => ?_)
  have h1 : ¬ M 4 a = x := by have := (List.mem_filter.mp ha).2; simpa using this
  have h2 : ¬ M 4 b = x := by have := (List.mem_filter.mp hb).2; simpa using this
  unfold ahd at hab ⊢
  rw [sk_tm h1, sk_tm h2]
  exact hab

set_option maxRecDepth 100000 in
set_option maxHeartbeats 400000 in
theorem k_X6_skew {l : Launch} {D : va_G} {cy : CY} (hst : l.stackTraces = false) {h : HS} {A : AD} {M : MS} {x w : Int} {lz : List Int} (s : SP h A M) (v : VO h A) (hC : ChL h A lz) (hO : Ord M lz) (hm0 : ∀ e, 0 ≤ e → e < M 2 0 → fI h 17 (ev A e) = 0 ∨ fI h 17 (ev A e) = 1) (hx : -2147483648 ≤ x ∧ x ≤ 2147483647) (hw : -2147483648 ≤ w ∧ w ≤ 2147483647) : Ct l D cy yX6_skew (Cond.code yX6_skew cX6_skew 6 (some .int)) 6 110 1 6 (RepH cy) [vr (some (cO A)), vi x, vi w] h (fun r h' => (((0 ≤ x ∧ x < 10) ∧ (-600 ≤ w ∧ w ≤ 600)) ∧ SP h' A (mset M 11 x w) ∧ Fr [17, 45] [18, 20, 21] nA nA h h' ∧ (∀ e, 0 ≤ e → e < M 2 0 → fI h' 17 (ev A e) = 0 ∨ fI h' 17 (ev A e) = 1) ∧ (∃ l', ChL h' A l' ∧ Ord (mset M 11 x w) l') ∧ r = .ok (some (vi (M 11 x)))) ∨ (¬ ((0 ≤ x ∧ x < 10) ∧ (-600 ≤ w ∧ w ≤ 600)) ∧ h' = h ∧ r = .error "java/lang/IllegalArgumentException")) := by
  refine Ct.of1 (own := RX6) hst (by decide) rfl (Nat.le_of_ble_eq_true rfl) (cat1 (vr_cat _) (cat1 (vi_cat _) (cat1 (vi_cat _) (cat0)))) ?_
  intro φ C hQ hn hR hl hD
  subst hl hD
  obtain ⟨v0, v60, v61, v62, v63, v64, vn, vnl, vnr, vm, vml, vh, vt, vw, vwl⟩ := id v
  by_cases hx2 : 0 ≤ x ∧ x < 10
  ·
    obtain ⟨d0, -⟩ := s.no (10 + x) (by omega) (by omega)
    obtain ⟨d44, d45, -⟩ := s.dv x hx2.1 hx2.2
    have hsk := s.mi.sk x hx2.1 (by omega)
    have hl : ∀ e ∈ lz, 0 ≤ e ∧ e < M 2 0 := fun e he => ((hO.2 e).mp he).1
    have LOOP : (-600 ≤ w ∧ w ≤ 600) → X φ (RepH cy h) 0 0 49 [(0, vr (some (cO A))), (2, vi w), (3, vr (some (nd A (10 + x)))), (4, vi (M 11 x)), (5, vr (fP h 20 (cH A)))] [] := by
      intro hw2
      have loop : ∀ (t : List Int) (h1 : HS) (u : Option Nat), Fr [17] [] nA nA h h1 → LG h1 A u t none → (∀ e ∈ t, 0 ≤ e ∧ e < M 2 0) → (∀ e, 0 ≤ e → e < M 2 0 → fI h1 17 (ev A e) = 0 ∨ fI h1 17 (ev A e) = 1) → (∀ e ∈ lz, e ∉ t → fI h1 17 (ev A e) = bi (M 4 e = x)) → X φ (RepH cy h1) 0 0 49 [(0, vr (some (cO A))), (2, vi w), (3, vr (some (nd A (10 + x)))), (4, vi (M 11 x)), (5, vr u)] [] := by
        intro t
        induction t with
        | nil =>
          intro h1 u hO1 hu ht hm hd
          have hu : u = none := hu
          subst hu
          have s1 := hO1.sp s
          obtain ⟨b0, b60, b61, b62, b63, b64, bn, bnl, bnr, bm, bml, bh, -⟩ := hO1.vo v (by unfold nA; exact id)
          refine x_aload C dX6_skew_49 rfl ?_
          refine x_ifnull (tgt := 83) C dX6_skew_51 (by decide) (fun h51 => ?_) (fun a51 h51 => ?_)
          ·
            refine x_aload_n C dX6_skew_83 rfl rfl ?_
            refine h_get6 (f := 2) C b0 (by decide) u0_22 rfl rfl dX6_skew_84 ?_
            simp only [b62]
            refine x_callV C hR cb_X2_takeMarked cv_X2_takeMarked u8_4 (k_X2_takeMarked hst s1 bh (hO1.ch hC) hl hO.1 hm) (h_recv bh (by decide)) ⟨_, _, rfl⟩ rfl (Nat.le_of_ble_eq_true rfl) rfl dX6_skew_87 (by decide) (by decide) (fun E x9 h9 => by (rcases h9 with ⟨_, g, _⟩; cases g)) (fun r9 x9 h9 => ?_)
            obtain ⟨u2, e9, hN9, hC9, hT9⟩ := h9
            cases e9
            rw [List.filter_congr (q := fun e => !decide (M 4 e = x)) (fun e he => bi_dec0 (hd e he (by simp)))] at hC9
            rw [List.filter_congr (q := fun e => decide (M 4 e = x)) (fun e he => by rw [bi_dec0 (hd e he (by simp)), Bool.not_not])] at hT9
            have s9 := hN9.sp s1
            obtain ⟨d9, -⟩ := s9.no (10 + x) (by omega) (by omega)
            have hF9 : Fr [17, 45] [18, 20, 21] nA nA h x9 := (hO1.up (by decide) (by decide) (fun _ q => q) (fun _ q => q)).tr (hN9.fr (by decide) (by decide) (by decide))
            have hFs : Fr [17, 45] [18, 20, 21] nA nA h (setI x9 45 (nd A (10 + x)) w) := hF9.tr (Fr.sI (by decide))
            have s2 := s9.w45 hx2 hw2
            obtain ⟨w0, w60, w61, w62, w63, w64, wn, wnl, wnr, wm, wml, wh, -⟩ := hFs.vo v (by unfold nA; exact id)
            obtain ⟨y0, y60, y61, y62, -⟩ := hF9.vo v (by unfold nA; exact id)
            have hO2 := sk_ord (w := w) (x := x) hO
            have hC2 : ChL (setI x9 45 (nd A (10 + x)) w) A (lz.filter (fun e => !decide (M 4 e = x))) := ⟨LG_cong (h := x9) (fun _ _ => rfl) hC9.1, hC9.2⟩
            have hT2 : LG (setI x9 45 (nd A (10 + x)) w) A u2 (lz.filter (fun e => decide (M 4 e = x))) none := LG_cong (h := x9) (fun _ _ => rfl) hT9
            refine x_astore C dX6_skew_90 (by rw [hn]; exact Nat.le_of_ble_eq_true rfl) ?_
            refine x_aload_n C dX6_skew_92 rfl rfl ?_
            refine x_iload_n C dX6_skew_93 rfl rfl ?_
            refine h_put4 (f := 5) (h' := setI _ 45 _ _) C d9 (by decide) u8_0 rfl rfl (tyX4_ok 5 (by decide)) (fit_vi _) (cs4_5 d9) (fun _ => rfl) (fun _ hx => cell_setI_ne hx) dX6_skew_94 ?_
            refine x_aload_n C dX6_skew_97 rfl rfl ?_
            refine h_get6 (f := 2) C w0 (by decide) u0_22 rfl rfl dX6_skew_98 ?_
            simp only [w62]
            refine x_aload C dX6_skew_101 rfl ?_
            refine x_callV C hR cb_X2_putEach cv_X2_putEach u8_9 (k_X2_putEach hst s2 wh hC2 (fun e he => hl e (List.mem_filter.mp he).1) (sk_rest hO) hT2 (fun e he => hl e (List.mem_filter.mp he).1) (hO.nodup.filter _) (fun e he hq => by have h1 := (List.mem_filter.mp he).2; have h2 := (List.mem_filter.mp hq).2; simp_all)) (h_recv wh (by decide)) ⟨_, _, rfl⟩ rfl (Nat.le_of_ble_eq_true rfl) rfl dX6_skew_103 (by decide) (by decide) (fun E x9 h9 => absurd h9.1 (by intro h; cases h)) (fun r9 x9 h9 => ?_)
            obtain ⟨e9, hN3, hC3⟩ := h9
            cases e9
            refine x_iload C dX6_skew_106 rfl ?_
            refine x_iret (ty := .int) C hQ dX6_skew_108 rfl rfl (by decide) (by decide) ?_
            exact Or.inl ⟨⟨hx2, hw2⟩, hN3.sp s2, hFs.tr (hN3.fr (by decide) (by decide) (by decide)), fun e h0 h1 => by rw [hN3.i, fI_set_ne (by decide), hN9.i]; exact hm e h0 h1, ⟨_, hC3, hO2⟩, rfl⟩
          ·
            cases h51
        | cons y t ih =>
          intro h1 u hO1 hu ht hm hd
          obtain ⟨rfl, hu2⟩ := hu
          have hxl := ht y List.mem_cons_self
          have s1 := hO1.sp s
          obtain ⟨exk, e10, e11, e12, e13, e14, e15, e16⟩ := s1.ve y hxl.1 hxl.2
          obtain ⟨-, hd4, -⟩ := s.mi.ev y hxl.1 hxl.2
          refine x_aload C dX6_skew_49 rfl ?_
          refine x_ifnull (tgt := 83) C dX6_skew_51 (by decide) (fun h51 => ?_) (fun a51 h51 => ?_)
          ·
            cases h51
          ·
            refine x_aload C dX6_skew_54 rfl ?_
            refine x_aload C dX6_skew_56 rfl ?_
            refine h_get1 (f := 1) C exk (by decide) u6_15 rfl rfl dX6_skew_58 ?_
            simp only [e11]
            refine x_aload_n C dX6_skew_61 rfl rfl ?_
            refine x_acmp_ne (tgt := 69) C dX6_skew_62 (by decide) (fun h62 => ?_) (fun h62 => ?_)
            ·
              refine x_iconst C dX6_skew_69 ?_
              refine h_put1 (f := 7) (h' := setI _ 17 _ _) C exk (by decide) u8_2 rfl rfl (tyX1_ok 7 (by decide)) (fit_vz (by decide)) (cs1_7 exk) (fun _ => rfl) (fun _ hx => cell_setI_ne hx) dX6_skew_70 ?_
              refine x_aload C dX6_skew_73 rfl ?_
              refine h_get1 (f := 8) C exk (by decide) u8_3 rfl rfl dX6_skew_75 ?_
              refine x_astore C dX6_skew_78 (by rw [hn]; exact Nat.le_of_ble_eq_true rfl) ?_
              refine x_goto (tgt := 49) C dX6_skew_80 (by decide) ?_
              first
              | (have hx9 : ¬ M 4 y = x := fun q => h62 (by rw [q])
                 exact X.to (ih (setI h1 17 (ev A y) 0) _ (hO1.tr (Fr.sI (by decide))) ((Fr.sI (fi := [17]) (fp := []) (ai := nA) (ar := nA) (by decide)).lg hu2) (fun e he => ht e (List.mem_cons_of_mem _ he)) (fun e h0 h1 => by
                  rw [fI_setI]
                  split
                  · first | exact Or.inl rfl | exact Or.inr rfl
                  · exact hm e h0 h1) (fun e he hn => by
                  rw [fI_setI]
                  by_cases hey : e = y
                  · subst hey
                    rw [if_pos ⟨rfl, rfl⟩, bi_f hx9]
                  · rw [if_neg (fun q => hey ((ev_inj s1 (hl e he).1 (hl e he).2 hxl.1 hxl.2).mp q.2))]
                    exact hd e he (fun q => by
                      rcases List.mem_cons.mp q with q | q
                      · exact hey q
                      · exact hn q))) (lsc rfl (lsc rfl (lsc rfl (lsc rfl (lsc rfl (lsn)))))))
              | (have hx9 : M 4 y = x := by have := (nd_inj s (by omega) (by omega) (by omega) (by omega)).mp (Option.some.inj h62); omega
                 exact X.to (ih (setI h1 17 (ev A y) 1) _ (hO1.tr (Fr.sI (by decide))) ((Fr.sI (fi := [17]) (fp := []) (ai := nA) (ar := nA) (by decide)).lg hu2) (fun e he => ht e (List.mem_cons_of_mem _ he)) (fun e h0 h1 => by
                  rw [fI_setI]
                  split
                  · first | exact Or.inl rfl | exact Or.inr rfl
                  · exact hm e h0 h1) (fun e he hn => by
                  rw [fI_setI]
                  by_cases hey : e = y
                  · subst hey
                    rw [if_pos ⟨rfl, rfl⟩, bi_t hx9]
                  · rw [if_neg (fun q => hey ((ev_inj s1 (hl e he).1 (hl e he).2 hxl.1 hxl.2).mp q.2))]
                    exact hd e he (fun q => by
                      rcases List.mem_cons.mp q with q | q
                      · exact hey q
                      · exact hn q))) (lsc rfl (lsc rfl (lsc rfl (lsc rfl (lsc rfl (lsn)))))))
            ·
              refine x_iconst C dX6_skew_65 ?_
              refine x_goto (tgt := 70) C dX6_skew_66 (by decide) ?_
              refine h_put1 (f := 7) (h' := setI _ 17 _ _) C exk (by decide) u8_2 rfl rfl (tyX1_ok 7 (by decide)) (fit_vz (by decide)) (cs1_7 exk) (fun _ => rfl) (fun _ hx => cell_setI_ne hx) dX6_skew_70 ?_
              refine x_aload C dX6_skew_73 rfl ?_
              refine h_get1 (f := 8) C exk (by decide) u8_3 rfl rfl dX6_skew_75 ?_
              refine x_astore C dX6_skew_78 (by rw [hn]; exact Nat.le_of_ble_eq_true rfl) ?_
              refine x_goto (tgt := 49) C dX6_skew_80 (by decide) ?_
              first
              | (have hx9 : ¬ M 4 y = x := fun q => h62 (by rw [q])
                 exact X.to (ih (setI h1 17 (ev A y) 0) _ (hO1.tr (Fr.sI (by decide))) ((Fr.sI (fi := [17]) (fp := []) (ai := nA) (ar := nA) (by decide)).lg hu2) (fun e he => ht e (List.mem_cons_of_mem _ he)) (fun e h0 h1 => by
                  rw [fI_setI]
                  split
                  · first | exact Or.inl rfl | exact Or.inr rfl
                  · exact hm e h0 h1) (fun e he hn => by
                  rw [fI_setI]
                  by_cases hey : e = y
                  · subst hey
                    rw [if_pos ⟨rfl, rfl⟩, bi_f hx9]
                  · rw [if_neg (fun q => hey ((ev_inj s1 (hl e he).1 (hl e he).2 hxl.1 hxl.2).mp q.2))]
                    exact hd e he (fun q => by
                      rcases List.mem_cons.mp q with q | q
                      · exact hey q
                      · exact hn q))) (lsc rfl (lsc rfl (lsc rfl (lsc rfl (lsc rfl (lsn)))))))
              | (have hx9 : M 4 y = x := by have := (nd_inj s (by omega) (by omega) (by omega) (by omega)).mp (Option.some.inj h62); omega
                 exact X.to (ih (setI h1 17 (ev A y) 1) _ (hO1.tr (Fr.sI (by decide))) ((Fr.sI (fi := [17]) (fp := []) (ai := nA) (ar := nA) (by decide)).lg hu2) (fun e he => ht e (List.mem_cons_of_mem _ he)) (fun e h0 h1 => by
                  rw [fI_setI]
                  split
                  · first | exact Or.inl rfl | exact Or.inr rfl
                  · exact hm e h0 h1) (fun e he hn => by
                  rw [fI_setI]
                  by_cases hey : e = y
                  · subst hey
                    rw [if_pos ⟨rfl, rfl⟩, bi_t hx9]
                  · rw [if_neg (fun q => hey ((ev_inj s1 (hl e he).1 (hl e he).2 hxl.1 hxl.2).mp q.2))]
                    exact hd e he (fun q => by
                      rcases List.mem_cons.mp q with q | q
                      · exact hey q
                      · exact hn q))) (lsc rfl (lsc rfl (lsc rfl (lsc rfl (lsc rfl (lsn)))))))
      exact X.to (loop lz h _ (Fr.rf h) hC.1 hl hm0 (fun e he hn => absurd he hn)) (lsc rfl (lsc rfl (lsc rfl (lsc rfl (lsc rfl (lsn))))))
    refine x_aload_n C dX6_skew_0 rfl rfl ?_
    refine x_iload_n C dX6_skew_1 rfl rfl ?_
    refine x_callV C hR cb_X6_deviceAt cv_X6_deviceAt u4_12 (k_X6_deviceAt (M := M) hst v (by omega)) (h_recv v0 (by decide)) ⟨_, _, rfl⟩ rfl (Nat.le_of_ble_eq_true rfl) rfl dX6_skew_2 (by decide) (by decide) (fun E x9 h9 => absurd h9.1 (by intro h; cases h)) (fun r9 x9 h9 => ?_)
    obtain ⟨e9, q9⟩ := h9
    cases e9
    subst x9
    rw [if_pos hx2]
    refine x_astore_n C dX6_skew_5 rfl (by rw [hn]; exact Nat.le_of_ble_eq_true rfl) ?_
    refine x_aload_n C dX6_skew_6 rfl rfl ?_
    refine x_ifnull (tgt := 24) C dX6_skew_7 (by decide) (fun h7 => ?_) (fun a7 h7 => ?_)
    ·
      refine x_throwS C hQ hR th_IAE (List.mem_of_getElem? (i := 2) rfl) dX6_skew_24 dX6_skew_27 dX6_skew_28 dX6_skew_30 dX6_skew_33 (by decide) (by decide) (by decide) (by decide) ?_
      first
      | (exfalso; cases h7; done)
      | exact Or.inr ⟨by omega, rfl, rfl⟩
    ·
      refine x_iload_n C dX6_skew_10 rfl rfl ?_
      refine x_sipush C dX6_skew_11 (by decide) ?_
      refine x_icmp_lt (tgt := 24) C dX6_skew_14 (by decide) (by first | omega | exact bi_rng _) (by first | omega | exact bi_rng _) (fun h14 => ?_) (fun h14 => ?_)
      ·
        refine x_throwS C hQ hR th_IAE (List.mem_of_getElem? (i := 2) rfl) dX6_skew_24 dX6_skew_27 dX6_skew_28 dX6_skew_30 dX6_skew_33 (by decide) (by decide) (by decide) (by decide) ?_
        first
        | (exfalso; cases h7; done)
        | exact Or.inr ⟨by omega, rfl, rfl⟩
      ·
        refine x_iload_n C dX6_skew_17 rfl rfl ?_
        refine x_sipush C dX6_skew_18 (by decide) ?_
        refine x_icmp_le (tgt := 34) C dX6_skew_21 (by decide) (by first | omega | exact bi_rng _) (by first | omega | exact bi_rng _) (fun h21 => ?_) (fun h21 => ?_)
        ·
          refine x_aload_n C dX6_skew_34 rfl rfl ?_
          refine h_get4 (f := 5) C d0 (by decide) u8_0 rfl rfl dX6_skew_35 ?_
          simp only [d45]
          refine x_istore C dX6_skew_38 (by rw [hn]; exact Nat.le_of_ble_eq_true rfl) ?_
          refine x_aload_n C dX6_skew_40 rfl rfl ?_
          refine h_get6 (f := 2) C v0 (by decide) u0_22 rfl rfl dX6_skew_41 ?_
          simp only [v62]
          refine h_get2 (f := 0) C vh (by decide) u8_1 rfl rfl dX6_skew_44 ?_
          refine x_astore C dX6_skew_47 (by rw [hn]; exact Nat.le_of_ble_eq_true rfl) ?_
          exact X.to (LOOP (by omega)) (lsc rfl (lsc rfl (lsc rfl (lsc rfl (lsc rfl (lsn))))))
        ·
          refine x_throwS C hQ hR th_IAE (List.mem_of_getElem? (i := 2) rfl) dX6_skew_24 dX6_skew_27 dX6_skew_28 dX6_skew_30 dX6_skew_33 (by decide) (by decide) (by decide) (by decide) ?_
          first
          | (exfalso; cases h7; done)
          | exact Or.inr ⟨by omega, rfl, rfl⟩
  ·
    refine x_aload_n C dX6_skew_0 rfl rfl ?_
    refine x_iload_n C dX6_skew_1 rfl rfl ?_
    refine x_callV C hR cb_X6_deviceAt cv_X6_deviceAt u4_12 (k_X6_deviceAt (M := M) hst v (by omega)) (h_recv v0 (by decide)) ⟨_, _, rfl⟩ rfl (Nat.le_of_ble_eq_true rfl) rfl dX6_skew_2 (by decide) (by decide) (fun E x9 h9 => absurd h9.1 (by intro h; cases h)) (fun r9 x9 h9 => ?_)
    obtain ⟨e9, q9⟩ := h9
    cases e9
    subst x9
    rw [if_neg hx2]
    refine x_astore_n C dX6_skew_5 rfl (by rw [hn]; exact Nat.le_of_ble_eq_true rfl) ?_
    refine x_aload_n C dX6_skew_6 rfl rfl ?_
    refine x_ifnull (tgt := 24) C dX6_skew_7 (by decide) (fun h7 => ?_) (fun a7 h7 => ?_)
    ·
      refine x_throwS C hQ hR th_IAE (List.mem_of_getElem? (i := 2) rfl) dX6_skew_24 dX6_skew_27 dX6_skew_28 dX6_skew_30 dX6_skew_33 (by decide) (by decide) (by decide) (by decide) ?_
      first
      | (exfalso; cases h7; done)
      | exact Or.inr ⟨by omega, rfl, rfl⟩
    ·
      cases h7

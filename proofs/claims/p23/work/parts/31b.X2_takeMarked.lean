set_option maxRecDepth 100000 in
set_option maxHeartbeats 400000 in
theorem k_X2_takeMarked {l : Launch} {D : va_G} {cy : CY} (hst : l.stackTraces = false) {h : HS} {A : AD} {M : MS} {lz : List Int} (s : SP h A M) (hch : kD h (cH A) = 3) (hC : ChL h A lz) (hl : ∀ e ∈ lz, 0 ≤ e ∧ e < M 2 0) (hp : lz.Pairwise (ahd M)) (hmr : ∀ e, 0 ≤ e → e < M 2 0 → fI h 17 (ev A e) = 0 ∨ fI h 17 (ev A e) = 1) : Ct l D cy yX2_takeMarked (Cond.code yX2_takeMarked cX2_takeMarked 5 (some (.object "VisitorLoom$Event"))) 0 0 0 0 (RepH cy) [vr (some (cH A))] h (fun r h' => ∃ u, r = .ok (some (vr u)) ∧ OnlyN h h' ∧ ChL h' A (lz.filter (fun e => decide (fI h 17 (ev A e) = 0))) ∧ LG h' A u (lz.filter (fun e => !decide (fI h 17 (ev A e) = 0))) none) := by
  refine Ct.of1 (own := RX2) hst (by decide) rfl (Nat.le_of_ble_eq_true rfl) (cat1 (vr_cat _) (cat0)) ?_
  intro φ C hQ hn hR hl hD
  subst hl hD
  have loop : ∀ (r ps : List Int) (h1 : HS) (u ft lt : Option Nat), lz = ps ++ r → OnlyN h h1 → LG h1 A (fP h1 20 (cH A)) (ps.filter (fun e => decide (fI h 17 (ev A e) = 0))) none → fP h1 21 (cH A) = lastP A (ps.filter (fun e => decide (fI h 17 (ev A e) = 0))) → LG h1 A ft (ps.filter (fun e => !decide (fI h 17 (ev A e) = 0))) none → lt = lastP A (ps.filter (fun e => !decide (fI h 17 (ev A e) = 0))) → LG h1 A u r none → X φ (RepH cy h1) 0 0 19 [(0, vr (some (cH A))), (1, vr u), (2, vr ft), (3, vr lt)] [] := by
    intro r
    induction r with
    | nil =>
      intro ps h1 u ft lt hll hO1 hL1 hl1 hLT hlt hu
      have hu : u = none := hu
      subst hu
      refine x_aload_n C dX2_takeMarked_19 rfl rfl ?_
      refine x_ifnull (tgt := 94) C dX2_takeMarked_20 (by decide) (fun h20 => ?_) (fun a20 h20 => ?_)
      ·
        refine x_aload_n C dX2_takeMarked_94 rfl rfl ?_
        refine x_aret C hQ dX2_takeMarked_95 rfl (by decide) (by decide) ?_
        rw [List.append_nil] at hll
        subst hll
        exact ⟨ft, rfl, hO1, ⟨hL1, hl1⟩, hLT⟩
      ·
        cases h20
    | cons x t ih0 =>
      intro ps h1 u ft lt hll hO1 hL1 hl1 hLT hlt hu
      have ih : ∀ (ps : List Int) (h1 : HS) (u ft lt : Option Nat), lz = ps ++ t → OnlyN h h1 → LG h1 A (fP h1 20 (cH A)) (ps.filter (fun e => decide (fI h 17 (ev A e) = 0))) none → fP h1 21 (cH A) = lastP A (ps.filter (fun e => decide (fI h 17 (ev A e) = 0))) → LG h1 A ft (ps.filter (fun e => !decide (fI h 17 (ev A e) = 0))) none → lt = lastP A (ps.filter (fun e => !decide (fI h 17 (ev A e) = 0))) → LG h1 A u t none → X φ (RepH cy h1) 0 0 19 [(0, vr (some (cH A))), (1, vr u), (2, vr ft), (3, vr lt)] [] := ih0
      obtain ⟨rfl, hx2⟩ := hu
      have hxl := hl x (by rw [hll]; simp)
      have hxk : kD h1 (ev A x) = 2 := (hO1.k _).trans (s.ve x hxl.1 hxl.2).1
      have hch1 : kD h1 (cH A) = 3 := (hO1.k _).trans hch
      have hrg := hmr x hxl.1 hxl.2
      have e17 : fI h1 17 (ev A x) = fI h 17 (ev A x) := hO1.i 17 _
      have hxo : ∀ e ∈ ps ++ t, ev A e ≠ ev A x := fun e he q => by
        have hel := hl e (by rw [hll]; rcases List.mem_append.mp he with w | w <;> simp [w])
        have q2 := (ev_inj s hel.1 hel.2 hxl.1 hxl.2).mp q
        subst q2
        rw [hll] at hp
        have hp2 := List.pairwise_append.mp hp
        rcases List.mem_append.mp he with w | w
        · exact ahd_irr M e (hp2.2.2 e w e List.mem_cons_self)
        · exact ahd_irr M e ((List.pairwise_cons.mp hp2.2.1).1 e w)
      have hle : ∀ e ∈ ps, 0 ≤ e ∧ e < M 2 0 := fun e he => hl e (by rw [hll]; simp [he])
      have hpd : ∀ e b, e ∈ ps → b ∈ ps → ev A e = ev A b → e = b := fun e b he hb q => (ev_inj s (hle e he).1 (hle e he).2 (hle b hb).1 (hle b hb).2).mp q
      obtain ⟨Kp, hKp⟩ : ∃ K, K = ps.filter (fun e => decide (fI h 17 (ev A e) = 0)) := ⟨_, rfl⟩
      obtain ⟨Tk, hTk⟩ : ∃ K, K = ps.filter (fun e => !decide (fI h 17 (ev A e) = 0)) := ⟨_, rfl⟩
      have hKm : ∀ e ∈ Kp, e ∈ ps ∧ fI h 17 (ev A e) = 0 := fun e he => by rw [hKp] at he; simpa using he
      have hTm : ∀ e ∈ Tk, e ∈ ps ∧ ¬ fI h 17 (ev A e) = 0 := fun e he => by rw [hTk] at he; simpa using he
      have hps : ps.Pairwise (ahd M) := by rw [hll] at hp; exact (List.pairwise_append.mp hp).1
      have hKp9 : Kp.Pairwise (ahd M) := by rw [hKp]; exact hps.filter _
      have hTk9 : Tk.Pairwise (ahd M) := by rw [hTk]; exact hps.filter _
      rw [← hKp] at hL1 hl1
      rw [← hTk] at hLT hlt
      by_cases hmk0 : fI h 17 (ev A x) = 0
      · have hmk : fI h1 17 (ev A x) = 0 := e17.trans hmk0
        rcases List.eq_nil_or_concat Kp with hK0 | ⟨L, b, hK0⟩
        · subst hK0
          have hl1 : fP h1 21 (cH A) = none := hl1
          have hkf : (ps ++ [x]).filter (fun e => decide (fI h 17 (ev A e) = 0)) = ([] : List Int) ++ [x] := by rw [List.filter_append, ← hKp, List.filter_cons_of_pos (by simp [hmk0])]; rfl
          have htf : (ps ++ [x]).filter (fun e => !decide (fI h 17 (ev A e) = 0)) = Tk := by rw [List.filter_append, ← hTk, List.filter_cons_of_neg (by simp [hmk0])]; simp
          have hOn : OnlyN h1 (setP (setP (setP h1 18 (ev A x) none) 20 (cH A) (some (ev A x))) 21 (cH A) (some (ev A x))) := ((OnlyN.set (Or.inl rfl)).tr (OnlyN.set (Or.inr (Or.inl rfl)))).tr (OnlyN.set (Or.inr (Or.inr rfl)))
          have hrest : LG (setP (setP (setP h1 18 (ev A x) none) 20 (cH A) (some (ev A x))) 21 (cH A) (some (ev A x))) A (fP h1 18 (ev A x)) t none := LG_cong (fun e he => by rw [fP_set_ne (by decide), fP_set_ne (by decide), fP_set_at (hxo e (List.mem_append_right _ he))]) hx2
          refine x_aload_n C dX2_takeMarked_19 rfl rfl ?_
          refine x_ifnull (tgt := 94) C dX2_takeMarked_20 (by decide) (fun h20 => by cases h20) (fun a20 h20 => ?_)
          refine x_aload_n C dX2_takeMarked_23 rfl rfl ?_
          refine h_get1 (f := 8) C hxk (by decide) u5_21 rfl rfl dX2_takeMarked_24 ?_
          refine x_astore C dX2_takeMarked_27 (by rw [hn]; exact Nat.le_of_ble_eq_true rfl) ?_
          refine x_aload_n C dX2_takeMarked_29 rfl rfl ?_
          refine x_null C dX2_takeMarked_30 ?_
          refine h_put1 (f := 8) (h' := setP _ 18 _ _) C hxk (by decide) u5_21 rfl rfl (tyX1_ok 8 (by decide)) (fit_vr _) (cs1_8 hxk) (fun _ => rfl) (fun _ hx => cell_setP_ne hx) dX2_takeMarked_31 ?_
          refine x_aload_n C dX2_takeMarked_34 rfl rfl ?_
          refine h_get1 (f := 7) C hxk (by decide) u8_8 rfl rfl dX2_takeMarked_35 ?_
          change X φ _ _ _ _ _ (vi (fI h1 17 (ev A x)) :: _)
          refine x_if_ne (tgt := 72) C dX2_takeMarked_38 (by decide) (by omega) (fun h38 => absurd hmk h38) (fun h38 => ?_)
          refine x_aload_n C dX2_takeMarked_41 rfl rfl ?_
          refine h_get2 (f := 1) C hch1 (by decide) u5_19 rfl rfl dX2_takeMarked_42 ?_
          change X φ _ _ _ _ _ (vr (fP h1 21 (cH A)) :: _)
          rw [hl1]
          refine x_ifnonnull (tgt := 56) C dX2_takeMarked_45 (by decide) (fun a45 h45 => by cases h45) (fun h45 => ?_)
          refine x_aload_n C dX2_takeMarked_48 rfl rfl ?_
          refine x_aload_n C dX2_takeMarked_49 rfl rfl ?_
          refine h_put2 (f := 0) (h' := setP _ 20 _ _) C hch1 (by decide) u5_20 rfl rfl (tyX2_ok 0 (by decide)) (fit_vr _) (cs2_0 hch1) (fun _ => rfl) (fun _ hx => cell_setP_ne hx) dX2_takeMarked_50 ?_
          refine x_goto (tgt := 64) C dX2_takeMarked_53 (by decide) ?_
          refine x_aload_n C dX2_takeMarked_64 rfl rfl ?_
          refine x_aload_n C dX2_takeMarked_65 rfl rfl ?_
          refine h_put2 (f := 1) (h' := setP _ 21 _ _) C hch1 (by decide) u5_19 rfl rfl (tyX2_ok 1 (by decide)) (fit_vr _) (cs2_1 hch1) (fun _ => rfl) (fun _ hx => cell_setP_ne hx) dX2_takeMarked_66 ?_
          refine x_goto (tgt := 88) C dX2_takeMarked_69 (by decide) ?_
          refine x_aload C dX2_takeMarked_88 rfl ?_
          refine x_astore_n C dX2_takeMarked_90 rfl (by rw [hn]; exact Nat.le_of_ble_eq_true rfl) ?_
          refine x_goto (tgt := 19) C dX2_takeMarked_91 (by decide) ?_
          exact X.to (ih (ps ++ [x]) (setP (setP (setP h1 18 (ev A x) none) 20 (cH A) (some (ev A x))) 21 (cH A) (some (ev A x))) _ (ft) (lt) (by rw [hll]; simp) (hO1.tr hOn) (by rw [hkf]; rw [fP_set_ne (by decide), fP_set_eq]; exact ⟨rfl, by rw [fP_set_ne (by decide), fP_set_ne (by decide), fP_set_eq]; rfl⟩) (by rw [hkf, fP_set_eq]; rfl) (by rw [htf]; exact LG_cong (fun e he => by rw [fP_set_ne (by decide), fP_set_ne (by decide), fP_set_at (hxo e (List.mem_append_left _ (hTm e he).1))]) hLT) (by rw [htf]; exact hlt) hrest) (lsc rfl (lsc rfl (lsc rfl (lsc rfl lsn))))
        · rw [List.concat_eq_append] at hK0
          subst hK0
          rw [lastP_app] at hl1
          have hbl := hle b (hKm b (by simp)).1
          have hbk : kD h1 (ev A b) = 2 := (hO1.k _).trans (s.ve b hbl.1 hbl.2).1
          have hbx : ev A b ≠ ev A x := hxo b (List.mem_append_left _ (hKm b (by simp)).1)
          have hLb : ∀ e ∈ L, ev A e ≠ ev A b := fun e he q => by
            have q2 := hpd e b (hKm e (by simp [he])).1 (hKm b (by simp)).1 q
            subst q2
            exact ahd_irr M e ((List.pairwise_append.mp hKp9).2.2 e he e (by simp))
          have hkf : (ps ++ [x]).filter (fun e => decide (fI h 17 (ev A e) = 0)) = (L ++ [b]) ++ [x] := by rw [List.filter_append, ← hKp, List.filter_cons_of_pos (by simp [hmk0])]; rfl
          have htf : (ps ++ [x]).filter (fun e => !decide (fI h 17 (ev A e) = 0)) = Tk := by rw [List.filter_append, ← hTk, List.filter_cons_of_neg (by simp [hmk0])]; simp
          have hOn : OnlyN h1 (setP (setP (setP h1 18 (ev A x) none) 18 (ev A b) (some (ev A x))) 21 (cH A) (some (ev A x))) := ((OnlyN.set (Or.inl rfl)).tr (OnlyN.set (Or.inl rfl))).tr (OnlyN.set (Or.inr (Or.inr rfl)))
          have hrest : LG (setP (setP (setP h1 18 (ev A x) none) 18 (ev A b) (some (ev A x))) 21 (cH A) (some (ev A x))) A (fP h1 18 (ev A x)) t none := LG_cong (fun e he => by rw [fP_set_ne (by decide), fP_set_at (fun q => ahd_irr M e (by have hel := hl e (by rw [hll]; simp [he]); have hbl := hle b (hKm b (by simp)).1; have q2 := (ev_inj s hel.1 hel.2 hbl.1 hbl.2).mp q; subst q2; rw [hll] at hp; exact (List.pairwise_append.mp hp).2.2 e (hKm e (by simp)).1 e (List.mem_cons_of_mem _ he))), fP_set_at (hxo e (List.mem_append_right _ he))]) hx2
          refine x_aload_n C dX2_takeMarked_19 rfl rfl ?_
          refine x_ifnull (tgt := 94) C dX2_takeMarked_20 (by decide) (fun h20 => by cases h20) (fun a20 h20 => ?_)
          refine x_aload_n C dX2_takeMarked_23 rfl rfl ?_
          refine h_get1 (f := 8) C hxk (by decide) u5_21 rfl rfl dX2_takeMarked_24 ?_
          refine x_astore C dX2_takeMarked_27 (by rw [hn]; exact Nat.le_of_ble_eq_true rfl) ?_
          refine x_aload_n C dX2_takeMarked_29 rfl rfl ?_
          refine x_null C dX2_takeMarked_30 ?_
          refine h_put1 (f := 8) (h' := setP _ 18 _ _) C hxk (by decide) u5_21 rfl rfl (tyX1_ok 8 (by decide)) (fit_vr _) (cs1_8 hxk) (fun _ => rfl) (fun _ hx => cell_setP_ne hx) dX2_takeMarked_31 ?_
          refine x_aload_n C dX2_takeMarked_34 rfl rfl ?_
          refine h_get1 (f := 7) C hxk (by decide) u8_8 rfl rfl dX2_takeMarked_35 ?_
          change X φ _ _ _ _ _ (vi (fI h1 17 (ev A x)) :: _)
          refine x_if_ne (tgt := 72) C dX2_takeMarked_38 (by decide) (by omega) (fun h38 => absurd hmk h38) (fun h38 => ?_)
          refine x_aload_n C dX2_takeMarked_41 rfl rfl ?_
          refine h_get2 (f := 1) C hch1 (by decide) u5_19 rfl rfl dX2_takeMarked_42 ?_
          change X φ _ _ _ _ _ (vr (fP h1 21 (cH A)) :: _)
          rw [hl1]
          refine x_ifnonnull (tgt := 56) C dX2_takeMarked_45 (by decide) (fun a45 h45 => ?_) (fun h45 => by cases h45)
          refine x_aload_n C dX2_takeMarked_56 rfl rfl ?_
          refine h_get2 (f := 1) C hch1 (by decide) u5_19 rfl rfl dX2_takeMarked_57 ?_
          change X φ _ _ _ _ _ (vr (fP h1 21 (cH A)) :: _)
          rw [hl1]
          refine x_aload_n C dX2_takeMarked_60 rfl rfl ?_
          refine h_put1 (f := 8) (h' := setP _ 18 _ _) C hbk (by decide) u5_21 rfl rfl (tyX1_ok 8 (by decide)) (fit_vr _) (cs1_8 hbk) (fun _ => rfl) (fun _ hx => cell_setP_ne hx) dX2_takeMarked_61 ?_
          refine x_aload_n C dX2_takeMarked_64 rfl rfl ?_
          refine x_aload_n C dX2_takeMarked_65 rfl rfl ?_
          refine h_put2 (f := 1) (h' := setP _ 21 _ _) C hch1 (by decide) u5_19 rfl rfl (tyX2_ok 1 (by decide)) (fit_vr _) (cs2_1 hch1) (fun _ => rfl) (fun _ hx => cell_setP_ne hx) dX2_takeMarked_66 ?_
          refine x_goto (tgt := 88) C dX2_takeMarked_69 (by decide) ?_
          refine x_aload C dX2_takeMarked_88 rfl ?_
          refine x_astore_n C dX2_takeMarked_90 rfl (by rw [hn]; exact Nat.le_of_ble_eq_true rfl) ?_
          refine x_goto (tgt := 19) C dX2_takeMarked_91 (by decide) ?_
          exact X.to (ih (ps ++ [x]) (setP (setP (setP h1 18 (ev A x) none) 18 (ev A b) (some (ev A x))) 21 (cH A) (some (ev A x))) _ (ft) (lt) (by rw [hll]; simp) (hO1.tr hOn) (by rw [hkf]; rw [fP_set_ne (by decide), fP_set_ne (by decide), fP_set_ne (by decide)]; exact LG_app1 hL1 (fun e he => by rw [fP_set_ne (by decide), fP_set_at (hLb e he), fP_set_at (hxo e (List.mem_append_left _ (hKm e (by simp [he])).1))]) (by rw [fP_set_ne (by decide), fP_set_eq]) (by rw [fP_set_ne (by decide), fP_set_at (fun q => hbx q.symm), fP_set_eq])) (by rw [hkf, fP_set_eq, lastP_app]) (by rw [htf]; exact LG_cong (fun e he => by rw [fP_set_ne (by decide), fP_set_at (fun q => (hTm e he).2 (by rw [hpd e b (hTm e he).1 (hKm b (by simp)).1 q]; exact (hKm b (by simp)).2)), fP_set_at (hxo e (List.mem_append_left _ (hTm e he).1))]) hLT) (by rw [htf]; exact hlt) hrest) (lsc rfl (lsc rfl (lsc rfl (lsc rfl lsn))))
      · have hmk : ¬ fI h1 17 (ev A x) = 0 := fun q => hmk0 (e17.symm.trans q)
        rcases List.eq_nil_or_concat Tk with hK0 | ⟨L, b, hK0⟩
        · subst hK0
          have hlt : lt = none := hlt
          subst hlt
          have hkf : (ps ++ [x]).filter (fun e => decide (fI h 17 (ev A e) = 0)) = Kp := by rw [List.filter_append, ← hKp, List.filter_cons_of_neg (by simp [hmk0])]; simp
          have htf : (ps ++ [x]).filter (fun e => !decide (fI h 17 (ev A e) = 0)) = ([] : List Int) ++ [x] := by rw [List.filter_append, ← hTk, List.filter_cons_of_pos (by simp [hmk0])]; rfl
          have hOn : OnlyN h1 (setP h1 18 (ev A x) none) := OnlyN.set (Or.inl rfl)
          have hrest : LG (setP h1 18 (ev A x) none) A (fP h1 18 (ev A x)) t none := LG_cong (fun e he => by rw [fP_set_at (hxo e (List.mem_append_right _ he))]) hx2
          refine x_aload_n C dX2_takeMarked_19 rfl rfl ?_
          refine x_ifnull (tgt := 94) C dX2_takeMarked_20 (by decide) (fun h20 => by cases h20) (fun a20 h20 => ?_)
          refine x_aload_n C dX2_takeMarked_23 rfl rfl ?_
          refine h_get1 (f := 8) C hxk (by decide) u5_21 rfl rfl dX2_takeMarked_24 ?_
          refine x_astore C dX2_takeMarked_27 (by rw [hn]; exact Nat.le_of_ble_eq_true rfl) ?_
          refine x_aload_n C dX2_takeMarked_29 rfl rfl ?_
          refine x_null C dX2_takeMarked_30 ?_
          refine h_put1 (f := 8) (h' := setP _ 18 _ _) C hxk (by decide) u5_21 rfl rfl (tyX1_ok 8 (by decide)) (fit_vr _) (cs1_8 hxk) (fun _ => rfl) (fun _ hx => cell_setP_ne hx) dX2_takeMarked_31 ?_
          refine x_aload_n C dX2_takeMarked_34 rfl rfl ?_
          refine h_get1 (f := 7) C hxk (by decide) u8_8 rfl rfl dX2_takeMarked_35 ?_
          change X φ _ _ _ _ _ (vi (fI h1 17 (ev A x)) :: _)
          refine x_if_ne (tgt := 72) C dX2_takeMarked_38 (by decide) (by omega) (fun h38 => ?_) (fun h38 => absurd h38 hmk)
          refine x_aload_n C dX2_takeMarked_72 rfl rfl ?_
          refine x_ifnonnull (tgt := 81) C dX2_takeMarked_73 (by decide) (fun a73 h73 => by cases h73) (fun h73 => ?_)
          refine x_aload_n C dX2_takeMarked_76 rfl rfl ?_
          refine x_astore_n C dX2_takeMarked_77 rfl (by rw [hn]; exact Nat.le_of_ble_eq_true rfl) ?_
          refine x_goto (tgt := 86) C dX2_takeMarked_78 (by decide) ?_
          refine x_aload_n C dX2_takeMarked_86 rfl rfl ?_
          refine x_astore_n C dX2_takeMarked_87 rfl (by rw [hn]; exact Nat.le_of_ble_eq_true rfl) ?_
          refine x_aload C dX2_takeMarked_88 rfl ?_
          refine x_astore_n C dX2_takeMarked_90 rfl (by rw [hn]; exact Nat.le_of_ble_eq_true rfl) ?_
          refine x_goto (tgt := 19) C dX2_takeMarked_91 (by decide) ?_
          exact X.to (ih (ps ++ [x]) (setP h1 18 (ev A x) none) _ (some (ev A x)) (some (ev A x)) (by rw [hll]; simp) (hO1.tr hOn) (by rw [hkf]; rw [fP_set_ne (by decide)]; exact LG_cong (fun e he => by rw [fP_set_at (hxo e (List.mem_append_left _ (hKm e he).1))]) hL1) (by rw [hkf, fP_set_ne (by decide)]; exact hl1) (by rw [htf]; exact ⟨rfl, by rw [fP_set_eq]; rfl⟩) (by rw [htf]; rfl) hrest) (lsc rfl (lsc rfl (lsc rfl (lsc rfl lsn))))
        · rw [List.concat_eq_append] at hK0
          subst hK0
          rw [lastP_app] at hlt
          subst hlt
          have hbl := hle b (hTm b (by simp)).1
          have hbk : kD h1 (ev A b) = 2 := (hO1.k _).trans (s.ve b hbl.1 hbl.2).1
          have hbx : ev A b ≠ ev A x := hxo b (List.mem_append_left _ (hTm b (by simp)).1)
          have hLb : ∀ e ∈ L, ev A e ≠ ev A b := fun e he q => by
            have q2 := hpd e b (hTm e (by simp [he])).1 (hTm b (by simp)).1 q
            subst q2
            exact ahd_irr M e ((List.pairwise_append.mp hTk9).2.2 e he e (by simp))
          have hkf : (ps ++ [x]).filter (fun e => decide (fI h 17 (ev A e) = 0)) = Kp := by rw [List.filter_append, ← hKp, List.filter_cons_of_neg (by simp [hmk0])]; simp
          have htf : (ps ++ [x]).filter (fun e => !decide (fI h 17 (ev A e) = 0)) = (L ++ [b]) ++ [x] := by rw [List.filter_append, ← hTk, List.filter_cons_of_pos (by simp [hmk0])]; rfl
          have hOn : OnlyN h1 (setP (setP h1 18 (ev A x) none) 18 (ev A b) (some (ev A x))) := (OnlyN.set (Or.inl rfl)).tr (OnlyN.set (Or.inl rfl))
          have hrest : LG (setP (setP h1 18 (ev A x) none) 18 (ev A b) (some (ev A x))) A (fP h1 18 (ev A x)) t none := LG_cong (fun e he => by rw [fP_set_at (fun q => ahd_irr M e (by have hel := hl e (by rw [hll]; simp [he]); have hbl := hle b (hTm b (by simp)).1; have q2 := (ev_inj s hel.1 hel.2 hbl.1 hbl.2).mp q; subst q2; rw [hll] at hp; exact (List.pairwise_append.mp hp).2.2 e (hTm e (by simp)).1 e (List.mem_cons_of_mem _ he))), fP_set_at (hxo e (List.mem_append_right _ he))]) hx2
          refine x_aload_n C dX2_takeMarked_19 rfl rfl ?_
          refine x_ifnull (tgt := 94) C dX2_takeMarked_20 (by decide) (fun h20 => by cases h20) (fun a20 h20 => ?_)
          refine x_aload_n C dX2_takeMarked_23 rfl rfl ?_
          refine h_get1 (f := 8) C hxk (by decide) u5_21 rfl rfl dX2_takeMarked_24 ?_
          refine x_astore C dX2_takeMarked_27 (by rw [hn]; exact Nat.le_of_ble_eq_true rfl) ?_
          refine x_aload_n C dX2_takeMarked_29 rfl rfl ?_
          refine x_null C dX2_takeMarked_30 ?_
          refine h_put1 (f := 8) (h' := setP _ 18 _ _) C hxk (by decide) u5_21 rfl rfl (tyX1_ok 8 (by decide)) (fit_vr _) (cs1_8 hxk) (fun _ => rfl) (fun _ hx => cell_setP_ne hx) dX2_takeMarked_31 ?_
          refine x_aload_n C dX2_takeMarked_34 rfl rfl ?_
          refine h_get1 (f := 7) C hxk (by decide) u8_8 rfl rfl dX2_takeMarked_35 ?_
          change X φ _ _ _ _ _ (vi (fI h1 17 (ev A x)) :: _)
          refine x_if_ne (tgt := 72) C dX2_takeMarked_38 (by decide) (by omega) (fun h38 => ?_) (fun h38 => absurd h38 hmk)
          refine x_aload_n C dX2_takeMarked_72 rfl rfl ?_
          refine x_ifnonnull (tgt := 81) C dX2_takeMarked_73 (by decide) (fun a73 h73 => ?_) (fun h73 => by cases h73)
          refine x_aload_n C dX2_takeMarked_81 rfl rfl ?_
          refine x_aload_n C dX2_takeMarked_82 rfl rfl ?_
          refine h_put1 (f := 8) (h' := setP _ 18 _ _) C hbk (by decide) u5_21 rfl rfl (tyX1_ok 8 (by decide)) (fit_vr _) (cs1_8 hbk) (fun _ => rfl) (fun _ hx => cell_setP_ne hx) dX2_takeMarked_83 ?_
          refine x_aload_n C dX2_takeMarked_86 rfl rfl ?_
          refine x_astore_n C dX2_takeMarked_87 rfl (by rw [hn]; exact Nat.le_of_ble_eq_true rfl) ?_
          refine x_aload C dX2_takeMarked_88 rfl ?_
          refine x_astore_n C dX2_takeMarked_90 rfl (by rw [hn]; exact Nat.le_of_ble_eq_true rfl) ?_
          refine x_goto (tgt := 19) C dX2_takeMarked_91 (by decide) ?_
          exact X.to (ih (ps ++ [x]) (setP (setP h1 18 (ev A x) none) 18 (ev A b) (some (ev A x))) _ (ft) (some (ev A x)) (by rw [hll]; simp) (hO1.tr hOn) (by rw [hkf]; rw [fP_set_ne (by decide), fP_set_ne (by decide)]; exact LG_cong (fun e he => by rw [fP_set_at (fun q => (hTm b (by simp)).2 (by rw [← hpd e b (hKm e he).1 (hTm b (by simp)).1 q]; exact (hKm e he).2)), fP_set_at (hxo e (List.mem_append_left _ (hKm e he).1))]) hL1) (by rw [hkf, fP_set_ne (by decide), fP_set_ne (by decide)]; exact hl1) (by rw [htf]; exact LG_app1 hLT (fun e he => by rw [fP_set_at (hLb e he), fP_set_at (hxo e (List.mem_append_left _ (hTm e (by simp [he])).1))]) (by rw [fP_set_eq]) (by rw [fP_set_at (fun q => hbx q.symm), fP_set_eq])) (by rw [htf, lastP_app]) hrest) (lsc rfl (lsc rfl (lsc rfl (lsc rfl lsn))))
  refine x_aload_n C dX2_takeMarked_0 rfl rfl ?_
  refine h_get2 (f := 0) C hch (by decide) u5_20 rfl rfl dX2_takeMarked_1 ?_
  refine x_astore_n C dX2_takeMarked_4 rfl (by rw [hn]; exact Nat.le_of_ble_eq_true rfl) ?_
  refine x_null C dX2_takeMarked_5 ?_
  refine x_astore_n C dX2_takeMarked_6 rfl (by rw [hn]; exact Nat.le_of_ble_eq_true rfl) ?_
  refine x_null C dX2_takeMarked_7 ?_
  refine x_astore_n C dX2_takeMarked_8 rfl (by rw [hn]; exact Nat.le_of_ble_eq_true rfl) ?_
  refine x_aload_n C dX2_takeMarked_9 rfl rfl ?_
  refine x_null C dX2_takeMarked_10 ?_
  refine h_put2 (f := 0) (h' := setP _ 20 _ _) C hch (by decide) u5_20 rfl rfl (tyX2_ok 0 (by decide)) (fit_vr _) (cs2_0 hch) (fun _ => rfl) (fun _ hx => cell_setP_ne hx) dX2_takeMarked_11 ?_
  refine x_aload_n C dX2_takeMarked_14 rfl rfl ?_
  refine x_null C dX2_takeMarked_15 ?_
  refine h_put2 (f := 1) (h' := setP _ 21 _ _) C hch (by decide) u5_19 rfl rfl (tyX2_ok 1 (by decide)) (fit_vr _) (cs2_1 hch) (fun _ => rfl) (fun _ hx => cell_setP_ne hx) dX2_takeMarked_16 ?_
  exact X.to (loop lz [] (setP (setP h 20 (cH A) none) 21 (cH A) none) _ none none rfl ((OnlyN.set (Or.inr (Or.inl rfl))).tr (OnlyN.set (Or.inr (Or.inr rfl)))) (by rw [fP_set_ne (by decide), fP_set_eq]; rfl) (by rw [fP_set_eq]; rfl) rfl rfl (LG_cong (fun e he => by rw [fP_set_ne (by decide), fP_set_ne (by decide)]) hC.1)) (lsc rfl (lsc rfl (lsc rfl (lsc rfl lsn))))

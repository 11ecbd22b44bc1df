/-! The chain: put, putEach, takeMarked -/
set_option maxRecDepth 100000 in
set_option maxHeartbeats 400000 in
theorem k_X2_put {l : Launch} {D : va_G} {cy : CY} (hst : l.stackTraces = false) {h : HS} {A : AD} {M : MS} {lz : List Int} {n : Int} (s : SP h A M) (hch : kD h (cH A) = 3) (hC : ChL h A lz) (hl : ∀ e ∈ lz, 0 ≤ e ∧ e < M 2 0) (hp : lz.Pairwise (ahd M)) (hn2 : 0 ≤ n ∧ n < M 2 0) (hnl : n ∉ lz) : Ct l D cy yX2_put (Cond.code yX2_put cX2_put 4 none) 3 64 0 0 (RepH cy) [vr (some (cH A)), vr (some (ev A n))] h (fun r h' => r = .ok none ∧ OnlyN h h' ∧ ChL h' A (insO M n lz) ∧ (∀ e, 0 ≤ e → e < M 2 0 → e ∉ lz → e ≠ n → fP h' 18 (ev A e) = fP h 18 (ev A e))) := by
  refine Ct.of1 (own := RX2) hst (by decide) rfl (Nat.le_of_ble_eq_true rfl) (cat1 (vr_cat _) (cat1 (vr_cat _) (cat0))) ?_
  intro φ C hQ hn hR hl hD
  subst hl hD
  obtain ⟨hnk, -⟩ := s.ve n hn2.1 hn2.2
  have k62 : ∀ (l1 l2 : List Int) (o1 o2 : Option Nat), lz = l1 ++ l2 → o1 = lastP A l1 → LG h A o2 l2 none → (∀ x ∈ l1, ahd M x n) → (∀ x, l2.head? = some x → ¬ ahd M x n) → X φ (RepH cy h) 0 0 62 [(0, vr (some (cH A))), (1, vr (some (ev A n))), (2, vr o1), (3, vr o2)] [] := by
    intro l1 l2 o1 o2 hll ho1 hL2 hb1 hb2
    subst hll
    obtain ⟨hCf, hCl⟩ := hC
    obtain ⟨m, hL1, hL3⟩ := LG_app.mp hCf
    have hin : ∀ e ∈ l1 ++ l2, ev A e ≠ ev A n := fun e he q => hnl ((ev_inj s (hl e he).1 (hl e he).2 hn2.1 hn2.2).mp q ▸ he)
    have hmo : m = o2 := by
      cases l2 with
      | nil => exact (show m = none from hL3).trans (show o2 = none from hL2).symm
      | cons x t => exact hL3.1.trans hL2.1.symm
    subst hmo
    rcases List.eq_nil_or_concat l1 with rfl | ⟨L1, b, rfl⟩
    · have ho1 : o1 = none := ho1
      subst ho1
      have hm : fP h 20 (cH A) = m := hL1
      cases l2 with
      | nil =>
        have hm2 : m = none := hL2
        subst hm2
        refine x_aload_n C dX2_put_62 rfl rfl ?_
        refine x_aload_n C dX2_put_63 rfl rfl ?_
        refine h_put1 (f := 8) (h' := setP _ 18 _ _) C hnk (by decide) u5_21 rfl rfl (tyX1_ok 8 (by decide)) (fit_vr _) (cs1_8 hnk) (fun _ => rfl) (fun _ hx => cell_setP_ne hx) dX2_put_64 ?_
        refine x_aload_n C dX2_put_67 rfl rfl ?_
        refine x_ifnonnull (tgt := 79) C dX2_put_68 (by decide) (fun a68 h68 => by cases h68) (fun h68 => ?_)
        refine x_aload_n C dX2_put_71 rfl rfl ?_
        refine x_aload_n C dX2_put_72 rfl rfl ?_
        refine h_put2 (f := 0) (h' := setP _ 20 _ _) C hch (by decide) u5_20 rfl rfl (tyX2_ok 0 (by decide)) (fit_vr _) (cs2_0 hch) (fun _ => rfl) (fun _ hx => cell_setP_ne hx) dX2_put_73 ?_
        refine x_goto (tgt := 84) C dX2_put_76 (by decide) ?_
        refine x_aload_n C dX2_put_84 rfl rfl ?_
        refine x_ifnonnull (tgt := 93) C dX2_put_85 (by decide) (fun a85 h85 => by cases h85) (fun h85 => ?_)
        refine x_aload_n C dX2_put_88 rfl rfl ?_
        refine x_aload_n C dX2_put_89 rfl rfl ?_
        refine h_put2 (f := 1) (h' := setP _ 21 _ _) C hch (by decide) u5_19 rfl rfl (tyX2_ok 1 (by decide)) (fit_vr _) (cs2_1 hch) (fun _ => rfl) (fun _ hx => cell_setP_ne hx) dX2_put_90 ?_
        refine x_vret C hQ dX2_put_93 rfl (by decide) (by decide) ?_
        refine ⟨rfl, ?_, ⟨?_, ?_⟩, ?_⟩
        · exact ((OnlyN.set (Or.inl rfl)).tr (OnlyN.set (Or.inr (Or.inl rfl)))).tr (OnlyN.set (Or.inr (Or.inr rfl)))
        · rw [insO_eq hb1 hb2]
          rw [fP_set_ne (by decide), fP_set_eq]
          refine ⟨rfl, ?_⟩
          rw [fP_set_ne (by decide), fP_set_ne (by decide), fP_set_eq]
          rfl
        · rw [insO_eq hb1 hb2]
          rw [fP_set_eq]
          rfl
        · intro e g0 g1 g2 g3
          have g4 : ev A e ≠ ev A n := fun q => g3 ((ev_inj s g0 g1 hn2.1 hn2.2).mp q)
          rw [fP_set_ne (by decide), fP_set_ne (by decide), fP_set_at g4]
      | cons x t =>
        obtain ⟨rfl, hx2⟩ := hL2
        refine x_aload_n C dX2_put_62 rfl rfl ?_
        refine x_aload_n C dX2_put_63 rfl rfl ?_
        refine h_put1 (f := 8) (h' := setP _ 18 _ _) C hnk (by decide) u5_21 rfl rfl (tyX1_ok 8 (by decide)) (fit_vr _) (cs1_8 hnk) (fun _ => rfl) (fun _ hx => cell_setP_ne hx) dX2_put_64 ?_
        refine x_aload_n C dX2_put_67 rfl rfl ?_
        refine x_ifnonnull (tgt := 79) C dX2_put_68 (by decide) (fun a68 h68 => by cases h68) (fun h68 => ?_)
        refine x_aload_n C dX2_put_71 rfl rfl ?_
        refine x_aload_n C dX2_put_72 rfl rfl ?_
        refine h_put2 (f := 0) (h' := setP _ 20 _ _) C hch (by decide) u5_20 rfl rfl (tyX2_ok 0 (by decide)) (fit_vr _) (cs2_0 hch) (fun _ => rfl) (fun _ hx => cell_setP_ne hx) dX2_put_73 ?_
        refine x_goto (tgt := 84) C dX2_put_76 (by decide) ?_
        refine x_aload_n C dX2_put_84 rfl rfl ?_
        refine x_ifnonnull (tgt := 93) C dX2_put_85 (by decide) (fun a85 h85 => ?_) (fun h85 => by cases h85)
        refine x_vret C hQ dX2_put_93 rfl (by decide) (by decide) ?_
        refine ⟨rfl, ?_, ⟨?_, ?_⟩, ?_⟩
        · exact (OnlyN.set (Or.inl rfl)).tr (OnlyN.set (Or.inr (Or.inl rfl)))
        · rw [insO_eq hb1 hb2]
          rw [fP_set_eq]
          refine ⟨rfl, ?_⟩
          rw [fP_set_ne (by decide), fP_set_eq]
          exact LG_cong (fun e he => by rw [fP_set_ne (by decide), fP_set_at (hin e he)]) ⟨rfl, hx2⟩
        · rw [insO_eq hb1 hb2]
          rw [fP_set_ne (by decide), fP_set_ne (by decide), hCl]
          exact (lastP_cons A [] n x t).symm
        · intro e g0 g1 g2 g3
          have g4 : ev A e ≠ ev A n := fun q => g3 ((ev_inj s g0 g1 hn2.1 hn2.2).mp q)
          rw [fP_set_ne (by decide), fP_set_at g4]
    · rw [List.concat_eq_append] at *
      rw [lastP_app] at ho1
      subst ho1
      have hbk : kD h (ev A b) = 2 := (s.ve b (hl b (by simp)).1 (hl b (by simp)).2).1
      have hbn : ev A b ≠ ev A n := hin b (by simp)
      have hLb : ∀ e ∈ L1, ev A e ≠ ev A b := fun e he q => by
        have q2 := (ev_inj s (hl e (by simp [he])).1 (hl e (by simp [he])).2 (hl b (by simp)).1 (hl b (by simp)).2).mp q
        subst q2
        have := (List.pairwise_append.mp (List.pairwise_append.mp hp).1).2.2 e he e (by simp)
        exact ahd_irr M e this
      have h2b : ∀ e ∈ l2, ev A e ≠ ev A b := fun e he q => by
        have q2 := (ev_inj s (hl e (by simp [he])).1 (hl e (by simp [he])).2 (hl b (by simp)).1 (hl b (by simp)).2).mp q
        subst q2
        exact ahd_irr M e ((List.pairwise_append.mp hp).2.2 e (by simp) e he)
      cases l2 with
      | nil =>
        have hm2 : m = none := hL2
        subst hm2
        refine x_aload_n C dX2_put_62 rfl rfl ?_
        refine x_aload_n C dX2_put_63 rfl rfl ?_
        refine h_put1 (f := 8) (h' := setP _ 18 _ _) C hnk (by decide) u5_21 rfl rfl (tyX1_ok 8 (by decide)) (fit_vr _) (cs1_8 hnk) (fun _ => rfl) (fun _ hx => cell_setP_ne hx) dX2_put_64 ?_
        refine x_aload_n C dX2_put_67 rfl rfl ?_
        refine x_ifnonnull (tgt := 79) C dX2_put_68 (by decide) (fun a68 h68 => ?_) (fun h68 => by cases h68)
        refine x_aload_n C dX2_put_79 rfl rfl ?_
        refine x_aload_n C dX2_put_80 rfl rfl ?_
        refine h_put1 (f := 8) (h' := setP _ 18 _ _) C hbk (by decide) u5_21 rfl rfl (tyX1_ok 8 (by decide)) (fit_vr _) (cs1_8 hbk) (fun _ => rfl) (fun _ hx => cell_setP_ne hx) dX2_put_81 ?_
        refine x_aload_n C dX2_put_84 rfl rfl ?_
        refine x_ifnonnull (tgt := 93) C dX2_put_85 (by decide) (fun a85 h85 => by cases h85) (fun h85 => ?_)
        refine x_aload_n C dX2_put_88 rfl rfl ?_
        refine x_aload_n C dX2_put_89 rfl rfl ?_
        refine h_put2 (f := 1) (h' := setP _ 21 _ _) C hch (by decide) u5_19 rfl rfl (tyX2_ok 1 (by decide)) (fit_vr _) (cs2_1 hch) (fun _ => rfl) (fun _ hx => cell_setP_ne hx) dX2_put_90 ?_
        refine x_vret C hQ dX2_put_93 rfl (by decide) (by decide) ?_
        refine ⟨rfl, ?_, ⟨?_, ?_⟩, ?_⟩
        · exact ((OnlyN.set (Or.inl rfl)).tr (OnlyN.set (Or.inl rfl))).tr (OnlyN.set (Or.inr (Or.inr rfl)))
        · rw [insO_eq hb1 hb2]
          rw [fP_set_ne (by decide), fP_set_ne (by decide), fP_set_ne (by decide)]
          refine LG_app.mpr ⟨some (ev A n), LG_last (fun e he => ?_) ?_ hL1, rfl, ?_⟩
          · rw [fP_set_ne (by decide), fP_set_at (hLb e he), fP_set_at (hin e (by simp [he]))]
          · rw [fP_set_ne (by decide), fP_set_eq]
          · rw [fP_set_ne (by decide), fP_set_at (fun q => hbn q.symm), fP_set_eq]
            rfl
        · rw [insO_eq hb1 hb2]
          rw [fP_set_eq]
          exact (lastP_app A _ n).symm
        · intro e g0 g1 g2 g3
          have g4 : ev A e ≠ ev A n := fun q => g3 ((ev_inj s g0 g1 hn2.1 hn2.2).mp q)
          have g5 : ev A e ≠ ev A b := fun q => g2 (by rw [(ev_inj s g0 g1 (hl b (by simp)).1 (hl b (by simp)).2).mp q]; simp)
          rw [fP_set_ne (by decide), fP_set_at g5, fP_set_at g4]
      | cons x t =>
        obtain ⟨rfl, hx2⟩ := hL2
        refine x_aload_n C dX2_put_62 rfl rfl ?_
        refine x_aload_n C dX2_put_63 rfl rfl ?_
        refine h_put1 (f := 8) (h' := setP _ 18 _ _) C hnk (by decide) u5_21 rfl rfl (tyX1_ok 8 (by decide)) (fit_vr _) (cs1_8 hnk) (fun _ => rfl) (fun _ hx => cell_setP_ne hx) dX2_put_64 ?_
        refine x_aload_n C dX2_put_67 rfl rfl ?_
        refine x_ifnonnull (tgt := 79) C dX2_put_68 (by decide) (fun a68 h68 => ?_) (fun h68 => by cases h68)
        refine x_aload_n C dX2_put_79 rfl rfl ?_
        refine x_aload_n C dX2_put_80 rfl rfl ?_
        refine h_put1 (f := 8) (h' := setP _ 18 _ _) C hbk (by decide) u5_21 rfl rfl (tyX1_ok 8 (by decide)) (fit_vr _) (cs1_8 hbk) (fun _ => rfl) (fun _ hx => cell_setP_ne hx) dX2_put_81 ?_
        refine x_aload_n C dX2_put_84 rfl rfl ?_
        refine x_ifnonnull (tgt := 93) C dX2_put_85 (by decide) (fun a85 h85 => ?_) (fun h85 => by cases h85)
        refine x_vret C hQ dX2_put_93 rfl (by decide) (by decide) ?_
        refine ⟨rfl, ?_, ⟨?_, ?_⟩, ?_⟩
        · exact (OnlyN.set (Or.inl rfl)).tr (OnlyN.set (Or.inl rfl))
        · rw [insO_eq hb1 hb2]
          rw [fP_set_ne (by decide), fP_set_ne (by decide)]
          refine LG_app.mpr ⟨some (ev A n), LG_last (fun e he => ?_) ?_ hL1, rfl, ?_⟩
          · rw [fP_set_at (hLb e he), fP_set_at (hin e (by simp [he]))]
          · rw [fP_set_eq]
          · rw [fP_set_at (fun q => hbn q.symm), fP_set_eq]
            exact LG_cong (fun e he => by rw [fP_set_at (h2b e he), fP_set_at (hin e (by simp only [List.mem_append]; exact Or.inr he))]) ⟨rfl, hx2⟩
        · rw [insO_eq hb1 hb2]
          rw [fP_set_ne (by decide), fP_set_ne (by decide), hCl]
          have e1 : lastP A ((L1 ++ [b]) ++ n :: x :: t) = lastP A (x :: t) := lastP_cons A (L1 ++ [b]) n x t
          have e2 : lastP A ((L1 ++ [b]) ++ x :: t) = lastP A (x :: t) := by (rw [List.append_assoc]; exact lastP_cons A L1 b x t)
          rw [e1, e2]
        · intro e g0 g1 g2 g3
          have g4 : ev A e ≠ ev A n := fun q => g3 ((ev_inj s g0 g1 hn2.1 hn2.2).mp q)
          have g5 : ev A e ≠ ev A b := fun q => g2 (by rw [(ev_inj s g0 g1 (hl b (by simp)).1 (hl b (by simp)).2).mp q]; simp)
          rw [fP_set_at g5, fP_set_at g4]
  have loop : ∀ (l2 l1 : List Int) (o1 o2 : Option Nat), lz = l1 ++ l2 → o1 = lastP A l1 → LG h A o2 l2 none → (∀ x ∈ l1, ahd M x n) → X φ (RepH cy h) 0 0 40 [(0, vr (some (cH A))), (1, vr (some (ev A n))), (2, vr o1), (3, vr o2)] [] := by
    intro l2
    induction l2 with
    | nil =>
      intro l1 o1 o2 hll ho1 hL2 hb1
      have hm2 : o2 = none := hL2
      subst hm2
      refine x_aload_n C dX2_put_40 rfl rfl ?_
      refine x_ifnull (tgt := 62) C dX2_put_41 (by decide) (fun h41 => ?_) (fun a41 h41 => ?_)
      ·
        exact k62 (l1 ++ []) [] o1 none (by rw [hll]; simp) (by rw [ho1]; simp) rfl (by simpa using hb1) (fun x hx => by cases hx)
      ·
        cases h41
    | cons x t ih =>
      intro l1 o1 o2 hll ho1 hL2 hb1
      obtain ⟨rfl, hx2⟩ := hL2
      have hxl := hl x (by rw [hll]; simp)
      have hxk : kD h (ev A x) = 2 := (s.ve x hxl.1 hxl.2).1
      refine x_aload_n C dX2_put_40 rfl rfl ?_
      refine x_ifnull (tgt := 62) C dX2_put_41 (by decide) (fun h41 => ?_) (fun a41 h41 => ?_)
      ·
        first
        | (cases h41; done)
        | exact k62 l1 (x :: t) o1 _ hll ho1 ⟨rfl, hx2⟩ hb1 (fun y hy => by cases hy; exact h49)
      ·
        refine x_aload_n C dX2_put_44 rfl rfl ?_
        refine x_aload_n C dX2_put_45 rfl rfl ?_
        refine x_callV C hR cb_X1_isBefore cv_X1_isBefore u5_22 (k_X1_isBefore hst s (by omega) (by omega)) (h_recv hxk (by decide)) ⟨_, _, rfl⟩ rfl (Nat.le_of_ble_eq_true rfl) rfl dX2_put_46 (by decide) (by decide) (fun E x9 h9 => absurd h9.1 (by intro h; cases h)) (fun r9 x9 h9 => ?_)
        obtain ⟨e9, q9⟩ := h9
        cases e9
        subst x9
        refine x_if_eq (tgt := 62) C dX2_put_49 (by decide) (by first | omega | exact bi_rng _) (fun h49 => ?_) (fun h49 => ?_)
        ·
          replace h49 := bi_eq0.mp h49
          first
          | (cases h41; done)
          | exact k62 l1 (x :: t) o1 _ hll ho1 ⟨rfl, hx2⟩ hb1 (fun y hy => by cases hy; exact h49)
        ·
          replace h49 := bi_ne0.mp h49
          refine x_aload_n C dX2_put_52 rfl rfl ?_
          refine x_astore_n C dX2_put_53 rfl (by rw [hn]; exact Nat.le_of_ble_eq_true rfl) ?_
          refine x_aload_n C dX2_put_54 rfl rfl ?_
          refine h_get1 (f := 8) C hxk (by decide) u5_21 rfl rfl dX2_put_55 ?_
          refine x_astore_n C dX2_put_58 rfl (by rw [hn]; exact Nat.le_of_ble_eq_true rfl) ?_
          refine x_goto (tgt := 40) C dX2_put_59 (by decide) ?_
          exact X.to (ih (l1 ++ [x]) _ _ (by rw [hll]; simp) (lastP_app A l1 x).symm hx2 (fun y hy => by rcases List.mem_append.mp hy with q | q; exact hb1 y q; (rw [List.mem_singleton.mp q]; exact h49))) (lsc rfl (lsc rfl (lsc rfl (lsc rfl lsn))))
  obtain ⟨hCf, hCl⟩ := id hC
  rcases List.eq_nil_or_concat lz with hle | ⟨L1, b, hle⟩
  · rw [hle] at hCl
    have hCl : fP h 21 (cH A) = none := hCl
    refine x_aload_n C dX2_put_0 rfl rfl ?_
    refine h_get2 (f := 1) C hch (by decide) u5_19 rfl rfl dX2_put_1 ?_
    try simp only [hCl]
    refine x_ifnull (tgt := 25) C dX2_put_4 (by decide) (fun h4 => ?_) (fun a4 h4 => ?_)
    ·
      refine x_null C dX2_put_25 ?_
      refine x_astore_n C dX2_put_26 rfl (by rw [hn]; exact Nat.le_of_ble_eq_true rfl) ?_
      refine x_aload_n C dX2_put_27 rfl rfl ?_
      refine x_ifnonnull (tgt := 38) C dX2_put_28 (by decide) (fun a28 h28 => ?_) (fun h28 => ?_)
      ·
        refine x_null C dX2_put_38 ?_
        refine x_astore_n C dX2_put_39 rfl (by rw [hn]; exact Nat.le_of_ble_eq_true rfl) ?_
        first
        | (cases h28; done)
        | exact X.to (loop lz [] none _ rfl rfl hCf (fun x hx => by cases hx)) (lsc rfl (lsc rfl (lsc rfl (lsc rfl lsn))))
      ·
        refine x_aload_n C dX2_put_31 rfl rfl ?_
        refine h_get2 (f := 0) C hch (by decide) u5_20 rfl rfl dX2_put_32 ?_
        try simp only [hCl]
        refine x_goto (tgt := 39) C dX2_put_35 (by decide) ?_
        refine x_astore_n C dX2_put_39 rfl (by rw [hn]; exact Nat.le_of_ble_eq_true rfl) ?_
        first
        | (cases h28; done)
        | exact X.to (loop lz [] none _ rfl rfl hCf (fun x hx => by cases hx)) (lsc rfl (lsc rfl (lsc rfl (lsc rfl lsn))))
    ·
      cases h4
  · rw [List.concat_eq_append] at hle
    rw [hle, lastP_app] at hCl
    have hbl := hl b (by rw [hle]; simp)
    have hbk : kD h (ev A b) = 2 := (s.ve b hbl.1 hbl.2).1
    refine x_aload_n C dX2_put_0 rfl rfl ?_
    refine h_get2 (f := 1) C hch (by decide) u5_19 rfl rfl dX2_put_1 ?_
    try simp only [hCl]
    refine x_ifnull (tgt := 25) C dX2_put_4 (by decide) (fun h4 => ?_) (fun a4 h4 => ?_)
    ·
      refine x_null C dX2_put_25 ?_
      refine x_astore_n C dX2_put_26 rfl (by rw [hn]; exact Nat.le_of_ble_eq_true rfl) ?_
      refine x_aload_n C dX2_put_27 rfl rfl ?_
      refine x_ifnonnull (tgt := 38) C dX2_put_28 (by decide) (fun a28 h28 => ?_) (fun h28 => ?_)
      ·
        refine x_null C dX2_put_38 ?_
        refine x_astore_n C dX2_put_39 rfl (by rw [hn]; exact Nat.le_of_ble_eq_true rfl) ?_
        first
        | (cases h4; done)
        | (cases h28; done)
        | exact X.to (loop [] lz _ none (by simp) (by rw [hle, lastP_app]) rfl (fun x hx => by
            rw [hle] at hx hp
            rcases List.mem_append.mp hx with q | q
            · exact ahd_tr M ((List.pairwise_append.mp hp).2.2 x q b (by simp)) h15
            · rw [List.mem_singleton.mp q]; exact h15)) (lsc rfl (lsc rfl (lsc rfl (lsc rfl lsn))))
        | exact X.to (loop lz [] none _ rfl rfl hCf (fun x hx => by cases hx)) (lsc rfl (lsc rfl (lsc rfl (lsc rfl lsn))))
      ·
        refine x_aload_n C dX2_put_31 rfl rfl ?_
        refine h_get2 (f := 0) C hch (by decide) u5_20 rfl rfl dX2_put_32 ?_
        try simp only [hCl]
        refine x_goto (tgt := 39) C dX2_put_35 (by decide) ?_
        refine x_astore_n C dX2_put_39 rfl (by rw [hn]; exact Nat.le_of_ble_eq_true rfl) ?_
        first
        | (cases h4; done)
        | (cases h28; done)
        | exact X.to (loop [] lz _ none (by simp) (by rw [hle, lastP_app]) rfl (fun x hx => by
            rw [hle] at hx hp
            rcases List.mem_append.mp hx with q | q
            · exact ahd_tr M ((List.pairwise_append.mp hp).2.2 x q b (by simp)) h15
            · rw [List.mem_singleton.mp q]; exact h15)) (lsc rfl (lsc rfl (lsc rfl (lsc rfl lsn))))
        | exact X.to (loop lz [] none _ rfl rfl hCf (fun x hx => by cases hx)) (lsc rfl (lsc rfl (lsc rfl (lsc rfl lsn))))
    ·
      refine x_aload_n C dX2_put_7 rfl rfl ?_
      refine h_get2 (f := 1) C hch (by decide) u5_19 rfl rfl dX2_put_8 ?_
      try simp only [hCl]
      refine x_aload_n C dX2_put_11 rfl rfl ?_
      refine x_callV C hR cb_X1_isBefore cv_X1_isBefore u5_22 (k_X1_isBefore hst s (by omega) (by omega)) (h_recv hbk (by decide)) ⟨_, _, rfl⟩ rfl (Nat.le_of_ble_eq_true rfl) rfl dX2_put_12 (by decide) (by decide) (fun E x9 h9 => absurd h9.1 (by intro h; cases h)) (fun r9 x9 h9 => ?_)
      obtain ⟨e9, q9⟩ := h9
      cases e9
      subst x9
      refine x_if_eq (tgt := 25) C dX2_put_15 (by decide) (by first | omega | exact bi_rng _) (fun h15 => ?_) (fun h15 => ?_)
      ·
        replace h15 := bi_eq0.mp h15
        refine x_null C dX2_put_25 ?_
        refine x_astore_n C dX2_put_26 rfl (by rw [hn]; exact Nat.le_of_ble_eq_true rfl) ?_
        refine x_aload_n C dX2_put_27 rfl rfl ?_
        refine x_ifnonnull (tgt := 38) C dX2_put_28 (by decide) (fun a28 h28 => ?_) (fun h28 => ?_)
        ·
          refine x_null C dX2_put_38 ?_
          refine x_astore_n C dX2_put_39 rfl (by rw [hn]; exact Nat.le_of_ble_eq_true rfl) ?_
          first
          | (cases h4; done)
          | (cases h28; done)
          | exact X.to (loop [] lz _ none (by simp) (by rw [hle, lastP_app]) rfl (fun x hx => by
              rw [hle] at hx hp
              rcases List.mem_append.mp hx with q | q
              · exact ahd_tr M ((List.pairwise_append.mp hp).2.2 x q b (by simp)) h15
              · rw [List.mem_singleton.mp q]; exact h15)) (lsc rfl (lsc rfl (lsc rfl (lsc rfl lsn))))
          | exact X.to (loop lz [] none _ rfl rfl hCf (fun x hx => by cases hx)) (lsc rfl (lsc rfl (lsc rfl (lsc rfl lsn))))
        ·
          refine x_aload_n C dX2_put_31 rfl rfl ?_
          refine h_get2 (f := 0) C hch (by decide) u5_20 rfl rfl dX2_put_32 ?_
          try simp only [hCl]
          refine x_goto (tgt := 39) C dX2_put_35 (by decide) ?_
          refine x_astore_n C dX2_put_39 rfl (by rw [hn]; exact Nat.le_of_ble_eq_true rfl) ?_
          first
          | (cases h4; done)
          | (cases h28; done)
          | exact X.to (loop [] lz _ none (by simp) (by rw [hle, lastP_app]) rfl (fun x hx => by
              rw [hle] at hx hp
              rcases List.mem_append.mp hx with q | q
              · exact ahd_tr M ((List.pairwise_append.mp hp).2.2 x q b (by simp)) h15
              · rw [List.mem_singleton.mp q]; exact h15)) (lsc rfl (lsc rfl (lsc rfl (lsc rfl lsn))))
          | exact X.to (loop lz [] none _ rfl rfl hCf (fun x hx => by cases hx)) (lsc rfl (lsc rfl (lsc rfl (lsc rfl lsn))))
      ·
        replace h15 := bi_ne0.mp h15
        refine x_aload_n C dX2_put_18 rfl rfl ?_
        refine h_get2 (f := 1) C hch (by decide) u5_19 rfl rfl dX2_put_19 ?_
        try simp only [hCl]
        refine x_goto (tgt := 26) C dX2_put_22 (by decide) ?_
        refine x_astore_n C dX2_put_26 rfl (by rw [hn]; exact Nat.le_of_ble_eq_true rfl) ?_
        refine x_aload_n C dX2_put_27 rfl rfl ?_
        refine x_ifnonnull (tgt := 38) C dX2_put_28 (by decide) (fun a28 h28 => ?_) (fun h28 => ?_)
        ·
          refine x_null C dX2_put_38 ?_
          refine x_astore_n C dX2_put_39 rfl (by rw [hn]; exact Nat.le_of_ble_eq_true rfl) ?_
          first
          | (cases h4; done)
          | (cases h28; done)
          | exact X.to (loop [] lz _ none (by simp) (by rw [hle, lastP_app]) rfl (fun x hx => by
              rw [hle] at hx hp
              rcases List.mem_append.mp hx with q | q
              · exact ahd_tr M ((List.pairwise_append.mp hp).2.2 x q b (by simp)) h15
              · rw [List.mem_singleton.mp q]; exact h15)) (lsc rfl (lsc rfl (lsc rfl (lsc rfl lsn))))
          | exact X.to (loop lz [] none _ rfl rfl hCf (fun x hx => by cases hx)) (lsc rfl (lsc rfl (lsc rfl (lsc rfl lsn))))
        ·
          refine x_aload_n C dX2_put_31 rfl rfl ?_
          refine h_get2 (f := 0) C hch (by decide) u5_20 rfl rfl dX2_put_32 ?_
          try simp only [hCl]
          refine x_goto (tgt := 39) C dX2_put_35 (by decide) ?_
          refine x_astore_n C dX2_put_39 rfl (by rw [hn]; exact Nat.le_of_ble_eq_true rfl) ?_
          first
          | (cases h4; done)
          | (cases h28; done)
          | exact X.to (loop [] lz _ none (by simp) (by rw [hle, lastP_app]) rfl (fun x hx => by
              rw [hle] at hx hp
              rcases List.mem_append.mp hx with q | q
              · exact ahd_tr M ((List.pairwise_append.mp hp).2.2 x q b (by simp)) h15
              · rw [List.mem_singleton.mp q]; exact h15)) (lsc rfl (lsc rfl (lsc rfl (lsc rfl lsn))))
          | exact X.to (loop lz [] none _ rfl rfl hCf (fun x hx => by cases hx)) (lsc rfl (lsc rfl (lsc rfl (lsc rfl lsn))))
  

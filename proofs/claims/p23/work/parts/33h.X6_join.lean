set_option maxRecDepth 100000 in
set_option maxHeartbeats 400000 in
theorem k_X6_join {l : Launch} {D : va_G} {cy : CY} (hst : l.stackTraces = false) {h : HS} {A : AD} {M : MS} {i j : Int} {f : Int → Int} (s : SP h A M) (v : VO h A) (hf : LW h A f) (hi2 : 0 ≤ i ∧ i < 20) (hj2 : 0 ≤ j ∧ j < 20) : Ct l D cy yX6_join (Cond.code yX6_join cX6_join 9 none) 1 21 0 0 (RepH cy) [vr (some (cO A)), vr (some (nd A i)), vr (some (nd A j))] h (fun r h' => r = .ok none ∧ OnlyL h h' ∧ LW h' A (if i < j then jnF i j f else jnF j i f)) := by
  refine Ct.of1 (own := RX6) hst (by decide) rfl (Nat.le_of_ble_eq_true rfl) (cat1 (vr_cat _) (cat1 (vr_cat _) (cat1 (vr_cat _) (cat0)))) ?_
  intro φ C hQ hn hR hl hD
  subst hl hD
  obtain ⟨v0, v60, v61, v62, v63, v64, vn, vnl, vnr, vm, vml, vh, vt, vw, vwl⟩ := id v
  obtain ⟨ni0, ni, -⟩ := s.no i hi2.1 hi2.2
  obtain ⟨nj0, nj, -⟩ := s.no j hj2.1 hj2.2
  have k35 : ∀ (lo hi : Int), (0 ≤ lo ∧ lo < 20) → (0 ≤ hi ∧ hi < 20) → (if i < j then jnF i j f else jnF j i f) = jnF lo hi f → X φ (RepH cy h) 0 0 35 [(0, vr (some (cO A))), (3, vr (some (nd A lo))), (4, vr (some (nd A hi)))] [] := by
    intro lo hi hlo hhi hjj
    rw [hjj] at hQ
    have hjin : ∀ k, 0 ≤ k → k < 20 → 0 ≤ jnF lo hi f k ∧ jnF lo hi f k < 20 := fun k h0 h1 => by
      have := (hf k h0 h1).2
      simp only [jnF]
      split <;> omega
    have loop : ∀ (f9 i : Nat) (h1 : HS), OnlyL h h1 → LW h1 A (upF (jnF lo hi f) f (i : Int)) → i ≤ 20 → 20 - i < f9 → X φ (RepH cy h1) 0 0 49 [(0, vr (some (cO A))), (3, vr (some (nd A lo))), (4, vr (some (nd A hi))), (5, vr (some (cN A))), (6, vi 20), (7, vi (i : Int))] [] := by
      intro f9
      induction f9 with
      | zero => intro i h1 _ _ h3 h4; omega
      | succ f9 ih =>
        intro i h1 hO1 hf1 h3 h4
        have s1 := hO1.sp s
        obtain ⟨w0, w60, w61, w62, w63, w64, wn, wnl, wnr, wm, wml, wh, wt, ww, wwl⟩ := hO1.vo v
        have hnx : ∀ (h2 : HS), OnlyL h h2 → (∀ k, k ≠ (i : Int) → 0 ≤ k → k < 20 → fP h2 42 (nd A k) = fP h1 42 (nd A k)) → fP h2 42 (nd A i) = (if jnF lo hi f i = i then none else some (nd A (jnF lo hi f i))) → i < 20 → LW h2 A (upF (jnF lo hi f) f ((i + 1 : Nat) : Int)) := by
          intro h2 hO2 ho hi2 hi3 k hk0 hk1
          have hin := hjin k hk0 hk1
          by_cases hki : k = i
          · subst hki
            rw [upF_lt (by omega), hi2]
            exact ⟨rfl, hin⟩
          · have h5 := hf1 k hk0 hk1
            rw [ho k hki hk0 hk1]
            by_cases hlt : k < (i : Int)
            · rw [upF_lt hlt] at h5
              rw [upF_lt (by omega)]
              exact h5
            · rw [upF_ge (by omega)] at h5
              rw [upF_ge (by omega)]
              exact h5
        refine x_iload C dX6_join_49 rfl ?_
        refine x_iload C dX6_join_51 rfl ?_
        refine x_icmp_ge (tgt := 85) C dX6_join_53 (by decide) (by first | omega | exact bi_rng _) (by first | omega | exact bi_rng _) (fun h53 => ?_) (fun h53 => ?_)
        ·
          refine x_vret C hQ dX6_join_85 rfl (by decide) (by decide) ?_
          refine ⟨rfl, hO1, fun k hk0 hk1 => ?_⟩
          have h5 := hf1 k hk0 hk1
          rw [upF_lt (by omega)] at h5
          exact h5
        ·
          obtain ⟨w5n, -⟩ := s1.no i (by omega) (by omega)
          have hfi := hf i (by omega) (by omega)
          have hij := nd_inj s1 hfi.2.1 hfi.2.2 hhi.1 hhi.2
          have hfi1 := hf1 i (by omega) (by omega)
          rw [upF_ge (by omega)] at hfi1
          refine x_aload C dX6_join_56 rfl ?_
          refine x_iload C dX6_join_58 rfl ?_
          refine h_aaldN C wn (by omega) (by rw [wnl]; omega) dX6_join_60 ?_
          simp only [wnr i (by omega) (by omega)]
          refine x_astore C dX6_join_61 (by rw [hn]; exact Nat.le_of_ble_eq_true rfl) ?_
          refine x_aload C dX6_join_63 rfl ?_
          refine x_callV C hR cb_X4_lowest cv_X4_lowest u7_6 (k_X4_lowest hst s1 hf1 (by omega)) (h_recv w5n (by decide)) ⟨_, _, rfl⟩ rfl (Nat.le_of_ble_eq_true rfl) rfl dX6_join_65 (by decide) (by decide) (fun E x9 h9 => absurd h9.1 (by intro h; cases h)) (fun r9 x9 h9 => ?_)
          obtain ⟨e9, q9⟩ := h9
          cases e9
          subst x9
          rw [upF_ge (by omega)]
          refine x_aload C dX6_join_68 rfl ?_
          refine x_acmp_ne (tgt := 79) C dX6_join_70 (by decide) (fun h70 => ?_) (fun h70 => ?_)
          ·
            refine x_iinc C dX6_join_79 (by rw [hn]; exact Nat.le_of_ble_eq_true rfl) rfl ?_
            refine x_goto (tgt := 49) C dX6_join_82 (by decide) ?_
            first
            | exact X.to (ih (i + 1) _ (hO1.tr OnlyL.set) (hnx _ (hO1.tr OnlyL.set) (fun k hk hk0 hk1 => fP_set_at (fun q => hk ((nd_inj s1 hk0 hk1 (by omega) (by omega)).mp q))) (by rw [fP_set_eq, jnF_lo (Or.inr (hij.mp (Option.some.inj h70)))]) (by omega)) (by omega) (by omega)) (lsc rfl (lsc rfl (lsc rfl (lsc rfl (lsc rfl (lsc rfl lsn))))))
            | exact X.to (ih (i + 1) _ hO1 (hnx _ hO1 (fun k hk hk0 hk1 => rfl) (by rw [jnF_n (fun q => h70 (by rw [q]))]; exact hfi1.1) (by omega)) (by omega) (by omega)) (lsc rfl (lsc rfl (lsc rfl (lsc rfl (lsc rfl (lsc rfl lsn))))))
          ·
            refine x_aload C dX6_join_73 rfl ?_
            refine x_aload_n C dX6_join_75 rfl rfl ?_
            refine x_callV C hR cb_X4_joinTo cv_X4_joinTo u7_16 (k_X4_joinTo hst s1 (by omega) (by omega)) (h_recv w5n (by decide)) ⟨_, _, rfl⟩ rfl (Nat.le_of_ble_eq_true rfl) rfl dX6_join_76 (by decide) (by decide) (fun E x9 h9 => absurd h9.1 (by intro h; cases h)) (fun r9 x9 h9 => ?_)
            obtain ⟨e9, q9⟩ := h9
            cases e9
            subst x9
            refine x_iinc C dX6_join_79 (by rw [hn]; exact Nat.le_of_ble_eq_true rfl) rfl ?_
            refine x_goto (tgt := 49) C dX6_join_82 (by decide) ?_
            first
            | exact X.to (ih (i + 1) _ (hO1.tr OnlyL.set) (hnx _ (hO1.tr OnlyL.set) (fun k hk hk0 hk1 => fP_set_at (fun q => hk ((nd_inj s1 hk0 hk1 (by omega) (by omega)).mp q))) (by rw [fP_set_eq, jnF_lo (Or.inr (hij.mp (Option.some.inj h70)))]) (by omega)) (by omega) (by omega)) (lsc rfl (lsc rfl (lsc rfl (lsc rfl (lsc rfl (lsc rfl lsn))))))
            | exact X.to (ih (i + 1) _ hO1 (hnx _ hO1 (fun k hk hk0 hk1 => rfl) (by rw [jnF_n (fun q => h70 (by rw [q]))]; exact hfi1.1) (by omega)) (by omega) (by omega)) (lsc rfl (lsc rfl (lsc rfl (lsc rfl (lsc rfl (lsc rfl lsn))))))
  
    refine x_aload_n C dX6_join_35 rfl rfl ?_
    refine h_get6 (f := 0) C v0 (by decide) u0_14 rfl rfl dX6_join_36 ?_
    try simp only [v60, v61, v62, v63, v64, vnl]
    refine x_astore C dX6_join_39 (by rw [hn]; exact Nat.le_of_ble_eq_true rfl) ?_
    refine x_aload C dX6_join_41 rfl ?_
    refine h_alen C (by omega) dX6_join_43 ?_
    try simp only [v60, v61, v62, v63, v64, vnl]
    refine x_istore C dX6_join_44 (by rw [hn]; exact Nat.le_of_ble_eq_true rfl) ?_
    refine x_iconst C dX6_join_46 ?_
    refine x_istore C dX6_join_47 (by rw [hn]; exact Nat.le_of_ble_eq_true rfl) ?_
    exact X.to (loop 21 0 h (OnlyL.rf h) (fun k hk0 hk1 => by rw [upF_ge (by omega)]; exact hf k hk0 hk1) (by omega) (by omega)) (lsc rfl (lsc rfl (lsc rfl (lsc rfl (lsc rfl (lsc rfl lsn))))))
  refine x_aload_n C dX6_join_0 rfl rfl ?_
  refine h_get4 (f := 0) C ni0 (by decide) u7_15 rfl rfl dX6_join_1 ?_
  try simp only [ni, nj]
  refine x_aload_n C dX6_join_4 rfl rfl ?_
  refine h_get4 (f := 0) C nj0 (by decide) u7_15 rfl rfl dX6_join_5 ?_
  try simp only [ni, nj]
  refine x_icmp_ge (tgt := 15) C dX6_join_8 (by decide) (by first | omega | exact bi_rng _) (by first | omega | exact bi_rng _) (fun h8 => ?_) (fun h8 => ?_)
  ·
    refine x_aload_n C dX6_join_15 rfl rfl ?_
    refine x_astore_n C dX6_join_16 rfl (by rw [hn]; exact Nat.le_of_ble_eq_true rfl) ?_
    refine x_aload_n C dX6_join_17 rfl rfl ?_
    refine h_get4 (f := 0) C ni0 (by decide) u7_15 rfl rfl dX6_join_18 ?_
    try simp only [ni, nj]
    refine x_aload_n C dX6_join_21 rfl rfl ?_
    refine h_get4 (f := 0) C nj0 (by decide) u7_15 rfl rfl dX6_join_22 ?_
    try simp only [ni, nj]
    refine x_icmp_ge (tgt := 32) C dX6_join_25 (by decide) (by first | omega | exact bi_rng _) (by first | omega | exact bi_rng _) (fun h25 => ?_) (fun h25 => ?_)
    ·
      skip
      refine x_aload_n C dX6_join_32 rfl rfl ?_
      refine x_astore C dX6_join_33 (by rw [hn]; exact Nat.le_of_ble_eq_true rfl) ?_
      first
      | (exfalso; omega)
      | exact X.to (k35 i j hi2 hj2 (by rw [if_pos (by omega)])) (lsc rfl (lsc rfl (lsc rfl lsn)))
      | exact X.to (k35 j i hj2 hi2 (by rw [if_neg (by omega)])) (lsc rfl (lsc rfl (lsc rfl lsn)))
    ·
      refine x_aload_n C dX6_join_28 rfl rfl ?_
      refine x_goto (tgt := 33) C dX6_join_29 (by decide) ?_
      refine x_astore C dX6_join_33 (by rw [hn]; exact Nat.le_of_ble_eq_true rfl) ?_
      first
      | (exfalso; omega)
      | exact X.to (k35 i j hi2 hj2 (by rw [if_pos (by omega)])) (lsc rfl (lsc rfl (lsc rfl lsn)))
      | exact X.to (k35 j i hj2 hi2 (by rw [if_neg (by omega)])) (lsc rfl (lsc rfl (lsc rfl lsn)))
  ·
    refine x_aload_n C dX6_join_11 rfl rfl ?_
    refine x_goto (tgt := 16) C dX6_join_12 (by decide) ?_
    refine x_astore_n C dX6_join_16 rfl (by rw [hn]; exact Nat.le_of_ble_eq_true rfl) ?_
    refine x_aload_n C dX6_join_17 rfl rfl ?_
    refine h_get4 (f := 0) C ni0 (by decide) u7_15 rfl rfl dX6_join_18 ?_
    try simp only [ni, nj]
    refine x_aload_n C dX6_join_21 rfl rfl ?_
    refine h_get4 (f := 0) C nj0 (by decide) u7_15 rfl rfl dX6_join_22 ?_
    try simp only [ni, nj]
    refine x_icmp_ge (tgt := 32) C dX6_join_25 (by decide) (by first | omega | exact bi_rng _) (by first | omega | exact bi_rng _) (fun h25 => ?_) (fun h25 => ?_)
    ·
      skip
      refine x_aload_n C dX6_join_32 rfl rfl ?_
      refine x_astore C dX6_join_33 (by rw [hn]; exact Nat.le_of_ble_eq_true rfl) ?_
      first
      | (exfalso; omega)
      | exact X.to (k35 i j hi2 hj2 (by rw [if_pos (by omega)])) (lsc rfl (lsc rfl (lsc rfl lsn)))
      | exact X.to (k35 j i hj2 hi2 (by rw [if_neg (by omega)])) (lsc rfl (lsc rfl (lsc rfl lsn)))
    ·
      refine x_aload_n C dX6_join_28 rfl rfl ?_
      refine x_goto (tgt := 33) C dX6_join_29 (by decide) ?_
      refine x_astore C dX6_join_33 (by rw [hn]; exact Nat.le_of_ble_eq_true rfl) ?_
      first
      | (exfalso; omega)
      | exact X.to (k35 i j hi2 hj2 (by rw [if_pos (by omega)])) (lsc rfl (lsc rfl (lsc rfl lsn)))
      | exact X.to (k35 j i hj2 hi2 (by rw [if_neg (by omega)])) (lsc rfl (lsc rfl (lsc rfl lsn)))

/-! The reference's loops -/
set_option maxRecDepth 100000 in
set_option maxHeartbeats 4000000 in
theorem k_X7_behind {l : Launch} {D : va_G} {cy : CY} (hst : l.stackTraces = false) {b : Nat → Nat} {t : Int} {M : MS} {node its : Int} (hM : MI M) (hnode : 0 ≤ node ∧ node < 20) (hits : -1 ≤ its ∧ its < M 2 0) : Ct l D cy yX7_behind (Cond.code yX7_behind cX7_behind 6 (some .int)) 2 44 0 0 (IM cy b) [vr (some (b 0)), vi node, vi its] (t, M) (fun r q' => r = .ok (some (vi (bhdF M node its (M 2 0).toNat))) ∧ q' = (t, M)) := by
  refine Ct.of1 (own := RX7) hst (by decide) rfl (Nat.le_of_ble_eq_true rfl) (cat1 (vr_cat _) (cat1 (vi_cat _) (cat1 (vi_cat _) (cat0)))) ?_
  intro φ C hQ hn hR hl hD
  subst hl hD
  have hN := hM.n
  obtain ⟨N, hNe⟩ : ∃ N : Nat, (N : Int) = M 2 0 := ⟨(M 2 0).toNat, Int.toNat_of_nonneg hN.1⟩
  have loop : ∀ (f i : Nat), i ≤ N → N - i < f → X φ (IM cy b (t, M)) 0 0 5 [(0, vr (some (b 0))), (1, vi node), (2, vi its), (3, vi (bhdF M node its i)), (4, vi (i : Int))] [] := by
    intro f
    induction f with
    | zero => intro i h1 h2; omega
    | succ f ih =>
      intro i h1 h2
      have hb := bhdF_in M node its i
      refine x_iload C dX7_behind_5 rfl ?_
      refine x_aload_n C dX7_behind_7 rfl rfl ?_
      refine m_get (f := 2) C (by decide) u7_9 rfl rfl dX7_behind_8 ?_
      refine x_icmp_ge (tgt := 79) C dX7_behind_11 (by decide) (by first | omega | exact bi_rng _) (by first | omega | exact bi_rng _) (fun h11 => ?_) (fun h11 => ?_)
      ·
        refine x_iload_n C dX7_behind_79 rfl rfl ?_
        refine x_iret (ty := .int) C hQ dX7_behind_80 rfl rfl (by decide) (by decide) ?_
        exact ⟨rv (by rw [show i = (M 2 0).toNat by omega]), rfl⟩
      ·
        refine x_aload_n C dX7_behind_14 rfl rfl ?_
        refine x_iload C dX7_behind_15 rfl ?_
        refine x_iload_n C dX7_behind_17 rfl rfl ?_
        refine x_callV C hR cb_X7_belongs cv_X7_belongs u14_19 (k_X7_belongs hst hM (by omega) (by omega)) m_recv ⟨_, _, rfl⟩ rfl (Nat.le_of_ble_eq_true rfl) rfl dX7_behind_18 (by decide) (by decide) (fun E x9 h9 => absurd h9.1 (by intro h; cases h)) (fun r9 x9 h9 => ?_)
        obtain ⟨e9, rfl⟩ := h9
        cases e9
        refine x_if_eq (tgt := 43) C dX7_behind_21 (by decide) (by first | omega | exact bi_rng _) (fun h21 => ?_) (fun h21 => ?_)
        ·
          refine x_iconst C dX7_behind_43 ?_
          refine x_istore C dX7_behind_44 (by rw [hn]; exact Nat.le_of_ble_eq_true rfl) ?_
          (try replace h21 := bi_eq0.mp h21); (try replace h36 := bi_eq0.mp h36)
          refine x_iload C dX7_behind_46 rfl ?_
          refine x_if_eq (tgt := 71) C dX7_behind_48 (by decide) (by decide) (fun _ => ?_) (fun h => absurd h (by decide))
          refine x_iload_n C dX7_behind_71 rfl rfl ?_
          try replace h63 := bi_eq0.mp h63
          refine x_istore_n C dX7_behind_72 rfl (by rw [hn]; exact Nat.le_of_ble_eq_true rfl) ?_
          refine x_iinc C dX7_behind_73 (by rw [hn]; exact Nat.le_of_ble_eq_true rfl) rfl ?_
          refine x_goto (tgt := 5) C dX7_behind_76 (by decide) ?_
          exact X.to (ih (i + 1) (by omega) (by omega)) (lsc rfl (lsc rfl (lsc rfl (lsc (lkv (by simp only [bhdF]; split <;> omega)) (lsc rfl (lsn))))))
        ·
          replace h21 := bi_ne0.mp h21
          refine x_iload_n C dX7_behind_24 rfl rfl ?_
          refine x_iconst C dX7_behind_25 ?_
          refine x_icmp_eq (tgt := 39) C dX7_behind_26 (by decide) (by first | omega | exact bi_rng _) (by first | omega | exact bi_rng _) (fun h26 => ?_) (fun h26 => ?_)
          ·
            try replace h36 := bi_ne0.mp h36
            refine x_iconst C dX7_behind_39 ?_
            refine x_goto (tgt := 44) C dX7_behind_40 (by decide) ?_
            refine x_istore C dX7_behind_44 (by rw [hn]; exact Nat.le_of_ble_eq_true rfl) ?_
            (try replace h21 := bi_eq0.mp h21); (try replace h36 := bi_eq0.mp h36)
            refine x_iload C dX7_behind_46 rfl ?_
            refine x_if_eq (tgt := 71) C dX7_behind_48 (by decide) (by decide) (fun h => absurd h (by decide)) (fun _ => ?_)
            refine x_iload_n C dX7_behind_51 rfl rfl ?_
            refine x_iconst C dX7_behind_52 ?_
            refine x_icmp_eq (tgt := 66) C dX7_behind_53 (by decide) (by first | omega | exact bi_rng _) (by first | omega | exact bi_rng _) (fun h53 => ?_) (fun h53 => ?_)
            ·
              try replace h63 := bi_ne0.mp h63
              refine x_iload C dX7_behind_66 rfl ?_
              refine x_goto (tgt := 72) C dX7_behind_68 (by decide) ?_
              try replace h63 := bi_eq0.mp h63
              refine x_istore_n C dX7_behind_72 rfl (by rw [hn]; exact Nat.le_of_ble_eq_true rfl) ?_
              refine x_iinc C dX7_behind_73 (by rw [hn]; exact Nat.le_of_ble_eq_true rfl) rfl ?_
              refine x_goto (tgt := 5) C dX7_behind_76 (by decide) ?_
              exact X.to (ih (i + 1) (by omega) (by omega)) (lsc rfl (lsc rfl (lsc rfl (lsc (lkv (by simp only [bhdF]; split <;> omega)) (lsc rfl (lsn))))))
            ·
              refine x_aload_n C dX7_behind_56 rfl rfl ?_
              refine x_iload C dX7_behind_57 rfl ?_
              refine x_iload_n C dX7_behind_59 rfl rfl ?_
              refine x_callV C hR cb_X7_isAhead cv_X7_isAhead u17_20 (k_X7_isAhead hst hM (by omega) (by omega)) m_recv ⟨_, _, rfl⟩ rfl (Nat.le_of_ble_eq_true rfl) rfl dX7_behind_60 (by decide) (by decide) (fun E x9 h9 => absurd h9.1 (by intro h; cases h)) (fun r9 x9 h9 => ?_)
              obtain ⟨e9, rfl⟩ := h9
              cases e9
              refine x_if_eq (tgt := 71) C dX7_behind_63 (by decide) (by first | omega | exact bi_rng _) (fun h63 => ?_) (fun h63 => ?_)
              ·
                refine x_iload_n C dX7_behind_71 rfl rfl ?_
                try replace h63 := bi_eq0.mp h63
                refine x_istore_n C dX7_behind_72 rfl (by rw [hn]; exact Nat.le_of_ble_eq_true rfl) ?_
                refine x_iinc C dX7_behind_73 (by rw [hn]; exact Nat.le_of_ble_eq_true rfl) rfl ?_
                refine x_goto (tgt := 5) C dX7_behind_76 (by decide) ?_
                exact X.to (ih (i + 1) (by omega) (by omega)) (lsc rfl (lsc rfl (lsc rfl (lsc (lkv (by simp only [bhdF]; split <;> omega)) (lsc rfl (lsn))))))
              ·
                try replace h63 := bi_ne0.mp h63
                refine x_iload C dX7_behind_66 rfl ?_
                refine x_goto (tgt := 72) C dX7_behind_68 (by decide) ?_
                try replace h63 := bi_eq0.mp h63
                refine x_istore_n C dX7_behind_72 rfl (by rw [hn]; exact Nat.le_of_ble_eq_true rfl) ?_
                refine x_iinc C dX7_behind_73 (by rw [hn]; exact Nat.le_of_ble_eq_true rfl) rfl ?_
                refine x_goto (tgt := 5) C dX7_behind_76 (by decide) ?_
                exact X.to (ih (i + 1) (by omega) (by omega)) (lsc rfl (lsc rfl (lsc rfl (lsc (lkv (by simp only [bhdF]; split <;> omega)) (lsc rfl (lsn))))))
          ·
            refine x_aload_n C dX7_behind_29 rfl rfl ?_
            refine x_iload_n C dX7_behind_30 rfl rfl ?_
            refine x_iload C dX7_behind_31 rfl ?_
            refine x_callV C hR cb_X7_isAhead cv_X7_isAhead u17_20 (k_X7_isAhead hst hM (by omega) (by omega)) m_recv ⟨_, _, rfl⟩ rfl (Nat.le_of_ble_eq_true rfl) rfl dX7_behind_33 (by decide) (by decide) (fun E x9 h9 => absurd h9.1 (by intro h; cases h)) (fun r9 x9 h9 => ?_)
            obtain ⟨e9, rfl⟩ := h9
            cases e9
            refine x_if_eq (tgt := 43) C dX7_behind_36 (by decide) (by first | omega | exact bi_rng _) (fun h36 => ?_) (fun h36 => ?_)
            ·
              refine x_iconst C dX7_behind_43 ?_
              refine x_istore C dX7_behind_44 (by rw [hn]; exact Nat.le_of_ble_eq_true rfl) ?_
              (try replace h21 := bi_eq0.mp h21); (try replace h36 := bi_eq0.mp h36)
              refine x_iload C dX7_behind_46 rfl ?_
              refine x_if_eq (tgt := 71) C dX7_behind_48 (by decide) (by decide) (fun _ => ?_) (fun h => absurd h (by decide))
              refine x_iload_n C dX7_behind_71 rfl rfl ?_
              try replace h63 := bi_eq0.mp h63
              refine x_istore_n C dX7_behind_72 rfl (by rw [hn]; exact Nat.le_of_ble_eq_true rfl) ?_
              refine x_iinc C dX7_behind_73 (by rw [hn]; exact Nat.le_of_ble_eq_true rfl) rfl ?_
              refine x_goto (tgt := 5) C dX7_behind_76 (by decide) ?_
              exact X.to (ih (i + 1) (by omega) (by omega)) (lsc rfl (lsc rfl (lsc rfl (lsc (lkv (by simp only [bhdF]; split <;> omega)) (lsc rfl (lsn))))))
            ·
              try replace h36 := bi_ne0.mp h36
              refine x_iconst C dX7_behind_39 ?_
              refine x_goto (tgt := 44) C dX7_behind_40 (by decide) ?_
              refine x_istore C dX7_behind_44 (by rw [hn]; exact Nat.le_of_ble_eq_true rfl) ?_
              (try replace h21 := bi_eq0.mp h21); (try replace h36 := bi_eq0.mp h36)
              refine x_iload C dX7_behind_46 rfl ?_
              refine x_if_eq (tgt := 71) C dX7_behind_48 (by decide) (by decide) (fun h => absurd h (by decide)) (fun _ => ?_)
              refine x_iload_n C dX7_behind_51 rfl rfl ?_
              refine x_iconst C dX7_behind_52 ?_
              refine x_icmp_eq (tgt := 66) C dX7_behind_53 (by decide) (by first | omega | exact bi_rng _) (by first | omega | exact bi_rng _) (fun h53 => ?_) (fun h53 => ?_)
              ·
                try replace h63 := bi_ne0.mp h63
                refine x_iload C dX7_behind_66 rfl ?_
                refine x_goto (tgt := 72) C dX7_behind_68 (by decide) ?_
                try replace h63 := bi_eq0.mp h63
                refine x_istore_n C dX7_behind_72 rfl (by rw [hn]; exact Nat.le_of_ble_eq_true rfl) ?_
                refine x_iinc C dX7_behind_73 (by rw [hn]; exact Nat.le_of_ble_eq_true rfl) rfl ?_
                refine x_goto (tgt := 5) C dX7_behind_76 (by decide) ?_
                exact X.to (ih (i + 1) (by omega) (by omega)) (lsc rfl (lsc rfl (lsc rfl (lsc (lkv (by simp only [bhdF]; split <;> omega)) (lsc rfl (lsn))))))
              ·
                refine x_aload_n C dX7_behind_56 rfl rfl ?_
                refine x_iload C dX7_behind_57 rfl ?_
                refine x_iload_n C dX7_behind_59 rfl rfl ?_
                refine x_callV C hR cb_X7_isAhead cv_X7_isAhead u17_20 (k_X7_isAhead hst hM (by omega) (by omega)) m_recv ⟨_, _, rfl⟩ rfl (Nat.le_of_ble_eq_true rfl) rfl dX7_behind_60 (by decide) (by decide) (fun E x9 h9 => absurd h9.1 (by intro h; cases h)) (fun r9 x9 h9 => ?_)
                obtain ⟨e9, rfl⟩ := h9
                cases e9
                refine x_if_eq (tgt := 71) C dX7_behind_63 (by decide) (by first | omega | exact bi_rng _) (fun h63 => ?_) (fun h63 => ?_)
                ·
                  refine x_iload_n C dX7_behind_71 rfl rfl ?_
                  try replace h63 := bi_eq0.mp h63
                  refine x_istore_n C dX7_behind_72 rfl (by rw [hn]; exact Nat.le_of_ble_eq_true rfl) ?_
                  refine x_iinc C dX7_behind_73 (by rw [hn]; exact Nat.le_of_ble_eq_true rfl) rfl ?_
                  refine x_goto (tgt := 5) C dX7_behind_76 (by decide) ?_
                  exact X.to (ih (i + 1) (by omega) (by omega)) (lsc rfl (lsc rfl (lsc rfl (lsc (lkv (by simp only [bhdF]; split <;> omega)) (lsc rfl (lsn))))))
                ·
                  try replace h63 := bi_ne0.mp h63
                  refine x_iload C dX7_behind_66 rfl ?_
                  refine x_goto (tgt := 72) C dX7_behind_68 (by decide) ?_
                  try replace h63 := bi_eq0.mp h63
                  refine x_istore_n C dX7_behind_72 rfl (by rw [hn]; exact Nat.le_of_ble_eq_true rfl) ?_
                  refine x_iinc C dX7_behind_73 (by rw [hn]; exact Nat.le_of_ble_eq_true rfl) rfl ?_
                  refine x_goto (tgt := 5) C dX7_behind_76 (by decide) ?_
                  exact X.to (ih (i + 1) (by omega) (by omega)) (lsc rfl (lsc rfl (lsc rfl (lsc (lkv (by simp only [bhdF]; split <;> omega)) (lsc rfl (lsn))))))
  refine x_iconst C dX7_behind_0 ?_
  refine x_istore_n C dX7_behind_1 rfl (by rw [hn]; exact Nat.le_of_ble_eq_true rfl) ?_
  refine x_iconst C dX7_behind_2 ?_
  refine x_istore C dX7_behind_3 (by rw [hn]; exact Nat.le_of_ble_eq_true rfl) ?_
  exact X.to (loop (N + 1) 0 (by omega) (by omega)) (lsc rfl (lsc rfl (lsc rfl (lsc rfl (lsc rfl (lsn))))))

set_option maxRecDepth 100000 in
set_option maxHeartbeats 4000000 in
theorem k_X7_time {l : Launch} {D : va_G} {cy : CY} (hst : l.stackTraces = false) {b : Nat → Nat} {t : Int} {M : MS} {its : Int} (hM : MI M) (hits : -2147483648 ≤ its ∧ its ≤ 2147483647) : Ct l D cy yX7_time (Cond.code yX7_time cX7_time 4 (some .int)) 1 22 0 0 (IM cy b) [vr (some (b 0)), vi its] (t, M) (fun r q' => r = .ok (some (vi (timeF M its (M 2 0).toNat))) ∧ q' = (0, M)) := by
  refine Ct.of1 (own := RX7) hst (by decide) rfl (Nat.le_of_ble_eq_true rfl) (cat1 (vr_cat _) (cat1 (vi_cat _) (cat0))) ?_
  intro φ C hQ hn hR hl hD
  subst hl hD
  have hN := hM.n
  obtain ⟨N, hNe⟩ : ∃ N : Nat, (N : Int) = M 2 0 := ⟨(M 2 0).toNat, Int.toNat_of_nonneg hN.1⟩
  have loop : ∀ (f i : Nat), i ≤ N → N - i < f → X φ (IM cy b (0, M)) 0 0 9 [(0, vr (some (b 0))), (1, vi its), (2, vi (timeF M its i)), (3, vi (i : Int))] [] := by
    intro f
    induction f with
    | zero => intro i h1 h2; omega
    | succ f ih =>
      intro i h1 h2
      refine x_iload_n C dX7_time_9 rfl rfl ?_
      refine x_aload_n C dX7_time_10 rfl rfl ?_
      refine m_get (f := 2) C (by decide) u7_9 rfl rfl dX7_time_11 ?_
      refine x_icmp_ge (tgt := 52) C dX7_time_14 (by decide) (by first | omega | exact bi_rng _) (by first | omega | exact bi_rng _) (fun h14 => ?_) (fun h14 => ?_)
      ·
        refine x_iload_n C dX7_time_52 rfl rfl ?_
        refine x_iret (ty := .int) C hQ dX7_time_53 rfl rfl (by decide) (by decide) ?_
        exact ⟨rv (by rw [show i = (M 2 0).toNat by omega]), rfl⟩
      ·
        obtain ⟨⟨e3a, e3b⟩, ⟨e4a, e4b⟩, ⟨e5a, e5b⟩, ⟨e6a, e6b⟩, ⟨e7a, e7b⟩, ⟨e8a, e8b⟩⟩ := hM.ev i (by omega) (by omega)
        have g9 := hM.b9 i
        refine x_aload_n C dX7_time_17 rfl rfl ?_
        refine m_get (f := 3) C (by decide) u2_0 rfl rfl dX7_time_18 ?_
        refine x_iload_n C dX7_time_21 rfl rfl ?_
        refine m_iald (f := 3) (q0 := 1) (N := 200) C rfl (by decide) (by first | omega | exact bi_rng _) dX7_time_22 ?_
        refine x_iload_n C dX7_time_23 rfl rfl ?_
        refine x_icmp_ne (tgt := 44) C dX7_time_24 (by decide) (by first | omega | exact bi_rng _) (by first | omega | exact bi_rng _) (fun h24 => ?_) (fun h24 => ?_)
        ·
          refine x_iload_n C dX7_time_44 rfl rfl ?_
          refine x_istore_n C dX7_time_45 rfl (by rw [hn]; exact Nat.le_of_ble_eq_true rfl) ?_
          refine x_iinc C dX7_time_46 (by rw [hn]; exact Nat.le_of_ble_eq_true rfl) rfl ?_
          refine x_goto (tgt := 9) C dX7_time_49 (by decide) ?_
          exact X.to (ih (i + 1) (by omega) (by omega)) (lsc rfl (lsc rfl (lsc (lkv (by simp only [timeF]; split <;> omega)) (lsc rfl (lsn)))))
        ·
          refine x_aload_n C dX7_time_27 rfl rfl ?_
          refine m_get (f := 9) C (by decide) u2_6 rfl rfl dX7_time_28 ?_
          refine x_iload_n C dX7_time_31 rfl rfl ?_
          refine m_zald (f := 9) (q0 := 7) (N := 200) C rfl (by decide) (by first | omega | exact bi_rng _) dX7_time_32 ?_
          refine x_if_ne (tgt := 44) C dX7_time_33 (by decide) (by first | omega | exact bi_rng _) (fun h33 => ?_) (fun h33 => ?_)
          ·
            refine x_iload_n C dX7_time_44 rfl rfl ?_
            refine x_istore_n C dX7_time_45 rfl (by rw [hn]; exact Nat.le_of_ble_eq_true rfl) ?_
            refine x_iinc C dX7_time_46 (by rw [hn]; exact Nat.le_of_ble_eq_true rfl) rfl ?_
            refine x_goto (tgt := 9) C dX7_time_49 (by decide) ?_
            exact X.to (ih (i + 1) (by omega) (by omega)) (lsc rfl (lsc rfl (lsc (lkv (by simp only [timeF]; split <;> omega)) (lsc rfl (lsn)))))
          ·
            refine x_aload_n C dX7_time_36 rfl rfl ?_
            refine x_iload_n C dX7_time_37 rfl rfl ?_
            refine x_callV C hR cb_X7_timeOf cv_X7_timeOf u18_0 (k_X7_timeOf hst hM (by omega)) m_recv ⟨_, _, rfl⟩ rfl (Nat.le_of_ble_eq_true rfl) rfl dX7_time_38 (by decide) (by decide) (fun E x9 h9 => absurd h9.1 (by intro h; cases h)) (fun r9 x9 h9 => ?_)
            obtain ⟨e9, rfl⟩ := h9
            cases e9
            refine x_goto (tgt := 45) C dX7_time_41 (by decide) ?_
            refine x_istore_n C dX7_time_45 rfl (by rw [hn]; exact Nat.le_of_ble_eq_true rfl) ?_
            refine x_iinc C dX7_time_46 (by rw [hn]; exact Nat.le_of_ble_eq_true rfl) rfl ?_
            refine x_goto (tgt := 9) C dX7_time_49 (by decide) ?_
            exact X.to (ih (i + 1) (by omega) (by omega)) (lsc rfl (lsc rfl (lsc (lkv (by simp only [timeF]; split <;> omega)) (lsc rfl (lsn)))))
  refine x_aload_n C dX7_time_0 rfl rfl ?_
  refine x_iconst C dX7_time_1 ?_
  refine m_put (f := 0) C (by decide) u7_8 rfl rfl (by decide +kernel) (wsM_put0 _ _ _ _ _) dX7_time_2 ?_
  refine x_iconst C dX7_time_5 ?_
  refine x_istore_n C dX7_time_6 rfl (by rw [hn]; exact Nat.le_of_ble_eq_true rfl) ?_
  refine x_iconst C dX7_time_7 ?_
  refine x_istore_n C dX7_time_8 rfl (by rw [hn]; exact Nat.le_of_ble_eq_true rfl) ?_
  exact X.to (loop (N + 1) 0 (by omega) (by omega)) (lsc rfl (lsc rfl (lsc rfl (lsc rfl (lsn)))))

set_option maxRecDepth 100000 in
set_option maxHeartbeats 4000000 in
theorem k_X7_counts {l : Launch} {D : va_G} {cy : CY} (hst : l.stackTraces = false) {b : Nat → Nat} {t : Int} {M : MS} {e p : Int} (hM : MI M) (he : 0 ≤ e ∧ e < M 2 0) (hp : 0 ≤ p ∧ p ≤ 3) : Ct l D cy yX7_counts (Cond.code yX7_counts cX7_counts 8 (some .boolean)) 1 22 0 0 (IM cy b) [vr (some (b 0)), vi e, vi p] (t, M) (fun r q' => r = .ok (some (vi (bi (cnt M e p)))) ∧ q' = (t, M)) := by
  refine Ct.of1 (own := RX7) hst (by decide) rfl (Nat.le_of_ble_eq_true rfl) (cat1 (vr_cat _) (cat1 (vi_cat _) (cat1 (vi_cat _) (cat0)))) ?_
  intro φ C hQ hn hR hl hD
  subst hl hD
  obtain ⟨⟨e3a, e3b⟩, ⟨e4a, e4b⟩, ⟨e5a, e5b⟩, ⟨e6a, e6b⟩, ⟨e7a, e7b⟩, ⟨e8a, e8b⟩⟩ := hM.ev e he.1 he.2
  have hN := hM.n
  have hrw := rowOf_in hM he.1 he.2 hp
  have hch := hM.ch _ hrw.1 hrw.2
  have htm := tmOf_in hM he.1 he.2
  obtain ⟨row, hrow⟩ : ∃ w, w = rowOf M e p := ⟨_, rfl⟩
  rw [← hrow] at hrw hch
  obtain ⟨N, hNe⟩ : ∃ N : Nat, (N : Int) = M 14 row := ⟨(M 14 row).toNat, Int.toNat_of_nonneg hch.1⟩
  have loop : ∀ (f i : Nat), i ≤ N → N - i < f → X φ (IM cy b (t, M)) 0 0 42 [(0, vr (some (b 0))), (1, vi e), (2, vi p), (3, vi row), (4, vi (chB M row (tmOf M e) i)), (5, vi (chG M row (tmOf M e) i)), (6, vi (i : Int))] [] := by
    intro f
    induction f with
    | zero => intro i h1 h2; omega
    | succ f ih =>
      intro i h1 h2
      have hb := chB_in hM row (tmOf M e) hrw.1 hrw.2 i (by omega)
      refine x_iload C dX7_counts_42 rfl ?_
      refine x_aload_n C dX7_counts_44 rfl rfl ?_
      refine m_get (f := 14) C (by decide) u2_11 rfl rfl dX7_counts_45 ?_
      refine x_iload_n C dX7_counts_48 rfl rfl ?_
      refine m_iald (f := 14) (q0 := 12) (N := 80) C rfl (by decide) (by first | omega | exact bi_rng _) dX7_counts_49 ?_
      refine x_icmp_ge (tgt := 108) C dX7_counts_50 (by decide) (by first | omega | exact bi_rng _) (by first | omega | exact bi_rng _) (fun h50 => ?_) (fun h50 => ?_)
      ·
        refine x_iload C dX7_counts_108 rfl ?_
        refine x_iret (ty := .boolean) C hQ dX7_counts_110 rfl (nar_bi (chG_in hM _ _ _)) (by decide) (by decide) ?_
        refine ⟨rv ?_, rfl⟩
        rw [show i = (M 14 row).toNat by omega]
        have h9 := chG_in hM row (tmOf M e) (M 14 row).toNat
        simp only [bi, cnt, ← hrow]
        split <;> omega
      ·
        have hcf := hM.cf row i hrw.1 hrw.2 (by omega) (by omega)
        have g16 := hM.b16 (20 * row + i)
        refine x_aload_n C dX7_counts_53 rfl rfl ?_
        refine m_get (f := 15) C (by decide) u2_12 rfl rfl dX7_counts_54 ?_
        refine x_bipush C dX7_counts_57 (by decide) ?_
        refine x_iload_n C dX7_counts_59 rfl rfl ?_
        refine x_imul C dX7_counts_60 ?_
        refine x_iload C dX7_counts_61 rfl ?_
        refine x_iadd C dX7_counts_63 ?_
        refine m_iald (f := 15) (q0 := 13) (N := 1600) C rfl (by decide) (by first | omega | exact bi_rng _) dX7_counts_64 ?_
        refine x_istore C dX7_counts_65 (by rw [hn]; exact Nat.le_of_ble_eq_true rfl) ?_
        refine x_iload C dX7_counts_67 rfl ?_
        refine x_aload_n C dX7_counts_69 rfl rfl ?_
        refine x_iload_n C dX7_counts_70 rfl rfl ?_
        refine x_callV C hR cb_X7_timeOf cv_X7_timeOf u18_0 (k_X7_timeOf hst hM (by omega)) m_recv ⟨_, _, rfl⟩ rfl (Nat.le_of_ble_eq_true rfl) rfl dX7_counts_71 (by decide) (by decide) (fun E x9 h9 => absurd h9.1 (by intro h; cases h)) (fun r9 x9 h9 => ?_)
        obtain ⟨e9, rfl⟩ := h9
        cases e9
        refine x_icmp_gt (tgt := 102) C dX7_counts_74 (by decide) (by first | omega | exact bi_rng _) (by first | omega | exact bi_rng _) (fun h74 => ?_) (fun h74 => ?_)
        ·
          refine x_iinc C dX7_counts_102 (by rw [hn]; exact Nat.le_of_ble_eq_true rfl) rfl ?_
          refine x_goto (tgt := 42) C dX7_counts_105 (by decide) ?_
          exact X.to (ih (i + 1) (by omega) (by omega)) (lsc rfl (lsc rfl (lsc rfl (lsc rfl (lsc (lkv (by simp only [chB]; split <;> omega)) (lsc (lkv (by simp only [chG]; split <;> omega)) (lsc rfl (lsn))))))))
        ·
          refine x_iload C dX7_counts_77 rfl ?_
          refine x_iload C dX7_counts_79 rfl ?_
          refine x_icmp_lt (tgt := 102) C dX7_counts_81 (by decide) (by first | omega | exact bi_rng _) (by first | omega | exact bi_rng _) (fun h81 => ?_) (fun h81 => ?_)
          ·
            refine x_iinc C dX7_counts_102 (by rw [hn]; exact Nat.le_of_ble_eq_true rfl) rfl ?_
            refine x_goto (tgt := 42) C dX7_counts_105 (by decide) ?_
            exact X.to (ih (i + 1) (by omega) (by omega)) (lsc rfl (lsc rfl (lsc rfl (lsc rfl (lsc (lkv (by simp only [chB]; split <;> omega)) (lsc (lkv (by simp only [chG]; split <;> omega)) (lsc rfl (lsn))))))))
          ·
            refine x_iload C dX7_counts_84 rfl ?_
            refine x_istore C dX7_counts_86 (by rw [hn]; exact Nat.le_of_ble_eq_true rfl) ?_
            refine x_aload_n C dX7_counts_88 rfl rfl ?_
            refine m_get (f := 16) C (by decide) u2_13 rfl rfl dX7_counts_89 ?_
            refine x_bipush C dX7_counts_92 (by decide) ?_
            refine x_iload_n C dX7_counts_94 rfl rfl ?_
            refine x_imul C dX7_counts_95 ?_
            refine x_iload C dX7_counts_96 rfl ?_
            refine x_iadd C dX7_counts_98 ?_
            refine m_zald (f := 16) (q0 := 14) (N := 1600) C rfl (by decide) (by first | omega | exact bi_rng _) dX7_counts_99 ?_
            refine x_istore C dX7_counts_100 (by rw [hn]; exact Nat.le_of_ble_eq_true rfl) ?_
            refine x_iinc C dX7_counts_102 (by rw [hn]; exact Nat.le_of_ble_eq_true rfl) rfl ?_
            refine x_goto (tgt := 42) C dX7_counts_105 (by decide) ?_
            exact X.to (ih (i + 1) (by omega) (by omega)) (lsc rfl (lsc rfl (lsc rfl (lsc rfl (lsc (lkv (by simp only [chB]; split <;> omega)) (lsc (lkv (by simp only [chG]; split <;> omega)) (lsc rfl (lsn))))))))
  refine x_iconst C dX7_counts_0 ?_
  refine x_aload_n C dX7_counts_1 rfl rfl ?_
  refine m_get (f := 5) C (by decide) u2_2 rfl rfl dX7_counts_2 ?_
  refine x_iload_n C dX7_counts_5 rfl rfl ?_
  refine m_iald (f := 5) (q0 := 3) (N := 200) C rfl (by decide) (by first | omega | exact bi_rng _) dX7_counts_6 ?_
  refine x_iconst C dX7_counts_7 ?_
  refine x_icmp_ne (tgt := 23) C dX7_counts_8 (by decide) (by first | omega | exact bi_rng _) (by first | omega | exact bi_rng _) (fun h8 => ?_) (fun h8 => ?_)
  ·
    refine x_aload_n C dX7_counts_23 rfl rfl ?_
    refine m_get (f := 5) C (by decide) u2_2 rfl rfl dX7_counts_24 ?_
    refine x_iload_n C dX7_counts_27 rfl rfl ?_
    refine m_iald (f := 5) (q0 := 3) (N := 200) C rfl (by decide) (by first | omega | exact bi_rng _) dX7_counts_28 ?_
    refine x_imul C dX7_counts_29 ?_
    refine x_iload_n C dX7_counts_30 rfl rfl ?_
    refine x_iadd C dX7_counts_31 ?_
    refine x_istore_n C dX7_counts_32 rfl (by rw [hn]; exact Nat.le_of_ble_eq_true rfl) ?_
    refine x_iconst C dX7_counts_33 ?_
    refine x_istore C dX7_counts_34 (by rw [hn]; exact Nat.le_of_ble_eq_true rfl) ?_
    refine x_iconst C dX7_counts_36 ?_
    refine x_istore C dX7_counts_37 (by rw [hn]; exact Nat.le_of_ble_eq_true rfl) ?_
    refine x_iconst C dX7_counts_39 ?_
    refine x_istore C dX7_counts_40 (by rw [hn]; exact Nat.le_of_ble_eq_true rfl) ?_
    exact X.to (loop (N + 1) 0 (by omega) (by omega)) (lsc rfl (lsc rfl (lsc rfl (lsc (lkv (by rw [hrow]; simp only [rowOf]; split <;> omega)) (lsc rfl (lsc rfl (lsc rfl (lsn))))))))
  ·
    refine x_bipush C dX7_counts_11 (by decide) ?_
    refine x_aload_n C dX7_counts_13 rfl rfl ?_
    refine m_get (f := 4) C (by decide) u2_1 rfl rfl dX7_counts_14 ?_
    refine x_iload_n C dX7_counts_17 rfl rfl ?_
    refine m_iald (f := 4) (q0 := 2) (N := 200) C rfl (by decide) (by first | omega | exact bi_rng _) dX7_counts_18 ?_
    refine x_iadd C dX7_counts_19 ?_
    refine x_goto (tgt := 29) C dX7_counts_20 (by decide) ?_
    refine x_imul C dX7_counts_29 ?_
    refine x_iload_n C dX7_counts_30 rfl rfl ?_
    refine x_iadd C dX7_counts_31 ?_
    refine x_istore_n C dX7_counts_32 rfl (by rw [hn]; exact Nat.le_of_ble_eq_true rfl) ?_
    refine x_iconst C dX7_counts_33 ?_
    refine x_istore C dX7_counts_34 (by rw [hn]; exact Nat.le_of_ble_eq_true rfl) ?_
    refine x_iconst C dX7_counts_36 ?_
    refine x_istore C dX7_counts_37 (by rw [hn]; exact Nat.le_of_ble_eq_true rfl) ?_
    refine x_iconst C dX7_counts_39 ?_
    refine x_istore C dX7_counts_40 (by rw [hn]; exact Nat.le_of_ble_eq_true rfl) ?_
    exact X.to (loop (N + 1) 0 (by omega) (by omega)) (lsc rfl (lsc rfl (lsc rfl (lsc (lkv (by rw [hrow]; simp only [rowOf]; split <;> omega)) (lsc rfl (lsc rfl (lsc rfl (lsn))))))))

set_option maxRecDepth 100000 in
set_option maxHeartbeats 4000000 in
theorem k_X7_sum {l : Launch} {D : va_G} {cy : CY} (hst : l.stackTraces = false) {b : Nat → Nat} {t : Int} {M : MS} {node p what minute days : Int} (hM : MI M) (hnode : 0 ≤ node ∧ node < 20) (hp : 0 ≤ p ∧ p ≤ 3) (hwh : 0 ≤ what ∧ what ≤ 4) (hmi : 0 ≤ minute ∧ minute ≤ 100000) (hda : 1 ≤ days ∧ days ≤ 30) : Ct l D cy yX7_sum (Cond.code yX7_sum cX7_sum 9 (some .int)) 2 49 0 0 (IM cy b) [vr (some (b 0)), vi node, vi p, vi what, vi minute, vi days] (t, M) (fun r q' => r = .ok (some (vi (sumF M node p what minute days (M 2 0).toNat))) ∧ q' = (t, M)) := by
  refine Ct.of1 (own := RX7) hst (by decide) rfl (Nat.le_of_ble_eq_true rfl) (cat1 (vr_cat _) (cat1 (vi_cat _) (cat1 (vi_cat _) (cat1 (vi_cat _) (cat1 (vi_cat _) (cat1 (vi_cat _) (cat0))))))) ?_
  intro φ C hQ hn hR hl hD
  subst hl hD
  have hN := hM.n
  obtain ⟨N, hNe⟩ : ∃ N : Nat, (N : Int) = M 2 0 := ⟨(M 2 0).toNat, Int.toNat_of_nonneg hN.1⟩
  have loop : ∀ (f i : Nat), i ≤ N → N - i < f → X φ (IM cy b (t, M)) 0 0 6 [(0, vr (some (b 0))), (1, vi node), (2, vi p), (3, vi what), (4, vi minute), (5, vi days), (6, vi (sumF M node p what minute days i)), (7, vi (i : Int))] [] := by
    intro f
    induction f with
    | zero => intro i h1 h2; omega
    | succ f ih =>
      intro i h1 h2
      have hb := sumF_in M node p what minute days i
      refine x_iload C dX7_sum_6 rfl ?_
      refine x_aload_n C dX7_sum_8 rfl rfl ?_
      refine m_get (f := 2) C (by decide) u7_9 rfl rfl dX7_sum_9 ?_
      refine x_icmp_ge (tgt := 103) C dX7_sum_12 (by decide) (by first | omega | exact bi_rng _) (by first | omega | exact bi_rng _) (fun h12 => ?_) (fun h12 => ?_)
      ·
        refine x_iload C dX7_sum_103 rfl ?_
        refine x_iret (ty := .int) C hQ dX7_sum_105 rfl rfl (by decide) (by decide) ?_
        exact ⟨rv (by rw [show i = (M 2 0).toNat by omega]), rfl⟩
      ·
        obtain ⟨⟨e3a, e3b⟩, ⟨e4a, e4b⟩, ⟨e5a, e5b⟩, ⟨e6a, e6b⟩, ⟨e7a, e7b⟩, ⟨e8a, e8b⟩⟩ := hM.ev i (by omega) (by omega)
        have g9 := hM.b9 i
        refine x_aload_n C dX7_sum_15 rfl rfl ?_
        refine x_iload C dX7_sum_16 rfl ?_
        refine x_iload_n C dX7_sum_18 rfl rfl ?_
        refine x_callV C hR cb_X7_belongs cv_X7_belongs u14_19 (k_X7_belongs hst hM (by omega) (by omega)) m_recv ⟨_, _, rfl⟩ rfl (Nat.le_of_ble_eq_true rfl) rfl dX7_sum_19 (by decide) (by decide) (fun E x9 h9 => absurd h9.1 (by intro h; cases h)) (fun r9 x9 h9 => ?_)
        obtain ⟨e9, rfl⟩ := h9
        cases e9
        refine x_if_eq (tgt := 69) C dX7_sum_22 (by decide) (by first | omega | exact bi_rng _) (fun h22 => ?_) (fun h22 => ?_)
        ·
          try replace h22 := bi_eq0.mp h22
          refine x_iconst C dX7_sum_69 ?_
          refine x_istore C dX7_sum_70 (by rw [hn]; exact Nat.le_of_ble_eq_true rfl) ?_
          refine x_iload C dX7_sum_72 rfl ?_
          refine x_iload C dX7_sum_74 rfl ?_
          refine x_if_eq (tgt := 93) C dX7_sum_76 (by decide) (by decide) (fun _ => ?_) (fun h => absurd h (by decide))
          try replace h86 := bi_eq0.mp h86
          refine x_iconst C dX7_sum_93 ?_
          refine x_iadd C dX7_sum_94 ?_
          refine x_istore C dX7_sum_95 (by rw [hn]; exact Nat.le_of_ble_eq_true rfl) ?_
          refine x_iinc C dX7_sum_97 (by rw [hn]; exact Nat.le_of_ble_eq_true rfl) rfl ?_
          refine x_goto (tgt := 6) C dX7_sum_100 (by decide) ?_
          exact X.to (ih (i + 1) (by omega) (by omega)) (lsc rfl (lsc rfl (lsc rfl (lsc rfl (lsc rfl (lsc rfl (lsc (lkv (by simp only [sumF]; split <;> omega)) (lsc rfl (lsn)))))))))
        ·
          replace h22 := bi_ne0.mp h22
          have htm := tmOf_in hM (e := i) (by omega) (by omega)
          refine x_aload_n C dX7_sum_25 rfl rfl ?_
          refine m_get (f := 6) C (by decide) u2_3 rfl rfl dX7_sum_26 ?_
          refine x_iload C dX7_sum_29 rfl ?_
          refine m_iald (f := 6) (q0 := 4) (N := 200) C rfl (by decide) (by first | omega | exact bi_rng _) dX7_sum_31 ?_
          refine x_iload_n C dX7_sum_32 rfl rfl ?_
          refine x_icmp_ne (tgt := 69) C dX7_sum_33 (by decide) (by first | omega | exact bi_rng _) (by first | omega | exact bi_rng _) (fun h33 => ?_) (fun h33 => ?_)
          ·
            try replace h22 := bi_eq0.mp h22
            refine x_iconst C dX7_sum_69 ?_
            refine x_istore C dX7_sum_70 (by rw [hn]; exact Nat.le_of_ble_eq_true rfl) ?_
            refine x_iload C dX7_sum_72 rfl ?_
            refine x_iload C dX7_sum_74 rfl ?_
            refine x_if_eq (tgt := 93) C dX7_sum_76 (by decide) (by decide) (fun _ => ?_) (fun h => absurd h (by decide))
            try replace h86 := bi_eq0.mp h86
            refine x_iconst C dX7_sum_93 ?_
            refine x_iadd C dX7_sum_94 ?_
            refine x_istore C dX7_sum_95 (by rw [hn]; exact Nat.le_of_ble_eq_true rfl) ?_
            refine x_iinc C dX7_sum_97 (by rw [hn]; exact Nat.le_of_ble_eq_true rfl) rfl ?_
            refine x_goto (tgt := 6) C dX7_sum_100 (by decide) ?_
            exact X.to (ih (i + 1) (by omega) (by omega)) (lsc rfl (lsc rfl (lsc rfl (lsc rfl (lsc rfl (lsc rfl (lsc (lkv (by simp only [sumF]; split <;> omega)) (lsc rfl (lsn)))))))))
          ·
            refine x_aload_n C dX7_sum_36 rfl rfl ?_
            refine x_iload C dX7_sum_37 rfl ?_
            refine x_callV C hR cb_X7_timeOf cv_X7_timeOf u18_0 (k_X7_timeOf hst hM (by omega)) m_recv ⟨_, _, rfl⟩ rfl (Nat.le_of_ble_eq_true rfl) rfl dX7_sum_39 (by decide) (by decide) (fun E x9 h9 => absurd h9.1 (by intro h; cases h)) (fun r9 x9 h9 => ?_)
            obtain ⟨e9, rfl⟩ := h9
            cases e9
            refine x_iload C dX7_sum_42 rfl ?_
            refine x_icmp_gt (tgt := 69) C dX7_sum_44 (by decide) (by first | omega | exact bi_rng _) (by first | omega | exact bi_rng _) (fun h44 => ?_) (fun h44 => ?_)
            ·
              try replace h22 := bi_eq0.mp h22
              refine x_iconst C dX7_sum_69 ?_
              refine x_istore C dX7_sum_70 (by rw [hn]; exact Nat.le_of_ble_eq_true rfl) ?_
              refine x_iload C dX7_sum_72 rfl ?_
              refine x_iload C dX7_sum_74 rfl ?_
              refine x_if_eq (tgt := 93) C dX7_sum_76 (by decide) (by decide) (fun _ => ?_) (fun h => absurd h (by decide))
              try replace h86 := bi_eq0.mp h86
              refine x_iconst C dX7_sum_93 ?_
              refine x_iadd C dX7_sum_94 ?_
              refine x_istore C dX7_sum_95 (by rw [hn]; exact Nat.le_of_ble_eq_true rfl) ?_
              refine x_iinc C dX7_sum_97 (by rw [hn]; exact Nat.le_of_ble_eq_true rfl) rfl ?_
              refine x_goto (tgt := 6) C dX7_sum_100 (by decide) ?_
              exact X.to (ih (i + 1) (by omega) (by omega)) (lsc rfl (lsc rfl (lsc rfl (lsc rfl (lsc rfl (lsc rfl (lsc (lkv (by simp only [sumF]; split <;> omega)) (lsc rfl (lsn)))))))))
            ·
              refine x_aload_n C dX7_sum_47 rfl rfl ?_
              refine x_iload C dX7_sum_48 rfl ?_
              refine x_callV C hR cb_X7_timeOf cv_X7_timeOf u18_0 (k_X7_timeOf hst hM (by omega)) m_recv ⟨_, _, rfl⟩ rfl (Nat.le_of_ble_eq_true rfl) rfl dX7_sum_50 (by decide) (by decide) (fun E x9 h9 => absurd h9.1 (by intro h; cases h)) (fun r9 x9 h9 => ?_)
              obtain ⟨e9, rfl⟩ := h9
              cases e9
              refine x_iload C dX7_sum_53 rfl ?_
              refine x_sipush C dX7_sum_55 (by decide) ?_
              refine x_iload C dX7_sum_58 rfl ?_
              refine x_imul C dX7_sum_60 ?_
              refine x_isub C dX7_sum_61 ?_
              refine x_icmp_le (tgt := 69) C dX7_sum_62 (by decide) (by first | omega | exact bi_rng _) (by first | omega | exact bi_rng _) (fun h62 => ?_) (fun h62 => ?_)
              ·
                try replace h22 := bi_eq0.mp h22
                refine x_iconst C dX7_sum_69 ?_
                refine x_istore C dX7_sum_70 (by rw [hn]; exact Nat.le_of_ble_eq_true rfl) ?_
                refine x_iload C dX7_sum_72 rfl ?_
                refine x_iload C dX7_sum_74 rfl ?_
                refine x_if_eq (tgt := 93) C dX7_sum_76 (by decide) (by decide) (fun _ => ?_) (fun h => absurd h (by decide))
                try replace h86 := bi_eq0.mp h86
                refine x_iconst C dX7_sum_93 ?_
                refine x_iadd C dX7_sum_94 ?_
                refine x_istore C dX7_sum_95 (by rw [hn]; exact Nat.le_of_ble_eq_true rfl) ?_
                refine x_iinc C dX7_sum_97 (by rw [hn]; exact Nat.le_of_ble_eq_true rfl) rfl ?_
                refine x_goto (tgt := 6) C dX7_sum_100 (by decide) ?_
                exact X.to (ih (i + 1) (by omega) (by omega)) (lsc rfl (lsc rfl (lsc rfl (lsc rfl (lsc rfl (lsc rfl (lsc (lkv (by simp only [sumF]; split <;> omega)) (lsc rfl (lsn)))))))))
              ·
                refine x_iconst C dX7_sum_65 ?_
                refine x_goto (tgt := 70) C dX7_sum_66 (by decide) ?_
                refine x_istore C dX7_sum_70 (by rw [hn]; exact Nat.le_of_ble_eq_true rfl) ?_
                refine x_iload C dX7_sum_72 rfl ?_
                refine x_iload C dX7_sum_74 rfl ?_
                refine x_if_eq (tgt := 93) C dX7_sum_76 (by decide) (by decide) (fun h => absurd h (by decide)) (fun _ => ?_)
                refine x_aload_n C dX7_sum_79 rfl rfl ?_
                refine x_iload C dX7_sum_80 rfl ?_
                refine x_iload_n C dX7_sum_82 rfl rfl ?_
                refine x_callV C hR cb_X7_counts cv_X7_counts u22_7 (k_X7_counts hst hM (by omega) (by omega)) m_recv ⟨_, _, rfl⟩ rfl (Nat.le_of_ble_eq_true rfl) rfl dX7_sum_83 (by decide) (by decide) (fun E x9 h9 => absurd h9.1 (by intro h; cases h)) (fun r9 x9 h9 => ?_)
                obtain ⟨e9, rfl⟩ := h9
                cases e9
                refine x_if_eq (tgt := 93) C dX7_sum_86 (by decide) (by first | omega | exact bi_rng _) (fun h86 => ?_) (fun h86 => ?_)
                ·
                  try replace h86 := bi_eq0.mp h86
                  refine x_iconst C dX7_sum_93 ?_
                  refine x_iadd C dX7_sum_94 ?_
                  refine x_istore C dX7_sum_95 (by rw [hn]; exact Nat.le_of_ble_eq_true rfl) ?_
                  refine x_iinc C dX7_sum_97 (by rw [hn]; exact Nat.le_of_ble_eq_true rfl) rfl ?_
                  refine x_goto (tgt := 6) C dX7_sum_100 (by decide) ?_
                  exact X.to (ih (i + 1) (by omega) (by omega)) (lsc rfl (lsc rfl (lsc rfl (lsc rfl (lsc rfl (lsc rfl (lsc (lkv (by simp only [sumF]; split <;> omega)) (lsc rfl (lsn)))))))))
                ·
                  try replace h86 := bi_ne0.mp h86
                  refine x_iconst C dX7_sum_89 ?_
                  refine x_goto (tgt := 94) C dX7_sum_90 (by decide) ?_
                  refine x_iadd C dX7_sum_94 ?_
                  refine x_istore C dX7_sum_95 (by rw [hn]; exact Nat.le_of_ble_eq_true rfl) ?_
                  refine x_iinc C dX7_sum_97 (by rw [hn]; exact Nat.le_of_ble_eq_true rfl) rfl ?_
                  refine x_goto (tgt := 6) C dX7_sum_100 (by decide) ?_
                  exact X.to (ih (i + 1) (by omega) (by omega)) (lsc rfl (lsc rfl (lsc rfl (lsc rfl (lsc rfl (lsc rfl (lsc (lkv (by simp only [sumF]; split <;> omega)) (lsc rfl (lsn)))))))))
  refine x_iconst C dX7_sum_0 ?_
  refine x_istore C dX7_sum_1 (by rw [hn]; exact Nat.le_of_ble_eq_true rfl) ?_
  refine x_iconst C dX7_sum_3 ?_
  refine x_istore C dX7_sum_4 (by rw [hn]; exact Nat.le_of_ble_eq_true rfl) ?_
  exact X.to (loop (N + 1) 0 (by omega) (by omega)) (lsc rfl (lsc rfl (lsc rfl (lsc rfl (lsc rfl (lsc rfl (lsc rfl (lsc rfl (lsn)))))))))

set_option maxRecDepth 100000 in
set_option maxHeartbeats 4000000 in
theorem k_X7_isMember {l : Launch} {D : va_G} {cy : CY} (hst : l.stackTraces = false) {b : Nat → Nat} {t : Int} {M : MS} {node g : Int} (hM : MI M) (hnode : 0 ≤ node ∧ node < 20) (hg : 0 ≤ g ∧ g < M 17 0) : Ct l D cy yX7_isMember (Cond.code yX7_isMember cX7_isMember 3 (some .boolean)) 3 77 0 0 (IM cy b) [vr (some (b 0)), vi node, vi g] (t, M) (fun r q' => r = .ok (some (vi (bi (M 20 g ≤ sumF M node (M 18 g) (M 19 g) (M 1 0) (M 21 g) (M 2 0).toNat)))) ∧ q' = (t, M)) := by
  refine Ct.of1 (own := RX7) hst (by decide) rfl (Nat.le_of_ble_eq_true rfl) (cat1 (vr_cat _) (cat1 (vi_cat _) (cat1 (vi_cat _) (cat0)))) ?_
  intro φ C hQ hn hR hl hD
  subst hl hD
  obtain ⟨g1, g2, g3, g4⟩ := hM.gr g hg.1 hg.2
  have g5 := hM.gn
  have g6 := hM.now
  have hN := hM.n
  have hs := sumF_in M node (M 18 g) (M 19 g) (M 1 0) (M 21 g) (M 2 0).toNat
  refine x_aload_n C dX7_isMember_0 rfl rfl ?_
  refine x_iload_n C dX7_isMember_1 rfl rfl ?_
  refine x_aload_n C dX7_isMember_2 rfl rfl ?_
  refine m_get (f := 18) C (by decide) u2_14 rfl rfl dX7_isMember_3 ?_
  refine x_iload_n C dX7_isMember_6 rfl rfl ?_
  refine m_iald (f := 18) (q0 := 15) (N := 8) C rfl (by decide) (by first | omega | exact bi_rng _) dX7_isMember_7 ?_
  refine x_aload_n C dX7_isMember_8 rfl rfl ?_
  refine m_get (f := 19) C (by decide) u2_15 rfl rfl dX7_isMember_9 ?_
  refine x_iload_n C dX7_isMember_12 rfl rfl ?_
  refine m_iald (f := 19) (q0 := 16) (N := 8) C rfl (by decide) (by first | omega | exact bi_rng _) dX7_isMember_13 ?_
  refine x_aload_n C dX7_isMember_14 rfl rfl ?_
  refine m_get (f := 1) C (by decide) u1_23 rfl rfl dX7_isMember_15 ?_
  refine x_aload_n C dX7_isMember_18 rfl rfl ?_
  refine m_get (f := 21) C (by decide) u2_17 rfl rfl dX7_isMember_19 ?_
  refine x_iload_n C dX7_isMember_22 rfl rfl ?_
  refine m_iald (f := 21) (q0 := 18) (N := 8) C rfl (by decide) (by first | omega | exact bi_rng _) dX7_isMember_23 ?_
  refine x_callV C hR cb_X7_sum cv_X7_sum u22_3 (k_X7_sum hst hM (by omega) (by omega) (by omega) (by omega) (by omega)) m_recv ⟨_, _, rfl⟩ rfl (Nat.le_of_ble_eq_true rfl) rfl dX7_isMember_24 (by decide) (by decide) (fun E x9 h9 => absurd h9.1 (by intro h; cases h)) (fun r9 x9 h9 => ?_)
  obtain ⟨e9, rfl⟩ := h9
  cases e9
  refine x_aload_n C dX7_isMember_27 rfl rfl ?_
  refine m_get (f := 20) C (by decide) u2_16 rfl rfl dX7_isMember_28 ?_
  refine x_iload_n C dX7_isMember_31 rfl rfl ?_
  refine m_iald (f := 20) (q0 := 17) (N := 8) C rfl (by decide) (by first | omega | exact bi_rng _) dX7_isMember_32 ?_
  refine x_icmp_lt (tgt := 40) C dX7_isMember_33 (by decide) (by first | omega | exact bi_rng _) (by first | omega | exact bi_rng _) (fun h33 => ?_) (fun h33 => ?_)
  ·
    refine x_iconst C dX7_isMember_40 ?_
    refine x_iret (ty := .boolean) C hQ dX7_isMember_41 rfl (by decide) (by decide) (by decide) ?_
    exact ⟨rv (by simp only [bi]; split <;> omega), rfl⟩
  ·
    refine x_iconst C dX7_isMember_36 ?_
    refine x_goto (tgt := 41) C dX7_isMember_37 (by decide) ?_
    refine x_iret (ty := .boolean) C hQ dX7_isMember_41 rfl (by decide) (by decide) (by decide) ?_
    exact ⟨rv (by simp only [bi]; split <;> omega), rfl⟩

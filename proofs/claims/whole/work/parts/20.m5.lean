/-! The reference's calls over the events in order -/
theorem tm_same {M M' : MS} (h : ∀ k, k ≠ 27 → M' k = M k) (e : Int) : tmOf M' e = tmOf M e := by
  unfold tmOf
  rw [h 8 (by decide), h 11 (by decide), h 4 (by decide)]
theorem nd_same {M M' : MS} (h : ∀ k, k ≠ 27 → M' k = M k) (e : Int) : ndOf M' e = ndOf M e := by
  unfold ndOf
  rw [h 12 (by decide), h 5 (by decide), h 4 (by decide)]
theorem Ord.same {M M' : MS} {l : List Int} (hl : Ord M l) (h : ∀ k, k ≠ 27 → M' k = M k) : Ord M' l := by
  refine ⟨hl.1.imp (fun {a b} hab => ?_), fun e => ?_⟩
  · simp only [ahd, tm_same h] at *
    exact hab
  · rw [h 2 (by decide), h 9 (by decide)]
    exact hl.2 e
def grF (M : MS) (node : Int) : Nat → Int
  | 0 => 0
  | g + 1 => bOp (· ||| ·) (grF M node g) (if M 20 g ≤ sumF M node (M 18 g) (M 19 g) (M 1 0) (M 21 g) (M 2 0).toNat then bOp (fun x y => x <<< (y &&& 31)) 1 g else 0)
set_option maxRecDepth 100000 in
set_option maxHeartbeats 4000000 in
theorem k_X7_events {l : Launch} {D : va_G} {cy : CY} (hst : l.stackTraces = false) {b : Nat → Nat} {t : Int} {M : MS} {node what : Int} (hM : MI M) (hnode : -2147483648 ≤ node ∧ node ≤ 2147483647) (hwhat : -2147483648 ≤ what ∧ what ≤ 2147483647) : Ct l D cy yX7_events (Cond.code yX7_events cX7_events 5 (some .int)) 2 46 0 0 (IM cy b) [vr (some (b 0)), vi node, vi what] (t, M) (fun r q' => (((0 ≤ node ∧ node ≤ 19) ∧ (-1 ≤ what ∧ what ≤ 4)) ∧ (∃ M1, Fnd M M1 ∧ r = .ok (some (vi (evF M1 node what (M1 2 0).toNat))) ∧ q' = (0, M1))) ∨ (¬ (((0 ≤ node ∧ node ≤ 19) ∧ (-1 ≤ what ∧ what ≤ 4))) ∧ r = .ok (some (vi 0)) ∧ q' = (1, M))) := by
  refine Ct.of1 (own := RX7) hst (by decide) rfl (Nat.le_of_ble_eq_true rfl) (cat1 (vr_cat _) (cat1 (vi_cat _) (cat1 (vi_cat _) (cat0)))) ?_
  intro φ C hQ hn hR hl hD
  subst hl hD
  refine x_aload_n C dX7_events_0 rfl rfl ?_
  refine x_aload_n C dX7_events_1 rfl rfl ?_
  refine x_iload_n C dX7_events_2 rfl rfl ?_
  refine x_callV C hR cb_X7_isNode cv_X7_isNode u11_19 (k_X7_isNode hst (by omega)) m_recv ⟨_, _, rfl⟩ rfl (Nat.le_of_ble_eq_true rfl) rfl dX7_events_3 (by decide) (by decide) (fun E x9 h9 => absurd h9.1 (by intro h; cases h)) (fun r9 x9 h9 => ?_)
  obtain ⟨e9, rfl⟩ := h9
  cases e9
  refine x_if_eq (tgt := 22) C dX7_events_6 (by decide) (by first | omega | exact bi_rng _) (fun h6 => ?_) (fun h6 => ?_)
  ·
    replace h6 := bi_eq0.mp h6
    refine x_iconst C dX7_events_22 ?_
    refine m_put (f := 0) C (by decide) u7_8 rfl rfl (by decide +kernel) (wsM_put0 _ _ _ _ _) dX7_events_23 ?_
    refine x_aload_n C dX7_events_26 rfl rfl ?_
    refine m_get (f := 0) C (by decide) u7_8 rfl rfl dX7_events_27 ?_
    refine x_if_le (tgt := 35) C dX7_events_30 (by decide) (by decide) (fun h => absurd h (by decide)) (fun _ => ?_)
    refine x_iconst C dX7_events_33 ?_
    refine x_iret (ty := .int) C hQ dX7_events_34 rfl rfl (by decide) (by decide) ?_
    exact Or.inr ⟨by omega, rfl, rfl⟩
  ·
    replace h6 := bi_ne0.mp h6
    refine x_iload_n C dX7_events_9 rfl rfl ?_
    refine x_iconst C dX7_events_10 ?_
    refine x_iconst C dX7_events_11 ?_
    refine x_callS C hR cb_X7_isIn u7_11 u7_10 (k_X7_isIn hst (by omega) (by omega) (by omega)) rfl (Nat.le_of_ble_eq_true rfl) rfl dX7_events_12 (by decide) (by decide) (fun E x9 h9 => absurd h9.1 (by intro h; cases h)) (fun r9 x9 h9 => ?_)
    obtain ⟨e9, rfl⟩ := h9
    cases e9
    refine x_if_eq (tgt := 22) C dX7_events_15 (by decide) (by first | omega | exact bi_rng _) (fun h15 => ?_) (fun h15 => ?_)
    ·
      replace h15 := bi_eq0.mp h15
      refine x_iconst C dX7_events_22 ?_
      refine m_put (f := 0) C (by decide) u7_8 rfl rfl (by decide +kernel) (wsM_put0 _ _ _ _ _) dX7_events_23 ?_
      refine x_aload_n C dX7_events_26 rfl rfl ?_
      refine m_get (f := 0) C (by decide) u7_8 rfl rfl dX7_events_27 ?_
      refine x_if_le (tgt := 35) C dX7_events_30 (by decide) (by decide) (fun h => absurd h (by decide)) (fun _ => ?_)
      refine x_iconst C dX7_events_33 ?_
      refine x_iret (ty := .int) C hQ dX7_events_34 rfl rfl (by decide) (by decide) ?_
      exact Or.inr ⟨by omega, rfl, rfl⟩
    ·
      replace h15 := bi_ne0.mp h15
      refine x_iconst C dX7_events_18 ?_
      refine x_goto (tgt := 23) C dX7_events_19 (by decide) ?_
      refine m_put (f := 0) C (by decide) u7_8 rfl rfl (by decide +kernel) (wsM_put0 _ _ _ _ _) dX7_events_23 ?_
      refine x_aload_n C dX7_events_26 rfl rfl ?_
      refine m_get (f := 0) C (by decide) u7_8 rfl rfl dX7_events_27 ?_
      refine x_if_le (tgt := 35) C dX7_events_30 (by decide) (by decide) (fun _ => ?_) (fun h => absurd h (by decide))
      refine x_aload_n C dX7_events_35 rfl rfl ?_
      refine x_callV C hR cb_X7_finds cv_X7_finds u14_11 (k_X7_finds hst hM) m_recv ⟨_, _, rfl⟩ rfl (Nat.le_of_ble_eq_true rfl) rfl dX7_events_36 (by decide) (by decide) (fun E x9 h9 => absurd h9.1 (by intro h; cases h)) (fun r9 x9 h9 => ?_)
      obtain ⟨e9, M1, hs1, hlo1, rfl⟩ := h9
      cases e9
      have hF : Fnd M M1 := ⟨hs1, hlo1⟩
      have hM1 := hF.MI hM
      have hn1 : M1 2 0 = M 2 0 := by rw [hs1 2 (by decide)]
      have hN1 := hM1.n
      obtain ⟨N, hNe⟩ : ∃ N : Nat, (N : Int) = M1 2 0 := ⟨(M1 2 0).toNat, Int.toNat_of_nonneg hN1.1⟩
      refine x_iconst C dX7_events_39 ?_
      refine x_istore_n C dX7_events_40 rfl (by rw [hn]; exact Nat.le_of_ble_eq_true rfl) ?_
      refine x_iconst C dX7_events_41 ?_
      refine x_istore C dX7_events_42 (by rw [hn]; exact Nat.le_of_ble_eq_true rfl) ?_
      have loop : ∀ (f i : Nat), i ≤ N → N - i < f → X φ (IM cy b (0, M1)) 0 0 44 [(0, vr (some (b 0))), (1, vi node), (2, vi what), (3, vi (evF M1 node what i)), (4, vi (i : Int))] [] := by
        intro f
        induction f with
        | zero => intro i h1 h2; omega
        | succ f ih =>
          intro i h1 h2
          have hb := evF_in M1 node what i
          refine x_iload C dX7_events_44 rfl ?_
          refine x_aload_n C dX7_events_46 rfl rfl ?_
          refine m_get (f := 2) C (by decide) u7_9 rfl rfl dX7_events_47 ?_
          refine x_icmp_ge (tgt := 93) C dX7_events_50 (by decide) (by first | omega | exact bi_rng _) (by first | omega | exact bi_rng _) (fun h50 => ?_) (fun h50 => ?_)
          ·
            refine x_iload_n C dX7_events_93 rfl rfl ?_
            refine x_iret (ty := .int) C hQ dX7_events_94 rfl rfl (by decide) (by decide) ?_
            exact Or.inl ⟨⟨by omega, by omega⟩, M1, hF, rv (by rw [show i = (M1 2 0).toNat by omega]), rfl⟩
          ·
            obtain ⟨⟨e3a, e3b⟩, ⟨e4a, e4b⟩, ⟨e5a, e5b⟩, ⟨e6a, e6b⟩, ⟨e7a, e7b⟩, ⟨e8a, e8b⟩⟩ := hM1.ev i (by omega) (by omega)
            refine x_iload_n C dX7_events_53 rfl rfl ?_
            refine x_aload_n C dX7_events_54 rfl rfl ?_
            refine x_iload C dX7_events_55 rfl ?_
            refine x_iload_n C dX7_events_57 rfl rfl ?_
            refine x_callV C hR cb_X7_belongs cv_X7_belongs u14_19 (k_X7_belongs hst hM1 (by omega) (by omega)) m_recv ⟨_, _, rfl⟩ rfl (Nat.le_of_ble_eq_true rfl) rfl dX7_events_58 (by decide) (by decide) (fun E x9 h9 => absurd h9.1 (by intro h; cases h)) (fun r9 x9 h9 => ?_)
            obtain ⟨e9, rfl⟩ := h9
            cases e9
            refine x_if_eq (tgt := 84) C dX7_events_61 (by decide) (by first | omega | exact bi_rng _) (fun h61 => ?_) (fun h61 => ?_)
            ·
              replace h61 := bi_eq0.mp h61
              refine x_iconst C dX7_events_84 ?_
              refine x_iadd C dX7_events_85 ?_
              refine x_istore_n C dX7_events_86 rfl (by rw [hn]; exact Nat.le_of_ble_eq_true rfl) ?_
              refine x_iinc C dX7_events_87 (by rw [hn]; exact Nat.le_of_ble_eq_true rfl) rfl ?_
              refine x_goto (tgt := 44) C dX7_events_90 (by decide) ?_
              exact X.to (ih (i + 1) (by omega) (by omega)) (lsc rfl (lsc rfl (lsc rfl (lsc (lkv (by simp only [evF]; split <;> omega)) (lsc rfl (lsn))))))
            ·
              replace h61 := bi_ne0.mp h61
              refine x_iload_n C dX7_events_64 rfl rfl ?_
              refine x_iconst C dX7_events_65 ?_
              refine x_icmp_eq (tgt := 80) C dX7_events_66 (by decide) (by first | omega | exact bi_rng _) (by first | omega | exact bi_rng _) (fun h66 => ?_) (fun h66 => ?_)
              ·
                refine x_iconst C dX7_events_80 ?_
                refine x_goto (tgt := 85) C dX7_events_81 (by decide) ?_
                refine x_iadd C dX7_events_85 ?_
                refine x_istore_n C dX7_events_86 rfl (by rw [hn]; exact Nat.le_of_ble_eq_true rfl) ?_
                refine x_iinc C dX7_events_87 (by rw [hn]; exact Nat.le_of_ble_eq_true rfl) rfl ?_
                refine x_goto (tgt := 44) C dX7_events_90 (by decide) ?_
                exact X.to (ih (i + 1) (by omega) (by omega)) (lsc rfl (lsc rfl (lsc rfl (lsc (lkv (by simp only [evF]; split <;> omega)) (lsc rfl (lsn))))))
              ·
                refine x_aload_n C dX7_events_69 rfl rfl ?_
                refine m_get (f := 6) C (by decide) u2_3 rfl rfl dX7_events_70 ?_
                refine x_iload C dX7_events_73 rfl ?_
                refine m_iald (f := 6) (q0 := 4) (N := 200) C rfl (by decide) (by first | omega | exact bi_rng _) dX7_events_75 ?_
                refine x_iload_n C dX7_events_76 rfl rfl ?_
                refine x_icmp_ne (tgt := 84) C dX7_events_77 (by decide) (by first | omega | exact bi_rng _) (by first | omega | exact bi_rng _) (fun h77 => ?_) (fun h77 => ?_)
                ·
                  refine x_iconst C dX7_events_84 ?_
                  refine x_iadd C dX7_events_85 ?_
                  refine x_istore_n C dX7_events_86 rfl (by rw [hn]; exact Nat.le_of_ble_eq_true rfl) ?_
                  refine x_iinc C dX7_events_87 (by rw [hn]; exact Nat.le_of_ble_eq_true rfl) rfl ?_
                  refine x_goto (tgt := 44) C dX7_events_90 (by decide) ?_
                  exact X.to (ih (i + 1) (by omega) (by omega)) (lsc rfl (lsc rfl (lsc rfl (lsc (lkv (by simp only [evF]; split <;> omega)) (lsc rfl (lsn))))))
                ·
                  refine x_iconst C dX7_events_80 ?_
                  refine x_goto (tgt := 85) C dX7_events_81 (by decide) ?_
                  refine x_iadd C dX7_events_85 ?_
                  refine x_istore_n C dX7_events_86 rfl (by rw [hn]; exact Nat.le_of_ble_eq_true rfl) ?_
                  refine x_iinc C dX7_events_87 (by rw [hn]; exact Nat.le_of_ble_eq_true rfl) rfl ?_
                  refine x_goto (tgt := 44) C dX7_events_90 (by decide) ?_
                  exact X.to (ih (i + 1) (by omega) (by omega)) (lsc rfl (lsc rfl (lsc rfl (lsc (lkv (by simp only [evF]; split <;> omega)) (lsc rfl (lsn))))))
      exact X.to (loop (N + 1) 0 (by omega) (by omega)) (lsc rfl (lsc rfl (lsc rfl (lsc rfl (lsc rfl (lsn))))))

set_option maxRecDepth 100000 in
set_option maxHeartbeats 4000000 in
theorem k_X7_eventAt {l : Launch} {D : va_G} {cy : CY} (hst : l.stackTraces = false) {b : Nat → Nat} {t : Int} {M : MS} {node pl : Int} {ch : List Int} (hM : MI M) (hO : Ord M ch) (hnode : -2147483648 ≤ node ∧ node ≤ 2147483647) (hpl : -2147483648 ≤ pl ∧ pl ≤ 2147483647) : Ct l D cy yX7_eventAt (Cond.code yX7_eventAt cX7_eventAt 5 (some .int)) 3 69 0 0 (IM cy b) [vr (some (b 0)), vi node, vi pl] (t, M) (fun r q' => ((0 ≤ node ∧ node ≤ 19) ∧ 0 ≤ pl ∧ (∃ M1, Fnd M M1 ∧ ((at1 (prof M1 ch node) pl.toNat = -1 ∧ r = .ok (some (vi 0)) ∧ q' = (1, M1)) ∨ (¬ at1 (prof M1 ch node) pl.toNat = -1 ∧ r = .ok (some (vi (M1 3 (at1 (prof M1 ch node) pl.toNat)))) ∧ q' = (0, M1))))) ∨ ((0 ≤ node ∧ node ≤ 19) ∧ pl < 0 ∧ r = .ok (some (vi 0)) ∧ q' = (1, M)) ∨ (¬ (0 ≤ node ∧ node ≤ 19) ∧ r = .ok (some (vi 0)) ∧ q' = (2, M))) := by
  refine Ct.of1 (own := RX7) hst (by decide) rfl (Nat.le_of_ble_eq_true rfl) (cat1 (vr_cat _) (cat1 (vi_cat _) (cat1 (vi_cat _) (cat0)))) ?_
  intro φ C hQ hn hR hl hD
  subst hl hD
  refine x_aload_n C dX7_eventAt_0 rfl rfl ?_
  refine x_aload_n C dX7_eventAt_1 rfl rfl ?_
  refine x_iload_n C dX7_eventAt_2 rfl rfl ?_
  refine x_callV C hR cb_X7_isNode cv_X7_isNode u11_19 (k_X7_isNode hst (by omega)) m_recv ⟨_, _, rfl⟩ rfl (Nat.le_of_ble_eq_true rfl) rfl dX7_eventAt_3 (by decide) (by decide) (fun E x9 h9 => absurd h9.1 (by intro h; cases h)) (fun r9 x9 h9 => ?_)
  obtain ⟨e9, rfl⟩ := h9
  cases e9
  refine x_if_ne (tgt := 13) C dX7_eventAt_6 (by decide) (by first | omega | exact bi_rng _) (fun h6 => ?_) (fun h6 => ?_)
  ·
    replace h6 := bi_ne0.mp h6
    refine x_iload_n C dX7_eventAt_13 rfl rfl ?_
    refine x_if_ge (tgt := 21) C dX7_eventAt_14 (by decide) (by first | omega | exact bi_rng _) (fun h14 => ?_) (fun h14 => ?_)
    ·
      refine x_iconst C dX7_eventAt_21 ?_
      refine m_put (f := 0) C (by decide) u7_8 rfl rfl (by decide +kernel) (wsM_put0 _ _ _ _ _) dX7_eventAt_22 ?_
      refine x_aload_n C dX7_eventAt_25 rfl rfl ?_
      refine m_get (f := 0) C (by decide) u7_8 rfl rfl dX7_eventAt_26 ?_
      refine x_if_le (tgt := 34) C dX7_eventAt_29 (by decide) (by decide) (fun _ => ?_) (fun h => absurd h (by decide))
      refine x_aload_n C dX7_eventAt_34 rfl rfl ?_
      refine x_callV C hR cb_X7_finds cv_X7_finds u14_11 (k_X7_finds hst hM) m_recv ⟨_, _, rfl⟩ rfl (Nat.le_of_ble_eq_true rfl) rfl dX7_eventAt_35 (by decide) (by decide) (fun E x9 h9 => absurd h9.1 (by intro h; cases h)) (fun r9 x9 h9 => ?_)
      obtain ⟨e9, M1, hs1, hlo1, rfl⟩ := h9
      cases e9
      have hF : Fnd M M1 := ⟨hs1, hlo1⟩
      have hM1 := hF.MI hM
      have hn1 : M1 2 0 = M 2 0 := by rw [hs1 2 (by decide)]
      have hN1 := hM1.n
      obtain ⟨p, hp0⟩ : ∃ p, p = prof M1 ch node := ⟨_, rfl⟩
      have hp : PR M1 node p := by rw [hp0]; exact (hO.same hs1).pr node
      have hpn := hp.at_rng hN1.1
      have hi0 := hpn 0
      refine x_aload_n C dX7_eventAt_38 rfl rfl ?_
      refine x_iload_n C dX7_eventAt_39 rfl rfl ?_
      refine x_iconst C dX7_eventAt_40 ?_
      refine x_callV C hR cb_X7_behind cv_X7_behind u17_16 (k_X7_behind hst hM1 (by omega) (by omega)) m_recv ⟨_, _, rfl⟩ rfl (Nat.le_of_ble_eq_true rfl) rfl dX7_eventAt_41 (by decide) (by decide) (fun E x9 h9 => absurd h9.1 (by intro h; cases h)) (fun r9 x9 h9 => ?_)
      obtain ⟨e9, rfl⟩ := h9
      cases e9
      rw [hp.next hN1.1 (k := 0) (Or.inl ⟨rfl, rfl⟩)]
      refine x_istore_n C dX7_eventAt_44 rfl (by rw [hn]; exact Nat.le_of_ble_eq_true rfl) ?_
      refine x_iconst C dX7_eventAt_45 ?_
      refine x_istore C dX7_eventAt_46 (by rw [hn]; exact Nat.le_of_ble_eq_true rfl) ?_
      have loop : ∀ (f i : Nat), (i : Int) ≤ pl → (pl - i).toNat < f → X φ (IM cy b (0, M1)) 0 0 48 [(0, vr (some (b 0))), (1, vi node), (2, vi pl), (3, vi (at1 p i)), (4, vi (i : Int))] [] := by
        intro f
        induction f with
        | zero => intro i h1 h2; omega
        | succ f ih =>
          intro i h1 h2
          have hi1 := hpn i
          have hi2 := hpn pl.toNat
          refine x_iload C dX7_eventAt_48 rfl ?_
          refine x_iload_n C dX7_eventAt_50 rfl rfl ?_
          refine x_icmp_ge (tgt := 72) C dX7_eventAt_51 (by decide) (by first | omega | exact bi_rng _) (by first | omega | exact bi_rng _) (fun h51 => ?_) (fun h51 => ?_)
          ·
            have hat9 : at1 p i = at1 p pl.toNat := by (by_cases hq : (i : Int) = pl; (rw [← hq, Int.toNat_natCast]); (rw [at1_ge (show p.length ≤ i by omega), at1_ge (show p.length ≤ pl.toNat by omega)]))
            refine x_aload_n C dX7_eventAt_72 rfl rfl ?_
            refine x_iload_n C dX7_eventAt_73 rfl rfl ?_
            refine x_iconst C dX7_eventAt_74 ?_
            refine x_icmp_ne (tgt := 82) C dX7_eventAt_75 (by decide) (by first | omega | exact bi_rng _) (by first | omega | exact bi_rng _) (fun h75 => ?_) (fun h75 => ?_)
            ·
              refine x_iconst C dX7_eventAt_82 ?_
              refine m_put (f := 0) C (by decide) u7_8 rfl rfl (by decide +kernel) (wsM_put0 _ _ _ _ _) dX7_eventAt_83 ?_
              refine x_aload_n C dX7_eventAt_86 rfl rfl ?_
              refine m_get (f := 0) C (by decide) u7_8 rfl rfl dX7_eventAt_87 ?_
              refine x_if_le (tgt := 97) C dX7_eventAt_90 (by decide) (by decide) (fun _ => ?_) (fun h => absurd h (by decide))
              refine x_aload_n C dX7_eventAt_97 rfl rfl ?_
              refine m_get (f := 3) C (by decide) u2_0 rfl rfl dX7_eventAt_98 ?_
              refine x_iload_n C dX7_eventAt_101 rfl rfl ?_
              refine m_iald (f := 3) (q0 := 1) (N := 200) C rfl (by decide) (by first | omega | exact bi_rng _) dX7_eventAt_102 ?_
              refine x_iret (ty := .int) C hQ dX7_eventAt_103 rfl rfl (by decide) (by decide) ?_
              refine Or.inl ⟨by omega, by omega, M1, hF, ?_⟩
              rw [← hp0]
              first | rw [← hat9]; first | exact Or.inl ⟨by omega, rfl, rfl⟩ | exact Or.inr ⟨by omega, rfl, rfl⟩
            ·
              refine x_iconst C dX7_eventAt_78 ?_
              refine x_goto (tgt := 83) C dX7_eventAt_79 (by decide) ?_
              refine m_put (f := 0) C (by decide) u7_8 rfl rfl (by decide +kernel) (wsM_put0 _ _ _ _ _) dX7_eventAt_83 ?_
              refine x_aload_n C dX7_eventAt_86 rfl rfl ?_
              refine m_get (f := 0) C (by decide) u7_8 rfl rfl dX7_eventAt_87 ?_
              refine x_if_le (tgt := 97) C dX7_eventAt_90 (by decide) (by decide) (fun h => absurd h (by decide)) (fun _ => ?_)
              refine x_iconst C dX7_eventAt_93 ?_
              refine x_goto (tgt := 103) C dX7_eventAt_94 (by decide) ?_
              refine x_iret (ty := .int) C hQ dX7_eventAt_103 rfl rfl (by decide) (by decide) ?_
              refine Or.inl ⟨by omega, by omega, M1, hF, ?_⟩
              rw [← hp0]
              first | rw [← hat9]; first | exact Or.inl ⟨by omega, rfl, rfl⟩ | exact Or.inr ⟨by omega, rfl, rfl⟩
          ·
            refine x_iload_n C dX7_eventAt_54 rfl rfl ?_
            refine x_iconst C dX7_eventAt_55 ?_
            refine x_icmp_eq (tgt := 72) C dX7_eventAt_56 (by decide) (by first | omega | exact bi_rng _) (by first | omega | exact bi_rng _) (fun h56 => ?_) (fun h56 => ?_)
            ·
              have hat9 : at1 p i = at1 p pl.toNat := by (by_cases hq : (i : Int) = pl; (rw [← hq, Int.toNat_natCast]); (rw [at1_ge (show p.length ≤ i by omega), at1_ge (show p.length ≤ pl.toNat by omega)]))
              refine x_aload_n C dX7_eventAt_72 rfl rfl ?_
              refine x_iload_n C dX7_eventAt_73 rfl rfl ?_
              refine x_iconst C dX7_eventAt_74 ?_
              refine x_icmp_ne (tgt := 82) C dX7_eventAt_75 (by decide) (by first | omega | exact bi_rng _) (by first | omega | exact bi_rng _) (fun h75 => ?_) (fun h75 => ?_)
              ·
                refine x_iconst C dX7_eventAt_82 ?_
                refine m_put (f := 0) C (by decide) u7_8 rfl rfl (by decide +kernel) (wsM_put0 _ _ _ _ _) dX7_eventAt_83 ?_
                refine x_aload_n C dX7_eventAt_86 rfl rfl ?_
                refine m_get (f := 0) C (by decide) u7_8 rfl rfl dX7_eventAt_87 ?_
                refine x_if_le (tgt := 97) C dX7_eventAt_90 (by decide) (by decide) (fun _ => ?_) (fun h => absurd h (by decide))
                refine x_aload_n C dX7_eventAt_97 rfl rfl ?_
                refine m_get (f := 3) C (by decide) u2_0 rfl rfl dX7_eventAt_98 ?_
                refine x_iload_n C dX7_eventAt_101 rfl rfl ?_
                refine m_iald (f := 3) (q0 := 1) (N := 200) C rfl (by decide) (by first | omega | exact bi_rng _) dX7_eventAt_102 ?_
                refine x_iret (ty := .int) C hQ dX7_eventAt_103 rfl rfl (by decide) (by decide) ?_
                refine Or.inl ⟨by omega, by omega, M1, hF, ?_⟩
                rw [← hp0]
                first | rw [← hat9]; first | exact Or.inl ⟨by omega, rfl, rfl⟩ | exact Or.inr ⟨by omega, rfl, rfl⟩
              ·
                refine x_iconst C dX7_eventAt_78 ?_
                refine x_goto (tgt := 83) C dX7_eventAt_79 (by decide) ?_
                refine m_put (f := 0) C (by decide) u7_8 rfl rfl (by decide +kernel) (wsM_put0 _ _ _ _ _) dX7_eventAt_83 ?_
                refine x_aload_n C dX7_eventAt_86 rfl rfl ?_
                refine m_get (f := 0) C (by decide) u7_8 rfl rfl dX7_eventAt_87 ?_
                refine x_if_le (tgt := 97) C dX7_eventAt_90 (by decide) (by decide) (fun h => absurd h (by decide)) (fun _ => ?_)
                refine x_iconst C dX7_eventAt_93 ?_
                refine x_goto (tgt := 103) C dX7_eventAt_94 (by decide) ?_
                refine x_iret (ty := .int) C hQ dX7_eventAt_103 rfl rfl (by decide) (by decide) ?_
                refine Or.inl ⟨by omega, by omega, M1, hF, ?_⟩
                rw [← hp0]
                first | rw [← hat9]; first | exact Or.inl ⟨by omega, rfl, rfl⟩ | exact Or.inr ⟨by omega, rfl, rfl⟩
            ·
              refine x_aload_n C dX7_eventAt_59 rfl rfl ?_
              refine x_iload_n C dX7_eventAt_60 rfl rfl ?_
              refine x_iload_n C dX7_eventAt_61 rfl rfl ?_
              refine x_callV C hR cb_X7_behind cv_X7_behind u17_16 (k_X7_behind hst hM1 (by omega) (by omega)) m_recv ⟨_, _, rfl⟩ rfl (Nat.le_of_ble_eq_true rfl) rfl dX7_eventAt_62 (by decide) (by decide) (fun E x9 h9 => absurd h9.1 (by intro h; cases h)) (fun r9 x9 h9 => ?_)
              obtain ⟨e9, rfl⟩ := h9
              cases e9
              rw [hp.next hN1.1 (k := i + 1) (Or.inr ⟨i, rfl, by omega, rfl⟩)]
              refine x_istore_n C dX7_eventAt_65 rfl (by rw [hn]; exact Nat.le_of_ble_eq_true rfl) ?_
              refine x_iinc C dX7_eventAt_66 (by rw [hn]; exact Nat.le_of_ble_eq_true rfl) rfl ?_
              refine x_goto (tgt := 48) C dX7_eventAt_69 (by decide) ?_
              exact X.to (ih (i + 1) (by omega) (by omega)) (lsc rfl (lsc rfl (lsc rfl (lsc rfl (lsc rfl (lsn))))))
      exact X.to (loop ((pl - 0).toNat + 1) 0 (by omega) (by omega)) (lsc rfl (lsc rfl (lsc rfl (lsc rfl (lsc rfl (lsn))))))
    ·
      refine x_iconst C dX7_eventAt_17 ?_
      refine x_goto (tgt := 22) C dX7_eventAt_18 (by decide) ?_
      refine m_put (f := 0) C (by decide) u7_8 rfl rfl (by decide +kernel) (wsM_put0 _ _ _ _ _) dX7_eventAt_22 ?_
      refine x_aload_n C dX7_eventAt_25 rfl rfl ?_
      refine m_get (f := 0) C (by decide) u7_8 rfl rfl dX7_eventAt_26 ?_
      refine x_if_le (tgt := 34) C dX7_eventAt_29 (by decide) (by decide) (fun h => absurd h (by decide)) (fun _ => ?_)
      refine x_iconst C dX7_eventAt_32 ?_
      refine x_iret (ty := .int) C hQ dX7_eventAt_33 rfl rfl (by decide) (by decide) ?_
      first | exact Or.inr (Or.inl ⟨by omega, by omega, rfl, rfl⟩) | exact Or.inr (Or.inr ⟨by omega, rfl, rfl⟩)
  ·
    replace h6 := bi_eq0.mp h6
    refine x_iconst C dX7_eventAt_9 ?_
    refine x_goto (tgt := 22) C dX7_eventAt_10 (by decide) ?_
    refine m_put (f := 0) C (by decide) u7_8 rfl rfl (by decide +kernel) (wsM_put0 _ _ _ _ _) dX7_eventAt_22 ?_
    refine x_aload_n C dX7_eventAt_25 rfl rfl ?_
    refine m_get (f := 0) C (by decide) u7_8 rfl rfl dX7_eventAt_26 ?_
    refine x_if_le (tgt := 34) C dX7_eventAt_29 (by decide) (by decide) (fun h => absurd h (by decide)) (fun _ => ?_)
    refine x_iconst C dX7_eventAt_32 ?_
    refine x_iret (ty := .int) C hQ dX7_eventAt_33 rfl rfl (by decide) (by decide) ?_
    first | exact Or.inr (Or.inl ⟨by omega, by omega, rfl, rfl⟩) | exact Or.inr (Or.inr ⟨by omega, rfl, rfl⟩)

set_option maxRecDepth 100000 in
set_option maxHeartbeats 4000000 in
theorem k_X7_goes {l : Launch} {D : va_G} {cy : CY} (hst : l.stackTraces = false) {b : Nat → Nat} {t : Int} {M : MS} {node session what : Int} {ch : List Int} (hM : MI M) (hO : Ord M ch) (hnode : 0 ≤ node ∧ node < 20) (hsession : -2147483648 ≤ session ∧ session ≤ 2147483647) (hw : 0 ≤ what ∧ what ≤ 4) : Ct l D cy yX7_goes (Cond.code yX7_goes cX7_goes 11 (some .int)) 3 69 0 0 (IM cy b) [vr (some (b 0)), vi node, vi session, vi what] (t, M) (fun r q' => ∃ M1, Fnd M M1 ∧ r = .ok (some (vi (gsV M1 (prof M1 ch node) session what))) ∧ q' = (t, M1)) := by
  refine Ct.of1 (own := RX7) hst (by decide) rfl (Nat.le_of_ble_eq_true rfl) (cat1 (vr_cat _) (cat1 (vi_cat _) (cat1 (vi_cat _) (cat1 (vi_cat _) (cat0))))) ?_
  intro φ C hQ hn hR hl hD
  subst hl hD
  refine x_aload_n C dX7_goes_0 rfl rfl ?_
  refine x_callV C hR cb_X7_finds cv_X7_finds u14_11 (k_X7_finds hst hM) m_recv ⟨_, _, rfl⟩ rfl (Nat.le_of_ble_eq_true rfl) rfl dX7_goes_1 (by decide) (by decide) (fun E x9 h9 => absurd h9.1 (by intro h; cases h)) (fun r9 x9 h9 => ?_)
  obtain ⟨e9, M1, hs1, hlo1, rfl⟩ := h9
  cases e9
  have hF : Fnd M M1 := ⟨hs1, hlo1⟩
  have hM1 := hF.MI hM
  have hn1 : M1 2 0 = M 2 0 := by rw [hs1 2 (by decide)]
  have hN1 := hM1.n
  obtain ⟨p, hp0⟩ : ∃ p, p = prof M1 ch node := ⟨_, rfl⟩
  have hp : PR M1 node p := by rw [hp0]; exact (hO.same hs1).pr node
  have hpn := hp.at_rng hN1.1
  have hi0 := hpn 0
  have hple : (p.length : Int) ≤ M1 2 0 := by (rw [hp0]; have h8 := (hO.same hs1).len hN1.1; have h9 : (prof M1 ch node).length ≤ ch.length := List.length_filter_le _ _; omega)
  refine x_aload_n C dX7_goes_4 rfl rfl ?_
  refine x_iload_n C dX7_goes_5 rfl rfl ?_
  refine x_iconst C dX7_goes_6 ?_
  refine x_callV C hR cb_X7_behind cv_X7_behind u17_16 (k_X7_behind hst hM1 (by omega) (by omega)) m_recv ⟨_, _, rfl⟩ rfl (Nat.le_of_ble_eq_true rfl) rfl dX7_goes_7 (by decide) (by decide) (fun E x9 h9 => absurd h9.1 (by intro h; cases h)) (fun r9 x9 h9 => ?_)
  obtain ⟨e9, rfl⟩ := h9
  cases e9
  rw [hp.next hN1.1 (k := 0) (Or.inl ⟨rfl, rfl⟩)]
  refine x_istore C dX7_goes_10 (by rw [hn]; exact Nat.le_of_ble_eq_true rfl) ?_
  refine x_iconst C dX7_goes_12 ?_
  refine x_istore C dX7_goes_13 (by rw [hn]; exact Nat.le_of_ble_eq_true rfl) ?_
  have loop : ∀ (f k : Nat) (done : List Seg), k ≤ p.length → p.length - k < f → sgs M1 p = done ++ sgs M1 (p.drop k) → done.length ≤ k → (what = 4 ∨ session < 0 ∨ (done.length : Int) ≤ session) → X φ (IM cy b (t, M1)) 0 0 15 [(0, vr (some (b 0))), (1, vi node), (2, vi session), (3, vi what), (4, vi (at1 p k)), (5, vi (done.length : Int))] [] := by
    intro f
    induction f with
    | zero => intro k done h1 h2; omega
    | succ f ih =>
      intro k done h1 h2 hsp hdk hses
      have hkk := hpn k
      have k112 : ∀ (j : Nat) (la sz c : Int), k < j → j ≤ p.length → (0 ≤ la ∧ la = at1 p (j - 1)) → (-1 ≤ c ∧ c ≤ 9) → (at1 p j = -1 ∧ p.length ≤ j ∨ (j < p.length ∧ cts M1 la (at1 p j) c)) → sgs M1 (p.drop k) = sgGo M1 (at1 p k) la sz c (p.drop j) → X φ (IM cy b (t, M1)) 0 0 112 [(0, vr (some (b 0))), (1, vi node), (2, vi session), (3, vi what), (4, vi (at1 p k)), (5, vi (done.length : Int)), (6, vi (tmOf M1 (at1 p k))), (7, vi la), (8, vi sz), (9, vi c), (10, vi (at1 p j))] [] := by
        intro j la sz c hkj hj1 hla hc hend hsg
        rw [sgGo_end M1 _ _ _ _ hend] at hsg
        rw [hsg] at hsp
        have hsg := hsp
        have hjj := hpn j
        have hla1 := hpn (j - 1)
        refine x_iload_n C dX7_goes_112 rfl rfl ?_
        refine x_iconst C dX7_goes_113 ?_
        refine x_icmp_ge (tgt := 162) C dX7_goes_114 (by decide) (by first | omega | exact bi_rng _) (by first | omega | exact bi_rng _) (fun h114 => ?_) (fun h114 => ?_)
        ·
          refine x_iinc C dX7_goes_162 (by rw [hn]; exact Nat.le_of_ble_eq_true rfl) rfl ?_
          refine x_iload C dX7_goes_165 rfl ?_
          refine x_istore C dX7_goes_167 (by rw [hn]; exact Nat.le_of_ble_eq_true rfl) ?_
          refine x_goto (tgt := 15) C dX7_goes_169 (by decide) ?_
          have ihx := ih j (done ++ [(at1 p k, la, sz, c)]) (by omega) (by omega) (by rw [List.append_assoc]; exact hsg) (by rw [List.length_append]; simp only [List.length_singleton]; omega) (by rw [List.length_append]; simp only [List.length_singleton]; omega)
          exact X.to (ihx) (lsc rfl (lsc rfl (lsc rfl (lsc rfl (lsc rfl (lsc (lkv (by rw [List.length_append]; simp only [List.length_singleton]; omega)) (lsn)))))))
        ·
          refine x_iload C dX7_goes_117 rfl ?_
          refine x_iload_n C dX7_goes_119 rfl rfl ?_
          refine x_icmp_ne (tgt := 162) C dX7_goes_120 (by decide) (by first | omega | exact bi_rng _) (by first | omega | exact bi_rng _) (fun h120 => ?_) (fun h120 => ?_)
          ·
            refine x_iinc C dX7_goes_162 (by rw [hn]; exact Nat.le_of_ble_eq_true rfl) rfl ?_
            refine x_iload C dX7_goes_165 rfl ?_
            refine x_istore C dX7_goes_167 (by rw [hn]; exact Nat.le_of_ble_eq_true rfl) ?_
            refine x_goto (tgt := 15) C dX7_goes_169 (by decide) ?_
            have ihx := ih j (done ++ [(at1 p k, la, sz, c)]) (by omega) (by omega) (by rw [List.append_assoc]; exact hsg) (by rw [List.length_append]; simp only [List.length_singleton]; omega) (by rw [List.length_append]; simp only [List.length_singleton]; omega)
            exact X.to (ihx) (lsc rfl (lsc rfl (lsc rfl (lsc rfl (lsc rfl (lsc (lkv (by rw [List.length_append]; simp only [List.length_singleton]; omega)) (lsn)))))))
          ·
            refine x_iload_n C dX7_goes_123 rfl rfl ?_
            refine x_if_ne (tgt := 132) C dX7_goes_124 (by decide) (by first | omega | exact bi_rng _) (fun h124 => ?_) (fun h124 => ?_)
            ·
              refine x_iload_n C dX7_goes_132 rfl rfl ?_
              refine x_iconst C dX7_goes_133 ?_
              refine x_icmp_ne (tgt := 149) C dX7_goes_134 (by decide) (by first | omega | exact bi_rng _) (by first | omega | exact bi_rng _) (fun h134 => ?_) (fun h134 => ?_)
              ·
                refine x_iload_n C dX7_goes_149 rfl rfl ?_
                refine x_iconst C dX7_goes_150 ?_
                refine x_icmp_ne (tgt := 159) C dX7_goes_151 (by decide) (by first | omega | exact bi_rng _) (by first | omega | exact bi_rng _) (fun h151 => ?_) (fun h151 => ?_)
                ·
                  refine x_iload C dX7_goes_159 rfl ?_
                  refine x_iret (ty := .int) C hQ dX7_goes_161 rfl rfl (by decide) (by decide) ?_
                  refine ⟨M1, hF, ?_, rfl⟩
                  rw [← hp0, gsV_some hsg (by omega) (by omega)]
                  refine rv ?_
                  simp only [sgV]
                  repeat (first | rw [if_pos (by omega)] | rw [if_neg (by omega)])
                ·
                  refine x_iload C dX7_goes_154 rfl ?_
                  refine x_goto (tgt := 161) C dX7_goes_156 (by decide) ?_
                  refine x_iret (ty := .int) C hQ dX7_goes_161 rfl rfl (by decide) (by decide) ?_
                  refine ⟨M1, hF, ?_, rfl⟩
                  rw [← hp0, gsV_some hsg (by omega) (by omega)]
                  refine rv ?_
                  simp only [sgV]
                  repeat (first | rw [if_pos (by omega)] | rw [if_neg (by omega)])
              ·
                refine x_aload_n C dX7_goes_137 rfl rfl ?_
                refine x_iload C dX7_goes_138 rfl ?_
                refine x_callV C hR cb_X7_timeOf cv_X7_timeOf u18_0 (k_X7_timeOf hst hM1 (by omega)) m_recv ⟨_, _, rfl⟩ rfl (Nat.le_of_ble_eq_true rfl) rfl dX7_goes_140 (by decide) (by decide) (fun E x9 h9 => absurd h9.1 (by intro h; cases h)) (fun r9 x9 h9 => ?_)
                obtain ⟨e9, rfl⟩ := h9
                cases e9
                refine x_iload C dX7_goes_143 rfl ?_
                refine x_isub C dX7_goes_145 ?_
                refine x_goto (tgt := 161) C dX7_goes_146 (by decide) ?_
                refine x_iret (ty := .int) C hQ dX7_goes_161 rfl rfl (by decide) (by decide) ?_
                refine ⟨M1, hF, ?_, rfl⟩
                rw [← hp0, gsV_some hsg (by omega) (by omega)]
                refine rv ?_
                simp only [sgV]
                repeat (first | rw [if_pos (by omega)] | rw [if_neg (by omega)])
            ·
              refine x_iload C dX7_goes_127 rfl ?_
              refine x_goto (tgt := 161) C dX7_goes_129 (by decide) ?_
              refine x_iret (ty := .int) C hQ dX7_goes_161 rfl rfl (by decide) (by decide) ?_
              refine ⟨M1, hF, ?_, rfl⟩
              rw [← hp0, gsV_some hsg (by omega) (by omega)]
              refine rv ?_
              simp only [sgV]
              repeat (first | rw [if_pos (by omega)] | rw [if_neg (by omega)])
      refine x_iload C dX7_goes_15 rfl ?_
      refine x_iconst C dX7_goes_17 ?_
      refine x_icmp_eq (tgt := 172) C dX7_goes_18 (by decide) (by first | omega | exact bi_rng _) (by first | omega | exact bi_rng _) (fun h18 => ?_) (fun h18 => ?_)
      ·
        refine x_iload_n C dX7_goes_172 rfl rfl ?_
        refine x_iconst C dX7_goes_173 ?_
        refine x_icmp_ne (tgt := 182) C dX7_goes_174 (by decide) (by first | omega | exact bi_rng _) (by first | omega | exact bi_rng _) (fun h174 => ?_) (fun h174 => ?_)
        ·
          refine x_bipush C dX7_goes_182 (by decide) ?_
          refine x_iret (ty := .int) C hQ dX7_goes_184 rfl rfl (by decide) (by decide) ?_
          refine ⟨M1, hF, ?_, rfl⟩
          rw [← hp0]
          have hdone : sgs M1 p = done := by (rw [hsp, List.drop_eq_nil_of_le (by omega)]; exact List.append_nil _)
          first | (subst h174; rw [gsV_all, hdone]) | (rw [gsV_none (by rw [hdone]; omega) (by omega)])
        ·
          refine x_iload C dX7_goes_177 rfl ?_
          refine x_goto (tgt := 184) C dX7_goes_179 (by decide) ?_
          refine x_iret (ty := .int) C hQ dX7_goes_184 rfl rfl (by decide) (by decide) ?_
          refine ⟨M1, hF, ?_, rfl⟩
          rw [← hp0]
          have hdone : sgs M1 p = done := by (rw [hsp, List.drop_eq_nil_of_le (by omega)]; exact List.append_nil _)
          first | (subst h174; rw [gsV_all, hdone]) | (rw [gsV_none (by rw [hdone]; omega) (by omega)])
      ·
        obtain ⟨-, -, -, -, ⟨c0, c1⟩, -⟩ := hM1.ev (at1 p k) (by omega) (by omega)
        refine x_aload_n C dX7_goes_21 rfl rfl ?_
        refine x_iload C dX7_goes_22 rfl ?_
        refine x_callV C hR cb_X7_timeOf cv_X7_timeOf u18_0 (k_X7_timeOf hst hM1 (by omega)) m_recv ⟨_, _, rfl⟩ rfl (Nat.le_of_ble_eq_true rfl) rfl dX7_goes_24 (by decide) (by decide) (fun E x9 h9 => absurd h9.1 (by intro h; cases h)) (fun r9 x9 h9 => ?_)
        obtain ⟨e9, rfl⟩ := h9
        cases e9
        refine x_istore C dX7_goes_27 (by rw [hn]; exact Nat.le_of_ble_eq_true rfl) ?_
        refine x_iload C dX7_goes_29 rfl ?_
        refine x_istore C dX7_goes_31 (by rw [hn]; exact Nat.le_of_ble_eq_true rfl) ?_
        refine x_iconst C dX7_goes_33 ?_
        refine x_istore C dX7_goes_34 (by rw [hn]; exact Nat.le_of_ble_eq_true rfl) ?_
        refine x_aload_n C dX7_goes_36 rfl rfl ?_
        refine m_get (f := 7) C (by decide) u2_4 rfl rfl dX7_goes_37 ?_
        refine x_iload C dX7_goes_40 rfl ?_
        refine m_iald (f := 7) (q0 := 5) (N := 200) C rfl (by decide) (by first | omega | exact bi_rng _) dX7_goes_42 ?_
        refine x_istore C dX7_goes_43 (by rw [hn]; exact Nat.le_of_ble_eq_true rfl) ?_
        refine x_aload_n C dX7_goes_45 rfl rfl ?_
        refine x_iload_n C dX7_goes_46 rfl rfl ?_
        refine x_iload C dX7_goes_47 rfl ?_
        refine x_callV C hR cb_X7_behind cv_X7_behind u17_16 (k_X7_behind hst hM1 (by omega) (by omega)) m_recv ⟨_, _, rfl⟩ rfl (Nat.le_of_ble_eq_true rfl) rfl dX7_goes_49 (by decide) (by decide) (fun E x9 h9 => absurd h9.1 (by intro h; cases h)) (fun r9 x9 h9 => ?_)
        obtain ⟨e9, rfl⟩ := h9
        cases e9
        rw [hp.next hN1.1 (k := k + 1) (Or.inr ⟨k, rfl, by omega, rfl⟩)]
        refine x_istore C dX7_goes_52 (by rw [hn]; exact Nat.le_of_ble_eq_true rfl) ?_
        have inner : ∀ (f2 j : Nat) (la sz c : Int), k < j → j ≤ p.length → p.length - j < f2 → (0 ≤ la ∧ la = at1 p (j - 1)) → (-1 ≤ c ∧ c ≤ 9) → sgs M1 (p.drop k) = sgGo M1 (at1 p k) la sz c (p.drop j) → X φ (IM cy b (t, M1)) 0 0 54 [(0, vr (some (b 0))), (1, vi node), (2, vi session), (3, vi what), (4, vi (at1 p k)), (5, vi (done.length : Int)), (6, vi (tmOf M1 (at1 p k))), (7, vi la), (8, vi sz), (9, vi c), (10, vi (at1 p j))] [] := by
          intro f2
          induction f2 with
          | zero => intro j la sz c h1 h2 h3; omega
          | succ f2 ih2 =>
            intro j la sz c hkj hj1 h3 hla hc hsg
            have hjj := hpn j
            have hla1 := hpn (j - 1)
            refine x_iload C dX7_goes_54 rfl ?_
            refine x_iconst C dX7_goes_56 ?_
            refine x_icmp_eq (tgt := 112) C dX7_goes_57 (by decide) (by first | omega | exact bi_rng _) (by first | omega | exact bi_rng _) (fun h57 => ?_) (fun h57 => ?_)
            ·
              first | exact k112 j la sz c hkj hj1 hla hc (Or.inl ⟨h57, by omega⟩) hsg | exact k112 j la sz c hkj hj1 hla hc (Or.inr ⟨by omega, h70⟩) hsg
            ·
              have hpj : 0 ≤ at1 p j := by omega
              obtain ⟨-, -, -, -, ⟨c0, c1⟩, -⟩ := hM1.ev (at1 p j) (by omega) (by omega)
              refine x_aload_n C dX7_goes_60 rfl rfl ?_
              refine x_iload C dX7_goes_61 rfl ?_
              refine x_iload C dX7_goes_63 rfl ?_
              refine x_iload C dX7_goes_65 rfl ?_
              refine x_callV C hR cb_X7_cuts cv_X7_cuts u20_8 (k_X7_cuts hst hM1 (by omega) (by omega) (by omega)) m_recv ⟨_, _, rfl⟩ rfl (Nat.le_of_ble_eq_true rfl) rfl dX7_goes_67 (by decide) (by decide) (fun E x9 h9 => absurd h9.1 (by intro h; cases h)) (fun r9 x9 h9 => ?_)
              obtain ⟨e9, rfl⟩ := h9
              cases e9
              refine x_if_ne (tgt := 112) C dX7_goes_70 (by decide) (by first | omega | exact bi_rng _) (fun h70 => ?_) (fun h70 => ?_)
              ·
                replace h70 := bi_ne0.mp h70
                first | exact k112 j la sz c hkj hj1 hla hc (Or.inl ⟨h57, by omega⟩) hsg | exact k112 j la sz c hkj hj1 hla hc (Or.inr ⟨by omega, h70⟩) hsg
              ·
                replace h70 := bi_eq0.mp h70
                refine x_iload C dX7_goes_73 rfl ?_
                refine x_iconst C dX7_goes_75 ?_
                refine x_icmp_ne (tgt := 89) C dX7_goes_76 (by decide) (by first | omega | exact bi_rng _) (by first | omega | exact bi_rng _) (fun h76 => ?_) (fun h76 => ?_)
                ·
                  refine x_iload C dX7_goes_89 rfl ?_
                  refine x_istore C dX7_goes_91 (by rw [hn]; exact Nat.le_of_ble_eq_true rfl) ?_
                  refine x_iinc C dX7_goes_93 (by rw [hn]; exact Nat.le_of_ble_eq_true rfl) rfl ?_
                  refine x_iload C dX7_goes_96 rfl ?_
                  refine x_istore C dX7_goes_98 (by rw [hn]; exact Nat.le_of_ble_eq_true rfl) ?_
                  refine x_aload_n C dX7_goes_100 rfl rfl ?_
                  refine x_iload_n C dX7_goes_101 rfl rfl ?_
                  refine x_iload C dX7_goes_102 rfl ?_
                  refine x_callV C hR cb_X7_behind cv_X7_behind u17_16 (k_X7_behind hst hM1 (by omega) (by omega)) m_recv ⟨_, _, rfl⟩ rfl (Nat.le_of_ble_eq_true rfl) rfl dX7_goes_104 (by decide) (by decide) (fun E x9 h9 => absurd h9.1 (by intro h; cases h)) (fun r9 x9 h9 => ?_)
                  obtain ⟨e9, rfl⟩ := h9
                  cases e9
                  rw [hp.next hN1.1 (k := j + 1) (Or.inr ⟨j, rfl, by omega, rfl⟩)]
                  refine x_istore C dX7_goes_107 (by rw [hn]; exact Nat.le_of_ble_eq_true rfl) ?_
                  refine x_goto (tgt := 54) C dX7_goes_109 (by decide) ?_
                  first | exact X.to (ih2 (j + 1) (at1 p j) (sz + 1) (M1 7 (at1 p j)) (by omega) (by omega) (by omega) ⟨hpj, rfl⟩ (by omega) (by rw [hsg, sgGo_on M1 _ la sz c (by omega) h70, if_pos h76])) (lsc rfl (lsc rfl (lsc rfl (lsc rfl (lsc rfl (lsc rfl (lsc rfl (lsc rfl (lsc rfl (lsc rfl (lsc rfl lsn))))))))))) | exact X.to (ih2 (j + 1) (at1 p j) (sz + 1) c (by omega) (by omega) (by omega) ⟨hpj, rfl⟩ (by omega) (by rw [hsg, sgGo_on M1 _ la sz c (by omega) h70, if_neg h76])) (lsc rfl (lsc rfl (lsc rfl (lsc rfl (lsc rfl (lsc rfl (lsc rfl (lsc rfl (lsc rfl (lsc rfl (lsc rfl lsn)))))))))))
                ·
                  refine x_aload_n C dX7_goes_79 rfl rfl ?_
                  refine m_get (f := 7) C (by decide) u2_4 rfl rfl dX7_goes_80 ?_
                  refine x_iload C dX7_goes_83 rfl ?_
                  refine m_iald (f := 7) (q0 := 5) (N := 200) C rfl (by decide) (by first | omega | exact bi_rng _) dX7_goes_85 ?_
                  refine x_goto (tgt := 91) C dX7_goes_86 (by decide) ?_
                  refine x_istore C dX7_goes_91 (by rw [hn]; exact Nat.le_of_ble_eq_true rfl) ?_
                  refine x_iinc C dX7_goes_93 (by rw [hn]; exact Nat.le_of_ble_eq_true rfl) rfl ?_
                  refine x_iload C dX7_goes_96 rfl ?_
                  refine x_istore C dX7_goes_98 (by rw [hn]; exact Nat.le_of_ble_eq_true rfl) ?_
                  refine x_aload_n C dX7_goes_100 rfl rfl ?_
                  refine x_iload_n C dX7_goes_101 rfl rfl ?_
                  refine x_iload C dX7_goes_102 rfl ?_
                  refine x_callV C hR cb_X7_behind cv_X7_behind u17_16 (k_X7_behind hst hM1 (by omega) (by omega)) m_recv ⟨_, _, rfl⟩ rfl (Nat.le_of_ble_eq_true rfl) rfl dX7_goes_104 (by decide) (by decide) (fun E x9 h9 => absurd h9.1 (by intro h; cases h)) (fun r9 x9 h9 => ?_)
                  obtain ⟨e9, rfl⟩ := h9
                  cases e9
                  rw [hp.next hN1.1 (k := j + 1) (Or.inr ⟨j, rfl, by omega, rfl⟩)]
                  refine x_istore C dX7_goes_107 (by rw [hn]; exact Nat.le_of_ble_eq_true rfl) ?_
                  refine x_goto (tgt := 54) C dX7_goes_109 (by decide) ?_
                  first | exact X.to (ih2 (j + 1) (at1 p j) (sz + 1) (M1 7 (at1 p j)) (by omega) (by omega) (by omega) ⟨hpj, rfl⟩ (by omega) (by rw [hsg, sgGo_on M1 _ la sz c (by omega) h70, if_pos h76])) (lsc rfl (lsc rfl (lsc rfl (lsc rfl (lsc rfl (lsc rfl (lsc rfl (lsc rfl (lsc rfl (lsc rfl (lsc rfl lsn))))))))))) | exact X.to (ih2 (j + 1) (at1 p j) (sz + 1) c (by omega) (by omega) (by omega) ⟨hpj, rfl⟩ (by omega) (by rw [hsg, sgGo_on M1 _ la sz c (by omega) h70, if_neg h76])) (lsc rfl (lsc rfl (lsc rfl (lsc rfl (lsc rfl (lsc rfl (lsc rfl (lsc rfl (lsc rfl (lsc rfl (lsc rfl lsn)))))))))))
        exact X.to (inner (p.length + 1) (k + 1) (at1 p k) 1 (M1 7 (at1 p k)) (by omega) (by omega) (by omega) ⟨by omega, by rw [Nat.add_sub_cancel]⟩ ⟨c0, c1⟩ (sgs_at M1 (by omega))) (lsc rfl (lsc rfl (lsc rfl (lsc rfl (lsc rfl (lsc rfl (lsc rfl (lsc rfl (lsc rfl (lsc rfl (lsc rfl (lsn))))))))))))
  exact X.to (loop (p.length + 1) 0 [] (by omega) (by omega) rfl (by simp) (by simp only [List.length_nil]; omega)) (lsc rfl (lsc rfl (lsc rfl (lsc rfl (lsc rfl (lsc rfl (lsn)))))))

set_option maxRecDepth 100000 in
set_option maxHeartbeats 4000000 in
theorem k_X7_sessions {l : Launch} {D : va_G} {cy : CY} (hst : l.stackTraces = false) {b : Nat → Nat} {t : Int} {M : MS} {node : Int} {ch : List Int} (hM : MI M) (hO : Ord M ch) (hnode : -2147483648 ≤ node ∧ node ≤ 2147483647) : Ct l D cy yX7_sessions (Cond.code yX7_sessions cX7_sessions 2 (some .int)) 4 99 0 0 (IM cy b) [vr (some (b 0)), vi node] (t, M) (fun r q' => ((0 ≤ node ∧ node ≤ 19) ∧ (∃ M1, Fnd M M1 ∧ r = .ok (some (vi ((sgs M1 (prof M1 ch node)).length : Int))) ∧ q' = (0, M1))) ∨ (¬ ((0 ≤ node ∧ node ≤ 19)) ∧ r = .ok (some (vi 0)) ∧ q' = (1, M))) := by
  refine Ct.of1 (own := RX7) hst (by decide) rfl (Nat.le_of_ble_eq_true rfl) (cat1 (vr_cat _) (cat1 (vi_cat _) (cat0))) ?_
  intro φ C hQ hn hR hl hD
  subst hl hD
  refine x_aload_n C dX7_sessions_0 rfl rfl ?_
  refine x_aload_n C dX7_sessions_1 rfl rfl ?_
  refine x_iload_n C dX7_sessions_2 rfl rfl ?_
  refine x_callV C hR cb_X7_isNode cv_X7_isNode u11_19 (k_X7_isNode hst (by omega)) m_recv ⟨_, _, rfl⟩ rfl (Nat.le_of_ble_eq_true rfl) rfl dX7_sessions_3 (by decide) (by decide) (fun E x9 h9 => absurd h9.1 (by intro h; cases h)) (fun r9 x9 h9 => ?_)
  obtain ⟨e9, rfl⟩ := h9
  cases e9
  refine x_if_eq (tgt := 13) C dX7_sessions_6 (by decide) (by first | omega | exact bi_rng _) (fun h6 => ?_) (fun h6 => ?_)
  ·
    replace h6 := bi_eq0.mp h6
    refine x_iconst C dX7_sessions_13 ?_
    refine m_put (f := 0) C (by decide) u7_8 rfl rfl (by decide +kernel) (wsM_put0 _ _ _ _ _) dX7_sessions_14 ?_
    refine x_aload_n C dX7_sessions_17 rfl rfl ?_
    refine m_get (f := 0) C (by decide) u7_8 rfl rfl dX7_sessions_18 ?_
    refine x_if_le (tgt := 28) C dX7_sessions_21 (by decide) (by decide) (fun h => absurd h (by decide)) (fun _ => ?_)
    refine x_iconst C dX7_sessions_24 ?_
    refine x_goto (tgt := 35) C dX7_sessions_25 (by decide) ?_
    refine x_iret (ty := .int) C hQ dX7_sessions_35 rfl rfl (by decide) (by decide) ?_
    first | exact Or.inl ⟨by omega, M1, hF, rfl, rfl⟩ | exact Or.inr ⟨by omega, rfl, rfl⟩
  ·
    replace h6 := bi_ne0.mp h6
    refine x_iconst C dX7_sessions_9 ?_
    refine x_goto (tgt := 14) C dX7_sessions_10 (by decide) ?_
    refine m_put (f := 0) C (by decide) u7_8 rfl rfl (by decide +kernel) (wsM_put0 _ _ _ _ _) dX7_sessions_14 ?_
    refine x_aload_n C dX7_sessions_17 rfl rfl ?_
    refine m_get (f := 0) C (by decide) u7_8 rfl rfl dX7_sessions_18 ?_
    refine x_if_le (tgt := 28) C dX7_sessions_21 (by decide) (by decide) (fun _ => ?_) (fun h => absurd h (by decide))
    refine x_aload_n C dX7_sessions_28 rfl rfl ?_
    refine x_iload_n C dX7_sessions_29 rfl rfl ?_
    refine x_iconst C dX7_sessions_30 ?_
    refine x_iconst C dX7_sessions_31 ?_
    refine x_callV C hR cb_X7_goes cv_X7_goes u20_4 (k_X7_goes hst hM hO (by omega) (by omega) (by omega)) m_recv ⟨_, _, rfl⟩ rfl (Nat.le_of_ble_eq_true rfl) rfl dX7_sessions_32 (by decide) (by decide) (fun E x9 h9 => by obtain ⟨M1, -, h, -⟩ := h9; cases h) (fun r9 x9 h9 => ?_)
    obtain ⟨M1, hF, e9, rfl⟩ := h9
    cases e9
    refine x_iret (ty := .int) C hQ dX7_sessions_35 rfl rfl (by decide) (by decide) ?_
    first | exact Or.inl ⟨by omega, M1, hF, rfl, rfl⟩ | exact Or.inr ⟨by omega, rfl, rfl⟩

set_option maxRecDepth 100000 in
set_option maxHeartbeats 4000000 in
theorem k_X7_session {l : Launch} {D : va_G} {cy : CY} (hst : l.stackTraces = false) {b : Nat → Nat} {t : Int} {M : MS} {node session what : Int} {ch : List Int} (hM : MI M) (hO : Ord M ch) (hnode : -2147483648 ≤ node ∧ node ≤ 2147483647) (hsession : -2147483648 ≤ session ∧ session ≤ 2147483647) (hwhat : -2147483648 ≤ what ∧ what ≤ 2147483647) : Ct l D cy yX7_session (Cond.code yX7_session cX7_session 5 (some .int)) 4 99 0 0 (IM cy b) [vr (some (b 0)), vi node, vi session, vi what] (t, M) (fun r q' => (((0 ≤ node ∧ node ≤ 19) ∧ (0 ≤ what ∧ what ≤ 3)) ∧ (∃ M1, Fnd M M1 ∧ ((gsV M1 (prof M1 ch node) session what = -2 ∧ r = .ok (some (vi 0)) ∧ q' = (1, M1)) ∨ (¬ gsV M1 (prof M1 ch node) session what = -2 ∧ r = .ok (some (vi (gsV M1 (prof M1 ch node) session what))) ∧ q' = (0, M1))))) ∨ (¬ (((0 ≤ node ∧ node ≤ 19) ∧ (0 ≤ what ∧ what ≤ 3))) ∧ r = .ok (some (vi 0)) ∧ q' = (2, M))) := by
  refine Ct.of1 (own := RX7) hst (by decide) rfl (Nat.le_of_ble_eq_true rfl) (cat1 (vr_cat _) (cat1 (vi_cat _) (cat1 (vi_cat _) (cat1 (vi_cat _) (cat0))))) ?_
  intro φ C hQ hn hR hl hD
  subst hl hD
  refine x_aload_n C dX7_session_0 rfl rfl ?_
  refine x_aload_n C dX7_session_1 rfl rfl ?_
  refine x_iload_n C dX7_session_2 rfl rfl ?_
  refine x_callV C hR cb_X7_isNode cv_X7_isNode u11_19 (k_X7_isNode hst (by omega)) m_recv ⟨_, _, rfl⟩ rfl (Nat.le_of_ble_eq_true rfl) rfl dX7_session_3 (by decide) (by decide) (fun E x9 h9 => absurd h9.1 (by intro h; cases h)) (fun r9 x9 h9 => ?_)
  obtain ⟨e9, rfl⟩ := h9
  cases e9
  refine x_if_eq (tgt := 22) C dX7_session_6 (by decide) (by first | omega | exact bi_rng _) (fun h6 => ?_) (fun h6 => ?_)
  ·
    replace h6 := bi_eq0.mp h6
    refine x_iconst C dX7_session_22 ?_
    refine m_put (f := 0) C (by decide) u7_8 rfl rfl (by decide +kernel) (wsM_put0 _ _ _ _ _) dX7_session_23 ?_
    refine x_aload_n C dX7_session_26 rfl rfl ?_
    refine m_get (f := 0) C (by decide) u7_8 rfl rfl dX7_session_27 ?_
    refine x_if_le (tgt := 35) C dX7_session_30 (by decide) (by decide) (fun h => absurd h (by decide)) (fun _ => ?_)
    refine x_iconst C dX7_session_33 ?_
    refine x_iret (ty := .int) C hQ dX7_session_34 rfl rfl (by decide) (by decide) ?_
    first | exact Or.inl ⟨⟨by omega, by omega⟩, M1, hF, Or.inl ⟨by omega, rfl, rfl⟩⟩ | exact Or.inl ⟨⟨by omega, by omega⟩, M1, hF, Or.inr ⟨by omega, rfl, rfl⟩⟩ | exact Or.inr ⟨by omega, rfl, rfl⟩
  ·
    replace h6 := bi_ne0.mp h6
    refine x_iload_n C dX7_session_9 rfl rfl ?_
    refine x_iconst C dX7_session_10 ?_
    refine x_iconst C dX7_session_11 ?_
    refine x_callS C hR cb_X7_isIn u7_11 u7_10 (k_X7_isIn hst (by omega) (by omega) (by omega)) rfl (Nat.le_of_ble_eq_true rfl) rfl dX7_session_12 (by decide) (by decide) (fun E x9 h9 => absurd h9.1 (by intro h; cases h)) (fun r9 x9 h9 => ?_)
    obtain ⟨e9, rfl⟩ := h9
    cases e9
    refine x_if_eq (tgt := 22) C dX7_session_15 (by decide) (by first | omega | exact bi_rng _) (fun h15 => ?_) (fun h15 => ?_)
    ·
      replace h15 := bi_eq0.mp h15
      refine x_iconst C dX7_session_22 ?_
      refine m_put (f := 0) C (by decide) u7_8 rfl rfl (by decide +kernel) (wsM_put0 _ _ _ _ _) dX7_session_23 ?_
      refine x_aload_n C dX7_session_26 rfl rfl ?_
      refine m_get (f := 0) C (by decide) u7_8 rfl rfl dX7_session_27 ?_
      refine x_if_le (tgt := 35) C dX7_session_30 (by decide) (by decide) (fun h => absurd h (by decide)) (fun _ => ?_)
      refine x_iconst C dX7_session_33 ?_
      refine x_iret (ty := .int) C hQ dX7_session_34 rfl rfl (by decide) (by decide) ?_
      first | exact Or.inl ⟨⟨by omega, by omega⟩, M1, hF, Or.inl ⟨by omega, rfl, rfl⟩⟩ | exact Or.inl ⟨⟨by omega, by omega⟩, M1, hF, Or.inr ⟨by omega, rfl, rfl⟩⟩ | exact Or.inr ⟨by omega, rfl, rfl⟩
    ·
      replace h15 := bi_ne0.mp h15
      refine x_iconst C dX7_session_18 ?_
      refine x_goto (tgt := 23) C dX7_session_19 (by decide) ?_
      refine m_put (f := 0) C (by decide) u7_8 rfl rfl (by decide +kernel) (wsM_put0 _ _ _ _ _) dX7_session_23 ?_
      refine x_aload_n C dX7_session_26 rfl rfl ?_
      refine m_get (f := 0) C (by decide) u7_8 rfl rfl dX7_session_27 ?_
      refine x_if_le (tgt := 35) C dX7_session_30 (by decide) (by decide) (fun _ => ?_) (fun h => absurd h (by decide))
      refine x_aload_n C dX7_session_35 rfl rfl ?_
      refine x_iload_n C dX7_session_36 rfl rfl ?_
      refine x_iload_n C dX7_session_37 rfl rfl ?_
      refine x_iload_n C dX7_session_38 rfl rfl ?_
      refine x_callV C hR cb_X7_goes cv_X7_goes u20_4 (k_X7_goes hst hM hO (by omega) (by omega) (by omega)) m_recv ⟨_, _, rfl⟩ rfl (Nat.le_of_ble_eq_true rfl) rfl dX7_session_39 (by decide) (by decide) (fun E x9 h9 => by obtain ⟨M1, -, h, -⟩ := h9; cases h) (fun r9 x9 h9 => ?_)
      obtain ⟨M1, hF, e9, rfl⟩ := h9
      cases e9
      have hgr := gsV_rng (hF.MI hM)  (hO.same hF.1) node session what
      refine x_istore C dX7_session_42 (by rw [hn]; exact Nat.le_of_ble_eq_true rfl) ?_
      refine x_aload_n C dX7_session_44 rfl rfl ?_
      refine x_iload C dX7_session_45 rfl ?_
      refine x_bipush C dX7_session_47 (by decide) ?_
      refine x_icmp_ne (tgt := 56) C dX7_session_49 (by decide) (by first | omega | exact bi_rng _) (by first | omega | exact bi_rng _) (fun h49 => ?_) (fun h49 => ?_)
      ·
        refine x_iconst C dX7_session_56 ?_
        refine m_put (f := 0) C (by decide) u7_8 rfl rfl (by decide +kernel) (wsM_put0 _ _ _ _ _) dX7_session_57 ?_
        refine x_aload_n C dX7_session_60 rfl rfl ?_
        refine m_get (f := 0) C (by decide) u7_8 rfl rfl dX7_session_61 ?_
        refine x_if_le (tgt := 71) C dX7_session_64 (by decide) (by decide) (fun _ => ?_) (fun h => absurd h (by decide))
        refine x_iload C dX7_session_71 rfl ?_
        refine x_iret (ty := .int) C hQ dX7_session_73 rfl rfl (by decide) (by decide) ?_
        first | exact Or.inl ⟨⟨by omega, by omega⟩, M1, hF, Or.inl ⟨by omega, rfl, rfl⟩⟩ | exact Or.inl ⟨⟨by omega, by omega⟩, M1, hF, Or.inr ⟨by omega, rfl, rfl⟩⟩ | exact Or.inr ⟨by omega, rfl, rfl⟩
      ·
        refine x_iconst C dX7_session_52 ?_
        refine x_goto (tgt := 57) C dX7_session_53 (by decide) ?_
        refine m_put (f := 0) C (by decide) u7_8 rfl rfl (by decide +kernel) (wsM_put0 _ _ _ _ _) dX7_session_57 ?_
        refine x_aload_n C dX7_session_60 rfl rfl ?_
        refine m_get (f := 0) C (by decide) u7_8 rfl rfl dX7_session_61 ?_
        refine x_if_le (tgt := 71) C dX7_session_64 (by decide) (by decide) (fun h => absurd h (by decide)) (fun _ => ?_)
        refine x_iconst C dX7_session_67 ?_
        refine x_goto (tgt := 73) C dX7_session_68 (by decide) ?_
        refine x_iret (ty := .int) C hQ dX7_session_73 rfl rfl (by decide) (by decide) ?_
        first | exact Or.inl ⟨⟨by omega, by omega⟩, M1, hF, Or.inl ⟨by omega, rfl, rfl⟩⟩ | exact Or.inl ⟨⟨by omega, by omega⟩, M1, hF, Or.inr ⟨by omega, rfl, rfl⟩⟩ | exact Or.inr ⟨by omega, rfl, rfl⟩
